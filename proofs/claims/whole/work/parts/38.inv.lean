/-! WHAT HOLDS BETWEEN TWO CALLS -/
abbrev unc : am_C := .inr (1000, [])
/-- a text: signs, rightly in a row -/
def txt (g : Nat → Int32) (m : Nat) : Prop := fwp g m m 0 32 = -1 ∧ ∀ j, j < m → sgn (g j)
def CPad (h : Nat → am_C) (pd : Int32) (a26 : Nat → Int32) : Prop := ∃ n : Nat, rw h 2 3 80 a26 n ∧ pd = nI n ∧ ∀ j, j < n → sgn (a26 j)
def VX (h : Nat → am_C) (vr vb vl : Nat → Nat) (vg : Nat → Nat → Int32) (a28 a29 : Nat → Int32) (i : Nat) : Prop := 46 ≤ vr i ∧ 46 ≤ vb i ∧ rw h (vr i) (vb i) (vl i) (vg i) (vl i) ∧ a28 i = nI (vl i) ∧ (∀ t, t < vl i → a29 (80 * i + t) = vg i t) ∧ txt (vg i) (vl i)
def CCap (h : Nat → am_C) (a27 a28 a29 a30 : Nat → Int32) : Prop := ∃ (VR : Nat → Option Nat) (cn : Nat → Nat) (fb : Nat → Option Nat) (vr vb vl : Nat → Nat) (vg : Nat → Nat → Int32), cp h 4 5 6 7 VR cn fb (nI (sumN cn 50)) ∧ a27 = (fun k => nI (cn k)) ∧ a30 = (fun l => fo (fb l)) ∧ (∀ l, l < 5 → ends fb 5 (some l)) ∧ ∀ k j, k < 50 → j < cn k → VR (k * 4 + j) = some (vr (k * 4 + j)) ∧ VX h vr vb vl vg a28 a29 (k * 4 + j)
def CSet (h : Nat → am_C) (ln sq st : Int32) (a35 a36 : Nat → Int32) : Prop := ∃ (B E LF NF LB LS : Nat → Int32) (W n : Nat), sg h 8 9 10 11 12 13 14 B E LF NF LB LS W n sq ∧ ln = nI n ∧ st = (if n = 0 then 0 else 1) ∧ n ≤ 40 ∧ ∀ k, k < n → a35 k = LB k ∧ a36 k = LS k
def CFin (h : Nat → am_C) (ct9 cl ft : Int32) (a37 a38 a39 : Nat → Int32) : Prop := ∃ (CR : Nat → Option Nat) (sz : Nat → Nat) (lt : Nat → Nat → Int32) (ra rb : Nat → Nat) (cm : Nat) (ck : Nat → Option Nat), ct h 15 16 CR sz lt ra rb ct9 ∧ (∀ k, k < 36 → 0 < sz k → 46 ≤ ra k ∧ 46 ≤ rb k) ∧ (∀ k, sz k ≤ 5) ∧ a37 = (fun k => nI (sz k)) ∧ (∀ k i, k < 36 → i < sz k → a38 (k * 5 + i) = lt k i ∧ isl (lt k i) = true) ∧ rw h 17 18 80 a39 cm ∧ cl = nI cm ∧ ft = (if cm = 0 then 0 else 1) ∧ (∀ k, k < cm → (ck k = none ∧ a39 k < 28 ∧ sgn (os (a39 k))) ∨ ∃ j, ck k = some j ∧ a39 k = nI (28 + j) ∧ j < 36 ∧ 0 < sz j) ∧ rnn ck sz cm ≤ 80
def CZon (h : Nat → am_C) (zn9 : Int32) (a40 a41 a42 : Nat → Int32) : Prop := ∃ z : Nat, zn h 19 20 21 22 a40 a41 a42 z ∧ zn9 = nI z
def CRoo (h : Nat → am_C) (a43 : Nat → Int32) : Prop := ∃ J : Nat → Int32, rm h 23 24 J (nI (cnt (wyp a43) 576)) ∧ (∀ a b, a < 24 → b < 24 → a43 (24 * a + b) = jn J a b ∧ jn J a b = jn J b a) ∧ (∀ a, a < 24 → jn J a a = 0) ∧ ∀ a b, a < 24 → 24 ≤ b → b < 32 → J a &&& pw b = 0
def Ivp (h : Nat → am_C) (pd ln sq st ct cl ft zn : Int32) (a26 a27 a28 a29 a30 a35 a36 a37 a38 a39 a40 a41 a42 a43 : Nat → Int32) : Prop := h 1 = clx ∧ CPad h pd a26 ∧ CCap h a27 a28 a29 a30 ∧ CSet h ln sq st a35 a36 ∧ CFin h ct cl ft a37 a38 a39 ∧ CZon h zn a40 a41 a42 ∧ CRoo h a43
def Inv (th : Int32) (o : Nat → Int64) (S : am_S) : Prop := ∃ (pd wd ln sq st ct cl ft zn : Int32) (a26 a27 a28 a29 a30 a31 a32 a33 a34 a35 a36 a37 a38 a39 a40 a41 a42 a43 a44 : Nat → Int32), S = mdS S th pd wd ln sq st ct cl ft zn a26 a27 a28 a29 a30 a31 a32 a33 a34 a35 a36 a37 a38 a39 a40 a41 a42 a43 a44 ∧ S.1 45 = lo1 o ∧ Ivp S.1 pd ln sq st ct cl ft zn a26 a27 a28 a29 a30 a35 a36 a37 a38 a39 a40 a41 a42 a43
section KEEP
variable {h h' : Nat → am_C}
theorem CPad_keep {pd : Int32} {a26 : Nat → Int32} (hk : ∀ z, 2 ≤ z → z ≤ 3 → h z ≠ unc → h' z = h z) (H : CPad h pd a26) : CPad h' pd a26 := by
  obtain ⟨n, h1, h2⟩ := H
  exact ⟨n, rw_keep h1 (hk _ (by decide) (by decide) (by rw [h1.1]; exact fun e => by cases e)) (hk _ (by decide) (by decide) (by rw [h1.2.1]; exact fun e => by cases e)), h2⟩
theorem CCap_keep {a27 a28 a29 a30 : Nat → Int32} (hk : ∀ z, (4 ≤ z ∧ z ≤ 7) ∨ 46 ≤ z → h z ≠ unc → h' z = h z) (H : CCap h a27 a28 a29 a30) : CCap h' a27 a28 a29 a30 := by
  obtain ⟨VR, cn, fb, vr, vb, vl, vg, h1, h2, h3, h4, h5⟩ := H
  refine ⟨VR, cn, fb, vr, vb, vl, vg, ⟨(hk _ (Or.inl (by decide)) (by rw [h1.1]; exact fun e => by cases e)).trans h1.1, (hk _ (Or.inl (by decide)) (by rw [h1.2.1]; exact fun e => by cases e)).trans h1.2.1, (hk _ (Or.inl (by decide)) (by rw [h1.2.2.1]; exact fun e => by cases e)).trans h1.2.2.1, (hk _ (Or.inl (by decide)) (by rw [h1.2.2.2.1]; exact fun e => by cases e)).trans h1.2.2.2.1, h1.2.2.2.2⟩, h2, h3, h4, fun k j hj hc => ?_⟩
  obtain ⟨g1, g2, g3, g4, g5⟩ := h5 k j hj hc
  exact ⟨g1, g2, g3, rw_keep g4 (hk _ (Or.inr g2) (by rw [g4.1]; exact fun e => by cases e)) (hk _ (Or.inr g3) (by rw [g4.2.1]; exact fun e => by cases e)), g5⟩
theorem CSet_keep {ln sq st : Int32} {a35 a36 : Nat → Int32} (hk : ∀ z, 8 ≤ z → z ≤ 14 → h z ≠ unc → h' z = h z) (H : CSet h ln sq st a35 a36) : CSet h' ln sq st a35 a36 := by
  obtain ⟨B, E, LF, NF, LB, LS, W, n, ⟨g0, g1, g2, g3, g4, g5, g6⟩, h2⟩ := H
  refine ⟨B, E, LF, NF, LB, LS, W, n, ⟨?_, ?_, ?_, ?_, ?_, ?_, ?_⟩, h2⟩
  · exact (hk _ (by decide) (by decide) (by rw [g0]; exact fun e => by cases e)).trans g0
  · exact (hk _ (by decide) (by decide) (by rw [g1]; exact fun e => by cases e)).trans g1
  · exact (hk _ (by decide) (by decide) (by rw [g2]; exact fun e => by cases e)).trans g2
  · exact (hk _ (by decide) (by decide) (by rw [g3]; exact fun e => by cases e)).trans g3
  · exact (hk _ (by decide) (by decide) (by rw [g4]; exact fun e => by cases e)).trans g4
  · exact (hk _ (by decide) (by decide) (by rw [g5]; exact fun e => by cases e)).trans g5
  · exact (hk _ (by decide) (by decide) (by rw [g6]; exact fun e => by cases e)).trans g6
theorem ctk {CR : Nat → Option Nat} {sz : Nat → Nat} {lt : Nat → Nat → Int32} {ra rb : Nat → Nat} {ct9 : Int32} (hk : ∀ z, (15 ≤ z ∧ z ≤ 16) ∨ 46 ≤ z → h z ≠ unc → h' z = h z) (h1 : ct h 15 16 CR sz lt ra rb ct9) (h2 : ∀ k, k < 36 → 0 < sz k → 46 ≤ ra k ∧ 46 ≤ rb k) : ct h' 15 16 CR sz lt ra rb ct9 :=
  ct_keep h1 (hk _ (Or.inl (by decide)) (by rw [h1.1]; exact fun e => by cases e)) (hk _ (Or.inl (by decide)) (by rw [h1.2.1]; exact fun e => by cases e)) (fun k hk1 hk2 => by
    have h3 := (ct_row h1 hk1 hk2).2.1
    exact ⟨hk _ (Or.inr (h2 k hk1 hk2).1) (by rw [h3.1]; exact fun e => by cases e), hk _ (Or.inr (h2 k hk1 hk2).2) (by rw [h3.2.1]; exact fun e => by cases e)⟩)
theorem CFin_keep {ct9 cl ft : Int32} {a37 a38 a39 : Nat → Int32} (hk : ∀ z, (15 ≤ z ∧ z ≤ 18) ∨ 46 ≤ z → h z ≠ unc → h' z = h z) (H : CFin h ct9 cl ft a37 a38 a39) : CFin h' ct9 cl ft a37 a38 a39 := by
  obtain ⟨CR, sz, lt, ra, rb, cm, ck, h1, h2, h3, h4, h5, h6, h7⟩ := H
  exact ⟨CR, sz, lt, ra, rb, cm, ck, ctk (fun z hz hn => hk z (hz.imp (fun q => ⟨q.1, by omega⟩) id) hn) h1 h2, h2, h3, h4, h5, rw_keep h6 (hk _ (Or.inl (by decide)) (by rw [h6.1]; exact fun e => by cases e)) (hk _ (Or.inl (by decide)) (by rw [h6.2.1]; exact fun e => by cases e)), h7⟩
theorem CZon_keep {zn9 : Int32} {a40 a41 a42 : Nat → Int32} (hk : ∀ z, 19 ≤ z → z ≤ 22 → h z ≠ unc → h' z = h z) (H : CZon h zn9 a40 a41 a42) : CZon h' zn9 a40 a41 a42 := by
  obtain ⟨z, ⟨g0, g1, g2, g3, g4⟩, h2⟩ := H
  exact ⟨z, ⟨(hk _ (by decide) (by decide) (by rw [g0]; exact fun e => by cases e)).trans g0, (hk _ (by decide) (by decide) (by rw [g1]; exact fun e => by cases e)).trans g1, (hk _ (by decide) (by decide) (by rw [g2]; exact fun e => by cases e)).trans g2, (hk _ (by decide) (by decide) (by rw [g3]; exact fun e => by cases e)).trans g3, g4⟩, h2⟩
theorem CRoo_keep {a43 : Nat → Int32} (hk : ∀ z, 23 ≤ z → z ≤ 24 → h z ≠ unc → h' z = h z) (H : CRoo h a43) : CRoo h' a43 := by
  obtain ⟨J, ⟨g0, g1⟩, h2⟩ := H
  exact ⟨J, ⟨(hk _ (by decide) (by decide) (by rw [g0]; exact fun e => by cases e)).trans g0, (hk _ (by decide) (by decide) (by rw [g1]; exact fun e => by cases e)).trans g1⟩, h2⟩
theorem Ivp_keep {pd ln sq st ct cl ft zn : Int32} {a26 a27 a28 a29 a30 a35 a36 a37 a38 a39 a40 a41 a42 a43 : Nat → Int32} (hk : ∀ z, z ≠ 45 → (z < 25 ∨ 44 < z) → h z ≠ unc → h' z = h z) (H : Ivp h pd ln sq st ct cl ft zn a26 a27 a28 a29 a30 a35 a36 a37 a38 a39 a40 a41 a42 a43) : Ivp h' pd ln sq st ct cl ft zn a26 a27 a28 a29 a30 a35 a36 a37 a38 a39 a40 a41 a42 a43 := by
  obtain ⟨h1, h2, h3, h4, h5, h6, h7⟩ := H
  exact ⟨(hk _ (by decide) (by decide) (by rw [h1]; exact fun e => by cases e)).trans h1, CPad_keep (fun z _ _ hn => hk z (by omega) (by omega) hn) h2, CCap_keep (fun z _ hn => hk z (by omega) (by omega) hn) h3, CSet_keep (fun z _ _ hn => hk z (by omega) (by omega) hn) h4, CFin_keep (fun z _ hn => hk z (by omega) (by omega) hn) h5, CZon_keep (fun z _ _ hn => hk z (by omega) (by omega) hn) h6, CRoo_keep (fun z _ _ hn => hk z (by omega) (by omega) hn) h7⟩
end KEEP
theorem mdS_keep {S S1 : am_S} {th pd wd ln sq st ct cl ft zn : Int32} {a26 a27 a28 a29 a30 a31 a32 a33 a34 a35 a36 a37 a38 a39 a40 a41 a42 a43 a44 : Nat → Int32} (hS : S = mdS S th pd wd ln sq st ct cl ft zn a26 a27 a28 a29 a30 a31 a32 a33 a34 a35 a36 a37 a38 a39 a40 a41 a42 a43 a44) (hk : ∀ z, 25 ≤ z → z ≤ 44 → S1.1 z = S.1 z) : S1 = mdS S1 th pd wd ln sq st ct cl ft zn a26 a27 a28 a29 a30 a31 a32 a33 a34 a35 a36 a37 a38 a39 a40 a41 a42 a43 a44 := by
  have g : ∀ z, 25 ≤ z → z ≤ 44 → S1.1 z = (mdS S th pd wd ln sq st ct cl ft zn a26 a27 a28 a29 a30 a31 a32 a33 a34 a35 a36 a37 a38 a39 a40 a41 a42 a43 a44).1 z := fun z h1 h2 => by rw [← hS]; exact hk z h1 h2
  exact mdS_id (g 25 (by decide) (by decide)) (g 26 (by decide) (by decide)) (g 27 (by decide) (by decide)) (g 28 (by decide) (by decide)) (g 29 (by decide) (by decide)) (g 30 (by decide) (by decide)) (g 31 (by decide) (by decide)) (g 32 (by decide) (by decide)) (g 33 (by decide) (by decide)) (g 34 (by decide) (by decide)) (g 35 (by decide) (by decide)) (g 36 (by decide) (by decide)) (g 37 (by decide) (by decide)) (g 38 (by decide) (by decide)) (g 39 (by decide) (by decide)) (g 40 (by decide) (by decide)) (g 41 (by decide) (by decide)) (g 42 (by decide) (by decide)) (g 43 (by decide) (by decide)) (g 44 (by decide) (by decide))
theorem am_at {K : am_K} {l : Launch} {I : am_I} {d mc ms : Nat} {vs : List Value} {S S' : am_S} {Z : Option Value → am_S → Prop} {X : Nat → am_S → Prop} (e : S = S') (hM : am_M K l I d mc ms vs S' Z X) : am_M K l I d mc ms vs S Z X := by rw [e]; exact hM
/-- one call of the class and of the reference: the wrapper's code kk, the reference's answer b -/
def Cst (K : am_K) (l : Launch) (S : am_S) (iw : am_I) (wa : List Value) (im : am_I) (d : Nat) (ma : List Value) : Prop := ∃ (kk b : Int32) (o' : Nat → Int64) (P1 : am_S → Prop), am_M K l iw 9 2 82 wa S (fun v S' => v = some (.int kk) ∧ P1 S') (fun _ _ => False) ∧ (∀ S1, P1 S1 → ∃ S2, am_M K l im d 0 0 ma S1 (fun v S' => v = some (.int b) ∧ S2 = S') (fun _ _ => False) ∧ Inv kk o' S2) ∧ (kk = 0 → o' 0 = b.toInt64)
theorem Cst_x {K : am_K} {l : Launch} {S : am_S} {iw im : am_I} {wa ma : List Value} {d : Nat} {kk b : Int32} {o : Nat → Int64} {th pd wd ln sq st ct cl ft zn : Int32} {a26 a27 a28 a29 a30 a31 a32 a33 a34 a35 a36 a37 a38 a39 a40 a41 a42 a43 a44 : Nat → Int32} (hS : S = mdS S th pd wd ln sq st ct cl ft zn a26 a27 a28 a29 a30 a31 a32 a33 a34 a35 a36 a37 a38 a39 a40 a41 a42 a43 a44) (h45 : S.1 45 = lo1 o) (hv : Ivp S.1 pd ln sq st ct cl ft zn a26 a27 a28 a29 a30 a35 a36 a37 a38 a39 a40 a41 a42 a43) (hW : am_M K l iw 9 2 82 wa S (fun v S' => v = some (.int kk) ∧ S = S') (fun _ _ => False)) (hM : am_M K l im d 0 0 ma (mdS S th pd wd ln sq st ct cl ft zn a26 a27 a28 a29 a30 a31 a32 a33 a34 a35 a36 a37 a38 a39 a40 a41 a42 a43 a44) (fun v S' => v = some (.int b) ∧ mdS S kk pd wd ln sq st ct cl ft zn a26 a27 a28 a29 a30 a31 a32 a33 a34 a35 a36 a37 a38 a39 a40 a41 a42 a43 a44 = S') (fun _ _ => False)) (hkk : ¬ kk = 0) : Cst K l S iw wa im d ma := by
  refine ⟨kk, b, o, fun S' => S = S', hW, fun S1 e => ⟨mdS S kk pd wd ln sq st ct cl ft zn a26 a27 a28 a29 a30 a31 a32 a33 a34 a35 a36 a37 a38 a39 a40 a41 a42 a43 a44, am_at (e.symm.trans hS) hM, ?_⟩, fun h => absurd h hkk⟩
  refine ⟨pd, wd, ln, sq, st, ct, cl, ft, zn, a26, a27, a28, a29, a30, a31, a32, a33, a34, a35, a36, a37, a38, a39, a40, a41, a42, a43, a44, ?_, ?_, ?_⟩
  · exact mdS_mdS.symm
  · exact (md_at (by decide)).trans h45
  · exact Ivp_keep (fun z _ hz _ => md_at hz) hv
theorem Cst_ok {K : am_K} {l : Launch} {S S1 : am_S} {iw im : am_I} {wa ma : List Value} {d : Nat} {r : Int32} {o : Nat → Int64} {th pd wd ln sq st ct cl ft zn : Int32} {a26 a27 a28 a29 a30 a31 a32 a33 a34 a35 a36 a37 a38 a39 a40 a41 a42 a43 a44 : Nat → Int32} {pd' wd' ln' sq' st' ct' cl' ft' zn' : Int32} {a26' a27' a28' a29' a30' a31' a32' a33' a34' a35' a36' a37' a38' a39' a40' a41' a42' a43' a44' : Nat → Int32} (hS : S = mdS S th pd wd ln sq st ct cl ft zn a26 a27 a28 a29 a30 a31 a32 a33 a34 a35 a36 a37 a38 a39 a40 a41 a42 a43 a44) (hk : ∀ z, 25 ≤ z → z ≤ 44 → S1.1 z = S.1 z) (hW : am_M K l iw 9 2 82 wa S (fun v S' => v = some (.int 0) ∧ ∃ S9, S1 = S9 ∧ (am_up S9.1 45 (lo1 (vp_updL o 0 r.toInt64)), S9.2) = S') (fun _ _ => False)) (hM : ∀ B : am_S, am_M K l im d 0 0 ma (mdS B th pd wd ln sq st ct cl ft zn a26 a27 a28 a29 a30 a31 a32 a33 a34 a35 a36 a37 a38 a39 a40 a41 a42 a43 a44) (fun v S' => v = some (.int r) ∧ mdS B 0 pd' wd' ln' sq' st' ct' cl' ft' zn' a26' a27' a28' a29' a30' a31' a32' a33' a34' a35' a36' a37' a38' a39' a40' a41' a42' a43' a44' = S') (fun _ _ => False)) (hv : Ivp S1.1 pd' ln' sq' st' ct' cl' ft' zn' a26' a27' a28' a29' a30' a35' a36' a37' a38' a39' a40' a41' a42' a43') : Cst K l S iw wa im d ma := by
  refine ⟨0, r, vp_updL o 0 r.toInt64, fun S' => ∃ S9, S1 = S9 ∧ (am_up S9.1 45 (lo1 (vp_updL o 0 r.toInt64)), S9.2) = S', hW, fun S2 e => ?_, fun _ => if_pos rfl⟩
  obtain ⟨S9, rfl, rfl⟩ := e
  have hS2 : ((am_up S1.1 45 (lo1 (vp_updL o 0 r.toInt64)), S1.2) : am_S) = mdS (am_up S1.1 45 (lo1 (vp_updL o 0 r.toInt64)), S1.2) th pd wd ln sq st ct cl ft zn a26 a27 a28 a29 a30 a31 a32 a33 a34 a35 a36 a37 a38 a39 a40 a41 a42 a43 a44 := mdS_keep hS (fun z h1 h2 => (am_up_n (by omega)).trans (hk z h1 h2))
  refine ⟨_, am_at hS2 (hM _), pd', wd', ln', sq', st', ct', cl', ft', zn', a26', a27', a28', a29', a30', a31', a32', a33', a34', a35', a36', a37', a38', a39', a40', a41', a42', a43', a44', ?_, ?_, ?_⟩
  · exact mdS_mdS.symm
  · exact (md_at (by decide)).trans (am_up_s (h := S1.1) (a := 45))
  · exact Ivp_keep (fun z h1 h2 _ => (md_at h2).trans (am_up_n h1)) hv
