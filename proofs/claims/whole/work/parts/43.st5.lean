theorem wns_at {st : Nat → Nat} {m : Nat} : ∀ k, k ≤ wns st m m 0 → k ≤ m ∧ k + wns st m (m - k) (wps st k) = wns st m m 0
  | 0, _ => ⟨Nat.zero_le _, by rw [Nat.zero_add, Nat.sub_zero]; rfl⟩
  | k + 1, h => by
    obtain ⟨h1, h2⟩ := wns_at (st := st) (m := m) k (by omega)
    rcases Nat.lt_or_ge k m with q | q
    · rw [show m - k = (m - (k + 1)) + 1 by omega, wns] at h2
      by_cases c : wps st k < m
      · rw [if_pos c] at h2
        refine ⟨by omega, ?_⟩
        show k + 1 + wns st m (m - (k + 1)) (wps st k + st (wps st k)) = _
        omega
      · rw [if_neg c] at h2; omega
    · rw [show m - k = 0 by omega, wns] at h2; omega
theorem wps_lt {st : Nat → Nat} {m k : Nat} (h : k < wns st m m 0) : wps st k < m := by
  obtain ⟨h1, h2⟩ := wns_at (st := st) (m := m) k (by omega)
  rcases Nat.lt_or_ge (wps st k) m with q | q
  · exact q
  · rw [wns_out q] at h2; omega
theorem wns_le {st : Nat → Nat} {m : Nat} : ∀ k i, wns st m k i ≤ k
  | 0, _ => Nat.le_refl 0
  | k + 1, i => by
    unfold wns
    split
    · have := wns_le (st := st) (m := m) k (i + st i); omega
    · omega
theorem wns_pos {st : Nat → Nat} {m : Nat} (h : 0 < m) : 0 < wns st m m 0 := by
  obtain ⟨k, rfl⟩ : ∃ k, m = k + 1 := ⟨m - 1, by omega⟩
  rw [wns, if_pos h]; omega
theorem wps_le {st : Nat → Nat} {m : Nat} (hst : ∀ t, t < m → t + st t ≤ m) : ∀ k, k ≤ wns st m m 0 → wps st k ≤ m
  | 0, _ => Nat.zero_le _
  | k + 1, h => hst _ (wps_lt (by omega))
/-- the cells' origins -/
def ckn (sz : Nat → Nat) (lt : Nat → Nat → Int32) (g : Nat → Int32) (m k : Nat) : Option Nat :=
  if (lg sz lt g m (nI (wps (wst sz lt g m) k)) 36).2 = 0 then none else some ((lg sz lt g m (nI (wps (wst sz lt g m) k)) 36).1.toNatClampNeg - 28)
theorem lg36 {sz : Nat → Nat} {lt : Nat → Nat → Int32} {g : Nat → Int32} {m : Nat} {fr : Int32} (h : ¬ (lg sz lt g m fr 36).2 = 0) : ∃ j, j < 36 ∧ (lg sz lt g m fr 36).1 = nI (28 + j) ∧ (lg sz lt g m fr 36).1.toNatClampNeg - 28 = j ∧ (lg sz lt g m fr 36).2 = sz j ∧ 0 < sz j ∧ stands (lt j) (sz j) g m fr = 1 := by
  rcases lgst9 (sz := sz) (lt := lt) (g := g) (m := m) (fr := fr) 36 with e | ⟨j, h1, h2, h3, h4⟩
  · exact absurd (by rw [e]) h
  · refine ⟨j, h1, by rw [h2], ?_, by rw [h2], h3, h4⟩
    rw [h2]
    show (nI (28 + j)).toNatClampNeg - 28 = j
    rw [nI_clamp (by omega)]; omega
theorem rl_wst {sz : Nat → Nat} {lt : Nat → Nat → Int32} {g : Nat → Int32} {m k : Nat} : rl (ckn sz lt g m) sz k = wst sz lt g m (wps (wst sz lt g m) k) := by
  unfold rl
  by_cases c : (lg sz lt g m (nI (wps (wst sz lt g m) k)) 36).2 = 0
  · rw [show ckn sz lt g m k = none from if_pos c]
    exact (if_pos c).symm
  · obtain ⟨j, h1, h2, h3, h4, h5, h6⟩ := lg36 c
    rw [show ckn sz lt g m k = some ((lg sz lt g m (nI (wps (wst sz lt g m) k)) 36).1.toNatClampNeg - 28) from if_neg c, h3]
    exact (h4.symm).trans (if_neg c).symm
theorem rnn_wps {sz : Nat → Nat} {lt : Nat → Nat → Int32} {g : Nat → Int32} {m : Nat} : ∀ k, rnn (ckn sz lt g m) sz k = wps (wst sz lt g m) k
  | 0 => rfl
  | k + 1 => by rw [rnn, rnn_wps k, rl_wst]; rfl
theorem oc_os {x : Int32} (h : sgn x) : oc x < 28 ∧ sgn (os (oc x)) := by
  rcases h with h | h | h
  · obtain ⟨h1, h2⟩ := isl_ne h
    have e : oc x = x - 97 + 1 := by unfold oc; rw [if_neg h1, if_neg h2]
    unfold isl at h
    rw [Bool.and_eq_true] at h
    have g1 : (97 : Int32) ≤ x := of_decide_eq_true h.1
    have g2 : x ≤ 122 := of_decide_eq_true h.2
    obtain ⟨k, hk, rfl⟩ : ∃ k : Nat, k < 26 ∧ x = nI (97 + k) := by
      rcases pk_ix x (n := 123) (by decide) with q | q | ⟨j, hj, rfl⟩
      · exact absurd (Int32.lt_of_lt_of_le q (show (0 : Int32) ≤ 97 by decide)) (Int32.not_lt.mpr g1)
      · exact absurd (Int32.le_trans q g2) (by decide)
      · have := (nI_leI (a := 97) (b := j) (by decide) (by omega)).mp g1
        exact ⟨j - 97, by omega, by rw [show 97 + (j - 97) = j by omega]⟩
    have e2 : nI (97 + k) - 97 + 1 = nI (k + 1) := by
      rw [show nI (97 + k) - 97 = nI k by rw [← nI_add, Int32.add_comm, show nI 97 = (97 : Int32) from rfl, Int32.add_sub_cancel], nI_1]
    rw [e, e2]
    refine ⟨nI_lt (b := 28) (by omega) (by decide), Or.inl ?_⟩
    have e3 : os (nI (k + 1)) = nI (97 + k) := by
      unfold os
      rw [if_neg (nI_ne0 (by omega) (by omega)), if_neg (show ¬ nI (k + 1) = 27 from fun q => absurd ((nI_eq (a := k + 1) (b := 27) (by omega) (by decide)).mp q) (by omega)), show (97 : Int32) = nI 97 from rfl, nI_add, show 97 + (k + 1) = (97 + k) + 1 by omega, nI_pred]
    rw [e3]
    unfold isl
    rw [decide_eq_true g1, decide_eq_true g2]; rfl
  · rw [h]; exact ⟨by decide, Or.inr (Or.inl (by decide))⟩
  · rw [h]; exact ⟨by decide, Or.inr (Or.inr (by decide))⟩
theorem wst_le {sz : Nat → Nat} {lt : Nat → Nat → Int32} {g : Nat → Int32} {m : Nat} (hm : m ≤ 80) (h5 : ∀ k, sz k ≤ 5) (hne : ∀ k j, k < 36 → j < sz k → ¬ lt k j = -1) : ∀ t, t < m → t + wst sz lt g m t ≤ m := fun t ht => by
  unfold wst
  by_cases c : (lg sz lt g m (nI t) 36).2 = 0
  · rw [if_pos c]; omega
  · rw [if_neg c]
    obtain ⟨j, h1, h2, h3, h4, h6, h7⟩ := lg36 c
    rw [h4]
    exact stands_le hm (by omega) (h5 j) (fun i hi => hne j i h1 hi) h7
theorem st_fingers {K : am_K} {l : Launch} {S : am_S} {th : Int32} {o : Nat → Int64} (hI : Inv th o S) (x y : Int32) : Cst K l S iL_fingers [.ref 1, .int x, .int y, .ref 45] iX7_fingers 2 [.ref 25, .int x, .int y] := by
  obtain ⟨pd, wd, ln, sq, st, ct, cl, ft, zn, a26, a27, a28, a29, a30, a31, a32, a33, a34, a35, a36, a37, a38, a39, a40, a41, a42, a43, a44, hS, h45, hv⟩ := hI
  obtain ⟨h1, hP, hC, hT, hF, hZ, hR⟩ := id hv
  obtain ⟨VR, cn, fb, vr, vb, vl, vg, hc, rfl, rfl, hen, hvv⟩ := id hC
  have hf5 := hc.2.2.2.2.2.2
  have hc4 := hc.2.2.2.2.2.1
  obtain ⟨CR, sz, lt, ra, rb, cm, ck, hct, hr46, h5, rfl, hlt9, hcl, rfl, hft, hck, h80⟩ := id hF
  have hl : ∀ k i, k < 36 → i < sz k → a38 (k * 5 + i) = lt k i := fun k i a b => (hlt9 k i a b).1
  have hne : ∀ k j, k < 36 → j < sz k → ¬ lt k j = -1 := fun k j a b => isl_m1 (hlt9 k j a b).2
  have h2 : ∀ k, k < 36 → sz k = 0 ∨ 2 ≤ sz k := fun k hk => (hct.2.2 k hk).imp (fun q => q.2) (fun q => q.2.2.1)
  rcases pair_or x y with hb | ⟨p, q, hp, hq, rfl, rfl⟩
  · exact Cst_x hS h45 hv (w_fingers_x0 K l S x y _ h1 (p_fingers_x0 K l S x y h1 hb)) (q_fingers_x0 x y hb) (by decide)
  · cases hsh : sh cn fb p 5 (some q) with
    | none =>
      refine Cst_ok (S1 := S) hS (fun z _ _ => rfl) (w_fingers K l S o (nI p) (nI q) (-1) (fun S' => S = S') _ h1 (p_fingers_n K l S VR cn fb _ p q h1 hc hp hq hsh) (fun S' e9 => by rw [← e9]; exact h45)) (fun B => q_fingers_n cn fb p q hc4 hf5 hp hq (hen q hq) hsh) ?_
      exact hv
    | some r =>
      obtain ⟨hr, h0⟩ := sh_lt (cn := cn) (fb := fb) (p := p) hf5 5 (some q) (fun j h9 => by cases h9; exact hq) r hsh
      have hr4 := hc4 (p * 5 + r)
      obtain ⟨-, g2, g3, g4, g5, g6, g7⟩ := hvv (p * 5 + r) (cn (p * 5 + r) - 1) (by omega) (by omega)
      have hv9 : ∀ k j, k < 50 → j < cn k → VR (k * 4 + j) = some (vr (k * 4 + j)) := fun k j h1 h2 => (hvv k j h1 h2).1
      have hm8 := g4.2.2.2
      generalize eiv : (p * 5 + r) * 4 + (cn (p * 5 + r) - 1) = iv at g2 g3 g4 g5 g6 g7 hm8
      have hiv : iv < 200 := by omega
      generalize vg iv = g at g4 g6 g7
      generalize vl iv = m at g4 g5 g6 g7 hm8
      have hN8 : (wns (wst sz lt g m) m m 0) ≤ 80 := Nat.le_trans (wns_le _ _) hm8
      refine Cst_ok (S1 := rwS S 17 18 80 (rcat a39 0 (fun j => wcl sz lt g m (wps (wst sz lt g m) j)) (wns (wst sz lt g m) m m 0)) (wns (wst sz lt g m) m m 0)) hS (fun z _ _ => rwS_at (by omega) (by omega)) (w_fingers K l S o (nI p) (nI q) (nI (wns (wst sz lt g m) m m 0)) (fun S' => rwS S 17 18 80 (rcat a39 0 (fun j => wcl sz lt g m (wps (wst sz lt g m) j)) (wns (wst sz lt g m) m m 0)) (wns (wst sz lt g m) m m 0) = S') _ h1 (p_fingers K l S VR cn fb _ vr p q r _ _ _ _ CR sz lt ra rb ct a39 cm h1 hc hv9 hp hq hsh (by rw [eiv]; exact g4) hct hcl (by rw [eiv]; omega) (fun k hk h0 => by have := hr46 k hk h0; omega) hN8) (fun S' e9 => by rw [← e9]; exact (rwS_at (by decide) (by decide)).trans h45)) (fun B => q_fingers cn fb p q r iv m g sz lt hc4 hf5 hp hq (hen q hq) hsh eiv.symm hiv g5 hm8 g6 h5 hl h2 hne) ?_
      refine ⟨(rwS_at (by decide) (by decide)).trans h1, CPad_keep (fun z _ _ _ => rwS_at (by omega) (by omega)) hP, CCap_keep (fun z _ _ => rwS_at (by omega) (by omega)) hC, CSet_keep (fun z _ _ _ => rwS_at (by omega) (by omega)) hT, ⟨CR, sz, lt, ra, rb, (wns (wst sz lt g m) m m 0), ckn sz lt g m, ctk (fun z hz _ => rwS_at (by omega) (by omega)) hct hr46, hr46, h5, rfl, hlt9, rwS_rw (by decide) hN8 (by decide), rfl, (if_neg (by have := wns_pos (st := wst sz lt g m) (txt_0 g7); omega)).symm, fun k hk => ?_, ?_⟩, CZon_keep (fun z _ _ _ => rwS_at (by omega) (by omega)) hZ, CRoo_keep (fun z _ _ _ => rwS_at (by omega) (by omega)) hR⟩
      · have hlt := wps_lt hk
        have h9 := rcat_hi (f := a39) (g := fun j => wcl sz lt g m (wps (wst sz lt g m) j)) (n := 0) (k := (wns (wst sz lt g m) m m 0)) hk
        rw [Nat.zero_add] at h9
        rw [h9]
        by_cases c : (lg sz lt g m (nI (wps (wst sz lt g m) k)) 36).2 = 0
        · refine Or.inl ⟨if_pos c, ?_⟩
          have e : wcl sz lt g m (wps (wst sz lt g m) k) = oc (g (wps (wst sz lt g m) k)) := if_pos c
          rw [e]
          exact oc_os (g7.2 _ hlt)
        · obtain ⟨j, j1, j2, j3, j4, j5, j6⟩ := lg36 c
          refine Or.inr ⟨j, (if_neg c).trans (by rw [j3]), ?_, j1, j5⟩
          exact (if_neg c).trans j2
      · rw [rnn_wps]
        exact Nat.le_trans (wps_le (wst_le hm8 h5 hne) _ (Nat.le_refl _)) hm8
theorem rff_sgn {ck : Nat → Option Nat} {sz : Nat → Nat} {lt : Nat → Nat → Int32} {g f : Nat → Int32} (hlt9 : ∀ k i, k < 36 → i < sz k → isl (lt k i) = true) : ∀ cm, (∀ k, k < cm → (ck k = none ∧ g k < 28 ∧ sgn (os (g k))) ∨ ∃ j, ck k = some j ∧ g k = nI (28 + j) ∧ j < 36 ∧ 0 < sz j) → ∀ i, i < rnn ck sz cm → sgn (rff ck sz lt g f cm i)
  | 0, _, i, h => absurd h (Nat.not_lt_zero _)
  | k + 1, hck, i, h => by
    have h' : i < rnn ck sz k + rl ck sz k := h
    rw [rff]
    rcases Nat.lt_or_ge i (rnn ck sz k) with q | q
    · rw [rcat_lo q]
      exact rff_sgn hlt9 k (fun j hj => hck j (by omega)) i q
    · obtain ⟨d, rfl⟩ : ∃ d, i = rnn ck sz k + d := ⟨i - rnn ck sz k, by omega⟩
      have hd : d < rl ck sz k := by omega
      rw [rcat_hi hd]
      rcases hck k (Nat.lt_succ_self k) with ⟨h1, h2, h3⟩ | ⟨j, h1, h2, h3, h4⟩
      · unfold rcn; rw [h1]; exact h3
      · unfold rl at hd
        rw [h1] at hd
        unfold rcn; rw [h1]; exact Or.inl (hlt9 j d h3 hd)
theorem st_back {K : am_K} {l : Launch} {S : am_S} {th : Int32} {o : Nat → Int64} (hI : Inv th o S)  : Cst K l S iL_back [.ref 1, .ref 45] iX7_back 1 [.ref 25] := by
  obtain ⟨pd, wd, ln, sq, st, ct, cl, ft, zn, a26, a27, a28, a29, a30, a31, a32, a33, a34, a35, a36, a37, a38, a39, a40, a41, a42, a43, a44, hS, h45, hv⟩ := hI
  obtain ⟨h1, hP, hC, hT, hF, hZ, hR⟩ := id hv
  obtain ⟨n, hr, rfl, hsg⟩ := id hP
  obtain ⟨CR, sz, lt, ra, rb, cm, ck, hct, hr46, h5, rfl, hlt9, hcl, rfl, hft, hck, h80⟩ := id hF
  have hl : ∀ k i, k < 36 → i < sz k → a38 (k * 5 + i) = lt k i := fun k i a b => (hlt9 k i a b).1
  have hcm := hcl.2.2.1
  rcases Nat.eq_zero_or_pos cm with e | e
  · subst e
    have hft0 : ft = 0 := hft
    subst hft0
    exact Cst_x hS h45 hv (w_back_x1 K l S _ h1 (p_back_x1 K l S a39 h1 hcl)) (q_back_x1) (by decide)
  · rw [if_neg (by omega)] at hft
    subst hft
    have hck2 : ∀ k, k < cm → (ck k = none ∧ a39 k < 28) ∨ ∃ j, ck k = some j ∧ a39 k = nI (28 + j) ∧ j < 36 ∧ 0 < sz j := fun k hk => (hck k hk).imp (fun q => ⟨q.1, q.2.1⟩) id
    refine Cst_ok (S1 := rwS S 2 3 80 (rff ck sz lt a39 a26 cm) (rnn ck sz cm)) hS (fun z _ _ => rwS_at (by omega) (by omega)) (w_back K l S o (nI (rnn ck sz cm)) (fun S' => rwS S 2 3 80 (rff ck sz lt a39 a26 cm) (rnn ck sz cm) = S') _ h1 (p_back K l S a26 n CR sz lt ra rb ct a39 cm ck h1 hr hct hcl e (fun k hk h0 => by have := hr46 k hk h0; omega) hck2 h80) (fun S' e9 => by rw [← e9]; exact (rwS_at (by decide) (by decide)).trans h45)) (fun B => q_back sz lt cm ck h5 hl hcm hck2 h80) ?_
    exact ⟨(rwS_at (by decide) (by decide)).trans h1, ⟨rnn ck sz cm, rwS_rw (by decide) h80 (by decide), rfl, rff_sgn (fun k i a b => (hlt9 k i a b).2) cm hck⟩, CCap_keep (fun z _ _ => rwS_at (by omega) (by omega)) hC, CSet_keep (fun z _ _ _ => rwS_at (by omega) (by omega)) hT, CFin_keep (fun z _ _ => rwS_at (by omega) (by omega)) hF, CZon_keep (fun z _ _ _ => rwS_at (by omega) (by omega)) hZ, CRoo_keep (fun z _ _ _ => rwS_at (by omega) (by omega)) hR⟩
