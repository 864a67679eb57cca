/-- a place that may be none, as an int -/
def fo (x : Option Nat) : Int32 := match x with
  | none => -1
  | some k => nI k
theorem fo_none {x : Option Nat} (hx : ∀ k, x = some k → k < 5) : fo x = -1 ↔ x = none := by
  cases x with
  | none => exact ⟨fun _ => rfl, fun _ => rfl⟩
  | some k =>
    refine ⟨fun h => ?_, fun h => by cases h⟩
    exfalso
    have h1 : nI k = -1 := h
    have h2 := nI_pos (n := k) (by have := hx k rfl; omega)
    rw [h1] at h2
    exact h2 (by decide)
theorem fo_some {x : Option Nat} (hx : ∀ k, x = some k → k < 5) (h : ¬ fo x = -1) : ∃ k, x = some k ∧ k < 5 := by
  cases x with
  | none => exact absurd rfl h
  | some k => exact ⟨k, rfl, hx k rfl⟩
/-- CAPTIONS: cell a of class 0; versions v (rows by vr), counts c, fallbacks f -/
abbrev cp (h : Nat → am_C) (a v c f : Nat) (VR : Nat → Option Nat) (cn : Nat → Nat) (fb : Nat → Option Nat) (tot : Int32) : Prop := h a = .inr (0, [.ref v, .ref c, .ref f, .int tot]) ∧ h v = .inl (2, 200, .inr (.inr (.inr (.inr VR)))) ∧ h c = .inl (0, 50, .inl (fun k => nI (cn k))) ∧ h f = .inl (0, 5, .inl (fun l => fo (fb l))) ∧ c ≠ f ∧ (∀ k, cn k ≤ 4) ∧ ∀ l k, fb l = some k → k < 5
def sh (cn : Nat → Nat) (fb : Nat → Option Nat) (p : Nat) : Nat → Option Nat → Option Nat
  | 0, _ => none
  | _ + 1, none => none
  | k + 1, some r => if 0 < cn (p * 5 + r) then some r else sh cn fb p k (fb r)
def rch (fb : Nat → Option Nat) (q : Nat) : Nat → Option Nat → Bool
  | 0, _ => false
  | _ + 1, none => false
  | k + 1, some r => if r = q then true else rch fb q k (fb r)
theorem sh_lt {cn : Nat → Nat} {fb : Nat → Option Nat} {p : Nat} (hf : ∀ l k, fb l = some k → k < 5) : ∀ (k : Nat) (x : Option Nat), (∀ j, x = some j → j < 5) → ∀ r, sh cn fb p k x = some r → r < 5 ∧ 0 < cn (p * 5 + r)
  | 0, _, _, r, h => by cases h
  | _ + 1, none, _, r, h => by cases h
  | k + 1, some j, hx, r, h => by
    unfold sh at h
    by_cases e : 0 < cn (p * 5 + j)
    · rw [if_pos e] at h
      cases h
      exact ⟨hx _ rfl, e⟩
    · rw [if_neg e] at h
      exact sh_lt hf k (fb j) (hf j) r h
set_option maxRecDepth 100000 in
set_option maxHeartbeats 4000000 in
theorem m_Capt_total (K : am_K) (l : Launch) (S : am_S) (a v c f : Nat) (VR : Nat → Option Nat) (cn : Nat → Nat) (fb : Nat → Option Nat) (tot : Int32) (hc : cp S.1 a v c f VR cn fb tot) : am_M K l iX0_total 0 0 0 [.ref a] S (fun v S' => v = some (.int tot) ∧ S = S') (fun _ _ => False) := by
  refine am_body (by decide) rfl (by simp [Value.category]) (Nat.le_of_ble_eq_true rfl) (fun xp xe xs xm xa xb xt xc ad0 => ?_)
  show am_W _ _ _ _ _ _ _ _ _ _ _ _ _ _ _ 0 [some (.ref a)] [] S 0 0
  refine am_aload_n (I := iX0_total) (pc := 0) dX0_total_0 rfl rfl ?_
  refine am_getf (I := iX0_total) (pc := 1) lf_X0_24 dX0_total_1 hc.1 rfl ?_
  exact am_iret (I := iX0_total) (pc := 4) dX0_total_4 rfl (Nat.le_refl _) (Nat.le_refl _) (⟨rfl, rfl⟩)
set_option maxRecDepth 100000 in
set_option maxHeartbeats 4000000 in
theorem m_Capt_versionsOf (K : am_K) (l : Launch) (S : am_S) (a v c f : Nat) (VR : Nat → Option Nat) (cn : Nat → Nat) (fb : Nat → Option Nat) (tot : Int32) (p q : Nat) (hc : cp S.1 a v c f VR cn fb tot) (hp : p < 10) (hq : q < 5) : am_M K l iX0_versionsOf 0 0 0 [.ref a, .int (nI p), .int (nI q)] S (fun v S' => v = some (.int (nI (cn (p * 5 + q)))) ∧ S = S') (fun _ _ => False) := by
  refine am_body (by decide) rfl (by simp [Value.category]) (Nat.le_of_ble_eq_true rfl) (fun xp xe xs xm xa xb xt xc ad0 => ?_)
  show am_W _ _ _ _ _ _ _ _ _ _ _ _ _ _ _ 0 [some (.ref a), some (.int (nI p)), some (.int (nI q))] [] S 0 0
  refine am_aload_n (I := iX0_versionsOf) (pc := 0) dX0_versionsOf_0 rfl rfl ?_
  refine am_getf (I := iX0_versionsOf) (pc := 1) lf_X0_17 dX0_versionsOf_1 hc.1 rfl ?_
  refine am_iload_n (I := iX0_versionsOf) (pc := 4) dX0_versionsOf_4 rfl rfl ?_
  refine am_iconst (I := iX0_versionsOf) (pc := 5) (x := 5) dX0_versionsOf_5 (by decide) ?_
  refine am_imul (I := iX0_versionsOf) (pc := 6) dX0_versionsOf_6 ?_
  refine am_iload_n (I := iX0_versionsOf) (pc := 7) dX0_versionsOf_7 rfl rfl ?_
  refine am_iadd (I := iX0_versionsOf) (pc := 8) dX0_versionsOf_8 ?_
  have e9 : nI p * 5 + nI q = nI (p * 5 + q) := by rw [show (5 : Int32) = nI 5 from rfl, pk_mul, nI_add]
  rw [e9]
  refine am_iaload (I := iX0_versionsOf) (pc := 9) dX0_versionsOf_9 hc.2.2.1 rfl (vp_in_nI (show p * 5 + q < 50 by omega) (by decide)) ?_
  rw [nI_clamp (show p * 5 + q < 2 ^ 31 by omega)]
  exact am_iret (I := iX0_versionsOf) (pc := 10) dX0_versionsOf_10 rfl (Nat.le_refl _) (Nat.le_refl _) (⟨rfl, rfl⟩)
set_option maxRecDepth 100000 in
set_option maxHeartbeats 4000000 in
theorem m_Capt_version0 (K : am_K) (l : Launch) (S : am_S) (a v c f : Nat) (VR : Nat → Option Nat) (cn : Nat → Nat) (fb : Nat → Option Nat) (tot : Int32) (p q : Nat) (w : Int32) (hc : cp S.1 a v c f VR cn fb tot) (hp : p < 10) (hq : q < 5) (hw : w < 0 ∨ nI (cn (p * 5 + q)) ≤ w) : am_M K l iX0_version 1 0 0 [.ref a, .int (nI p), .int (nI q), .int w] S (fun v S' => v = some .null ∧ S = S') (fun _ _ => False) := by
  refine am_body (by decide) rfl (by simp [Value.category]) (Nat.le_of_ble_eq_true rfl) (fun xp xe xs xm xa xb xt xc ad0 => ?_)
  show am_W _ _ _ _ _ _ _ _ _ _ _ _ _ _ _ 0 [some (.ref a), some (.int (nI p)), some (.int (nI q)), some (.int w)] [] S 0 0
  refine am_iload_n (I := iX0_version) (pc := 0) dX0_version_0 rfl rfl ?_
  refine am_if_lt (I := iX0_version) (pc := 1) (tgt := 14) dX0_version_1 (by decide) (fun c1 => ?_) (fun c1 => ?_)
  · refine am_null (I := iX0_version) (pc := 14) dX0_version_14 ?_
    exact am_aret (I := iX0_version) (pc := 15) dX0_version_15 rfl (Or.inl ⟨_, rfl⟩) (Or.inl rfl) (Nat.le_refl _) (Nat.le_refl _) (⟨rfl, rfl⟩)
  · refine am_iload_n (I := iX0_version) (pc := 4) dX0_version_4 rfl rfl ?_
    refine am_aload_n (I := iX0_version) (pc := 5) dX0_version_5 rfl rfl ?_
    refine am_iload_n (I := iX0_version) (pc := 6) dX0_version_6 rfl rfl ?_
    refine am_iload_n (I := iX0_version) (pc := 7) dX0_version_7 rfl rfl ?_
    refine am_callV (I := iX0_version) (pc := 8) (st := [.int w]) lv_X0_28 (m_Capt_versionsOf K l _ a v c f VR cn fb tot p q hc hp hq) dX0_version_8 hc.1 rfl (Nat.le_of_ble_eq_true rfl) ⟨Nat.le_of_ble_eq_true rfl, Nat.le_of_ble_eq_true rfl⟩ (Nat.le_of_ble_eq_true rfl) (Nat.le_of_ble_eq_true rfl) rfl (fun v9 T9 z9 _ => ?_) (fun _ _ h9 => h9.elim)
    obtain ⟨rfl, rfl⟩ := z9
    show am_W _ _ _ _ _ _ _ _ _ _ _ _ _ _ _ 11 [some (.ref a), some (.int (nI p)), some (.int (nI q)), some (.int w)] [.int (nI (cn (p * 5 + q))), .int w] S 0 0
    refine am_icmp_lt (I := iX0_version) (pc := 11) (tgt := 16) dX0_version_11 (by decide) (fun c11 => ?_) (fun c11 => ?_)
    · exact absurd c11 (hw.elim (fun h => absurd h c1) (fun h => Int32.not_lt.mpr h))
    · refine am_null (I := iX0_version) (pc := 14) dX0_version_14 ?_
      exact am_aret (I := iX0_version) (pc := 15) dX0_version_15 rfl (Or.inl ⟨_, rfl⟩) (Or.inl rfl) (Nat.le_refl _) (Nat.le_refl _) (⟨rfl, rfl⟩)
set_option maxRecDepth 100000 in
set_option maxHeartbeats 4000000 in
theorem m_Capt_version1 (K : am_K) (l : Launch) (S : am_S) (a v c f : Nat) (VR : Nat → Option Nat) (cn : Nat → Nat) (fb : Nat → Option Nat) (tot : Int32) (vr : Nat → Nat) (p q j : Nat) (hc : cp S.1 a v c f VR cn fb tot) (hv : ∀ k j, k < 50 → j < cn k → VR (k * 4 + j) = some (vr (k * 4 + j))) (hp : p < 10) (hq : q < 5) (hj : j < cn (p * 5 + q)) : am_M K l iX0_version 1 0 0 [.ref a, .int (nI p), .int (nI q), .int (nI j)] S (fun v S' => v = some (.ref (vr ((p * 5 + q) * 4 + j))) ∧ S = S') (fun _ _ => False) := by
  refine am_body (by decide) rfl (by simp [Value.category]) (Nat.le_of_ble_eq_true rfl) (fun xp xe xs xm xa xb xt xc ad0 => ?_)
  show am_W _ _ _ _ _ _ _ _ _ _ _ _ _ _ _ 0 [some (.ref a), some (.int (nI p)), some (.int (nI q)), some (.int (nI j))] [] S 0 0
  refine am_iload_n (I := iX0_version) (pc := 0) dX0_version_0 rfl rfl ?_
  refine am_if_lt (I := iX0_version) (pc := 1) (tgt := 14) dX0_version_1 (by decide) (fun c1 => ?_) (fun c1 => ?_)
  · exact absurd c1 (nI_pos (by have := hc.2.2.2.2.2.1 (p * 5 + q); omega))
  · refine am_iload_n (I := iX0_version) (pc := 4) dX0_version_4 rfl rfl ?_
    refine am_aload_n (I := iX0_version) (pc := 5) dX0_version_5 rfl rfl ?_
    refine am_iload_n (I := iX0_version) (pc := 6) dX0_version_6 rfl rfl ?_
    refine am_iload_n (I := iX0_version) (pc := 7) dX0_version_7 rfl rfl ?_
    refine am_callV (I := iX0_version) (pc := 8) (st := [.int (nI j)]) lv_X0_28 (m_Capt_versionsOf K l _ a v c f VR cn fb tot p q hc hp hq) dX0_version_8 hc.1 rfl (Nat.le_of_ble_eq_true rfl) ⟨Nat.le_of_ble_eq_true rfl, Nat.le_of_ble_eq_true rfl⟩ (Nat.le_of_ble_eq_true rfl) (Nat.le_of_ble_eq_true rfl) rfl (fun v9 T9 z9 _ => ?_) (fun _ _ h9 => h9.elim)
    obtain ⟨rfl, rfl⟩ := z9
    show am_W _ _ _ _ _ _ _ _ _ _ _ _ _ _ _ 11 [some (.ref a), some (.int (nI p)), some (.int (nI q)), some (.int (nI j))] [.int (nI (cn (p * 5 + q))), .int (nI j)] S 0 0
    refine am_icmp_lt (I := iX0_version) (pc := 11) (tgt := 16) dX0_version_11 (by decide) (fun c11 => ?_) (fun c11 => ?_)
    · refine am_aload_n (I := iX0_version) (pc := 16) dX0_version_16 rfl rfl ?_
      refine am_getf (I := iX0_version) (pc := 17) lf_X0_11 dX0_version_17 hc.1 rfl ?_
      refine am_iload_n (I := iX0_version) (pc := 20) dX0_version_20 rfl rfl ?_
      refine am_iconst (I := iX0_version) (pc := 21) (x := 5) dX0_version_21 (by decide) ?_
      refine am_imul (I := iX0_version) (pc := 22) dX0_version_22 ?_
      refine am_iload_n (I := iX0_version) (pc := 23) dX0_version_23 rfl rfl ?_
      refine am_iadd (I := iX0_version) (pc := 24) dX0_version_24 ?_
      refine am_iconst (I := iX0_version) (pc := 25) (x := 4) dX0_version_25 (by decide) ?_
      refine am_imul (I := iX0_version) (pc := 26) dX0_version_26 ?_
      refine am_iload_n (I := iX0_version) (pc := 27) dX0_version_27 rfl rfl ?_
      refine am_iadd (I := iX0_version) (pc := 28) dX0_version_28 ?_
      have h4 := hc.2.2.2.2.2.1 (p * 5 + q)
      have e9 : (nI p * 5 + nI q) * 4 + nI j = nI ((p * 5 + q) * 4 + j) := by rw [show (5 : Int32) = nI 5 from rfl, show (4 : Int32) = nI 4 from rfl, pk_mul, nI_add, pk_mul, nI_add]
      rw [e9]
      refine am_aaload (I := iX0_version) (pc := 29) dX0_version_29 hc.2.1 rfl (vp_in_nI (show (p * 5 + q) * 4 + j < 200 by omega) (by decide)) ?_
      rw [nI_clamp (show (p * 5 + q) * 4 + j < 2 ^ 31 by omega), hv (p * 5 + q) j (by omega) hj]
      show am_W _ _ _ _ _ _ _ _ _ _ _ _ _ _ _ 30 [some (.ref a), some (.int (nI p)), some (.int (nI q)), some (.int (nI j))] [.ref (vr ((p * 5 + q) * 4 + j))] S 0 0
      exact am_aret (I := iX0_version) (pc := 30) dX0_version_30 rfl (Or.inl ⟨_, rfl⟩) (Or.inr ⟨_, rfl⟩) (Nat.le_refl _) (Nat.le_refl _) (⟨rfl, rfl⟩)
    · exact absurd (nI_lt hj (by have := hc.2.2.2.2.2.1 (p * 5 + q); omega)) c11
set_option maxRecDepth 100000 in
set_option maxHeartbeats 4000000 in
theorem m_Capt_languageShown (K : am_K) (l : Launch) (S : am_S) (a v c f : Nat) (VR : Nat → Option Nat) (cn : Nat → Nat) (fb : Nat → Option Nat) (tot : Int32) (p q : Nat) (hc : cp S.1 a v c f VR cn fb tot) (hp : p < 10) (hq : q < 5) : am_M K l iX0_languageShown 1 0 0 [.ref a, .int (nI p), .int (nI q)] S (fun v S' => v = some (.int (fo (sh cn fb p 5 (some q)))) ∧ S = S') (fun _ _ => False) := by
  refine am_body (by decide) rfl (by simp [Value.category]) (Nat.le_of_ble_eq_true rfl) (fun xp xe xs xm xa xb xt xc ad0 => ?_)
  show am_W _ _ _ _ _ _ _ _ _ _ _ _ _ _ _ 0 [some (.ref a), some (.int (nI p)), some (.int (nI q)), none, none] [] S 0 0
  refine am_iload_n (I := iX0_languageShown) (pc := 0) dX0_languageShown_0 rfl rfl ?_
  refine am_istore_n (I := iX0_languageShown) (pc := 1) (L' := [some (.ref a), some (.int (nI p)), some (.int (nI q)), some (.int (nI q)), none]) dX0_languageShown_1 rfl (by decide) rfl ?_
  refine am_iconst (I := iX0_languageShown) (pc := 2) (x := 0) dX0_languageShown_2 (by decide) ?_
  refine am_istore (I := iX0_languageShown) (pc := 3) (L' := [some (.ref a), some (.int (nI p)), some (.int (nI q)), some (.int (nI q)), some (.int 0)]) dX0_languageShown_3 (by decide) rfl ?_
  have loop5 : ∀ (k5 : Nat) (i : Nat) (x : Option Nat), 5 - i < k5 → (i ≤ 5) → (∀ k, x = some k → k < 5) → (sh cn fb p (5 - i) x = sh cn fb p 5 (some q)) → am_W K iX0_languageShown xp l xe (am_room 1 0 0) xs xm xa xb xt xc S ad0 (am_E K ad0 S (fun v S' => v = some (.int (fo (sh cn fb p 5 (some q)))) ∧ S = S') (fun _ _ => False) xb xa xs 0 0) 5 [some (.ref a), some (.int (nI p)), some (.int (nI q)), some (.int (fo x)), some (.int (nI i))] [] S 0 0 := by
    intro k5
    induction k5 with
    | zero => intro i x h9; exact absurd h9 (Nat.not_lt_zero _)
    | succ k5 ih5 =>
      intro i x hm5 hi hx he
      refine am_iload (I := iX0_languageShown) (pc := 5) dX0_languageShown_5 rfl ?_
      refine am_iconst (I := iX0_languageShown) (pc := 7) (x := 5) dX0_languageShown_7 (by decide) ?_
      refine am_icmp_ge (I := iX0_languageShown) (pc := 8) (tgt := 40) dX0_languageShown_8 (by decide) (fun c8 => ?_) (fun c8 => ?_)
      · have g8 : 5 ≤ i := by
          rcases Nat.lt_or_ge i 5 with q9 | q9
          · exact absurd c8 (nI_ge (a := i) (b := 5) q9 (by omega))
          · exact q9
        refine am_iconst (I := iX0_languageShown) (pc := 40) (x := (-1)) dX0_languageShown_40 (by decide) ?_
        exact am_iret (I := iX0_languageShown) (pc := 41) dX0_languageShown_41 rfl (Nat.le_refl _) (Nat.le_refl _) (⟨by rw [← he, show 5 - i = 0 by omega]; rfl, rfl⟩)
      · have l8 : i < 5 := by
          rcases Nat.lt_or_ge i 5 with q9 | q9
          · exact q9
          · exact absurd (nI_le (a := 5) (b := i) q9 (by omega)) c8
        refine am_iload_n (I := iX0_languageShown) (pc := 11) dX0_languageShown_11 rfl rfl ?_
        refine am_iconst (I := iX0_languageShown) (pc := 12) (x := (-1)) dX0_languageShown_12 (by decide) ?_
        refine am_icmp_eq (I := iX0_languageShown) (pc := 13) (tgt := 40) dX0_languageShown_13 (by decide) (fun c13 => ?_) (fun c13 => ?_)
        · have ex : x = none := (fo_none hx).mp c13
          refine am_iconst (I := iX0_languageShown) (pc := 40) (x := (-1)) dX0_languageShown_40 (by decide) ?_
          exact am_iret (I := iX0_languageShown) (pc := 41) dX0_languageShown_41 rfl (Nat.le_refl _) (Nat.le_refl _) (⟨by rw [← he, show 5 - i = (4 - i) + 1 by omega, ex]; rfl, rfl⟩)
        · obtain ⟨r, rfl, hr5⟩ := fo_some hx c13
          show am_W _ _ _ _ _ _ _ _ _ _ _ _ _ _ _ 16 [some (.ref a), some (.int (nI p)), some (.int (nI q)), some (.int (nI r)), some (.int (nI i))] [] S 0 0
          refine am_aload_n (I := iX0_languageShown) (pc := 16) dX0_languageShown_16 rfl rfl ?_
          refine am_iload_n (I := iX0_languageShown) (pc := 17) dX0_languageShown_17 rfl rfl ?_
          refine am_iload_n (I := iX0_languageShown) (pc := 18) dX0_languageShown_18 rfl rfl ?_
          refine am_callV (I := iX0_languageShown) (pc := 19) (st := []) lv_X0_28 (m_Capt_versionsOf K l _ a v c f VR cn fb tot p r hc hp hr5) dX0_languageShown_19 hc.1 rfl (Nat.le_of_ble_eq_true rfl) ⟨Nat.le_of_ble_eq_true rfl, Nat.le_of_ble_eq_true rfl⟩ (Nat.le_of_ble_eq_true rfl) (Nat.le_of_ble_eq_true rfl) rfl (fun v9 T9 z9 _ => ?_) (fun _ _ h9 => h9.elim)
          obtain ⟨rfl, rfl⟩ := z9
          show am_W _ _ _ _ _ _ _ _ _ _ _ _ _ _ _ 22 [some (.ref a), some (.int (nI p)), some (.int (nI q)), some (.int (nI r)), some (.int (nI i))] [.int (nI (cn (p * 5 + r)))] S 0 0
          refine am_if_le (I := iX0_languageShown) (pc := 22) (tgt := 27) dX0_languageShown_22 (by decide) (fun c22 => ?_) (fun c22 => ?_)
          · have h0 : ¬ 0 < cn (p * 5 + r) := fun q9 => nI_nle q9 (by have := hc.2.2.2.2.2.1 (p * 5 + r); omega) c22
            refine am_aload_n (I := iX0_languageShown) (pc := 27) dX0_languageShown_27 rfl rfl ?_
            refine am_getf (I := iX0_languageShown) (pc := 28) lf_X0_21 dX0_languageShown_28 hc.1 rfl ?_
            refine am_iload_n (I := iX0_languageShown) (pc := 31) dX0_languageShown_31 rfl rfl ?_
            refine am_iaload (I := iX0_languageShown) (pc := 32) dX0_languageShown_32 hc.2.2.2.1 rfl (vp_in_nI hr5 (by decide)) ?_
            rw [nI_clamp (show r < 2 ^ 31 by omega)]
            refine am_istore_n (I := iX0_languageShown) (pc := 33) (L' := [some (.ref a), some (.int (nI p)), some (.int (nI q)), some (.int (fo (fb r))), some (.int (nI i))]) dX0_languageShown_33 rfl (by decide) rfl ?_
            refine am_iinc (I := iX0_languageShown) (pc := 34) (y := ((nI i) + 1)) (L' := [some (.ref a), some (.int (nI p)), some (.int (nI q)), some (.int (fo (fb r))), some (.int ((nI i) + 1))]) dX0_languageShown_34 rfl rfl rfl ?_
            refine am_goto (I := iX0_languageShown) (pc := 37) (tgt := 5) dX0_languageShown_37 (by decide) ?_
            exact am_same rfl (by rw [nI_1]) rfl rfl rfl rfl (ih5 (i + 1) (fb r) (by omega) (by omega) (hc.2.2.2.2.2.2 r) (by rw [← he, show 5 - i = (5 - (i + 1)) + 1 by omega, sh, if_neg (by omega)]))
          · have h0 : 0 < cn (p * 5 + r) := by
              rcases Nat.eq_zero_or_pos (cn (p * 5 + r)) with q9 | q9
              · exact absurd (by rw [q9]; decide) c22
              · exact q9
            refine am_iload_n (I := iX0_languageShown) (pc := 25) dX0_languageShown_25 rfl rfl ?_
            exact am_iret (I := iX0_languageShown) (pc := 26) dX0_languageShown_26 rfl (Nat.le_refl _) (Nat.le_refl _) (⟨by rw [← he, show 5 - i = (4 - i) + 1 by omega, sh, if_pos h0]; rfl, rfl⟩)
  exact am_same rfl (by rw [nI_0]; rfl) rfl rfl rfl rfl (loop5 _ 0 (some q) (Nat.lt_succ_self _) (Nat.zero_le _) (fun k h9 => by cases h9; exact hq) rfl)
set_option maxRecDepth 100000 in
set_option maxHeartbeats 4000000 in
theorem m_Capt_latest0 (K : am_K) (l : Launch) (S : am_S) (a v c f : Nat) (VR : Nat → Option Nat) (cn : Nat → Nat) (fb : Nat → Option Nat) (tot : Int32) (p q : Nat) (hc : cp S.1 a v c f VR cn fb tot) (hp : p < 10) (hq : q < 5) (hs : sh cn fb p 5 (some q) = none) : am_M K l iX0_latestShown 2 0 0 [.ref a, .int (nI p), .int (nI q)] S (fun v S' => v = some .null ∧ S = S') (fun _ _ => False) := by
  refine am_body (by decide) rfl (by simp [Value.category]) (Nat.le_of_ble_eq_true rfl) (fun xp xe xs xm xa xb xt xc ad0 => ?_)
  show am_W _ _ _ _ _ _ _ _ _ _ _ _ _ _ _ 0 [some (.ref a), some (.int (nI p)), some (.int (nI q)), none] [] S 0 0
  refine am_aload_n (I := iX0_latestShown) (pc := 0) dX0_latestShown_0 rfl rfl ?_
  refine am_iload_n (I := iX0_latestShown) (pc := 1) dX0_latestShown_1 rfl rfl ?_
  refine am_iload_n (I := iX0_latestShown) (pc := 2) dX0_latestShown_2 rfl rfl ?_
  refine am_callV (I := iX0_latestShown) (pc := 3) (st := []) lv_X0_32 (m_Capt_languageShown K l _ a v c f VR cn fb tot p q hc hp hq) dX0_latestShown_3 hc.1 rfl (Nat.le_of_ble_eq_true rfl) ⟨Nat.le_of_ble_eq_true rfl, Nat.le_of_ble_eq_true rfl⟩ (Nat.le_of_ble_eq_true rfl) (Nat.le_of_ble_eq_true rfl) rfl (fun v9 T9 z9 _ => ?_) (fun _ _ h9 => h9.elim)
  obtain ⟨rfl, rfl⟩ := z9
  show am_W _ _ _ _ _ _ _ _ _ _ _ _ _ _ _ 6 [some (.ref a), some (.int (nI p)), some (.int (nI q)), none] [.int (fo (sh cn fb p 5 (some q)))] S 0 0
  refine am_istore_n (I := iX0_latestShown) (pc := 6) (L' := [some (.ref a), some (.int (nI p)), some (.int (nI q)), some (.int (fo (sh cn fb p 5 (some q))))]) dX0_latestShown_6 rfl (by decide) rfl ?_
  refine am_iload_n (I := iX0_latestShown) (pc := 7) dX0_latestShown_7 rfl rfl ?_
  refine am_iconst (I := iX0_latestShown) (pc := 8) (x := (-1)) dX0_latestShown_8 (by decide) ?_
  refine am_icmp_ne (I := iX0_latestShown) (pc := 9) (tgt := 14) dX0_latestShown_9 (by decide) (fun c9 => ?_) (fun c9 => ?_)
  · exact absurd (by rw [hs]; rfl) c9
  · refine am_null (I := iX0_latestShown) (pc := 12) dX0_latestShown_12 ?_
    exact am_aret (I := iX0_latestShown) (pc := 13) dX0_latestShown_13 rfl (Or.inl ⟨_, rfl⟩) (Or.inl rfl) (Nat.le_refl _) (Nat.le_refl _) (⟨rfl, rfl⟩)
set_option maxRecDepth 100000 in
set_option maxHeartbeats 4000000 in
theorem m_Capt_latest1 (K : am_K) (l : Launch) (S : am_S) (a v c f : Nat) (VR : Nat → Option Nat) (cn : Nat → Nat) (fb : Nat → Option Nat) (tot : Int32) (vr : Nat → Nat) (p q r : Nat) (hc : cp S.1 a v c f VR cn fb tot) (hv : ∀ k j, k < 50 → j < cn k → VR (k * 4 + j) = some (vr (k * 4 + j))) (hp : p < 10) (hq : q < 5) (hs : sh cn fb p 5 (some q) = some r) : am_M K l iX0_latestShown 2 0 0 [.ref a, .int (nI p), .int (nI q)] S (fun v S' => v = some (.ref (vr ((p * 5 + r) * 4 + (cn (p * 5 + r) - 1)))) ∧ S = S') (fun _ _ => False) := by
  refine am_body (by decide) rfl (by simp [Value.category]) (Nat.le_of_ble_eq_true rfl) (fun xp xe xs xm xa xb xt xc ad0 => ?_)
  show am_W _ _ _ _ _ _ _ _ _ _ _ _ _ _ _ 0 [some (.ref a), some (.int (nI p)), some (.int (nI q)), none] [] S 0 0
  obtain ⟨hr5, hcr⟩ := sh_lt hc.2.2.2.2.2.2 5 (some q) (fun k h9 => by cases h9; exact hq) r hs
  refine am_aload_n (I := iX0_latestShown) (pc := 0) dX0_latestShown_0 rfl rfl ?_
  refine am_iload_n (I := iX0_latestShown) (pc := 1) dX0_latestShown_1 rfl rfl ?_
  refine am_iload_n (I := iX0_latestShown) (pc := 2) dX0_latestShown_2 rfl rfl ?_
  refine am_callV (I := iX0_latestShown) (pc := 3) (st := []) lv_X0_32 (m_Capt_languageShown K l _ a v c f VR cn fb tot p q hc hp hq) dX0_latestShown_3 hc.1 rfl (Nat.le_of_ble_eq_true rfl) ⟨Nat.le_of_ble_eq_true rfl, Nat.le_of_ble_eq_true rfl⟩ (Nat.le_of_ble_eq_true rfl) (Nat.le_of_ble_eq_true rfl) rfl (fun v9 T9 z9 _ => ?_) (fun _ _ h9 => h9.elim)
  obtain ⟨rfl, rfl⟩ := z9
  show am_W _ _ _ _ _ _ _ _ _ _ _ _ _ _ _ 6 [some (.ref a), some (.int (nI p)), some (.int (nI q)), none] [.int (fo (sh cn fb p 5 (some q)))] S 0 0
  rw [hs]
  show am_W _ _ _ _ _ _ _ _ _ _ _ _ _ _ _ 6 [some (.ref a), some (.int (nI p)), some (.int (nI q)), none] [.int (nI r)] S 0 0
  refine am_istore_n (I := iX0_latestShown) (pc := 6) (L' := [some (.ref a), some (.int (nI p)), some (.int (nI q)), some (.int (nI r))]) dX0_latestShown_6 rfl (by decide) rfl ?_
  refine am_iload_n (I := iX0_latestShown) (pc := 7) dX0_latestShown_7 rfl rfl ?_
  refine am_iconst (I := iX0_latestShown) (pc := 8) (x := (-1)) dX0_latestShown_8 (by decide) ?_
  refine am_icmp_ne (I := iX0_latestShown) (pc := 9) (tgt := 14) dX0_latestShown_9 (by decide) (fun c9 => ?_) (fun c9 => ?_)
  · refine am_aload_n (I := iX0_latestShown) (pc := 14) dX0_latestShown_14 rfl rfl ?_
    refine am_iload_n (I := iX0_latestShown) (pc := 15) dX0_latestShown_15 rfl rfl ?_
    refine am_iload_n (I := iX0_latestShown) (pc := 16) dX0_latestShown_16 rfl rfl ?_
    refine am_aload_n (I := iX0_latestShown) (pc := 17) dX0_latestShown_17 rfl rfl ?_
    refine am_iload_n (I := iX0_latestShown) (pc := 18) dX0_latestShown_18 rfl rfl ?_
    refine am_iload_n (I := iX0_latestShown) (pc := 19) dX0_latestShown_19 rfl rfl ?_
    refine am_callV (I := iX0_latestShown) (pc := 20) (st := [.int (nI r), .int (nI p), .ref a]) lv_X0_28 (m_Capt_versionsOf K l _ a v c f VR cn fb tot p r hc hp hr5) dX0_latestShown_20 hc.1 rfl (Nat.le_of_ble_eq_true rfl) ⟨Nat.le_of_ble_eq_true rfl, Nat.le_of_ble_eq_true rfl⟩ (Nat.le_of_ble_eq_true rfl) (Nat.le_of_ble_eq_true rfl) rfl (fun v9 T9 z9 _ => ?_) (fun _ _ h9 => h9.elim)
    obtain ⟨rfl, rfl⟩ := z9
    show am_W _ _ _ _ _ _ _ _ _ _ _ _ _ _ _ 23 [some (.ref a), some (.int (nI p)), some (.int (nI q)), some (.int (nI r))] [.int (nI (cn (p * 5 + r))), .int (nI r), .int (nI p), .ref a] S 0 0
    refine am_iconst (I := iX0_latestShown) (pc := 23) (x := 1) dX0_latestShown_23 (by decide) ?_
    refine am_isub (I := iX0_latestShown) (pc := 24) dX0_latestShown_24 ?_
    have e9 : nI (cn (p * 5 + r)) - 1 = nI (cn (p * 5 + r) - 1) := by
      conv => lhs; rw [show cn (p * 5 + r) = (cn (p * 5 + r) - 1) + 1 by omega]
      exact nI_pred _
    rw [e9]
    refine am_callV (I := iX0_latestShown) (pc := 25) (st := []) lv_X0_35 (m_Capt_version1 K l _ a v c f VR cn fb tot vr p r (cn (p * 5 + r) - 1) hc hv hp hr5 (by omega)) dX0_latestShown_25 hc.1 rfl (Nat.le_of_ble_eq_true rfl) ⟨Nat.le_of_ble_eq_true rfl, Nat.le_of_ble_eq_true rfl⟩ (Nat.le_of_ble_eq_true rfl) (Nat.le_of_ble_eq_true rfl) rfl (fun v9 T9 z9 _ => ?_) (fun _ _ h9 => h9.elim)
    obtain ⟨rfl, rfl⟩ := z9
    show am_W _ _ _ _ _ _ _ _ _ _ _ _ _ _ _ 28 [some (.ref a), some (.int (nI p)), some (.int (nI q)), some (.int (nI r))] [.ref (vr ((p * 5 + r) * 4 + (cn (p * 5 + r) - 1)))] S 0 0
    exact am_aret (I := iX0_latestShown) (pc := 28) dX0_latestShown_28 rfl (Or.inl ⟨_, rfl⟩) (Or.inr ⟨_, rfl⟩) (Nat.le_refl _) (Nat.le_refl _) (⟨rfl, rfl⟩)
  · exact absurd ((fo_none (x := some r) (fun k h9 => by cases h9; exact hr5)).mp c9) (fun h9 => by cases h9)
