/-! ROW: a cell a of class 3 with its array b; n numbers f 0 .. f (n-1) in room for cap -/
abbrev rw (h : Nat → am_C) (a b cap : Nat) (f : Nat → Int32) (n : Nat) : Prop := h a = .inr (3, [.ref b, .int (nI n)]) ∧ h b = .inl (0, cap, .inl f) ∧ n ≤ cap ∧ cap ≤ 80
/-- what at(i) answers -/
def rv (f : Nat → Int32) (n : Nat) (i : Int32) : Int32 := if i < 0 then -1 else if nI n ≤ i then -1 else f i.toNatClampNeg
theorem rv_nI {f : Nat → Int32} {n j : Nat} (h : j < n) (hn : n < 2 ^ 31) : rv f n (nI j) = f j := by
  unfold rv
  rw [if_neg (nI_pos (by omega)), if_neg (nI_ge h hn), nI_clamp (by omega)]
theorem rv_out {f : Nat → Int32} {n j : Nat} (h : n ≤ j) (hn : j < 2 ^ 31) : rv f n (nI j) = -1 := by
  unfold rv
  rw [if_neg (nI_pos (by omega)), if_pos (nI_le h hn)]
theorem am_inr {i : Int32} {n cap : Nat} (h0 : ¬ i < 0) (h1 : ¬ nI n ≤ i) (hn : n ≤ cap) (hc : cap ≤ 80) : vp_in i cap := by
  rcases pk_ix i (n := n) (by omega) with h | h | ⟨j, hj, rfl⟩
  · exact absurd h h0
  · exact absurd h h1
  · exact vp_in_nI (by omega) (by omega)
set_option maxRecDepth 100000 in
set_option maxHeartbeats 4000000 in
theorem m_Row_length (K : am_K) (l : Launch) (S : am_S) (a b cap : Nat) (f : Nat → Int32) (n : Nat) (hr : rw S.1 a b cap f n) : am_M K l iX3_length 0 0 0 [.ref a] S (fun v S' => v = some (.int (nI n)) ∧ S = S') (fun _ _ => False) := by
  refine am_body (by decide) rfl (by simp [Value.category]) (Nat.le_of_ble_eq_true rfl) (fun p e s m args below meth c ad0 => ?_)
  show am_W _ _ _ _ _ _ _ _ _ _ _ _ _ _ _ 0 [some (.ref a)] [] S 0 0
  refine am_aload_n (pc := 0) dX3_length_0 rfl rfl ?_
  refine am_getf (pc := 1) lf_X3_21 dX3_length_1 hr.1 rfl ?_
  exact am_iret (pc := 4) dX3_length_4 rfl (Nat.le_refl _) (Nat.le_refl _) (⟨rfl, rfl⟩)
set_option maxRecDepth 100000 in
set_option maxHeartbeats 4000000 in
theorem m_Row_at (K : am_K) (l : Launch) (S : am_S) (a b cap : Nat) (f : Nat → Int32) (n : Nat) (i : Int32) (hr : rw S.1 a b cap f n) : am_M K l iX3_at 0 0 0 [.ref a, .int i] S (fun v S' => v = some (.int (rv f n i)) ∧ S = S') (fun _ _ => False) := by
  refine am_body (by decide) rfl (by simp [Value.category]) (Nat.le_of_ble_eq_true rfl) (fun p e s m args below meth c ad0 => ?_)
  show am_W _ _ _ _ _ _ _ _ _ _ _ _ _ _ _ 0 [some (.ref a), some (.int i)] [] S 0 0
  refine am_iload_n (pc := 0) dX3_at_0 rfl rfl ?_
  refine am_if_lt (pc := 1) (tgt := 21) dX3_at_1 (by decide) (fun c1 => ?_) (fun c1 => ?_)
  · refine am_iconst (pc := 21) (x := (-1)) dX3_at_21 (by decide) ?_
    exact am_iret (pc := 22) dX3_at_22 rfl (Nat.le_refl _) (Nat.le_refl _) (⟨by rw [rv, if_pos c1], rfl⟩)
  · refine am_iload_n (pc := 4) dX3_at_4 rfl rfl ?_
    refine am_aload_n (pc := 5) dX3_at_5 rfl rfl ?_
    refine am_getf (pc := 6) lf_X3_21 dX3_at_6 hr.1 rfl ?_
    refine am_icmp_ge (pc := 9) (tgt := 21) dX3_at_9 (by decide) (fun c9 => ?_) (fun c9 => ?_)
    · refine am_iconst (pc := 21) (x := (-1)) dX3_at_21 (by decide) ?_
      exact am_iret (pc := 22) dX3_at_22 rfl (Nat.le_refl _) (Nat.le_refl _) (⟨by rw [rv, if_neg c1, if_pos c9], rfl⟩)
    · refine am_aload_n (pc := 12) dX3_at_12 rfl rfl ?_
      refine am_getf (pc := 13) lf_X3_15 dX3_at_13 hr.1 rfl ?_
      refine am_iload_n (pc := 16) dX3_at_16 rfl rfl ?_
      refine am_iaload (pc := 17) dX3_at_17 hr.2.1 rfl (am_inr c1 c9 hr.2.2.1 hr.2.2.2) ?_
      refine am_goto (pc := 18) (tgt := 22) dX3_at_18 (by decide) ?_
      exact am_iret (pc := 22) dX3_at_22 rfl (Nat.le_refl _) (Nat.le_refl _) (⟨by rw [rv, if_neg c1, if_neg c9], rfl⟩)
def rw_add (S : am_S) (a b cap : Nat) (f : Nat → Int32) (n : Nat) (x : Int32) : am_S := if n < cap then (am_up (am_up S.1 b (.inl (0, cap, .inl (upd f n x)))) a (.inr (3, [.ref b, .int (nI (n + 1))])), S.2) else S
set_option maxRecDepth 100000 in
set_option maxHeartbeats 4000000 in
theorem m_Row_add (K : am_K) (l : Launch) (S : am_S) (a b cap : Nat) (f : Nat → Int32) (n : Nat) (x : Int32) (hr : rw S.1 a b cap f n) : am_M K l iX3_add 0 0 0 [.ref a, .int x] S (fun v S' => v = none ∧ rw_add S a b cap f n x = S') (fun _ _ => False) := by
  refine am_body (by decide) rfl (by simp [Value.category]) (Nat.le_of_ble_eq_true rfl) (fun p e s m args below meth c ad0 => ?_)
  show am_W _ _ _ _ _ _ _ _ _ _ _ _ _ _ _ 0 [some (.ref a), some (.int x)] [] S 0 0
  refine am_aload_n (pc := 0) dX3_add_0 rfl rfl ?_
  refine am_getf (pc := 1) lf_X3_21 dX3_add_1 hr.1 rfl ?_
  refine am_aload_n (pc := 4) dX3_add_4 rfl rfl ?_
  refine am_getf (pc := 5) lf_X3_15 dX3_add_5 hr.1 rfl ?_
  refine am_alen (pc := 8) dX3_add_8 hr.2.1 rfl ?_
  refine am_icmp_ge (pc := 9) (tgt := 32) dX3_add_9 (by decide) (fun c9 => ?_) (fun c9 => ?_)
  · have hlt : ¬ n < cap := fun q => nI_ge q (by have := hr.2.2.2; omega) c9
    exact am_vret (pc := 32) dX3_add_32 rfl (Nat.le_refl _) (Nat.le_refl _) (⟨rfl, by unfold rw_add; rw [if_neg hlt]⟩)
  · have hlt : n < cap := by
      rcases Nat.lt_or_ge n cap with q | q
      · exact q
      · exact absurd (nI_le q (by have := hr.2.2.1; have := hr.2.2.2; omega)) c9
    refine am_aload_n (pc := 12) dX3_add_12 rfl rfl ?_
    refine am_getf (pc := 13) lf_X3_15 dX3_add_13 hr.1 rfl ?_
    refine am_aload_n (pc := 16) dX3_add_16 rfl rfl ?_
    refine am_getf (pc := 17) lf_X3_21 dX3_add_17 hr.1 rfl ?_
    refine am_iload_n (pc := 20) dX3_add_20 rfl rfl ?_
    refine am_iastore (pc := 21) dX3_add_21 hr.2.1 rfl (vp_in_nI hlt (by have := hr.2.2.2; omega)) ?_
    generalize eT1 : ((am_up S.1 b (.inl (0, cap, .inl (upd f (nI n).toNatClampNeg x))), S.2) : am_S) = T1
    have k1 : T1.1 a = (.inr (3, [.ref b, .int (nI n)])) := by rw [← eT1]; exact (am_up_n (am_ne hr.1 hr.2.1 (fun e9 => by cases e9))).trans hr.1
    have k2 : T1.1 b = (.inl (0, cap, .inl (upd f (nI n).toNatClampNeg x))) := by rw [← eT1]; exact am_up_s
    refine am_aload_n (pc := 22) dX3_add_22 rfl rfl ?_
    refine am_dup (pc := 23) dX3_add_23 rfl ?_
    refine am_getf (pc := 24) lf_X3_21 dX3_add_24 k1 rfl ?_
    refine am_iconst (pc := 27) (x := 1) dX3_add_27 (by decide) ?_
    refine am_iadd (pc := 28) dX3_add_28 ?_
    refine am_putf (pc := 29) (fs' := [.ref b, .int ((nI n) + 1)]) lf_X3_21 dX3_add_29 k1 (fun _ => ⟨rfl, rfl⟩) (Nat.le_of_ble_eq_true rfl) rfl ?_
    generalize eT2 : ((am_up T1.1 a (.inr (3, [.ref b, .int ((nI n) + 1)])), T1.2) : am_S) = T2
    have k3 : T2.1 a = (.inr (3, [.ref b, .int ((nI n) + 1)])) := by rw [← eT2]; exact am_up_s
    have k4 : T2.1 b = (.inl (0, cap, .inl (upd f (nI n).toNatClampNeg x))) := by rw [← eT2]; exact (am_up_n (am_ne k2 k1 (fun e9 => by cases e9))).trans k2
    exact am_vret (pc := 32) dX3_add_32 rfl (Nat.le_refl _) (Nat.le_refl _) (⟨rfl, by unfold rw_add; rw [if_pos hlt, ← eT2, ← eT1, nI_clamp (by have := hr.2.2.2; omega), nI_1]⟩)
