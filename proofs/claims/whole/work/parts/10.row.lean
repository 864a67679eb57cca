/-! ROW: a cell a of class 3 with its array b; n numbers f 0 .. f (n-1) in room for cap -/
abbrev rw (h : Nat → am_C) (a b cap : Nat) (f : Nat → Int32) (n : Nat) : Prop := h a = .inr (3, [.ref b, .int (nI n)]) ∧ h b = .inl (0, cap, .inl f) ∧ n ≤ cap ∧ cap ≤ 80
/-- what at(i) answers -/
def rv (f : Nat → Int32) (n : Nat) (i : Int32) : Int32 := if i < 0 then -1 else if nI n ≤ i then -1 else f i.toNatClampNeg
theorem rv_nI {f : Nat → Int32} {n j : Nat} (h : j < n) (hn : n < 2 ^ 31) : rv f n (nI j) = f j := by
  unfold rv
  rw [if_neg (nI_pos (by omega)), if_neg (nI_ge h hn), nI_clamp (by omega)]
theorem rv_out {f : Nat → Int32} {n j : Nat} (h : n ≤ j) (hn : j < 2 ^ 31) : rv f n (nI j) = -1 := by
  unfold rv
  rw [if_neg (nI_pos (by omega)), if_pos (nI_le h hn)]
theorem am_inr {i : Int32} {n cap : Nat} (h0 : ¬ i < 0) (h1 : ¬ nI n ≤ i) (hn : n ≤ cap) (hc : cap ≤ 80) : vp_in i cap := by
  rcases pk_ix i (n := n) (by omega) with h | h | ⟨j, hj, rfl⟩
  · exact absurd h h0
  · exact absurd h h1
  · exact vp_in_nI (by omega) (by omega)
set_option maxRecDepth 100000 in
set_option maxHeartbeats 4000000 in
theorem m_Row_length (K : am_K) (l : Launch) (S : am_S) (a b cap : Nat) (f : Nat → Int32) (n : Nat) (hr : rw S.1 a b cap f n) : am_M K l iX3_length 0 0 0 [.ref a] S (fun v S' => v = some (.int (nI n)) ∧ S = S') (fun _ _ => False) := by
  refine am_body (by decide) rfl (by simp [Value.category]) (Nat.le_of_ble_eq_true rfl) (fun xp xe xs xm xa xb xt xc ad0 => ?_)
  show am_W _ _ _ _ _ _ _ _ _ _ _ _ _ _ _ 0 [some (.ref a)] [] S 0 0
  refine am_aload_n (I := iX3_length) (pc := 0) dX3_length_0 rfl rfl ?_
  refine am_getf (I := iX3_length) (pc := 1) lf_X3_21 dX3_length_1 hr.1 rfl ?_
  exact am_iret (I := iX3_length) (pc := 4) dX3_length_4 rfl (Nat.le_refl _) (Nat.le_refl _) (⟨rfl, rfl⟩)
set_option maxRecDepth 100000 in
set_option maxHeartbeats 4000000 in
theorem m_Row_at (K : am_K) (l : Launch) (S : am_S) (a b cap : Nat) (f : Nat → Int32) (n : Nat) (i : Int32) (hr : rw S.1 a b cap f n) : am_M K l iX3_at 0 0 0 [.ref a, .int i] S (fun v S' => v = some (.int (rv f n i)) ∧ S = S') (fun _ _ => False) := by
  refine am_body (by decide) rfl (by simp [Value.category]) (Nat.le_of_ble_eq_true rfl) (fun xp xe xs xm xa xb xt xc ad0 => ?_)
  show am_W _ _ _ _ _ _ _ _ _ _ _ _ _ _ _ 0 [some (.ref a), some (.int i)] [] S 0 0
  refine am_iload_n (I := iX3_at) (pc := 0) dX3_at_0 rfl rfl ?_
  refine am_if_lt (I := iX3_at) (pc := 1) (tgt := 21) dX3_at_1 (by decide) (fun c1 => ?_) (fun c1 => ?_)
  · refine am_iconst (I := iX3_at) (pc := 21) (x := (-1)) dX3_at_21 (by decide) ?_
    exact am_iret (I := iX3_at) (pc := 22) dX3_at_22 rfl (Nat.le_refl _) (Nat.le_refl _) (⟨by rw [rv, if_pos c1], rfl⟩)
  · refine am_iload_n (I := iX3_at) (pc := 4) dX3_at_4 rfl rfl ?_
    refine am_aload_n (I := iX3_at) (pc := 5) dX3_at_5 rfl rfl ?_
    refine am_getf (I := iX3_at) (pc := 6) lf_X3_21 dX3_at_6 hr.1 rfl ?_
    refine am_icmp_ge (I := iX3_at) (pc := 9) (tgt := 21) dX3_at_9 (by decide) (fun c9 => ?_) (fun c9 => ?_)
    · refine am_iconst (I := iX3_at) (pc := 21) (x := (-1)) dX3_at_21 (by decide) ?_
      exact am_iret (I := iX3_at) (pc := 22) dX3_at_22 rfl (Nat.le_refl _) (Nat.le_refl _) (⟨by rw [rv, if_neg c1, if_pos c9], rfl⟩)
    · refine am_aload_n (I := iX3_at) (pc := 12) dX3_at_12 rfl rfl ?_
      refine am_getf (I := iX3_at) (pc := 13) lf_X3_15 dX3_at_13 hr.1 rfl ?_
      refine am_iload_n (I := iX3_at) (pc := 16) dX3_at_16 rfl rfl ?_
      refine am_iaload (I := iX3_at) (pc := 17) dX3_at_17 hr.2.1 rfl (am_inr c1 c9 hr.2.2.1 hr.2.2.2) ?_
      refine am_goto (I := iX3_at) (pc := 18) (tgt := 22) dX3_at_18 (by decide) ?_
      exact am_iret (I := iX3_at) (pc := 22) dX3_at_22 rfl (Nat.le_refl _) (Nat.le_refl _) (⟨by rw [rv, if_neg c1, if_neg c9], rfl⟩)
def rw_add (S : am_S) (a b cap : Nat) (f : Nat → Int32) (n : Nat) (x : Int32) : am_S := if n < cap then (am_up (am_up S.1 b (.inl (0, cap, .inl (upd f n x)))) a (.inr (3, [.ref b, .int (nI (n + 1))])), S.2) else S
set_option maxRecDepth 100000 in
set_option maxHeartbeats 4000000 in
theorem m_Row_add (K : am_K) (l : Launch) (S : am_S) (a b cap : Nat) (f : Nat → Int32) (n : Nat) (x : Int32) (hr : rw S.1 a b cap f n) : am_M K l iX3_add 0 0 0 [.ref a, .int x] S (fun v S' => v = none ∧ rw_add S a b cap f n x = S') (fun _ _ => False) := by
  refine am_body (by decide) rfl (by simp [Value.category]) (Nat.le_of_ble_eq_true rfl) (fun xp xe xs xm xa xb xt xc ad0 => ?_)
  show am_W _ _ _ _ _ _ _ _ _ _ _ _ _ _ _ 0 [some (.ref a), some (.int x)] [] S 0 0
  refine am_aload_n (I := iX3_add) (pc := 0) dX3_add_0 rfl rfl ?_
  refine am_getf (I := iX3_add) (pc := 1) lf_X3_21 dX3_add_1 hr.1 rfl ?_
  refine am_aload_n (I := iX3_add) (pc := 4) dX3_add_4 rfl rfl ?_
  refine am_getf (I := iX3_add) (pc := 5) lf_X3_15 dX3_add_5 hr.1 rfl ?_
  refine am_alen (I := iX3_add) (pc := 8) dX3_add_8 hr.2.1 rfl ?_
  refine am_icmp_ge (I := iX3_add) (pc := 9) (tgt := 32) dX3_add_9 (by decide) (fun c9 => ?_) (fun c9 => ?_)
  · have hlt : ¬ n < cap := fun q => nI_ge q (by have := hr.2.2.2; omega) c9
    exact am_vret (I := iX3_add) (pc := 32) dX3_add_32 rfl (Nat.le_refl _) (Nat.le_refl _) (⟨rfl, by unfold rw_add; rw [if_neg hlt]⟩)
  · have hlt : n < cap := by
      rcases Nat.lt_or_ge n cap with q | q
      · exact q
      · exact absurd (nI_le q (by have := hr.2.2.1; have := hr.2.2.2; omega)) c9
    refine am_aload_n (I := iX3_add) (pc := 12) dX3_add_12 rfl rfl ?_
    refine am_getf (I := iX3_add) (pc := 13) lf_X3_15 dX3_add_13 hr.1 rfl ?_
    refine am_aload_n (I := iX3_add) (pc := 16) dX3_add_16 rfl rfl ?_
    refine am_getf (I := iX3_add) (pc := 17) lf_X3_21 dX3_add_17 hr.1 rfl ?_
    refine am_iload_n (I := iX3_add) (pc := 20) dX3_add_20 rfl rfl ?_
    refine am_iastore (I := iX3_add) (pc := 21) dX3_add_21 hr.2.1 rfl (vp_in_nI hlt (by have := hr.2.2.2; omega)) ?_
    generalize eT1 : ((am_up S.1 b (.inl (0, cap, .inl (upd f (nI n).toNatClampNeg x))), S.2) : am_S) = T1
    have k1 : T1.1 a = (.inr (3, [.ref b, .int (nI n)])) := by rw [← eT1]; exact (am_up_n (am_ne hr.1 hr.2.1 (fun e9 => by cases e9))).trans hr.1
    have k2 : T1.1 b = (.inl (0, cap, .inl (upd f (nI n).toNatClampNeg x))) := by rw [← eT1]; exact am_up_s
    refine am_aload_n (I := iX3_add) (pc := 22) dX3_add_22 rfl rfl ?_
    refine am_dup (I := iX3_add) (pc := 23) dX3_add_23 rfl ?_
    refine am_getf (I := iX3_add) (pc := 24) lf_X3_21 dX3_add_24 k1 rfl ?_
    refine am_iconst (I := iX3_add) (pc := 27) (x := 1) dX3_add_27 (by decide) ?_
    refine am_iadd (I := iX3_add) (pc := 28) dX3_add_28 ?_
    refine am_putf (I := iX3_add) (pc := 29) (fs' := [.ref b, .int ((nI n) + 1)]) lf_X3_21 dX3_add_29 k1 (fun _ => ⟨rfl, rfl⟩) (Nat.le_of_ble_eq_true rfl) rfl ?_
    generalize eT2 : ((am_up T1.1 a (.inr (3, [.ref b, .int ((nI n) + 1)])), T1.2) : am_S) = T2
    have k3 : T2.1 a = (.inr (3, [.ref b, .int ((nI n) + 1)])) := by rw [← eT2]; exact am_up_s
    have k4 : T2.1 b = (.inl (0, cap, .inl (upd f (nI n).toNatClampNeg x))) := by rw [← eT2]; exact (am_up_n (am_ne k2 k1 (fun e9 => by cases e9))).trans k2
    exact am_vret (I := iX3_add) (pc := 32) dX3_add_32 rfl (Nat.le_refl _) (Nat.le_refl _) (⟨rfl, by unfold rw_add; rw [if_pos hlt, ← eT2, ← eT1, nI_clamp (by have := hr.2.2.2; omega), nI_1]⟩)
set_option maxRecDepth 100000 in
set_option maxHeartbeats 4000000 in
theorem m_Row_empty (K : am_K) (l : Launch) (S : am_S) (a b cap : Nat) (f : Nat → Int32) (n : Nat) (hr : rw S.1 a b cap f n) : am_M K l iX3_empty 0 0 0 [.ref a] S (fun v S' => v = none ∧ (am_up S.1 a (.inr (3, [.ref b, .int 0])), S.2) = S') (fun _ _ => False) := by
  refine am_body (by decide) rfl (by simp [Value.category]) (Nat.le_of_ble_eq_true rfl) (fun xp xe xs xm xa xb xt xc ad0 => ?_)
  show am_W _ _ _ _ _ _ _ _ _ _ _ _ _ _ _ 0 [some (.ref a)] [] S 0 0
  refine am_aload_n (I := iX3_empty) (pc := 0) dX3_empty_0 rfl rfl ?_
  refine am_iconst (I := iX3_empty) (pc := 1) (x := 0) dX3_empty_1 (by decide) ?_
  refine am_putf (I := iX3_empty) (pc := 2) (fs' := [.ref b, .int 0]) lf_X3_21 dX3_empty_2 hr.1 (fun _ => ⟨rfl, rfl⟩) (Nat.le_of_ble_eq_true rfl) rfl ?_
  generalize eT1 : ((am_up S.1 a (.inr (3, [.ref b, .int 0])), S.2) : am_S) = T1
  have k1 : T1.1 a = (.inr (3, [.ref b, .int 0])) := by rw [← eT1]; exact am_up_s
  have k2 : T1.1 b = (.inl (0, cap, .inl f)) := by rw [← eT1]; exact (am_up_n (am_ne hr.2.1 hr.1 (fun e9 => by cases e9))).trans hr.2.1
  exact am_vret (I := iX3_empty) (pc := 5) dX3_empty_5 rfl (Nat.le_refl _) (Nat.le_refl _) (⟨rfl, rfl⟩)
theorem am_up_id {h : Nat → am_C} {a : Nat} {x : am_C} (e : h a = x) : am_up h a x = h := by
  funext j
  by_cases ej : j = a
  · rw [ej, am_up_s, e]
  · exact am_up_n ej
theorem am_up_up {h : Nat → am_C} {a : Nat} {x y : am_C} : am_up (am_up h a x) a y = am_up h a y := by
  funext j
  by_cases ej : j = a
  · rw [ej, am_up_s, am_up_s]
  · rw [am_up_n ej, am_up_n ej, am_up_n ej]
theorem am_up_sw {h : Nat → am_C} {a b : Nat} {x y : am_C} (hab : a ≠ b) : am_up (am_up h a x) b y = am_up (am_up h b y) a x := by
  funext j
  by_cases ej : j = a
  · rw [ej, am_up_n hab, am_up_s, am_up_s]
  · by_cases ek : j = b
    · rw [ek, am_up_s, am_up_n (Ne.symm hab), am_up_s]
    · rw [am_up_n ek, am_up_n ej, am_up_n ej, am_up_n ek]
/-- the heap with a row set anew -/
def rwS (S : am_S) (a b cap : Nat) (f : Nat → Int32) (n : Nat) : am_S := (am_up (am_up S.1 b (.inl (0, cap, .inl f))) a (.inr (3, [.ref b, .int (nI n)])), S.2)
theorem rw_ne {h : Nat → am_C} {a b cap : Nat} {f : Nat → Int32} {n : Nat} (hr : rw h a b cap f n) : a ≠ b := am_ne hr.1 hr.2.1 (fun e => by cases e)
theorem rwS_rw {S : am_S} {a b cap : Nat} {f : Nat → Int32} {n : Nat} (hab : a ≠ b) (h1 : n ≤ cap) (h2 : cap ≤ 80) : rw (rwS S a b cap f n).1 a b cap f n := ⟨am_up_s, (am_up_n (Ne.symm hab)).trans am_up_s, h1, h2⟩
theorem rwS_rwS {S : am_S} {a b cap cap' : Nat} {f f' : Nat → Int32} {n n' : Nat} (hab : a ≠ b) : rwS (rwS S a b cap f n) a b cap' f' n' = rwS S a b cap' f' n' := by
  unfold rwS
  show (am_up (am_up (am_up (am_up S.1 b _) a _) b _) a _, S.2) = _
  rw [am_up_sw hab, am_up_up, am_up_up]
theorem rwS_id {S : am_S} {a b cap : Nat} {f : Nat → Int32} {n : Nat} (hr : rw S.1 a b cap f n) : rwS S a b cap f n = S := by
  unfold rwS
  rw [am_up_id hr.2.1, am_up_id hr.1]
theorem rwS_at {S : am_S} {a b cap c : Nat} {f : Nat → Int32} {n : Nat} (h1 : c ≠ a) (h2 : c ≠ b) : (rwS S a b cap f n).1 c = S.1 c := (am_up_n h1).trans (am_up_n h2)
theorem rw_add_lt {S : am_S} {a b cap : Nat} {f : Nat → Int32} {n : Nat} {x : Int32} (h : n < cap) : rw_add S a b cap f n x = rwS S a b cap (upd f n x) (n + 1) := if_pos h
theorem rw_eq {h : Nat → am_C} {a b cap : Nat} {f g : Nat → Int32} {n : Nat} (e : f = g) (hr : rw h a b cap f n) : rw h a b cap g n := e ▸ hr
/-- a row's numbers behind another's -/
def rcat (f : Nat → Int32) (n : Nat) (g : Nat → Int32) (k : Nat) : Nat → Int32 := fun j => if n ≤ j ∧ j < n + k then g (j - n) else f j
theorem rcat_0 {f g : Nat → Int32} {n : Nat} : rcat f n g 0 = f := by
  funext j
  exact if_neg (fun h => by omega)
theorem rcat_s {f g : Nat → Int32} {n k : Nat} : upd (rcat f n g k) (n + k) (g k) = rcat f n g (k + 1) := by
  funext j
  unfold upd rcat
  by_cases e : j = n + k
  · rw [if_pos e, if_pos ⟨by omega, by omega⟩, e, Nat.add_sub_cancel_left]
  · rw [if_neg e]
    by_cases h : n ≤ j ∧ j < n + k
    · rw [if_pos h, if_pos ⟨h.1, by omega⟩]
    · rw [if_neg h, if_neg (fun q => h ⟨q.1, by omega⟩)]
theorem rcat_lo {f g : Nat → Int32} {n k j : Nat} (h : j < n) : rcat f n g k j = f j := if_neg (fun q => by omega)
theorem rcat_hi {f g : Nat → Int32} {n k j : Nat} (h : j < k) : rcat f n g k (n + j) = g j := by
  unfold rcat
  rw [if_pos ⟨by omega, by omega⟩, Nat.add_sub_cancel_left]
set_option maxRecDepth 100000 in
set_option maxHeartbeats 4000000 in
theorem m_Row_addAll (K : am_K) (l : Launch) (S : am_S) (a b cap : Nat) (f : Nat → Int32) (n : Nat) (a2 b2 cap2 : Nat) (g : Nat → Int32) (m : Nat) (hr : rw S.1 a b cap f n) (ho : rw S.1 a2 b2 cap2 g m) (hne : a2 ≠ a ∧ a2 ≠ b ∧ b2 ≠ a ∧ b2 ≠ b) (hfit : n + m ≤ cap) : am_M K l iX3_addAll 1 0 0 [.ref a, .ref a2] S (fun v S' => v = none ∧ rwS S a b cap (rcat f n g m) (n + m) = S') (fun _ _ => False) := by
  refine am_body (by decide) rfl (by simp [Value.category]) (Nat.le_of_ble_eq_true rfl) (fun xp xe xs xm xa xb xt xc ad0 => ?_)
  show am_W _ _ _ _ _ _ _ _ _ _ _ _ _ _ _ 0 [some (.ref a), some (.ref a2), none] [] S 0 0
  refine am_iconst (I := iX3_addAll) (pc := 0) (x := 0) dX3_addAll_0 (by decide) ?_
  refine am_istore_n (I := iX3_addAll) (pc := 1) (L' := [some (.ref a), some (.ref a2), some (.int 0)]) dX3_addAll_1 rfl (by decide) rfl ?_
  have loop2 : ∀ (k2 : Nat) (i : Nat), m - i < k2 → i ≤ m → am_W K iX3_addAll xp l xe (am_room 1 0 0) xs xm xa xb xt xc S ad0 (am_E K ad0 S (fun v S' => v = none ∧ rwS S a b cap (rcat f n g m) (n + m) = S') (fun _ _ => False) xb xa xs 0 0) 2 [some (.ref a), some (.ref a2), some (.int (nI i))] [] (rwS S a b cap (rcat f n g i) (n + i)) 0 0 := by
    intro k2
    induction k2 with
    | zero => intro i h9; exact absurd h9 (Nat.not_lt_zero _)
    | succ k2 ih2 =>
      intro i hm2 hi
      have hri : rw (rwS S a b cap (rcat f n g i) (n + i)).1 a b cap (rcat f n g i) (n + i) := rwS_rw (rw_ne hr) (by omega) hr.2.2.2
      have hoi : rw (rwS S a b cap (rcat f n g i) (n + i)).1 a2 b2 cap2 g m := ⟨(rwS_at hne.1 hne.2.1).trans ho.1, (rwS_at hne.2.2.1 hne.2.2.2).trans ho.2.1, ho.2.2⟩
      have hm31 : m < 2 ^ 31 := by have := ho.2.2.1; have := ho.2.2.2; omega
      refine am_iload_n (I := iX3_addAll) (pc := 2) dX3_addAll_2 rfl rfl ?_
      refine am_aload_n (I := iX3_addAll) (pc := 3) dX3_addAll_3 rfl rfl ?_
      refine am_callV (I := iX3_addAll) (pc := 4) (st := [.int (nI i)]) lv_X3_25 (m_Row_length K l _ a2 b2 cap2 g m hoi) dX3_addAll_4 hoi.1 rfl (Nat.le_of_ble_eq_true rfl) ⟨Nat.le_of_ble_eq_true rfl, Nat.le_of_ble_eq_true rfl⟩ (Nat.le_of_ble_eq_true rfl) (Nat.le_of_ble_eq_true rfl) rfl (fun v9 T9 z9 _ => ?_) (fun _ _ h9 => h9.elim)
      obtain ⟨rfl, rfl⟩ := z9
      show am_W _ _ _ _ _ _ _ _ _ _ _ _ _ _ _ 7 [some (.ref a), some (.ref a2), some (.int (nI i))] [.int (nI m), .int (nI i)] (rwS S a b cap (rcat f n g i) (n + i)) 0 0
      refine am_icmp_ge (I := iX3_addAll) (pc := 7) (tgt := 25) dX3_addAll_7 (by decide) (fun c7 => ?_) (fun c7 => ?_)
      · have e7 : i = m := by
          rcases Nat.lt_or_ge i m with q | q
          · exact absurd c7 (nI_ge q hm31)
          · omega
        subst e7
        exact am_vret (I := iX3_addAll) (pc := 25) dX3_addAll_25 rfl (Nat.le_refl _) (Nat.le_refl _) (⟨rfl, rfl⟩)
      · have l7 : i < m := by
          rcases Nat.lt_or_ge i m with q | q
          · exact q
          · exact absurd (nI_le q (by omega)) c7
        refine am_aload_n (I := iX3_addAll) (pc := 10) dX3_addAll_10 rfl rfl ?_
        refine am_aload_n (I := iX3_addAll) (pc := 11) dX3_addAll_11 rfl rfl ?_
        refine am_iload_n (I := iX3_addAll) (pc := 12) dX3_addAll_12 rfl rfl ?_
        refine am_callV (I := iX3_addAll) (pc := 13) (st := [.ref a]) lv_X3_28 (m_Row_at K l _ a2 b2 cap2 g m (nI i) hoi) dX3_addAll_13 hoi.1 rfl (Nat.le_of_ble_eq_true rfl) ⟨Nat.le_of_ble_eq_true rfl, Nat.le_of_ble_eq_true rfl⟩ (Nat.le_of_ble_eq_true rfl) (Nat.le_of_ble_eq_true rfl) rfl (fun v9 T9 z9 _ => ?_) (fun _ _ h9 => h9.elim)
        obtain ⟨rfl, rfl⟩ := z9
        show am_W _ _ _ _ _ _ _ _ _ _ _ _ _ _ _ 16 [some (.ref a), some (.ref a2), some (.int (nI i))] [.int (rv g m (nI i)), .ref a] (rwS S a b cap (rcat f n g i) (n + i)) 0 0
        rw [rv_nI l7 hm31]
        refine am_callV (I := iX3_addAll) (pc := 16) (st := []) lv_X3_32 (m_Row_add K l _ a b cap (rcat f n g i) (n + i) (g i) hri) dX3_addAll_16 hri.1 rfl (Nat.le_of_ble_eq_true rfl) ⟨Nat.le_of_ble_eq_true rfl, Nat.le_of_ble_eq_true rfl⟩ (Nat.le_of_ble_eq_true rfl) (Nat.le_of_ble_eq_true rfl) rfl (fun v9 T9 z9 _ => ?_) (fun _ _ h9 => h9.elim)
        obtain ⟨rfl, rfl⟩ := z9
        show am_W _ _ _ _ _ _ _ _ _ _ _ _ _ _ _ 19 [some (.ref a), some (.ref a2), some (.int (nI i))] [] (rw_add (rwS S a b cap (rcat f n g i) (n + i)) a b cap (rcat f n g i) (n + i) (g i)) 0 0
        refine am_iinc (I := iX3_addAll) (pc := 19) (y := ((nI i) + 1)) (L' := [some (.ref a), some (.ref a2), some (.int ((nI i) + 1))]) dX3_addAll_19 rfl rfl rfl ?_
        refine am_goto (I := iX3_addAll) (pc := 22) (tgt := 2) dX3_addAll_22 (by decide) ?_
        exact am_same rfl (by rw [nI_1]) rfl (by rw [rw_add_lt (by omega), rwS_rwS (rw_ne hr), rcat_s]; rfl) rfl rfl (ih2 (i + 1) (by omega) (by omega))
  exact am_same rfl (by rw [nI_0]) rfl (by rw [rcat_0, Nat.add_zero]; exact (rwS_id hr).symm) rfl rfl (loop2 _ 0 (Nat.lt_succ_self _) (Nat.zero_le _))
