/-- the heap with a new row's array, and the row's own fields set -/
def rwN (S : am_S) (a k : Nat) : am_S := (am_up (am_up S.1 S.2 (.inl (0, k, .inl (fun _ => 0)))) a (.inr (3, [.ref S.2, .int 0])), S.2 + 1)
set_option maxRecDepth 100000 in
set_option maxHeartbeats 4000000 in
theorem m_Row_init (K : am_K) (l : Launch) (S : am_S) (a k : Nat) (hr : S.1 a = .inr (3, [.null, .int 0])) (hk : k ≤ 80) : am_M K l iX3_init 1 1 k [.ref a, .int (nI k)] S (fun v S' => v = none ∧ rwN S a k = S') (fun _ _ => False) := by
  refine am_body (by decide) rfl (by simp [Value.category]) (Nat.le_of_ble_eq_true rfl) (fun xp xe xs xm xa xb xt xc ad0 => ?_)
  show am_W _ _ _ _ _ _ _ _ _ _ _ _ _ _ _ 0 [some (.ref a), some (.int (nI k))] [] S 0 0
  refine am_aload_n (I := iX3_init) (pc := 0) dX3_init_0 rfl rfl ?_
  refine am_objInit (I := iX3_init) (pc := 1) dX3_init_1 lo_X3_3 lo_i lo_c (Nat.le_of_ble_eq_true rfl) (Nat.le_of_ble_eq_true rfl) ?_
  refine am_aload_n (I := iX3_init) (pc := 4) dX3_init_4 rfl rfl ?_
  refine am_iload_n (I := iX3_init) (pc := 5) dX3_init_5 rfl rfl ?_
  refine am_iconst (I := iX3_init) (pc := 6) (x := 0) dX3_init_6 (by decide) ?_
  refine am_mmax (I := iX3_init) (pc := 7) dX3_init_7 lo_X3_9 lm_s lm_i lm_c (Nat.le_of_ble_eq_true rfl) (Nat.le_of_ble_eq_true rfl) (Nat.zero_le _) (Nat.zero_le _) ?_
  rw [if_neg (show ¬ nI k < 0 from nI_pos (by omega))]
  refine am_free (fun hf1 => ?_)
  refine am_newarray (I := iX3_init) (pc := 10) (k := 0) (n := k) (ty := .int) (q0 := .inl (fun _ => 0)) dX3_init_10 rfl rfl la_int (fun _ => rfl) (fun _ => rfl) (fun _ => trivial) (nI_pos (by omega)) (nI_clamp (by omega)) (show k * 4 ≤ 536870912 by omega) (Nat.le_of_ble_eq_true rfl) (show 0 + k ≤ k by omega) ?_
  generalize eT1 : ((am_up S.1 S.2 (.inl (0, k, .inl (fun _ => 0))), S.2 + 1) : am_S) = T1
  have k1 : T1.1 a = (.inr (3, [.null, .int 0])) := by rw [← eT1]; exact (am_up_n (am_ne hr (hf1 _ (Or.inr (Nat.le_refl _))) (fun e9 => by cases e9))).trans hr
  have k2 : T1.1 S.2 = (.inl (0, k, .inl (fun _ => 0))) := by rw [← eT1]; exact am_up_s
  have nT1 : T1.2 = S.2 + 1 := by rw [← eT1]
  refine am_putF (I := iX3_init) (pc := 12) (fs' := [.ref S.2, .int 0]) lf_X3_15 rfl dX3_init_12 k1 (fun _ => ⟨rfl, rfl⟩) (Nat.le_of_ble_eq_true rfl) rfl ?_
  generalize eT2 : ((am_up T1.1 a (.inr (3, [.ref S.2, .int 0])), T1.2) : am_S) = T2
  have k3 : T2.1 a = (.inr (3, [.ref S.2, .int 0])) := by rw [← eT2]; exact am_up_s
  have k4 : T2.1 S.2 = (.inl (0, k, .inl (fun _ => 0))) := by rw [← eT2]; exact (am_up_n (am_ne k2 k1 (fun e9 => by cases e9))).trans k2
  refine am_aload_n (I := iX3_init) (pc := 15) dX3_init_15 rfl rfl ?_
  refine am_iconst (I := iX3_init) (pc := 16) (x := 0) dX3_init_16 (by decide) ?_
  refine am_putf (I := iX3_init) (pc := 17) (fs' := [.ref S.2, .int 0]) lf_X3_21 dX3_init_17 k3 (fun _ => ⟨rfl, rfl⟩) (Nat.le_of_ble_eq_true rfl) rfl ?_
  generalize eT3 : ((am_up T2.1 a (.inr (3, [.ref S.2, .int 0])), T2.2) : am_S) = T3
  have k5 : T3.1 a = (.inr (3, [.ref S.2, .int 0])) := by rw [← eT3]; exact am_up_s
  have k6 : T3.1 S.2 = (.inl (0, k, .inl (fun _ => 0))) := by rw [← eT3]; exact (am_up_n (am_ne k4 k3 (fun e9 => by cases e9))).trans k4
  exact am_vret (I := iX3_init) (pc := 20) dX3_init_20 rfl (Nat.le_refl _) (show 0 + k ≤ k by omega) (⟨rfl, by unfold rwN; rw [← eT3, ← eT2, ← eT1]; exact congrArg (fun z => (z, S.2 + 1)) am_up_up.symm⟩)
def stands (f : Nat → Int32) (n : Nat) (g : Nat → Int32) (m : Nat) (fr : Int32) : Int32 := if (∀ i, i < n → rv g m (fr + nI i) = f i) then 1 else 0
theorem stands01 (f : Nat → Int32) (n : Nat) (g : Nat → Int32) (m : Nat) (fr : Int32) : stands f n g m fr = 0 ∨ stands f n g m fr = 1 := by
  unfold stands
  split
  · exact Or.inr rfl
  · exact Or.inl rfl
set_option maxRecDepth 100000 in
set_option maxHeartbeats 4000000 in
theorem m_Row_standsIn (K : am_K) (l : Launch) (S : am_S) (a b cap : Nat) (f : Nat → Int32) (n : Nat) (a2 b2 cap2 : Nat) (g : Nat → Int32) (m : Nat) (fr : Int32) (hr : rw S.1 a b cap f n) (ho : rw S.1 a2 b2 cap2 g m) : am_M K l iX3_standsIn 1 0 0 [.ref a, .ref a2, .int fr] S (fun v S' => v = some (.int (stands f n g m fr)) ∧ S = S') (fun _ _ => False) := by
  refine am_body (by decide) rfl (by simp [Value.category]) (Nat.le_of_ble_eq_true rfl) (fun xp xe xs xm xa xb xt xc ad0 => ?_)
  show am_W _ _ _ _ _ _ _ _ _ _ _ _ _ _ _ 0 [some (.ref a), some (.ref a2), some (.int fr), none] [] S 0 0
  refine am_iconst (I := iX3_standsIn) (pc := 0) (x := 0) dX3_standsIn_0 (by decide) ?_
  refine am_istore_n (I := iX3_standsIn) (pc := 1) (L' := [some (.ref a), some (.ref a2), some (.int fr), some (.int 0)]) dX3_standsIn_1 rfl (by decide) rfl ?_
  have loop2 : ∀ (k2 : Nat) (i : Nat), n - i < k2 → (i ≤ n) → (∀ j, j < i → rv g m (fr + nI j) = f j) → am_W K iX3_standsIn xp l xe (am_room 1 0 0) xs xm xa xb xt xc S ad0 (am_E K ad0 S (fun v S' => v = some (.int (stands f n g m fr)) ∧ S = S') (fun _ _ => False) xb xa xs 0 0) 2 [some (.ref a), some (.ref a2), some (.int fr), some (.int (nI i))] [] S 0 0 := by
    intro k2
    induction k2 with
    | zero => intro i h9; exact absurd h9 (Nat.not_lt_zero _)
    | succ k2 ih2 =>
      intro i hm2 hi hq
      have hn31 : n < 2 ^ 31 := by have := hr.2.2.1; have := hr.2.2.2; omega
      refine am_iload_n (I := iX3_standsIn) (pc := 2) dX3_standsIn_2 rfl rfl ?_
      refine am_aload_n (I := iX3_standsIn) (pc := 3) dX3_standsIn_3 rfl rfl ?_
      refine am_getf (I := iX3_standsIn) (pc := 4) lf_X3_21 dX3_standsIn_4 hr.1 rfl ?_
      refine am_icmp_ge (I := iX3_standsIn) (pc := 7) (tgt := 33) dX3_standsIn_7 (by decide) (fun c7 => ?_) (fun c7 => ?_)
      · have e7 : i = n := by
          rcases Nat.lt_or_ge i n with q | q
          · exact absurd c7 (nI_ge q hn31)
          · omega
        subst e7
        have e1 : stands f i g m fr = 1 := if_pos hq
        refine am_iconst (I := iX3_standsIn) (pc := 33) (x := 1) dX3_standsIn_33 (by decide) ?_
        exact am_zret (I := iX3_standsIn) (pc := 34) dX3_standsIn_34 rfl (by decide) (Nat.le_refl _) (Nat.le_refl _) (⟨by rw [e1], rfl⟩)
      · have l7 : i < n := by
          rcases Nat.lt_or_ge i n with q | q
          · exact q
          · exact absurd (nI_le q (by omega)) c7
        refine am_aload_n (I := iX3_standsIn) (pc := 10) dX3_standsIn_10 rfl rfl ?_
        refine am_iload_n (I := iX3_standsIn) (pc := 11) dX3_standsIn_11 rfl rfl ?_
        refine am_iload_n (I := iX3_standsIn) (pc := 12) dX3_standsIn_12 rfl rfl ?_
        refine am_iadd (I := iX3_standsIn) (pc := 13) dX3_standsIn_13 ?_
        refine am_callV (I := iX3_standsIn) (pc := 14) (st := []) lv_X3_28 (m_Row_at K l _ a2 b2 cap2 g m (fr + nI i) ho) dX3_standsIn_14 ho.1 rfl (Nat.le_of_ble_eq_true rfl) ⟨Nat.le_of_ble_eq_true rfl, Nat.le_of_ble_eq_true rfl⟩ (Nat.le_of_ble_eq_true rfl) (Nat.le_of_ble_eq_true rfl) rfl (fun v9 T9 z9 _ => ?_) (fun _ _ h9 => h9.elim)
        obtain ⟨rfl, rfl⟩ := z9
        show am_W _ _ _ _ _ _ _ _ _ _ _ _ _ _ _ 17 [some (.ref a), some (.ref a2), some (.int fr), some (.int (nI i))] [.int (rv g m (fr + nI i))] S 0 0
        refine am_aload_n (I := iX3_standsIn) (pc := 17) dX3_standsIn_17 rfl rfl ?_
        refine am_iload_n (I := iX3_standsIn) (pc := 18) dX3_standsIn_18 rfl rfl ?_
        refine am_callV (I := iX3_standsIn) (pc := 19) (st := [.int (rv g m (fr + nI i))]) lv_X3_28 (m_Row_at K l _ a b cap f n (nI i) hr) dX3_standsIn_19 hr.1 rfl (Nat.le_of_ble_eq_true rfl) ⟨Nat.le_of_ble_eq_true rfl, Nat.le_of_ble_eq_true rfl⟩ (Nat.le_of_ble_eq_true rfl) (Nat.le_of_ble_eq_true rfl) rfl (fun v9 T9 z9 _ => ?_) (fun _ _ h9 => h9.elim)
        obtain ⟨rfl, rfl⟩ := z9
        show am_W _ _ _ _ _ _ _ _ _ _ _ _ _ _ _ 22 [some (.ref a), some (.ref a2), some (.int fr), some (.int (nI i))] [.int (rv f n (nI i)), .int (rv g m (fr + nI i))] S 0 0
        refine am_icmp_eq (I := iX3_standsIn) (pc := 22) (tgt := 27) dX3_standsIn_22 (by decide) (fun c22 => ?_) (fun c22 => ?_)
        · refine am_iinc (I := iX3_standsIn) (pc := 27) (y := ((nI i) + 1)) (L' := [some (.ref a), some (.ref a2), some (.int fr), some (.int ((nI i) + 1))]) dX3_standsIn_27 rfl rfl rfl ?_
          refine am_goto (I := iX3_standsIn) (pc := 30) (tgt := 2) dX3_standsIn_30 (by decide) ?_
          refine am_same rfl (by rw [nI_1]) rfl rfl rfl rfl (ih2 (i + 1) (by omega) (by omega) (fun j h9 => by
                      rcases Nat.lt_or_ge j i with q | q
                      · exact hq j q
                      · have : j = i := by omega
                        subst this; rw [c22, rv_nI l7 hn31]))
        · have e0 : stands f n g m fr = 0 := if_neg (fun q => c22 ((q i l7).trans (rv_nI l7 hn31).symm))
          refine am_iconst (I := iX3_standsIn) (pc := 25) (x := 0) dX3_standsIn_25 (by decide) ?_
          exact am_zret (I := iX3_standsIn) (pc := 26) dX3_standsIn_26 rfl (by decide) (Nat.le_refl _) (Nat.le_refl _) (⟨by rw [e0], rfl⟩)
  exact am_same rfl (by rw [nI_0]) rfl rfl rfl rfl (loop2 _ 0 (Nat.lt_succ_self _) (Nat.zero_le _) (fun j h9 => absurd h9 (Nat.not_lt_zero _)))
/-- the heap with a copy of a row: its cell S.2, its array S.2 + 1 -/
def rwC (S : am_S) (f : Nat → Int32) (n : Nat) : am_S := (am_up (am_up S.1 (S.2 + 1) (.inl (0, n, .inl (rcat (fun _ => 0) 0 f n)))) S.2 (.inr (3, [.ref (S.2 + 1), .int (nI n)])), S.2 + 2)
theorem rwC_rw {S : am_S} {f : Nat → Int32} {n : Nat} (h : n ≤ 80) : rw (rwC S f n).1 S.2 (S.2 + 1) n (rcat (fun _ => 0) 0 f n) n := ⟨am_up_s, (am_up_n (Nat.succ_ne_self _)).trans am_up_s, Nat.le_refl _, h⟩
theorem rwC_at {S : am_S} {f : Nat → Int32} {n c : Nat} (h : c < S.2) : (rwC S f n).1 c = S.1 c := (am_up_n (by omega)).trans (am_up_n (by omega))
set_option maxRecDepth 100000 in
set_option maxHeartbeats 4000000 in
theorem m_Row_copy (K : am_K) (l : Launch) (S : am_S) (a b cap : Nat) (f : Nat → Int32) (n : Nat) (hr : rw S.1 a b cap f n) : am_M K l iX3_copy 2 2 (2 + n) [.ref a] S (fun v S' => v = some (.ref S.2) ∧ rwC S f n = S') (fun _ _ => False) := by
  refine am_body (by decide) rfl (by simp [Value.category]) (Nat.le_of_ble_eq_true rfl) (fun xp xe xs xm xa xb xt xc ad0 => ?_)
  show am_W _ _ _ _ _ _ _ _ _ _ _ _ _ _ _ 0 [some (.ref a), none] [] S 0 0
  refine am_free (fun hf1 => ?_)
  refine am_new (I := iX3_copy) (pc := 0) ln_X3_16 dX3_copy_0 (Nat.le_of_ble_eq_true rfl) (show 0 + 2 ≤ 2 + n by omega) ?_
  generalize eT1 : ((am_up S.1 S.2 (.inr (3, [.null, .int 0])), S.2 + 1) : am_S) = T1
  have k1 : T1.1 a = (.inr (3, [.ref b, .int (nI n)])) := by rw [← eT1]; exact (am_up_n (am_ne hr.1 (hf1 _ (Or.inr (Nat.le_refl _))) (fun e9 => by cases e9))).trans hr.1
  have k2 : T1.1 b = (.inl (0, cap, .inl f)) := by rw [← eT1]; exact (am_up_n (am_ne hr.2.1 (hf1 _ (Or.inr (Nat.le_refl _))) (fun e9 => by cases e9))).trans hr.2.1
  have k3 : T1.1 S.2 = (.inr (3, [.null, .int 0])) := by rw [← eT1]; exact am_up_s
  have nT1 : T1.2 = S.2 + 1 := by rw [← eT1]
  refine am_dup (I := iX3_copy) (pc := 3) dX3_copy_3 rfl ?_
  refine am_aload_n (I := iX3_copy) (pc := 4) dX3_copy_4 rfl rfl ?_
  refine am_getf (I := iX3_copy) (pc := 5) lf_X3_21 dX3_copy_5 k1 rfl ?_
  refine am_callI (I := iX3_copy) (pc := 8) (st := [.ref S.2]) lv_X3_36 (m_Row_init K l T1 S.2 n k3 (by have := hr.2.2.1; have := hr.2.2.2; omega)) dX3_copy_8 rfl (Nat.le_of_ble_eq_true rfl) ⟨Nat.le_of_ble_eq_true rfl, Nat.le_of_ble_eq_true rfl⟩ (Nat.le_of_ble_eq_true rfl) (show 2 + n ≤ 2 + n from Nat.le_refl _) rfl (fun v9 T9 z9 _ => ?_)
  obtain ⟨rfl, eT2⟩ := z9
  have eT3 : rwN T1 S.2 n = ((am_up (am_up S.1 (S.2 + 1) (.inl (0, n, .inl (fun _ => 0)))) S.2 (.inr (3, [.ref (S.2 + 1), .int (nI 0)])), S.2 + 2) : am_S) := by
    unfold rwN
    rw [nT1, nI_0, ← eT1]
    show (am_up (am_up (am_up S.1 S.2 _) (S.2 + 1) _) S.2 _, _) = _
    rw [am_up_sw (Nat.ne_of_lt (Nat.lt_succ_self _)), am_up_up]
  rw [eT3] at eT2
  have hr2 : rw T9.1 a b cap f n := by
    rw [← eT2]
    have g1 : a ≠ S.2 := am_ne hr.1 (hf1 _ (Or.inr (Nat.le_refl _))) (fun e9 => by cases e9)
    have g2 : a ≠ S.2 + 1 := am_ne hr.1 (hf1 _ (Or.inr (Nat.le_succ _))) (fun e9 => by cases e9)
    have g3 : b ≠ S.2 := am_ne hr.2.1 (hf1 _ (Or.inr (Nat.le_refl _))) (fun e9 => by cases e9)
    have g4 : b ≠ S.2 + 1 := am_ne hr.2.1 (hf1 _ (Or.inr (Nat.le_succ _))) (fun e9 => by cases e9)
    exact ⟨(am_up_n g1).trans ((am_up_n g2).trans hr.1), (am_up_n g3).trans ((am_up_n g4).trans hr.2.1), hr.2.2⟩
  have hm2 : rw T9.1 S.2 (S.2 + 1) n (fun _ => 0) 0 := by
    rw [← eT2]
    exact ⟨am_up_s, (am_up_n (Nat.succ_ne_self _)).trans am_up_s, Nat.zero_le _, by have := hr.2.2.1; have := hr.2.2.2; omega⟩
  show am_W _ _ _ _ _ _ _ _ _ _ _ _ _ _ _ 11 [some (.ref a), none] [.ref S.2] T9 2 (2 + n)
  refine am_astore_n (I := iX3_copy) (pc := 11) (L' := [some (.ref a), some (.ref S.2)]) dX3_copy_11 rfl (by decide) rfl ?_
  refine am_aload_n (I := iX3_copy) (pc := 12) dX3_copy_12 rfl rfl ?_
  refine am_aload_n (I := iX3_copy) (pc := 13) dX3_copy_13 rfl rfl ?_
  have gn : a ≠ S.2 ∧ a ≠ S.2 + 1 ∧ b ≠ S.2 ∧ b ≠ S.2 + 1 := ⟨am_ne hr.1 (hf1 _ (Or.inr (Nat.le_refl _))) (fun e9 => by cases e9), am_ne hr.1 (hf1 _ (Or.inr (Nat.le_succ _))) (fun e9 => by cases e9), am_ne hr.2.1 (hf1 _ (Or.inr (Nat.le_refl _))) (fun e9 => by cases e9), am_ne hr.2.1 (hf1 _ (Or.inr (Nat.le_succ _))) (fun e9 => by cases e9)⟩
  refine am_callV (I := iX3_copy) (pc := 14) (st := []) lv_X3_38 (m_Row_addAll K l T9 S.2 (S.2 + 1) n (fun _ => 0) 0 a b cap f n hm2 hr2 gn (by omega)) dX3_copy_14 hm2.1 rfl (Nat.le_of_ble_eq_true rfl) ⟨Nat.le_of_ble_eq_true rfl, Nat.le_of_ble_eq_true rfl⟩ (Nat.le_of_ble_eq_true rfl) (show 2 + n + 0 ≤ 2 + n from Nat.le_refl _) rfl (fun v9 T10 z9 _ => ?_) (fun _ _ h9 => h9.elim)
  obtain ⟨rfl, eT4⟩ := z9
  have eT5 : rwC S f n = T10 := by
    rw [← eT4, ← eT2]
    unfold rwC rwS
    show _ = (am_up (am_up (am_up (am_up S.1 (S.2 + 1) _) S.2 _) (S.2 + 1) _) S.2 _, S.2 + 2)
    rw [am_up_sw (Nat.succ_ne_self _).symm, am_up_up, am_up_up, Nat.zero_add]
  show am_W _ _ _ _ _ _ _ _ _ _ _ _ _ _ _ 17 [some (.ref a), some (.ref S.2)] [] T10 2 (2 + n)
  refine am_aload_n (I := iX3_copy) (pc := 17) dX3_copy_17 rfl rfl ?_
  exact am_aret (I := iX3_copy) (pc := 18) dX3_copy_18 rfl (Or.inl ⟨_, rfl⟩) (Or.inr ⟨_, rfl⟩) (Nat.le_refl _) (Nat.le_refl _) (⟨rfl, eT5⟩)
