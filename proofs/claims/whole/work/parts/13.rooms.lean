/-- ROOMS: cell a of class 2 with its array j of 24 rows of bits -/
abbrev rm (h : Nat → am_C) (a j : Nat) (J : Nat → Int32) (wy : Int32) : Prop := h a = .inr (2, [.ref j, .int wy]) ∧ h j = .inl (0, 24, .inl J)
abbrev pw (i : Nat) : Int32 := (1 : Int32) <<< (nI i &&& 31)
def jn (J : Nat → Int32) (a b : Nat) : Int32 := if J a &&& pw b = 0 then 0 else 1
theorem jn01 (J : Nat → Int32) (a b : Nat) : jn J a b = 0 ∨ jn J a b = 1 := by
  unfold jn
  split
  · exact Or.inl rfl
  · exact Or.inr rfl
def ba (J : Nat → Int32) (ring : Int32) : Nat → Int32
  | 0 => 0
  | k + 1 => if ring &&& pw k = 0 then ba J ring k else ba J ring k ||| J k
def low (b : Int32) : Int32 := srch (fun i => !decide (b &&& pw i = 0)) 24
def nr (J : Nat → Int32) (room : Nat) : Nat → Int32 → Int32 → Int32
  | 0, _, _ => -1
  | k + 1, reached, ring => if ring = 0 then -1 else if J room &&& ring = 0 then nr J room k (reached ||| ring) (ba J ring 24 &&& ((reached ||| ring) ^^^ (-1))) else low (J room &&& ring)
set_option maxRecDepth 100000 in
set_option maxHeartbeats 4000000 in
theorem m_Rooms_wayCount (K : am_K) (l : Launch) (S : am_S) (a j : Nat) (J : Nat → Int32) (wy : Int32) (hr : rm S.1 a j J wy) : am_M K l iX2_wayCount 0 0 0 [.ref a] S (fun v S' => v = some (.int wy) ∧ S = S') (fun _ _ => False) := by
  refine am_body (by decide) rfl (by simp [Value.category]) (Nat.le_of_ble_eq_true rfl) (fun xp xe xs xm xa xb xt xc ad0 => ?_)
  show am_W _ _ _ _ _ _ _ _ _ _ _ _ _ _ _ 0 [some (.ref a)] [] S 0 0
  refine am_aload_n (I := iX2_wayCount) (pc := 0) dX2_wayCount_0 rfl rfl ?_
  refine am_getf (I := iX2_wayCount) (pc := 1) lf_X2_15 dX2_wayCount_1 hr.1 rfl ?_
  exact am_iret (I := iX2_wayCount) (pc := 4) dX2_wayCount_4 rfl (Nat.le_refl _) (Nat.le_refl _) (⟨rfl, rfl⟩)
set_option maxRecDepth 100000 in
set_option maxHeartbeats 4000000 in
theorem m_Rooms_areJoined (K : am_K) (l : Launch) (S : am_S) (a j : Nat) (J : Nat → Int32) (wy : Int32) (x y : Nat) (hr : rm S.1 a j J wy) (hx : x < 24) : am_M K l iX2_areJoined 0 0 0 [.ref a, .int (nI x), .int (nI y)] S (fun v S' => v = some (.int (jn J x y)) ∧ S = S') (fun _ _ => False) := by
  refine am_body (by decide) rfl (by simp [Value.category]) (Nat.le_of_ble_eq_true rfl) (fun xp xe xs xm xa xb xt xc ad0 => ?_)
  show am_W _ _ _ _ _ _ _ _ _ _ _ _ _ _ _ 0 [some (.ref a), some (.int (nI x)), some (.int (nI y))] [] S 0 0
  refine am_aload_n (I := iX2_areJoined) (pc := 0) dX2_areJoined_0 rfl rfl ?_
  refine am_getf (I := iX2_areJoined) (pc := 1) lf_X2_9 dX2_areJoined_1 hr.1 rfl ?_
  refine am_iload_n (I := iX2_areJoined) (pc := 4) dX2_areJoined_4 rfl rfl ?_
  refine am_iaload (I := iX2_areJoined) (pc := 5) dX2_areJoined_5 hr.2 rfl (vp_in_nI hx (by decide)) ?_
  rw [nI_clamp (show x < 2 ^ 31 by omega)]
  refine am_iconst (I := iX2_areJoined) (pc := 6) (x := 1) dX2_areJoined_6 (by decide) ?_
  refine am_iload_n (I := iX2_areJoined) (pc := 7) dX2_areJoined_7 rfl rfl ?_
  refine am_ishl (I := iX2_areJoined) (pc := 8) dX2_areJoined_8 ?_
  refine am_iand (I := iX2_areJoined) (pc := 9) dX2_areJoined_9 ?_
  refine am_if_eq (I := iX2_areJoined) (pc := 10) (tgt := 17) dX2_areJoined_10 (by decide) (fun c10 => ?_) (fun c10 => ?_)
  · refine am_iconst (I := iX2_areJoined) (pc := 17) (x := 0) dX2_areJoined_17 (by decide) ?_
    exact am_zret (I := iX2_areJoined) (pc := 18) dX2_areJoined_18 rfl (by decide) (Nat.le_refl _) (Nat.le_refl _) (⟨by rw [jn, if_pos c10], rfl⟩)
  · refine am_iconst (I := iX2_areJoined) (pc := 13) (x := 1) dX2_areJoined_13 (by decide) ?_
    refine am_goto (I := iX2_areJoined) (pc := 14) (tgt := 18) dX2_areJoined_14 (by decide) ?_
    exact am_zret (I := iX2_areJoined) (pc := 18) dX2_areJoined_18 rfl (by decide) (Nat.le_refl _) (Nat.le_refl _) (⟨by rw [jn, if_neg c10], rfl⟩)
def rmS (S : am_S) (a j : Nat) (J : Nat → Int32) (wy : Int32) : am_S := (am_up (am_up S.1 j (.inl (0, 24, .inl J))) a (.inr (2, [.ref j, .int wy])), S.2)
theorem rmS_rm {S : am_S} {a j : Nat} {J J' : Nat → Int32} {wy wy' : Int32} (hr : rm S.1 a j J wy) : rm (rmS S a j J' wy').1 a j J' wy' := ⟨am_up_s, (am_up_n (am_ne hr.2 hr.1 (fun e => by cases e))).trans am_up_s⟩
def turnJ (J : Nat → Int32) (x y : Nat) : Nat → Int32 := upd (upd J x (J x ^^^ pw y)) y (upd J x (J x ^^^ pw y) y ^^^ pw x)
def turnW (J : Nat → Int32) (wy : Int32) (x y : Nat) : Int32 := wy + (if jn J x y = 0 then 1 else -1)
set_option maxRecDepth 100000 in
set_option maxHeartbeats 4000000 in
theorem m_Rooms_turn (K : am_K) (l : Launch) (S : am_S) (a j : Nat) (J : Nat → Int32) (wy : Int32) (x y : Nat) (hr : rm S.1 a j J wy) (hx : x < 24) (hy : y < 24) : am_M K l iX2_turn 1 0 0 [.ref a, .int (nI x), .int (nI y)] S (fun v S' => v = none ∧ rmS S a j (turnJ J x y) (turnW J wy x y) = S') (fun _ _ => False) := by
  refine am_body (by decide) rfl (by simp [Value.category]) (Nat.le_of_ble_eq_true rfl) (fun xp xe xs xm xa xb xt xc ad0 => ?_)
  show am_W _ _ _ _ _ _ _ _ _ _ _ _ _ _ _ 0 [some (.ref a), some (.int (nI x)), some (.int (nI y))] [] S 0 0
  refine am_aload_n (I := iX2_turn) (pc := 0) dX2_turn_0 rfl rfl ?_
  refine am_dup (I := iX2_turn) (pc := 1) dX2_turn_1 rfl ?_
  refine am_getf (I := iX2_turn) (pc := 2) lf_X2_15 dX2_turn_2 hr.1 rfl ?_
  refine am_aload_n (I := iX2_turn) (pc := 5) dX2_turn_5 rfl rfl ?_
  refine am_iload_n (I := iX2_turn) (pc := 6) dX2_turn_6 rfl rfl ?_
  refine am_iload_n (I := iX2_turn) (pc := 7) dX2_turn_7 rfl rfl ?_
  refine am_callV (I := iX2_turn) (pc := 8) (st := [.int wy, .ref a]) lv_X2_19 (m_Rooms_areJoined K l _ a j J wy x y hr hx) dX2_turn_8 hr.1 rfl (Nat.le_of_ble_eq_true rfl) ⟨Nat.le_of_ble_eq_true rfl, Nat.le_of_ble_eq_true rfl⟩ (Nat.le_of_ble_eq_true rfl) (Nat.le_of_ble_eq_true rfl) rfl (fun v9 T9 z9 _ => ?_) (fun _ _ h9 => h9.elim)
  obtain ⟨rfl, rfl⟩ := z9
  show am_W _ _ _ _ _ _ _ _ _ _ _ _ _ _ _ 11 [some (.ref a), some (.int (nI x)), some (.int (nI y))] [.int (jn J x y), .int wy, .ref a] S 0 0
  refine am_if_eq (I := iX2_turn) (pc := 11) (tgt := 18) dX2_turn_11 (by decide) (fun c11 => ?_) (fun c11 => ?_)
  · refine am_iconst (I := iX2_turn) (pc := 18) (x := 1) dX2_turn_18 (by decide) ?_
    refine am_iadd (I := iX2_turn) (pc := 19) dX2_turn_19 ?_
    refine am_putf (I := iX2_turn) (pc := 20) (fs' := [.ref j, .int (wy + 1)]) lf_X2_15 dX2_turn_20 hr.1 (fun _ => ⟨rfl, rfl⟩) (Nat.le_of_ble_eq_true rfl) rfl ?_
    generalize eT1 : ((am_up S.1 a (.inr (2, [.ref j, .int (wy + 1)])), S.2) : am_S) = T1
    have k1 : T1.1 a = (.inr (2, [.ref j, .int (wy + 1)])) := by rw [← eT1]; exact am_up_s
    have k2 : T1.1 j = (.inl (0, 24, .inl J)) := by rw [← eT1]; exact (am_up_n (am_ne hr.2 hr.1 (fun e9 => by cases e9))).trans hr.2
    refine am_aload_n (I := iX2_turn) (pc := 23) dX2_turn_23 rfl rfl ?_
    refine am_getf (I := iX2_turn) (pc := 24) lf_X2_9 dX2_turn_24 k1 rfl ?_
    refine am_iload_n (I := iX2_turn) (pc := 27) dX2_turn_27 rfl rfl ?_
    refine am_dup2 (I := iX2_turn) (pc := 28) dX2_turn_28 rfl rfl ?_
    refine am_iaload (I := iX2_turn) (pc := 29) dX2_turn_29 k2 rfl (vp_in_nI hx (by decide)) ?_
    rw [nI_clamp (show x < 2 ^ 31 by omega)]
    refine am_iconst (I := iX2_turn) (pc := 30) (x := 1) dX2_turn_30 (by decide) ?_
    refine am_iload_n (I := iX2_turn) (pc := 31) dX2_turn_31 rfl rfl ?_
    refine am_ishl (I := iX2_turn) (pc := 32) dX2_turn_32 ?_
    refine am_ixor (I := iX2_turn) (pc := 33) dX2_turn_33 ?_
    refine am_iastore (I := iX2_turn) (pc := 34) dX2_turn_34 k2 rfl (vp_in_nI hx (by decide)) ?_
    generalize eT2 : ((am_up T1.1 j (.inl (0, 24, .inl (upd J (nI x).toNatClampNeg ((J x) ^^^ ((1 : Int32) <<< ((nI y) &&& 31)))))), T1.2) : am_S) = T2
    have k3 : T2.1 a = (.inr (2, [.ref j, .int (wy + 1)])) := by rw [← eT2]; exact (am_up_n (am_ne k1 k2 (fun e9 => by cases e9))).trans k1
    have k4 : T2.1 j = (.inl (0, 24, .inl (upd J (nI x).toNatClampNeg ((J x) ^^^ ((1 : Int32) <<< ((nI y) &&& 31)))))) := by rw [← eT2]; exact am_up_s
    refine am_aload_n (I := iX2_turn) (pc := 35) dX2_turn_35 rfl rfl ?_
    refine am_getf (I := iX2_turn) (pc := 36) lf_X2_9 dX2_turn_36 k3 rfl ?_
    refine am_iload_n (I := iX2_turn) (pc := 39) dX2_turn_39 rfl rfl ?_
    refine am_dup2 (I := iX2_turn) (pc := 40) dX2_turn_40 rfl rfl ?_
    refine am_iaload (I := iX2_turn) (pc := 41) dX2_turn_41 k4 rfl (vp_in_nI hy (by decide)) ?_
    refine am_iconst (I := iX2_turn) (pc := 42) (x := 1) dX2_turn_42 (by decide) ?_
    refine am_iload_n (I := iX2_turn) (pc := 43) dX2_turn_43 rfl rfl ?_
    refine am_ishl (I := iX2_turn) (pc := 44) dX2_turn_44 ?_
    refine am_ixor (I := iX2_turn) (pc := 45) dX2_turn_45 ?_
    refine am_iastore (I := iX2_turn) (pc := 46) dX2_turn_46 k4 rfl (vp_in_nI hy (by decide)) ?_
    generalize eT3 : ((am_up T2.1 j (.inl (0, 24, .inl (upd (upd J (nI x).toNatClampNeg ((J x) ^^^ ((1 : Int32) <<< ((nI y) &&& 31)))) (nI y).toNatClampNeg (((upd J (nI x).toNatClampNeg ((J x) ^^^ ((1 : Int32) <<< ((nI y) &&& 31)))) (nI y).toNatClampNeg) ^^^ ((1 : Int32) <<< ((nI x) &&& 31)))))), T2.2) : am_S) = T3
    have k5 : T3.1 a = (.inr (2, [.ref j, .int (wy + 1)])) := by rw [← eT3]; exact (am_up_n (am_ne k3 k4 (fun e9 => by cases e9))).trans k3
    have k6 : T3.1 j = (.inl (0, 24, .inl (upd (upd J (nI x).toNatClampNeg ((J x) ^^^ ((1 : Int32) <<< ((nI y) &&& 31)))) (nI y).toNatClampNeg (((upd J (nI x).toNatClampNeg ((J x) ^^^ ((1 : Int32) <<< ((nI y) &&& 31)))) (nI y).toNatClampNeg) ^^^ ((1 : Int32) <<< ((nI x) &&& 31)))))) := by rw [← eT3]; exact am_up_s
    exact am_vret (I := iX2_turn) (pc := 47) dX2_turn_47 rfl (Nat.le_refl _) (Nat.le_refl _) (⟨rfl, by unfold rmS turnJ turnW; rw [if_pos c11, ← eT3, ← eT2, ← eT1, nI_clamp (show x < 2 ^ 31 by omega), nI_clamp (show y < 2 ^ 31 by omega)]; show _ = (am_up (am_up (am_up S.1 a _) j _) j _, S.2); rw [am_up_up, am_up_sw (am_ne hr.1 hr.2 (fun e => by cases e))]⟩)
  · refine am_iconst (I := iX2_turn) (pc := 14) (x := (-1)) dX2_turn_14 (by decide) ?_
    refine am_goto (I := iX2_turn) (pc := 15) (tgt := 19) dX2_turn_15 (by decide) ?_
    refine am_iadd (I := iX2_turn) (pc := 19) dX2_turn_19 ?_
    refine am_putf (I := iX2_turn) (pc := 20) (fs' := [.ref j, .int (wy + (-1))]) lf_X2_15 dX2_turn_20 hr.1 (fun _ => ⟨rfl, rfl⟩) (Nat.le_of_ble_eq_true rfl) rfl ?_
    generalize eT4 : ((am_up S.1 a (.inr (2, [.ref j, .int (wy + (-1))])), S.2) : am_S) = T4
    have k7 : T4.1 a = (.inr (2, [.ref j, .int (wy + (-1))])) := by rw [← eT4]; exact am_up_s
    have k8 : T4.1 j = (.inl (0, 24, .inl J)) := by rw [← eT4]; exact (am_up_n (am_ne hr.2 hr.1 (fun e9 => by cases e9))).trans hr.2
    refine am_aload_n (I := iX2_turn) (pc := 23) dX2_turn_23 rfl rfl ?_
    refine am_getf (I := iX2_turn) (pc := 24) lf_X2_9 dX2_turn_24 k7 rfl ?_
    refine am_iload_n (I := iX2_turn) (pc := 27) dX2_turn_27 rfl rfl ?_
    refine am_dup2 (I := iX2_turn) (pc := 28) dX2_turn_28 rfl rfl ?_
    refine am_iaload (I := iX2_turn) (pc := 29) dX2_turn_29 k8 rfl (vp_in_nI hx (by decide)) ?_
    rw [nI_clamp (show x < 2 ^ 31 by omega)]
    refine am_iconst (I := iX2_turn) (pc := 30) (x := 1) dX2_turn_30 (by decide) ?_
    refine am_iload_n (I := iX2_turn) (pc := 31) dX2_turn_31 rfl rfl ?_
    refine am_ishl (I := iX2_turn) (pc := 32) dX2_turn_32 ?_
    refine am_ixor (I := iX2_turn) (pc := 33) dX2_turn_33 ?_
    refine am_iastore (I := iX2_turn) (pc := 34) dX2_turn_34 k8 rfl (vp_in_nI hx (by decide)) ?_
    generalize eT5 : ((am_up T4.1 j (.inl (0, 24, .inl (upd J (nI x).toNatClampNeg ((J x) ^^^ ((1 : Int32) <<< ((nI y) &&& 31)))))), T4.2) : am_S) = T5
    have k9 : T5.1 a = (.inr (2, [.ref j, .int (wy + (-1))])) := by rw [← eT5]; exact (am_up_n (am_ne k7 k8 (fun e9 => by cases e9))).trans k7
    have k10 : T5.1 j = (.inl (0, 24, .inl (upd J (nI x).toNatClampNeg ((J x) ^^^ ((1 : Int32) <<< ((nI y) &&& 31)))))) := by rw [← eT5]; exact am_up_s
    refine am_aload_n (I := iX2_turn) (pc := 35) dX2_turn_35 rfl rfl ?_
    refine am_getf (I := iX2_turn) (pc := 36) lf_X2_9 dX2_turn_36 k9 rfl ?_
    refine am_iload_n (I := iX2_turn) (pc := 39) dX2_turn_39 rfl rfl ?_
    refine am_dup2 (I := iX2_turn) (pc := 40) dX2_turn_40 rfl rfl ?_
    refine am_iaload (I := iX2_turn) (pc := 41) dX2_turn_41 k10 rfl (vp_in_nI hy (by decide)) ?_
    refine am_iconst (I := iX2_turn) (pc := 42) (x := 1) dX2_turn_42 (by decide) ?_
    refine am_iload_n (I := iX2_turn) (pc := 43) dX2_turn_43 rfl rfl ?_
    refine am_ishl (I := iX2_turn) (pc := 44) dX2_turn_44 ?_
    refine am_ixor (I := iX2_turn) (pc := 45) dX2_turn_45 ?_
    refine am_iastore (I := iX2_turn) (pc := 46) dX2_turn_46 k10 rfl (vp_in_nI hy (by decide)) ?_
    generalize eT6 : ((am_up T5.1 j (.inl (0, 24, .inl (upd (upd J (nI x).toNatClampNeg ((J x) ^^^ ((1 : Int32) <<< ((nI y) &&& 31)))) (nI y).toNatClampNeg (((upd J (nI x).toNatClampNeg ((J x) ^^^ ((1 : Int32) <<< ((nI y) &&& 31)))) (nI y).toNatClampNeg) ^^^ ((1 : Int32) <<< ((nI x) &&& 31)))))), T5.2) : am_S) = T6
    have k11 : T6.1 a = (.inr (2, [.ref j, .int (wy + (-1))])) := by rw [← eT6]; exact (am_up_n (am_ne k9 k10 (fun e9 => by cases e9))).trans k9
    have k12 : T6.1 j = (.inl (0, 24, .inl (upd (upd J (nI x).toNatClampNeg ((J x) ^^^ ((1 : Int32) <<< ((nI y) &&& 31)))) (nI y).toNatClampNeg (((upd J (nI x).toNatClampNeg ((J x) ^^^ ((1 : Int32) <<< ((nI y) &&& 31)))) (nI y).toNatClampNeg) ^^^ ((1 : Int32) <<< ((nI x) &&& 31)))))) := by rw [← eT6]; exact am_up_s
    exact am_vret (I := iX2_turn) (pc := 47) dX2_turn_47 rfl (Nat.le_refl _) (Nat.le_refl _) (⟨rfl, by unfold rmS turnJ turnW; rw [if_neg c11, ← eT6, ← eT5, ← eT4, nI_clamp (show x < 2 ^ 31 by omega), nI_clamp (show y < 2 ^ 31 by omega)]; show _ = (am_up (am_up (am_up S.1 a _) j _) j _, S.2); rw [am_up_up, am_up_sw (am_ne hr.1 hr.2 (fun e => by cases e))]⟩)
set_option maxRecDepth 100000 in
set_option maxHeartbeats 4000000 in
theorem m_Rooms_lowestIn (K : am_K) (l : Launch) (S : am_S) (x : Int32)  : am_M K l iX2_lowestIn 0 0 0 [.int x] S (fun v S' => v = some (.int (low x)) ∧ S = S') (fun _ _ => False) := by
  refine am_body (by decide) rfl (by simp [Value.category]) (Nat.le_of_ble_eq_true rfl) (fun xp xe xs xm xa xb xt xc ad0 => ?_)
  show am_W _ _ _ _ _ _ _ _ _ _ _ _ _ _ _ 0 [some (.int x), none] [] S 0 0
  refine am_iconst (I := iX2_lowestIn) (pc := 0) (x := 0) dX2_lowestIn_0 (by decide) ?_
  refine am_istore_n (I := iX2_lowestIn) (pc := 1) (L' := [some (.int x), some (.int 0)]) dX2_lowestIn_1 rfl (by decide) rfl ?_
  have loop2 : ∀ (k2 : Nat) (i : Nat), 24 - i < k2 → (i ≤ 24) → (∀ j, j < i → (!decide (x &&& pw j = 0)) = false) → am_W K iX2_lowestIn xp l xe (am_room 0 0 0) xs xm xa xb xt xc S ad0 (am_E K ad0 S (fun v S' => v = some (.int (low x)) ∧ S = S') (fun _ _ => False) xb xa xs 0 0) 2 [some (.int x), some (.int (nI i))] [] S 0 0 := by
    intro k2
    induction k2 with
    | zero => intro i h9; exact absurd h9 (Nat.not_lt_zero _)
    | succ k2 ih2 =>
      intro i hm2 hi hq
      refine am_iload_n (I := iX2_lowestIn) (pc := 2) dX2_lowestIn_2 rfl rfl ?_
      refine am_bipush (I := iX2_lowestIn) (pc := 3) (x := 24) dX2_lowestIn_3 (by decide) ?_
      refine am_icmp_ge (I := iX2_lowestIn) (pc := 5) (tgt := 24) dX2_lowestIn_5 (by decide) (fun c5 => ?_) (fun c5 => ?_)
      · have g5 : 24 ≤ i := by
          rcases Nat.lt_or_ge i 24 with q9 | q9
          · exact absurd c5 (nI_ge (a := i) (b := 24) q9 (by omega))
          · exact q9
        refine am_iconst (I := iX2_lowestIn) (pc := 24) (x := (-1)) dX2_lowestIn_24 (by decide) ?_
        exact am_iret (I := iX2_lowestIn) (pc := 25) dX2_lowestIn_25 rfl (Nat.le_refl _) (Nat.le_refl _) (⟨by unfold low; rw [srch_none (fun j h9 => hq j (by omega))], rfl⟩)
      · have l5 : i < 24 := by
          rcases Nat.lt_or_ge i 24 with q9 | q9
          · exact q9
          · exact absurd (nI_le (a := 24) (b := i) q9 (by omega)) c5
        refine am_iload_n (I := iX2_lowestIn) (pc := 8) dX2_lowestIn_8 rfl rfl ?_
        refine am_iconst (I := iX2_lowestIn) (pc := 9) (x := 1) dX2_lowestIn_9 (by decide) ?_
        refine am_iload_n (I := iX2_lowestIn) (pc := 10) dX2_lowestIn_10 rfl rfl ?_
        refine am_ishl (I := iX2_lowestIn) (pc := 11) dX2_lowestIn_11 ?_
        refine am_iand (I := iX2_lowestIn) (pc := 12) dX2_lowestIn_12 ?_
        refine am_if_eq (I := iX2_lowestIn) (pc := 13) (tgt := 18) dX2_lowestIn_13 (by decide) (fun c13 => ?_) (fun c13 => ?_)
        · refine am_iinc (I := iX2_lowestIn) (pc := 18) (y := ((nI i) + 1)) (L' := [some (.int x), some (.int ((nI i) + 1))]) dX2_lowestIn_18 rfl rfl rfl ?_
          refine am_goto (I := iX2_lowestIn) (pc := 21) (tgt := 2) dX2_lowestIn_21 (by decide) ?_
          refine am_same rfl (by rw [nI_1]) rfl rfl rfl rfl (ih2 (i + 1) (by omega) (by omega) (fun j h9 => by
                      rcases Nat.lt_or_ge j i with q9 | q9
                      · exact hq j q9
                      · have e9 : j = i := by omega
                        subst e9; rw [decide_eq_true c13]; rfl))
        · refine am_iload_n (I := iX2_lowestIn) (pc := 16) dX2_lowestIn_16 rfl rfl ?_
          exact am_iret (I := iX2_lowestIn) (pc := 17) dX2_lowestIn_17 rfl (Nat.le_refl _) (Nat.le_refl _) (⟨by unfold low; rw [srch_some l5 (by rw [decide_eq_false c13]; rfl) hq], rfl⟩)
  exact am_same rfl (by rw [nI_0]) rfl rfl rfl rfl (loop2 _ 0 (Nat.lt_succ_self _) (Nat.zero_le _) (fun j h9 => absurd h9 (Nat.not_lt_zero _)))
set_option maxRecDepth 100000 in
set_option maxHeartbeats 4000000 in
theorem m_Rooms_besideAny (K : am_K) (l : Launch) (S : am_S) (a j : Nat) (J : Nat → Int32) (wy : Int32) (x : Int32) (hr : rm S.1 a j J wy) : am_M K l iX2_besideAny 0 0 0 [.ref a, .int x] S (fun v S' => v = some (.int (ba J x 24)) ∧ S = S') (fun _ _ => False) := by
  refine am_body (by decide) rfl (by simp [Value.category]) (Nat.le_of_ble_eq_true rfl) (fun xp xe xs xm xa xb xt xc ad0 => ?_)
  show am_W _ _ _ _ _ _ _ _ _ _ _ _ _ _ _ 0 [some (.ref a), some (.int x), none, none] [] S 0 0
  refine am_iconst (I := iX2_besideAny) (pc := 0) (x := 0) dX2_besideAny_0 (by decide) ?_
  refine am_istore_n (I := iX2_besideAny) (pc := 1) (L' := [some (.ref a), some (.int x), some (.int 0), none]) dX2_besideAny_1 rfl (by decide) rfl ?_
  refine am_iconst (I := iX2_besideAny) (pc := 2) (x := 0) dX2_besideAny_2 (by decide) ?_
  refine am_istore_n (I := iX2_besideAny) (pc := 3) (L' := [some (.ref a), some (.int x), some (.int 0), some (.int 0)]) dX2_besideAny_3 rfl (by decide) rfl ?_
  have loop4 : ∀ (k4 : Nat) (i : Nat), 24 - i < k4 → (i ≤ 24) → am_W K iX2_besideAny xp l xe (am_room 0 0 0) xs xm xa xb xt xc S ad0 (am_E K ad0 S (fun v S' => v = some (.int (ba J x 24)) ∧ S = S') (fun _ _ => False) xb xa xs 0 0) 4 [some (.ref a), some (.int x), some (.int (ba J x i)), some (.int (nI i))] [] S 0 0 := by
    intro k4
    induction k4 with
    | zero => intro i h9; exact absurd h9 (Nat.not_lt_zero _)
    | succ k4 ih4 =>
      intro i hm4 hi
      refine am_iload_n (I := iX2_besideAny) (pc := 4) dX2_besideAny_4 rfl rfl ?_
      refine am_bipush (I := iX2_besideAny) (pc := 5) (x := 24) dX2_besideAny_5 (by decide) ?_
      refine am_icmp_ge (I := iX2_besideAny) (pc := 7) (tgt := 33) dX2_besideAny_7 (by decide) (fun c7 => ?_) (fun c7 => ?_)
      · have g7 : 24 ≤ i := by
          rcases Nat.lt_or_ge i 24 with q9 | q9
          · exact absurd c7 (nI_ge (a := i) (b := 24) q9 (by omega))
          · exact q9
        refine am_iload_n (I := iX2_besideAny) (pc := 33) dX2_besideAny_33 rfl rfl ?_
        exact am_iret (I := iX2_besideAny) (pc := 34) dX2_besideAny_34 rfl (Nat.le_refl _) (Nat.le_refl _) (⟨by rw [show i = 24 by omega], rfl⟩)
      · have l7 : i < 24 := by
          rcases Nat.lt_or_ge i 24 with q9 | q9
          · exact q9
          · exact absurd (nI_le (a := 24) (b := i) q9 (by omega)) c7
        refine am_iload_n (I := iX2_besideAny) (pc := 10) dX2_besideAny_10 rfl rfl ?_
        refine am_iconst (I := iX2_besideAny) (pc := 11) (x := 1) dX2_besideAny_11 (by decide) ?_
        refine am_iload_n (I := iX2_besideAny) (pc := 12) dX2_besideAny_12 rfl rfl ?_
        refine am_ishl (I := iX2_besideAny) (pc := 13) dX2_besideAny_13 ?_
        refine am_iand (I := iX2_besideAny) (pc := 14) dX2_besideAny_14 ?_
        refine am_if_eq (I := iX2_besideAny) (pc := 15) (tgt := 27) dX2_besideAny_15 (by decide) (fun c15 => ?_) (fun c15 => ?_)
        · refine am_iinc (I := iX2_besideAny) (pc := 27) (y := ((nI i) + 1)) (L' := [some (.ref a), some (.int x), some (.int (ba J x i)), some (.int ((nI i) + 1))]) dX2_besideAny_27 rfl rfl rfl ?_
          refine am_goto (I := iX2_besideAny) (pc := 30) (tgt := 4) dX2_besideAny_30 (by decide) ?_
          exact am_same rfl (by rw [nI_1, ba, if_pos c15]) rfl rfl rfl rfl (ih4 (i + 1) (by omega) (by omega))
        · refine am_iload_n (I := iX2_besideAny) (pc := 18) dX2_besideAny_18 rfl rfl ?_
          refine am_aload_n (I := iX2_besideAny) (pc := 19) dX2_besideAny_19 rfl rfl ?_
          refine am_getf (I := iX2_besideAny) (pc := 20) lf_X2_9 dX2_besideAny_20 hr.1 rfl ?_
          refine am_iload_n (I := iX2_besideAny) (pc := 23) dX2_besideAny_23 rfl rfl ?_
          refine am_iaload (I := iX2_besideAny) (pc := 24) dX2_besideAny_24 hr.2 rfl (vp_in_nI l7 (by decide)) ?_
          rw [nI_clamp (show i < 2 ^ 31 by omega)]
          refine am_ior (I := iX2_besideAny) (pc := 25) dX2_besideAny_25 ?_
          refine am_istore_n (I := iX2_besideAny) (pc := 26) (L' := [some (.ref a), some (.int x), some (.int ((ba J x i) ||| (J i))), some (.int (nI i))]) dX2_besideAny_26 rfl (by decide) rfl ?_
          refine am_iinc (I := iX2_besideAny) (pc := 27) (y := ((nI i) + 1)) (L' := [some (.ref a), some (.int x), some (.int ((ba J x i) ||| (J i))), some (.int ((nI i) + 1))]) dX2_besideAny_27 rfl rfl rfl ?_
          refine am_goto (I := iX2_besideAny) (pc := 30) (tgt := 4) dX2_besideAny_30 (by decide) ?_
          exact am_same rfl (by rw [nI_1, ba, if_neg c15]) rfl rfl rfl rfl (ih4 (i + 1) (by omega) (by omega))
  exact am_same rfl (by rw [nI_0]; rfl) rfl rfl rfl rfl (loop4 _ 0 (Nat.lt_succ_self _) (Nat.zero_le _))
set_option maxRecDepth 100000 in
set_option maxHeartbeats 4000000 in
theorem m_Rooms_nextRoom (K : am_K) (l : Launch) (S : am_S) (a j : Nat) (J : Nat → Int32) (wy : Int32) (x y : Nat) (hr : rm S.1 a j J wy) (hx : x < 24) : am_M K l iX2_nextRoom 1 0 0 [.ref a, .int (nI x), .int (nI y)] S (fun v S' => v = some (.int (nr J x 24 0 (pw y))) ∧ S = S') (fun _ _ => False) := by
  refine am_body (by decide) rfl (by simp [Value.category]) (Nat.le_of_ble_eq_true rfl) (fun xp xe xs xm xa xb xt xc ad0 => ?_)
  show am_W _ _ _ _ _ _ _ _ _ _ _ _ _ _ _ 0 [some (.ref a), some (.int (nI x)), some (.int (nI y)), none, none, none, none] [] S 0 0
  refine am_iconst (I := iX2_nextRoom) (pc := 0) (x := 0) dX2_nextRoom_0 (by decide) ?_
  refine am_istore_n (I := iX2_nextRoom) (pc := 1) (L' := [some (.ref a), some (.int (nI x)), some (.int (nI y)), some (.int 0), none, none, none]) dX2_nextRoom_1 rfl (by decide) rfl ?_
  refine am_iconst (I := iX2_nextRoom) (pc := 2) (x := 1) dX2_nextRoom_2 (by decide) ?_
  refine am_iload_n (I := iX2_nextRoom) (pc := 3) dX2_nextRoom_3 rfl rfl ?_
  refine am_ishl (I := iX2_nextRoom) (pc := 4) dX2_nextRoom_4 ?_
  refine am_istore (I := iX2_nextRoom) (pc := 5) (L' := [some (.ref a), some (.int (nI x)), some (.int (nI y)), some (.int 0), some (.int ((1 : Int32) <<< ((nI y) &&& 31))), none, none]) dX2_nextRoom_5 (by decide) rfl ?_
  refine am_iconst (I := iX2_nextRoom) (pc := 7) (x := 0) dX2_nextRoom_7 (by decide) ?_
  refine am_istore (I := iX2_nextRoom) (pc := 8) (L' := [some (.ref a), some (.int (nI x)), some (.int (nI y)), some (.int 0), some (.int ((1 : Int32) <<< ((nI y) &&& 31))), some (.int 0), none]) dX2_nextRoom_8 (by decide) rfl ?_
  have loop10 : ∀ (k10 : Nat) (i : Nat) (rc : Int32) (rg : Int32), 24 - i < k10 → (i ≤ 24) → (nr J x (24 - i) rc rg = nr J x 24 0 (pw y)) → am_W K iX2_nextRoom xp l xe (am_room 1 0 0) xs xm xa xb xt xc S ad0 (am_E K ad0 S (fun v S' => v = some (.int (nr J x 24 0 (pw y))) ∧ S = S') (fun _ _ => False) xb xa xs 0 0) 10 [some (.ref a), some (.int (nI x)), some (.int (nI y)), some (.int rc), some (.int rg), some (.int (nI i)), none] [] S 0 0 := by
    intro k10
    induction k10 with
    | zero => intro i rc rg h9; exact absurd h9 (Nat.not_lt_zero _)
    | succ k10 ih10 =>
      intro i rc rg hm10 hi hv
      refine am_iload (I := iX2_nextRoom) (pc := 10) dX2_nextRoom_10 rfl ?_
      refine am_bipush (I := iX2_nextRoom) (pc := 12) (x := 24) dX2_nextRoom_12 (by decide) ?_
      refine am_icmp_ge (I := iX2_nextRoom) (pc := 14) (tgt := 67) dX2_nextRoom_14 (by decide) (fun c14 => ?_) (fun c14 => ?_)
      · have g14 : 24 ≤ i := by
          rcases Nat.lt_or_ge i 24 with q9 | q9
          · exact absurd c14 (nI_ge (a := i) (b := 24) q9 (by omega))
          · exact q9
        refine am_iconst (I := iX2_nextRoom) (pc := 67) (x := (-1)) dX2_nextRoom_67 (by decide) ?_
        exact am_iret (I := iX2_nextRoom) (pc := 68) dX2_nextRoom_68 rfl (Nat.le_refl _) (Nat.le_refl _) (⟨by rw [← hv, show 24 - i = 0 by omega]; rfl, rfl⟩)
      · have l14 : i < 24 := by
          rcases Nat.lt_or_ge i 24 with q9 | q9
          · exact q9
          · exact absurd (nI_le (a := 24) (b := i) q9 (by omega)) c14
        refine am_iload (I := iX2_nextRoom) (pc := 17) dX2_nextRoom_17 rfl ?_
        refine am_if_eq (I := iX2_nextRoom) (pc := 19) (tgt := 67) dX2_nextRoom_19 (by decide) (fun c19 => ?_) (fun c19 => ?_)
        · refine am_iconst (I := iX2_nextRoom) (pc := 67) (x := (-1)) dX2_nextRoom_67 (by decide) ?_
          exact am_iret (I := iX2_nextRoom) (pc := 68) dX2_nextRoom_68 rfl (Nat.le_refl _) (Nat.le_refl _) (⟨by rw [← hv, show 24 - i = (23 - i) + 1 by omega, nr, if_pos c19], rfl⟩)
        · refine am_aload_n (I := iX2_nextRoom) (pc := 22) dX2_nextRoom_22 rfl rfl ?_
          refine am_getf (I := iX2_nextRoom) (pc := 23) lf_X2_9 dX2_nextRoom_23 hr.1 rfl ?_
          refine am_iload_n (I := iX2_nextRoom) (pc := 26) dX2_nextRoom_26 rfl rfl ?_
          refine am_iaload (I := iX2_nextRoom) (pc := 27) dX2_nextRoom_27 hr.2 rfl (vp_in_nI hx (by decide)) ?_
          rw [nI_clamp (show x < 2 ^ 31 by omega)]
          refine am_iload (I := iX2_nextRoom) (pc := 28) dX2_nextRoom_28 rfl ?_
          refine am_iand (I := iX2_nextRoom) (pc := 30) dX2_nextRoom_30 ?_
          refine am_istore (I := iX2_nextRoom) (pc := 31) (L' := [some (.ref a), some (.int (nI x)), some (.int (nI y)), some (.int rc), some (.int rg), some (.int (nI i)), some (.int ((J x) &&& rg))]) dX2_nextRoom_31 (by decide) rfl ?_
          refine am_iload (I := iX2_nextRoom) (pc := 33) dX2_nextRoom_33 rfl ?_
          refine am_if_eq (I := iX2_nextRoom) (pc := 35) (tgt := 44) dX2_nextRoom_35 (by decide) (fun c35 => ?_) (fun c35 => ?_)
          · refine am_forget 6 ?_
            refine am_iload_n (I := iX2_nextRoom) (pc := 44) dX2_nextRoom_44 rfl rfl ?_
            refine am_iload (I := iX2_nextRoom) (pc := 45) dX2_nextRoom_45 rfl ?_
            refine am_ior (I := iX2_nextRoom) (pc := 47) dX2_nextRoom_47 ?_
            refine am_istore_n (I := iX2_nextRoom) (pc := 48) (L' := [some (.ref a), some (.int (nI x)), some (.int (nI y)), some (.int (rc ||| rg)), some (.int rg), some (.int (nI i)), none]) dX2_nextRoom_48 rfl (by decide) rfl ?_
            refine am_aload_n (I := iX2_nextRoom) (pc := 49) dX2_nextRoom_49 rfl rfl ?_
            refine am_iload (I := iX2_nextRoom) (pc := 50) dX2_nextRoom_50 rfl ?_
            refine am_callV (I := iX2_nextRoom) (pc := 52) (st := []) lv_X2_27 (m_Rooms_besideAny K l _ a j J wy rg hr) dX2_nextRoom_52 hr.1 rfl (Nat.le_of_ble_eq_true rfl) ⟨Nat.le_of_ble_eq_true rfl, Nat.le_of_ble_eq_true rfl⟩ (Nat.le_of_ble_eq_true rfl) (Nat.le_of_ble_eq_true rfl) rfl (fun v9 T9 z9 _ => ?_) (fun _ _ h9 => h9.elim)
            obtain ⟨rfl, rfl⟩ := z9
            show am_W _ _ _ _ _ _ _ _ _ _ _ _ _ _ _ 55 [some (.ref a), some (.int (nI x)), some (.int (nI y)), some (.int (rc ||| rg)), some (.int rg), some (.int (nI i)), none] [.int (ba J rg 24)] S 0 0
            refine am_iload_n (I := iX2_nextRoom) (pc := 55) dX2_nextRoom_55 rfl rfl ?_
            refine am_iconst (I := iX2_nextRoom) (pc := 56) (x := (-1)) dX2_nextRoom_56 (by decide) ?_
            refine am_ixor (I := iX2_nextRoom) (pc := 57) dX2_nextRoom_57 ?_
            refine am_iand (I := iX2_nextRoom) (pc := 58) dX2_nextRoom_58 ?_
            refine am_istore (I := iX2_nextRoom) (pc := 59) (L' := [some (.ref a), some (.int (nI x)), some (.int (nI y)), some (.int (rc ||| rg)), some (.int ((ba J rg 24) &&& ((rc ||| rg) ^^^ (-1)))), some (.int (nI i)), none]) dX2_nextRoom_59 (by decide) rfl ?_
            refine am_iinc (I := iX2_nextRoom) (pc := 61) (y := ((nI i) + 1)) (L' := [some (.ref a), some (.int (nI x)), some (.int (nI y)), some (.int (rc ||| rg)), some (.int ((ba J rg 24) &&& ((rc ||| rg) ^^^ (-1)))), some (.int ((nI i) + 1)), none]) dX2_nextRoom_61 rfl rfl rfl ?_
            refine am_goto (I := iX2_nextRoom) (pc := 64) (tgt := 10) dX2_nextRoom_64 (by decide) ?_
            exact am_same rfl (by rw [nI_1]) rfl rfl rfl rfl (ih10 (i + 1) (rc ||| rg) (ba J rg 24 &&& ((rc ||| rg) ^^^ (-1))) (by omega) (by omega) (by rw [← hv, show 24 - i = (24 - (i + 1)) + 1 by omega, nr, if_neg c19, if_pos c35]))
          · refine am_iload (I := iX2_nextRoom) (pc := 38) dX2_nextRoom_38 rfl ?_
            refine am_callS (I := iX2_nextRoom) (pc := 40) (st := []) lv_X2_23 rfl (m_Rooms_lowestIn K l _ (J x &&& rg)) dX2_nextRoom_40 rfl (Nat.le_of_ble_eq_true rfl) ⟨Nat.le_of_ble_eq_true rfl, Nat.le_of_ble_eq_true rfl⟩ (Nat.le_of_ble_eq_true rfl) (Nat.le_of_ble_eq_true rfl) rfl (fun v9 T9 z9 _ => ?_) (fun _ _ h9 => h9.elim)
            obtain ⟨rfl, rfl⟩ := z9
            show am_W _ _ _ _ _ _ _ _ _ _ _ _ _ _ _ 43 [some (.ref a), some (.int (nI x)), some (.int (nI y)), some (.int rc), some (.int rg), some (.int (nI i)), some (.int ((J x) &&& rg))] [.int (low (J x &&& rg))] S 0 0
            exact am_iret (I := iX2_nextRoom) (pc := 43) dX2_nextRoom_43 rfl (Nat.le_refl _) (Nat.le_refl _) (⟨by rw [← hv, show 24 - i = (23 - i) + 1 by omega, nr, if_neg c19, if_neg c35], rfl⟩)
  exact am_same rfl (by rw [nI_0]) rfl rfl rfl rfl (loop10 _ 0 0 (pw y) (Nat.lt_succ_self _) (Nat.zero_le _) rfl)
