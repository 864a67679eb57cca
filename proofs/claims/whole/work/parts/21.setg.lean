abbrev sgd (x1 x2 x3 x4 x5 x6 : Nat) : Prop := x1 ≠ x2 ∧ x1 ≠ x3 ∧ x1 ≠ x4 ∧ x1 ≠ x5 ∧ x1 ≠ x6 ∧ x2 ≠ x3 ∧ x2 ≠ x4 ∧ x2 ≠ x5 ∧ x2 ≠ x6 ∧ x3 ≠ x4 ∧ x3 ≠ x5 ∧ x3 ≠ x6 ∧ x4 ≠ x5 ∧ x4 ≠ x6 ∧ x5 ≠ x6
abbrev sga (a x1 x2 x3 x4 x5 x6 : Nat) : Prop := x1 ≠ a ∧ x2 ≠ a ∧ x3 ≠ a ∧ x4 ≠ a ∧ x5 ≠ a ∧ x6 ≠ a
/-- SETTING: cell a of class 4, its six arrays of 40 -/
abbrev sg (h : Nat → am_C) (a x1 x2 x3 x4 x5 x6 : Nat) (B E LF NF LB LS : Nat → Int32) (W ln : Nat) (sm : Int32) : Prop := h a = .inr (4, [.ref x1, .ref x2, .int (nI W), .ref x3, .ref x4, .ref x5, .ref x6, .int (nI ln), .int sm]) ∧ h x1 = .inl (0, 40, .inl B) ∧ h x2 = .inl (0, 40, .inl E) ∧ h x3 = .inl (0, 40, .inl LF) ∧ h x4 = .inl (0, 40, .inl NF) ∧ h x5 = .inl (0, 40, .inl LB) ∧ h x6 = .inl (0, 40, .inl LS)
def sgS (S : am_S) (a x1 x2 x3 x4 x5 x6 : Nat) (B E LF NF LB LS : Nat → Int32) (W ln : Nat) (sm : Int32) : am_S := (fun z => if z = a then .inr (4, [.ref x1, .ref x2, .int (nI W), .ref x3, .ref x4, .ref x5, .ref x6, .int (nI ln), .int sm]) else if z = x1 then .inl (0, 40, .inl B) else if z = x2 then .inl (0, 40, .inl E) else if z = x3 then .inl (0, 40, .inl LF) else if z = x4 then .inl (0, 40, .inl NF) else if z = x5 then .inl (0, 40, .inl LB) else if z = x6 then .inl (0, 40, .inl LS) else S.1 z, S.2)
theorem sg_a {h : Nat → am_C} {a x1 x2 x3 x4 x5 x6 : Nat} {B E LF NF LB LS : Nat → Int32} {W ln : Nat} {sm : Int32} (hs : sg h a x1 x2 x3 x4 x5 x6 B E LF NF LB LS W ln sm) : sga a x1 x2 x3 x4 x5 x6 := by
  obtain ⟨h0, h1, h2, h3, h4, h5, h6⟩ := hs
  exact ⟨am_ne h1 h0 (fun e => by cases e), am_ne h2 h0 (fun e => by cases e), am_ne h3 h0 (fun e => by cases e), am_ne h4 h0 (fun e => by cases e), am_ne h5 h0 (fun e => by cases e), am_ne h6 h0 (fun e => by cases e)⟩
section SGS
variable {S : am_S} {a x1 x2 x3 x4 x5 x6 : Nat} {B E LF NF LB LS : Nat → Int32} {W ln : Nat} {sm : Int32}
theorem sgS_id (hs : sg S.1 a x1 x2 x3 x4 x5 x6 B E LF NF LB LS W ln sm) : S = sgS S a x1 x2 x3 x4 x5 x6 B E LF NF LB LS W ln sm := by
  obtain ⟨h0, h1, h2, h3, h4, h5, h6⟩ := hs
  refine Prod.ext ?_ rfl
  funext z
  show S.1 z = ite _ _ _
  by_cases e0 : z = a
  · rw [if_pos e0, e0, h0]
  · rw [if_neg e0]
    by_cases e1 : z = x1
    · rw [if_pos e1, e1, h1]
    · rw [if_neg e1]
      by_cases e2 : z = x2
      · rw [if_pos e2, e2, h2]
      · rw [if_neg e2]
        by_cases e3 : z = x3
        · rw [if_pos e3, e3, h3]
        · rw [if_neg e3]
          by_cases e4 : z = x4
          · rw [if_pos e4, e4, h4]
          · rw [if_neg e4]
            by_cases e5 : z = x5
            · rw [if_pos e5, e5, h5]
            · rw [if_neg e5]
              by_cases e6 : z = x6
              · rw [if_pos e6, e6, h6]
              · rw [if_neg e6]
theorem sgS_sg (hd : sgd x1 x2 x3 x4 x5 x6) (ha : sga a x1 x2 x3 x4 x5 x6) : sg (sgS S a x1 x2 x3 x4 x5 x6 B E LF NF LB LS W ln sm).1 a x1 x2 x3 x4 x5 x6 B E LF NF LB LS W ln sm := by
  obtain ⟨a1, a2, a3, a4, a5, a6⟩ := ha
  obtain ⟨d12, d13, d14, d15, d16, d23, d24, d25, d26, d34, d35, d36, d45, d46, d56⟩ := hd
  refine ⟨if_pos rfl, (if_neg a1).trans (if_pos rfl), (if_neg a2).trans ((if_neg d12.symm).trans (if_pos rfl)), (if_neg a3).trans ((if_neg d13.symm).trans ((if_neg d23.symm).trans (if_pos rfl))), (if_neg a4).trans ((if_neg d14.symm).trans ((if_neg d24.symm).trans ((if_neg d34.symm).trans (if_pos rfl)))), (if_neg a5).trans ((if_neg d15.symm).trans ((if_neg d25.symm).trans ((if_neg d35.symm).trans ((if_neg d45.symm).trans (if_pos rfl))))), (if_neg a6).trans ((if_neg d16.symm).trans ((if_neg d26.symm).trans ((if_neg d36.symm).trans ((if_neg d46.symm).trans ((if_neg d56.symm).trans (if_pos rfl))))))⟩
theorem sgS_at {z : Nat} (h0 : z ≠ a) (h1 : z ≠ x1) (h2 : z ≠ x2) (h3 : z ≠ x3) (h4 : z ≠ x4) (h5 : z ≠ x5) (h6 : z ≠ x6) : (sgS S a x1 x2 x3 x4 x5 x6 B E LF NF LB LS W ln sm).1 z = S.1 z := (if_neg h0).trans ((if_neg h1).trans ((if_neg h2).trans ((if_neg h3).trans ((if_neg h4).trans ((if_neg h5).trans (if_neg h6))))))
theorem sgS_a {W' ln' : Nat} {sm' : Int32} : ((am_up (sgS S a x1 x2 x3 x4 x5 x6 B E LF NF LB LS W ln sm).1 a (.inr (4, [.ref x1, .ref x2, .int (nI W'), .ref x3, .ref x4, .ref x5, .ref x6, .int (nI ln'), .int sm'])), (sgS S a x1 x2 x3 x4 x5 x6 B E LF NF LB LS W ln sm).2) : am_S) = sgS S a x1 x2 x3 x4 x5 x6 B E LF NF LB LS W' ln' sm' := by
  refine Prod.ext ?_ rfl
  funext z
  show am_up _ _ _ z = ite _ _ _
  by_cases e0 : z = a
  · rw [if_pos e0, e0, am_up_s]
  · rw [if_neg e0, am_up_n e0]; exact if_neg e0
theorem sgS_1 {G : Nat → Int32} (hd : sgd x1 x2 x3 x4 x5 x6) (ha : sga a x1 x2 x3 x4 x5 x6) : ((am_up (sgS S a x1 x2 x3 x4 x5 x6 B E LF NF LB LS W ln sm).1 x1 (.inl (0, 40, .inl G)), (sgS S a x1 x2 x3 x4 x5 x6 B E LF NF LB LS W ln sm).2) : am_S) = sgS S a x1 x2 x3 x4 x5 x6 G E LF NF LB LS W ln sm := by
  refine Prod.ext ?_ rfl
  funext z
  by_cases e : z = x1
  · rw [e]
    exact am_up_s.trans ((sgS_sg (S := S) (B := G) (E := E) (LF := LF) (NF := NF) (LB := LB) (LS := LS) (W := W) (ln := ln) (sm := sm) hd ha).2.1).symm
  · refine (am_up_n e).trans ?_
    show ite _ _ _ = ite _ _ _

    by_cases e0 : z = a
    · rw [if_pos e0, if_pos e0]
    · rw [if_neg e0, if_neg e0]
      rw [if_neg e, if_neg e]
theorem sgS_2 {G : Nat → Int32} (hd : sgd x1 x2 x3 x4 x5 x6) (ha : sga a x1 x2 x3 x4 x5 x6) : ((am_up (sgS S a x1 x2 x3 x4 x5 x6 B E LF NF LB LS W ln sm).1 x2 (.inl (0, 40, .inl G)), (sgS S a x1 x2 x3 x4 x5 x6 B E LF NF LB LS W ln sm).2) : am_S) = sgS S a x1 x2 x3 x4 x5 x6 B G LF NF LB LS W ln sm := by
  refine Prod.ext ?_ rfl
  funext z
  by_cases e : z = x2
  · rw [e]
    exact am_up_s.trans ((sgS_sg (S := S) (B := B) (E := G) (LF := LF) (NF := NF) (LB := LB) (LS := LS) (W := W) (ln := ln) (sm := sm) hd ha).2.2.1).symm
  · refine (am_up_n e).trans ?_
    show ite _ _ _ = ite _ _ _

    by_cases e0 : z = a
    · rw [if_pos e0, if_pos e0]
    · rw [if_neg e0, if_neg e0]
      by_cases e1 : z = x1
      · rw [if_pos e1, if_pos e1]
      · rw [if_neg e1, if_neg e1]
        rw [if_neg e, if_neg e]
theorem sgS_3 {G : Nat → Int32} (hd : sgd x1 x2 x3 x4 x5 x6) (ha : sga a x1 x2 x3 x4 x5 x6) : ((am_up (sgS S a x1 x2 x3 x4 x5 x6 B E LF NF LB LS W ln sm).1 x3 (.inl (0, 40, .inl G)), (sgS S a x1 x2 x3 x4 x5 x6 B E LF NF LB LS W ln sm).2) : am_S) = sgS S a x1 x2 x3 x4 x5 x6 B E G NF LB LS W ln sm := by
  refine Prod.ext ?_ rfl
  funext z
  by_cases e : z = x3
  · rw [e]
    exact am_up_s.trans ((sgS_sg (S := S) (B := B) (E := E) (LF := G) (NF := NF) (LB := LB) (LS := LS) (W := W) (ln := ln) (sm := sm) hd ha).2.2.2.1).symm
  · refine (am_up_n e).trans ?_
    show ite _ _ _ = ite _ _ _

    by_cases e0 : z = a
    · rw [if_pos e0, if_pos e0]
    · rw [if_neg e0, if_neg e0]
      by_cases e1 : z = x1
      · rw [if_pos e1, if_pos e1]
      · rw [if_neg e1, if_neg e1]
        by_cases e2 : z = x2
        · rw [if_pos e2, if_pos e2]
        · rw [if_neg e2, if_neg e2]
          rw [if_neg e, if_neg e]
theorem sgS_4 {G : Nat → Int32} (hd : sgd x1 x2 x3 x4 x5 x6) (ha : sga a x1 x2 x3 x4 x5 x6) : ((am_up (sgS S a x1 x2 x3 x4 x5 x6 B E LF NF LB LS W ln sm).1 x4 (.inl (0, 40, .inl G)), (sgS S a x1 x2 x3 x4 x5 x6 B E LF NF LB LS W ln sm).2) : am_S) = sgS S a x1 x2 x3 x4 x5 x6 B E LF G LB LS W ln sm := by
  refine Prod.ext ?_ rfl
  funext z
  by_cases e : z = x4
  · rw [e]
    exact am_up_s.trans ((sgS_sg (S := S) (B := B) (E := E) (LF := LF) (NF := G) (LB := LB) (LS := LS) (W := W) (ln := ln) (sm := sm) hd ha).2.2.2.2.1).symm
  · refine (am_up_n e).trans ?_
    show ite _ _ _ = ite _ _ _

    by_cases e0 : z = a
    · rw [if_pos e0, if_pos e0]
    · rw [if_neg e0, if_neg e0]
      by_cases e1 : z = x1
      · rw [if_pos e1, if_pos e1]
      · rw [if_neg e1, if_neg e1]
        by_cases e2 : z = x2
        · rw [if_pos e2, if_pos e2]
        · rw [if_neg e2, if_neg e2]
          by_cases e3 : z = x3
          · rw [if_pos e3, if_pos e3]
          · rw [if_neg e3, if_neg e3]
            rw [if_neg e, if_neg e]
theorem sgS_5 {G : Nat → Int32} (hd : sgd x1 x2 x3 x4 x5 x6) (ha : sga a x1 x2 x3 x4 x5 x6) : ((am_up (sgS S a x1 x2 x3 x4 x5 x6 B E LF NF LB LS W ln sm).1 x5 (.inl (0, 40, .inl G)), (sgS S a x1 x2 x3 x4 x5 x6 B E LF NF LB LS W ln sm).2) : am_S) = sgS S a x1 x2 x3 x4 x5 x6 B E LF NF G LS W ln sm := by
  refine Prod.ext ?_ rfl
  funext z
  by_cases e : z = x5
  · rw [e]
    exact am_up_s.trans ((sgS_sg (S := S) (B := B) (E := E) (LF := LF) (NF := NF) (LB := G) (LS := LS) (W := W) (ln := ln) (sm := sm) hd ha).2.2.2.2.2.1).symm
  · refine (am_up_n e).trans ?_
    show ite _ _ _ = ite _ _ _

    by_cases e0 : z = a
    · rw [if_pos e0, if_pos e0]
    · rw [if_neg e0, if_neg e0]
      by_cases e1 : z = x1
      · rw [if_pos e1, if_pos e1]
      · rw [if_neg e1, if_neg e1]
        by_cases e2 : z = x2
        · rw [if_pos e2, if_pos e2]
        · rw [if_neg e2, if_neg e2]
          by_cases e3 : z = x3
          · rw [if_pos e3, if_pos e3]
          · rw [if_neg e3, if_neg e3]
            by_cases e4 : z = x4
            · rw [if_pos e4, if_pos e4]
            · rw [if_neg e4, if_neg e4]
              rw [if_neg e, if_neg e]
theorem sgS_6 {G : Nat → Int32} (hd : sgd x1 x2 x3 x4 x5 x6) (ha : sga a x1 x2 x3 x4 x5 x6) : ((am_up (sgS S a x1 x2 x3 x4 x5 x6 B E LF NF LB LS W ln sm).1 x6 (.inl (0, 40, .inl G)), (sgS S a x1 x2 x3 x4 x5 x6 B E LF NF LB LS W ln sm).2) : am_S) = sgS S a x1 x2 x3 x4 x5 x6 B E LF NF LB G W ln sm := by
  refine Prod.ext ?_ rfl
  funext z
  by_cases e : z = x6
  · rw [e]
    exact am_up_s.trans ((sgS_sg (S := S) (B := B) (E := E) (LF := LF) (NF := NF) (LB := LB) (LS := G) (W := W) (ln := ln) (sm := sm) hd ha).2.2.2.2.2.2).symm
  · refine (am_up_n e).trans ?_
    show ite _ _ _ = ite _ _ _

    by_cases e0 : z = a
    · rw [if_pos e0, if_pos e0]
    · rw [if_neg e0, if_neg e0]
      by_cases e1 : z = x1
      · rw [if_pos e1, if_pos e1]
      · rw [if_neg e1, if_neg e1]
        by_cases e2 : z = x2
        · rw [if_pos e2, if_pos e2]
        · rw [if_neg e2, if_neg e2]
          by_cases e3 : z = x3
          · rw [if_pos e3, if_pos e3]
          · rw [if_neg e3, if_neg e3]
            by_cases e4 : z = x4
            · rw [if_pos e4, if_pos e4]
            · rw [if_neg e4, if_neg e4]
              by_cases e5 : z = x5
              · rw [if_pos e5, if_pos e5]
              · rw [if_neg e5, if_neg e5]
                rw [if_neg e, if_neg e]
end SGS
set_option maxRecDepth 100000 in
set_option maxHeartbeats 4000000 in
theorem m_Set_lineCount (K : am_K) (l : Launch) (S : am_S) (a x1 x2 x3 x4 x5 x6 : Nat) (B E LF NF LB LS : Nat → Int32) (W ln : Nat) (sm : Int32) (hs : sg S.1 a x1 x2 x3 x4 x5 x6 B E LF NF LB LS W ln sm) : am_M K l iX4_lineCount 0 0 0 [.ref a] S (fun v S' => v = some (.int (nI ln)) ∧ S = S') (fun _ _ => False) := by
  refine am_body (by decide) rfl (by simp [Value.category]) (Nat.le_of_ble_eq_true rfl) (fun xp xe xs xm xa xb xt xc ad0 => ?_)
  show am_W _ _ _ _ _ _ _ _ _ _ _ _ _ _ _ 0 [some (.ref a)] [] S 0 0
  refine am_aload_n (I := iX4_lineCount) (pc := 0) dX4_lineCount_0 rfl rfl ?_
  refine am_getf (I := iX4_lineCount) (pc := 1) lf_X4_34 dX4_lineCount_1 hs.1 rfl ?_
  exact am_iret (I := iX4_lineCount) (pc := 4) dX4_lineCount_4 rfl (Nat.le_refl _) (Nat.le_refl _) (⟨rfl, rfl⟩)
set_option maxRecDepth 100000 in
set_option maxHeartbeats 4000000 in
theorem m_Set_sum (K : am_K) (l : Launch) (S : am_S) (a x1 x2 x3 x4 x5 x6 : Nat) (B E LF NF LB LS : Nat → Int32) (W ln : Nat) (sm : Int32) (hs : sg S.1 a x1 x2 x3 x4 x5 x6 B E LF NF LB LS W ln sm) : am_M K l iX4_sumOfSquares 0 0 0 [.ref a] S (fun v S' => v = some (.int sm) ∧ S = S') (fun _ _ => False) := by
  refine am_body (by decide) rfl (by simp [Value.category]) (Nat.le_of_ble_eq_true rfl) (fun xp xe xs xm xa xb xt xc ad0 => ?_)
  show am_W _ _ _ _ _ _ _ _ _ _ _ _ _ _ _ 0 [some (.ref a)] [] S 0 0
  refine am_aload_n (I := iX4_sumOfSquares) (pc := 0) dX4_sumOfSquares_0 rfl rfl ?_
  refine am_getf (I := iX4_sumOfSquares) (pc := 1) lf_X4_37 dX4_sumOfSquares_1 hs.1 rfl ?_
  exact am_iret (I := iX4_sumOfSquares) (pc := 4) dX4_sumOfSquares_4 rfl (Nat.le_refl _) (Nat.le_refl _) (⟨rfl, rfl⟩)
set_option maxRecDepth 100000 in
set_option maxHeartbeats 4000000 in
theorem m_Set_begin (K : am_K) (l : Launch) (S : am_S) (a x1 x2 x3 x4 x5 x6 : Nat) (B E LF NF LB LS : Nat → Int32) (W ln : Nat) (sm : Int32) (k : Nat) (hs : sg S.1 a x1 x2 x3 x4 x5 x6 B E LF NF LB LS W ln sm) (hk : k < ln) (hl : ln ≤ 40) : am_M K l iX4_beginOf 0 0 0 [.ref a, .int (nI k)] S (fun v S' => v = some (.int (LB k)) ∧ S = S') (fun _ _ => False) := by
  refine am_body (by decide) rfl (by simp [Value.category]) (Nat.le_of_ble_eq_true rfl) (fun xp xe xs xm xa xb xt xc ad0 => ?_)
  show am_W _ _ _ _ _ _ _ _ _ _ _ _ _ _ _ 0 [some (.ref a), some (.int (nI k))] [] S 0 0
  refine am_iload_n (I := iX4_beginOf) (pc := 0) dX4_beginOf_0 rfl rfl ?_
  refine am_if_lt (I := iX4_beginOf) (pc := 1) (tgt := 21) dX4_beginOf_1 (by decide) (fun c1 => ?_) (fun c1 => ?_)
  · exact absurd c1 (nI_pos (by omega))
  · refine am_iload_n (I := iX4_beginOf) (pc := 4) dX4_beginOf_4 rfl rfl ?_
    refine am_aload_n (I := iX4_beginOf) (pc := 5) dX4_beginOf_5 rfl rfl ?_
    refine am_getf (I := iX4_beginOf) (pc := 6) lf_X4_34 dX4_beginOf_6 hs.1 rfl ?_
    refine am_icmp_ge (I := iX4_beginOf) (pc := 9) (tgt := 21) dX4_beginOf_9 (by decide) (fun c9 => ?_) (fun c9 => ?_)
    · exact absurd c9 (nI_ge hk (by omega))
    · refine am_aload_n (I := iX4_beginOf) (pc := 12) dX4_beginOf_12 rfl rfl ?_
      refine am_getf (I := iX4_beginOf) (pc := 13) lf_X4_28 dX4_beginOf_13 hs.1 rfl ?_
      refine am_iload_n (I := iX4_beginOf) (pc := 16) dX4_beginOf_16 rfl rfl ?_
      refine am_iaload (I := iX4_beginOf) (pc := 17) dX4_beginOf_17 hs.2.2.2.2.2.1 rfl (vp_in_nI (show k < 40 by omega) (by decide)) ?_
      rw [nI_clamp (show k < 2 ^ 31 by omega)]
      refine am_goto (I := iX4_beginOf) (pc := 18) (tgt := 22) dX4_beginOf_18 (by decide) ?_
      exact am_iret (I := iX4_beginOf) (pc := 22) dX4_beginOf_22 rfl (Nat.le_refl _) (Nat.le_refl _) (⟨rfl, rfl⟩)
set_option maxRecDepth 100000 in
set_option maxHeartbeats 4000000 in
theorem m_Set_signs (K : am_K) (l : Launch) (S : am_S) (a x1 x2 x3 x4 x5 x6 : Nat) (B E LF NF LB LS : Nat → Int32) (W ln : Nat) (sm : Int32) (k : Nat) (hs : sg S.1 a x1 x2 x3 x4 x5 x6 B E LF NF LB LS W ln sm) (hk : k < ln) (hl : ln ≤ 40) : am_M K l iX4_signsOf 0 0 0 [.ref a, .int (nI k)] S (fun v S' => v = some (.int (LS k)) ∧ S = S') (fun _ _ => False) := by
  refine am_body (by decide) rfl (by simp [Value.category]) (Nat.le_of_ble_eq_true rfl) (fun xp xe xs xm xa xb xt xc ad0 => ?_)
  show am_W _ _ _ _ _ _ _ _ _ _ _ _ _ _ _ 0 [some (.ref a), some (.int (nI k))] [] S 0 0
  refine am_iload_n (I := iX4_signsOf) (pc := 0) dX4_signsOf_0 rfl rfl ?_
  refine am_if_lt (I := iX4_signsOf) (pc := 1) (tgt := 21) dX4_signsOf_1 (by decide) (fun c1 => ?_) (fun c1 => ?_)
  · exact absurd c1 (nI_pos (by omega))
  · refine am_iload_n (I := iX4_signsOf) (pc := 4) dX4_signsOf_4 rfl rfl ?_
    refine am_aload_n (I := iX4_signsOf) (pc := 5) dX4_signsOf_5 rfl rfl ?_
    refine am_getf (I := iX4_signsOf) (pc := 6) lf_X4_34 dX4_signsOf_6 hs.1 rfl ?_
    refine am_icmp_ge (I := iX4_signsOf) (pc := 9) (tgt := 21) dX4_signsOf_9 (by decide) (fun c9 => ?_) (fun c9 => ?_)
    · exact absurd c9 (nI_ge hk (by omega))
    · refine am_aload_n (I := iX4_signsOf) (pc := 12) dX4_signsOf_12 rfl rfl ?_
      refine am_getf (I := iX4_signsOf) (pc := 13) lf_X4_31 dX4_signsOf_13 hs.1 rfl ?_
      refine am_iload_n (I := iX4_signsOf) (pc := 16) dX4_signsOf_16 rfl rfl ?_
      refine am_iaload (I := iX4_signsOf) (pc := 17) dX4_signsOf_17 hs.2.2.2.2.2.2 rfl (vp_in_nI (show k < 40 by omega) (by decide)) ?_
      rw [nI_clamp (show k < 2 ^ 31 by omega)]
      refine am_goto (I := iX4_signsOf) (pc := 18) (tgt := 22) dX4_signsOf_18 (by decide) ?_
      exact am_iret (I := iX4_signsOf) (pc := 22) dX4_signsOf_22 rfl (Nat.le_refl _) (Nat.le_refl _) (⟨rfl, rfl⟩)
set_option maxRecDepth 100000 in
set_option maxHeartbeats 4000000 in
theorem m_Set_addWord (K : am_K) (l : Launch) (S : am_S) (a x1 x2 x3 x4 x5 x6 : Nat) (B E LF NF LB LS : Nat → Int32) (W ln : Nat) (sm : Int32) (b e : Int32) (hs : sg S.1 a x1 x2 x3 x4 x5 x6 B E LF NF LB LS W ln sm) (hd : sgd x1 x2 x3 x4 x5 x6) (hW : W < 40) : am_M K l iX4_addWord 0 0 0 [.ref a, .int b, .int e] S (fun v S' => v = none ∧ sgS S a x1 x2 x3 x4 x5 x6 (upd B W b) (upd E W e) LF NF LB LS (W + 1) ln sm = S') (fun _ _ => False) := by
  refine am_body (by decide) rfl (by simp [Value.category]) (Nat.le_of_ble_eq_true rfl) (fun xp xe xs xm xa xb xt xc ad0 => ?_)
  show am_W _ _ _ _ _ _ _ _ _ _ _ _ _ _ _ 0 [some (.ref a), some (.int b), some (.int e)] [] S 0 0
  have ha := sg_a hs
  refine am_same (S' := sgS S a x1 x2 x3 x4 x5 x6 B E LF NF LB LS W ln sm) rfl rfl rfl (sgS_id hs) rfl rfl ?_
  refine am_aload_n (I := iX4_addWord) (pc := 0) dX4_addWord_0 rfl rfl ?_
  refine am_getf (I := iX4_addWord) (pc := 1) lf_X4_18 dX4_addWord_1 (sgS_sg hd ha).1 rfl ?_
  refine am_bipush (I := iX4_addWord) (pc := 4) (x := 40) dX4_addWord_4 (by decide) ?_
  refine am_icmp_ge (I := iX4_addWord) (pc := 6) (tgt := 39) dX4_addWord_6 (by decide) (fun c6 => ?_) (fun c6 => ?_)
  · exact absurd c6 (nI_ge (b := 40) hW (by decide))
  · refine am_aload_n (I := iX4_addWord) (pc := 9) dX4_addWord_9 rfl rfl ?_
    refine am_getf (I := iX4_addWord) (pc := 10) lf_X4_9 dX4_addWord_10 (sgS_sg hd ha).1 rfl ?_
    refine am_aload_n (I := iX4_addWord) (pc := 13) dX4_addWord_13 rfl rfl ?_
    refine am_getf (I := iX4_addWord) (pc := 14) lf_X4_18 dX4_addWord_14 (sgS_sg hd ha).1 rfl ?_
    refine am_iload_n (I := iX4_addWord) (pc := 17) dX4_addWord_17 rfl rfl ?_
    refine am_iastore (I := iX4_addWord) (pc := 18) dX4_addWord_18 (sgS_sg hd ha).2.1 rfl (vp_in_nI hW (by decide)) ?_
    refine am_same (S' := sgS S a x1 x2 x3 x4 x5 x6 (upd B (nI W).toNatClampNeg b) E LF NF LB LS W ln sm) rfl rfl rfl (sgS_1 hd ha) rfl rfl ?_
    refine am_aload_n (I := iX4_addWord) (pc := 19) dX4_addWord_19 rfl rfl ?_
    refine am_getf (I := iX4_addWord) (pc := 20) lf_X4_15 dX4_addWord_20 (sgS_sg hd ha).1 rfl ?_
    refine am_aload_n (I := iX4_addWord) (pc := 23) dX4_addWord_23 rfl rfl ?_
    refine am_getf (I := iX4_addWord) (pc := 24) lf_X4_18 dX4_addWord_24 (sgS_sg hd ha).1 rfl ?_
    refine am_iload_n (I := iX4_addWord) (pc := 27) dX4_addWord_27 rfl rfl ?_
    refine am_iastore (I := iX4_addWord) (pc := 28) dX4_addWord_28 (sgS_sg hd ha).2.2.1 rfl (vp_in_nI hW (by decide)) ?_
    refine am_same (S' := sgS S a x1 x2 x3 x4 x5 x6 (upd B (nI W).toNatClampNeg b) (upd E (nI W).toNatClampNeg e) LF NF LB LS W ln sm) rfl rfl rfl (sgS_2 hd ha) rfl rfl ?_
    refine am_aload_n (I := iX4_addWord) (pc := 29) dX4_addWord_29 rfl rfl ?_
    refine am_dup (I := iX4_addWord) (pc := 30) dX4_addWord_30 rfl ?_
    refine am_getf (I := iX4_addWord) (pc := 31) lf_X4_18 dX4_addWord_31 (sgS_sg hd ha).1 rfl ?_
    refine am_iconst (I := iX4_addWord) (pc := 34) (x := 1) dX4_addWord_34 (by decide) ?_
    refine am_iadd (I := iX4_addWord) (pc := 35) dX4_addWord_35 ?_
    rw [nI_1]
    refine am_putf (I := iX4_addWord) (pc := 36) (fs' := [.ref x1, .ref x2, .int (nI (W + 1)), .ref x3, .ref x4, .ref x5, .ref x6, .int (nI ln), .int sm]) lf_X4_18 dX4_addWord_36 (sgS_sg hd ha).1 (fun _ => ⟨rfl, rfl⟩) (Nat.le_of_ble_eq_true rfl) rfl ?_
    refine am_same (S' := sgS S a x1 x2 x3 x4 x5 x6 (upd B (nI W).toNatClampNeg b) (upd E (nI W).toNatClampNeg e) LF NF LB LS (W + 1) ln sm) rfl rfl rfl sgS_a rfl rfl ?_
    exact am_vret (I := iX4_addWord) (pc := 39) dX4_addWord_39 rfl (Nat.le_refl _) (Nat.le_refl _) (⟨rfl, by rw [nI_clamp (show W < 2 ^ 31 by omega)]⟩)
def lww (B E : Nat → Int32) : Nat → Int32
  | 0 => 0
  | k + 1 => if lww B E k < E k - B k then E k - B k else lww B E k
set_option maxRecDepth 100000 in
set_option maxHeartbeats 4000000 in
theorem m_Set_longest (K : am_K) (l : Launch) (S : am_S) (a x1 x2 x3 x4 x5 x6 : Nat) (B E LF NF LB LS : Nat → Int32) (W ln : Nat) (sm : Int32) (hs : sg S.1 a x1 x2 x3 x4 x5 x6 B E LF NF LB LS W ln sm) (hW : W ≤ 40) : am_M K l iX4_longestWord 1 0 0 [.ref a] S (fun v S' => v = some (.int (lww B E W)) ∧ S = S') (fun _ _ => False) := by
  refine am_body (by decide) rfl (by simp [Value.category]) (Nat.le_of_ble_eq_true rfl) (fun xp xe xs xm xa xb xt xc ad0 => ?_)
  show am_W _ _ _ _ _ _ _ _ _ _ _ _ _ _ _ 0 [some (.ref a), none, none] [] S 0 0
  refine am_iconst (I := iX4_longestWord) (pc := 0) (x := 0) dX4_longestWord_0 (by decide) ?_
  refine am_istore_n (I := iX4_longestWord) (pc := 1) (L' := [some (.ref a), some (.int 0), none]) dX4_longestWord_1 rfl (by decide) rfl ?_
  refine am_iconst (I := iX4_longestWord) (pc := 2) (x := 0) dX4_longestWord_2 (by decide) ?_
  refine am_istore_n (I := iX4_longestWord) (pc := 3) (L' := [some (.ref a), some (.int 0), some (.int 0)]) dX4_longestWord_3 rfl (by decide) rfl ?_
  have loop4 : ∀ (k4 : Nat) (i : Nat), W - i < k4 → (i ≤ W) → am_W K iX4_longestWord xp l xe (am_room 1 0 0) xs xm xa xb xt xc S ad0 (am_E K ad0 S (fun v S' => v = some (.int (lww B E W)) ∧ S = S') (fun _ _ => False) xb xa xs 0 0) 4 [some (.ref a), some (.int (lww B E i)), some (.int (nI i))] [] S 0 0 := by
    intro k4
    induction k4 with
    | zero => intro i h9; exact absurd h9 (Nat.not_lt_zero _)
    | succ k4 ih4 =>
      intro i hm4 hi
      refine am_iload_n (I := iX4_longestWord) (pc := 4) dX4_longestWord_4 rfl rfl ?_
      refine am_aload_n (I := iX4_longestWord) (pc := 5) dX4_longestWord_5 rfl rfl ?_
      refine am_getf (I := iX4_longestWord) (pc := 6) lf_X4_18 dX4_longestWord_6 hs.1 rfl ?_
      refine am_icmp_ge (I := iX4_longestWord) (pc := 9) (tgt := 36) dX4_longestWord_9 (by decide) (fun c9 => ?_) (fun c9 => ?_)
      · have g9 : W ≤ i := by
          rcases Nat.lt_or_ge i W with q9 | q9
          · exact absurd c9 (nI_ge (a := i) (b := W) q9 (by omega))
          · exact q9
        refine am_iload_n (I := iX4_longestWord) (pc := 36) dX4_longestWord_36 rfl rfl ?_
        exact am_iret (I := iX4_longestWord) (pc := 37) dX4_longestWord_37 rfl (Nat.le_refl _) (Nat.le_refl _) (⟨by rw [show i = W by omega], rfl⟩)
      · have l9 : i < W := by
          rcases Nat.lt_or_ge i W with q9 | q9
          · exact q9
          · exact absurd (nI_le (a := W) (b := i) q9 (by omega)) c9
        refine am_iload_n (I := iX4_longestWord) (pc := 12) dX4_longestWord_12 rfl rfl ?_
        refine am_aload_n (I := iX4_longestWord) (pc := 13) dX4_longestWord_13 rfl rfl ?_
        refine am_getf (I := iX4_longestWord) (pc := 14) lf_X4_15 dX4_longestWord_14 hs.1 rfl ?_
        refine am_iload_n (I := iX4_longestWord) (pc := 17) dX4_longestWord_17 rfl rfl ?_
        refine am_iaload (I := iX4_longestWord) (pc := 18) dX4_longestWord_18 hs.2.2.1 rfl (vp_in_nI (show i < 40 by omega) (by decide)) ?_
        rw [nI_clamp (show i < 2 ^ 31 by omega)]
        refine am_aload_n (I := iX4_longestWord) (pc := 19) dX4_longestWord_19 rfl rfl ?_
        refine am_getf (I := iX4_longestWord) (pc := 20) lf_X4_9 dX4_longestWord_20 hs.1 rfl ?_
        refine am_iload_n (I := iX4_longestWord) (pc := 23) dX4_longestWord_23 rfl rfl ?_
        refine am_iaload (I := iX4_longestWord) (pc := 24) dX4_longestWord_24 hs.2.1 rfl (vp_in_nI (show i < 40 by omega) (by decide)) ?_
        rw [nI_clamp (show i < 2 ^ 31 by omega)]
        refine am_isub (I := iX4_longestWord) (pc := 25) dX4_longestWord_25 ?_
        refine am_mmax (I := iX4_longestWord) (pc := 26) dX4_longestWord_26 lo_X4_68 lm_s lm_i lm_c (Nat.le_of_ble_eq_true rfl) (Nat.le_of_ble_eq_true rfl) (Nat.zero_le _) (Nat.zero_le _) ?_
        refine am_istore_n (I := iX4_longestWord) (pc := 29) (L' := [some (.ref a), some (.int (if (lww B E i) < ((E i) - (B i)) then ((E i) - (B i)) else (lww B E i))), some (.int (nI i))]) dX4_longestWord_29 rfl (by decide) rfl ?_
        refine am_iinc (I := iX4_longestWord) (pc := 30) (y := ((nI i) + 1)) (L' := [some (.ref a), some (.int (if (lww B E i) < ((E i) - (B i)) then ((E i) - (B i)) else (lww B E i))), some (.int ((nI i) + 1))]) dX4_longestWord_30 rfl rfl rfl ?_
        refine am_goto (I := iX4_longestWord) (pc := 33) (tgt := 4) dX4_longestWord_33 (by decide) ?_
        exact am_same rfl (by rw [nI_1]; rfl) rfl rfl rfl rfl (ih4 (i + 1) (by omega) (by omega))
  exact am_same rfl (by rfl) rfl rfl rfl rfl (loop4 _ 0 (Nat.lt_succ_self _) (Nat.zero_le _))
def sep (g : Nat → Int32) (m i : Nat) : Bool := decide (i = m) || decide (g i = 32)
def wbg (g : Nat → Int32) (m : Nat) : Nat → Nat
  | 0 => 0
  | i + 1 => if sep g m i then i + 1 else wbg g m i
def wB (g : Nat → Int32) (m : Nat) (B : Nat → Int32) : Nat → Nat → Int32
  | 0 => B
  | i + 1 => if sep g m i then upd (wB g m B i) (cnt (sep g m) i) (nI (wbg g m i)) else wB g m B i
def wE (g : Nat → Int32) (m : Nat) (E : Nat → Int32) : Nat → Nat → Int32
  | 0 => E
  | i + 1 => if sep g m i then upd (wE g m E i) (cnt (sep g m) i) (nI i) else wE g m E i
theorem cnt_mono {p : Nat → Bool} {i : Nat} : ∀ {j}, i ≤ j → cnt p i ≤ cnt p j
  | 0, h => by rw [show i = 0 by omega]; exact Nat.le_refl _
  | j + 1, h => by
    rcases Nat.lt_or_ge i (j + 1) with q | q
    · refine Nat.le_trans (cnt_mono (show i ≤ j by omega)) ?_
      show cnt p j ≤ if p j then cnt p j + 1 else cnt p j
      split
      · exact Nat.le_succ _
      · exact Nat.le_refl _
    · rw [show i = j + 1 by omega]; exact Nat.le_refl _
theorem sgS_sgS {S : am_S} {a x1 x2 x3 x4 x5 x6 : Nat} {B E LF NF LB LS : Nat → Int32} {W ln : Nat} {sm : Int32} {B' E' LF' NF' LB' LS' : Nat → Int32} {W' ln' : Nat} {sm' : Int32} : sgS (sgS S a x1 x2 x3 x4 x5 x6 B E LF NF LB LS W ln sm) a x1 x2 x3 x4 x5 x6 B' E' LF' NF' LB' LS' W' ln' sm' = sgS S a x1 x2 x3 x4 x5 x6 B' E' LF' NF' LB' LS' W' ln' sm' := by
  refine Prod.ext ?_ rfl
  funext z
  show ite _ _ _ = ite _ _ _
  by_cases e0 : z = a
  · rw [if_pos e0, if_pos e0]
  · rw [if_neg e0, if_neg e0]
    by_cases e1 : z = x1
    · rw [if_pos e1, if_pos e1]
    · rw [if_neg e1, if_neg e1]
      by_cases e2 : z = x2
      · rw [if_pos e2, if_pos e2]
      · rw [if_neg e2, if_neg e2]
        by_cases e3 : z = x3
        · rw [if_pos e3, if_pos e3]
        · rw [if_neg e3, if_neg e3]
          by_cases e4 : z = x4
          · rw [if_pos e4, if_pos e4]
          · rw [if_neg e4, if_neg e4]
            by_cases e5 : z = x5
            · rw [if_pos e5, if_pos e5]
            · rw [if_neg e5, if_neg e5]
              by_cases e6 : z = x6
              · rw [if_pos e6, if_pos e6]
              · rw [if_neg e6, if_neg e6]
                exact sgS_at e0 e1 e2 e3 e4 e5 e6
set_option maxRecDepth 100000 in
set_option maxHeartbeats 4000000 in
theorem m_Set_findWords (K : am_K) (l : Launch) (S : am_S) (a x1 x2 x3 x4 x5 x6 : Nat) (B E LF NF LB LS : Nat → Int32) (W ln : Nat) (sm : Int32) (t b2 cap2 : Nat) (g : Nat → Int32) (m : Nat) (hs : sg S.1 a x1 x2 x3 x4 x5 x6 B E LF NF LB LS W ln sm) (hd : sgd x1 x2 x3 x4 x5 x6) (ht : rw S.1 t b2 cap2 g m) (htn : b2 ≠ x1 ∧ b2 ≠ x2 ∧ b2 ≠ x3 ∧ b2 ≠ x4 ∧ b2 ≠ x5 ∧ b2 ≠ x6) (hW : cnt (sep g m) (m + 1) ≤ 40) : am_M K l iX4_findWords 1 0 0 [.ref a, .ref t] S (fun v S' => v = none ∧ sgS S a x1 x2 x3 x4 x5 x6 (wB g m B (m + 1)) (wE g m E (m + 1)) LF NF LB LS (cnt (sep g m) (m + 1)) ln sm = S') (fun _ _ => False) := by
  refine am_body (by decide) rfl (by simp [Value.category]) (Nat.le_of_ble_eq_true rfl) (fun xp xe xs xm xa xb xt xc ad0 => ?_)
  show am_W _ _ _ _ _ _ _ _ _ _ _ _ _ _ _ 0 [some (.ref a), some (.ref t), none, none] [] S 0 0
  have ha := sg_a hs
  refine am_same (S' := sgS S a x1 x2 x3 x4 x5 x6 B E LF NF LB LS W ln sm) rfl rfl rfl (sgS_id hs) rfl rfl ?_
  refine am_aload_n (I := iX4_findWords) (pc := 0) dX4_findWords_0 rfl rfl ?_
  refine am_iconst (I := iX4_findWords) (pc := 1) (x := 0) dX4_findWords_1 (by decide) ?_
  refine am_same (st' := [.int (nI 0), .ref a]) rfl rfl (by rw [nI_0]) rfl rfl rfl ?_
  refine am_putf (I := iX4_findWords) (pc := 2) (fs' := [.ref x1, .ref x2, .int (nI 0), .ref x3, .ref x4, .ref x5, .ref x6, .int (nI ln), .int sm]) lf_X4_18 dX4_findWords_2 (sgS_sg hd ha).1 (fun _ => ⟨rfl, rfl⟩) (Nat.le_of_ble_eq_true rfl) rfl ?_
  refine am_same (S' := sgS S a x1 x2 x3 x4 x5 x6 B E LF NF LB LS 0 ln sm) rfl rfl rfl sgS_a rfl rfl ?_
  refine am_iconst (I := iX4_findWords) (pc := 5) (x := 0) dX4_findWords_5 (by decide) ?_
  refine am_istore_n (I := iX4_findWords) (pc := 6) (L' := [some (.ref a), some (.ref t), some (.int 0), none]) dX4_findWords_6 rfl (by decide) rfl ?_
  refine am_iconst (I := iX4_findWords) (pc := 7) (x := 0) dX4_findWords_7 (by decide) ?_
  refine am_istore_n (I := iX4_findWords) (pc := 8) (L' := [some (.ref a), some (.ref t), some (.int 0), some (.int 0)]) dX4_findWords_8 rfl (by decide) rfl ?_
  have loop9 : ∀ (k9 : Nat) (i : Nat), m + 1 - i < k9 → (i ≤ m + 1) → am_W K iX4_findWords xp l xe (am_room 1 0 0) xs xm xa xb xt xc S ad0 (am_E K ad0 S (fun v S' => v = none ∧ sgS S a x1 x2 x3 x4 x5 x6 (wB g m B (m + 1)) (wE g m E (m + 1)) LF NF LB LS (cnt (sep g m) (m + 1)) ln sm = S') (fun _ _ => False) xb xa xs 0 0) 9 [some (.ref a), some (.ref t), some (.int (nI (wbg g m i))), some (.int (nI i))] [] (sgS S a x1 x2 x3 x4 x5 x6 (wB g m B i) (wE g m E i) LF NF LB LS (cnt (sep g m) i) ln sm) 0 0 := by
    intro k9
    induction k9 with
    | zero => intro i h9; exact absurd h9 (Nat.not_lt_zero _)
    | succ k9 ih9 =>
      intro i hm9 hi
      have hti : rw (sgS S a x1 x2 x3 x4 x5 x6 (wB g m B i) (wE g m E i) LF NF LB LS (cnt (sep g m) i) ln sm).1 t b2 cap2 g m := rw_keep ht (sgS_at (am_ne ht.1 hs.1 (fun e => by cases e)) (am_ne ht.1 hs.2.1 (fun e => by cases e)) (am_ne ht.1 hs.2.2.1 (fun e => by cases e)) (am_ne ht.1 hs.2.2.2.1 (fun e => by cases e)) (am_ne ht.1 hs.2.2.2.2.1 (fun e => by cases e)) (am_ne ht.1 hs.2.2.2.2.2.1 (fun e => by cases e)) (am_ne ht.1 hs.2.2.2.2.2.2 (fun e => by cases e))) (sgS_at (am_ne ht.2.1 hs.1 (fun e => by cases e)) htn.1 htn.2.1 htn.2.2.1 htn.2.2.2.1 htn.2.2.2.2.1 htn.2.2.2.2.2)
      have hm80 : m ≤ 80 := by have := ht.2.2.1; have := ht.2.2.2; omega
      refine am_iload_n (I := iX4_findWords) (pc := 9) dX4_findWords_9 rfl rfl ?_
      refine am_aload_n (I := iX4_findWords) (pc := 10) dX4_findWords_10 rfl rfl ?_
      refine am_callV (I := iX4_findWords) (pc := 11) (st := [.int (nI i)]) lv_X4_55 (m_Row_length K l _ t b2 cap2 g m hti) dX4_findWords_11 hti.1 rfl (Nat.le_of_ble_eq_true rfl) ⟨Nat.le_of_ble_eq_true rfl, Nat.le_of_ble_eq_true rfl⟩ (Nat.le_of_ble_eq_true rfl) (Nat.le_of_ble_eq_true rfl) rfl (fun v9 T9 z9 _ => ?_) (fun _ _ h9 => h9.elim)
      obtain ⟨rfl, rfl⟩ := z9
      show am_W _ _ _ _ _ _ _ _ _ _ _ _ _ _ _ 14 [some (.ref a), some (.ref t), some (.int (nI (wbg g m i))), some (.int (nI i))] [.int (nI m), .int (nI i)] (sgS S a x1 x2 x3 x4 x5 x6 (wB g m B i) (wE g m E i) LF NF LB LS (cnt (sep g m) i) ln sm) 0 0
      refine am_icmp_gt (I := iX4_findWords) (pc := 14) (tgt := 51) dX4_findWords_14 (by decide) (fun c14 => ?_) (fun c14 => ?_)
      · have g14 : i = m + 1 := by
          rcases Nat.lt_or_ge m i with q9 | q9
          · omega
          · exact absurd c14 (nI_nlt q9 (by omega))
        exact am_vret (I := iX4_findWords) (pc := 51) dX4_findWords_51 rfl (Nat.le_refl _) (Nat.le_refl _) (⟨rfl, by rw [g14]⟩)
      · have l14 : i ≤ m := by
          rcases Nat.lt_or_ge m i with q9 | q9
          · exact absurd (nI_lt q9 (by omega)) c14
          · exact q9
        have hW1 : cnt (sep g m) (i + 1) ≤ 40 := Nat.le_trans (cnt_mono (by omega)) hW
        refine am_iload_n (I := iX4_findWords) (pc := 17) dX4_findWords_17 rfl rfl ?_
        refine am_aload_n (I := iX4_findWords) (pc := 18) dX4_findWords_18 rfl rfl ?_
        refine am_callV (I := iX4_findWords) (pc := 19) (st := [.int (nI i)]) lv_X4_55 (m_Row_length K l _ t b2 cap2 g m hti) dX4_findWords_19 hti.1 rfl (Nat.le_of_ble_eq_true rfl) ⟨Nat.le_of_ble_eq_true rfl, Nat.le_of_ble_eq_true rfl⟩ (Nat.le_of_ble_eq_true rfl) (Nat.le_of_ble_eq_true rfl) rfl (fun v9 T9 z9 _ => ?_) (fun _ _ h9 => h9.elim)
        obtain ⟨rfl, rfl⟩ := z9
        show am_W _ _ _ _ _ _ _ _ _ _ _ _ _ _ _ 22 [some (.ref a), some (.ref t), some (.int (nI (wbg g m i))), some (.int (nI i))] [.int (nI m), .int (nI i)] (sgS S a x1 x2 x3 x4 x5 x6 (wB g m B i) (wE g m E i) LF NF LB LS (cnt (sep g m) i) ln sm) 0 0
        refine am_icmp_eq (I := iX4_findWords) (pc := 22) (tgt := 35) dX4_findWords_22 (by decide) (fun c22 => ?_) (fun c22 => ?_)
        · have hsp : sep g m i = true := by unfold sep; rw [decide_eq_true ((nI_eq (by omega) (by omega)).mp c22)]; rfl
          rw [cnt_s hsp] at hW1
          refine am_aload_n (I := iX4_findWords) (pc := 35) dX4_findWords_35 rfl rfl ?_
          refine am_iload_n (I := iX4_findWords) (pc := 36) dX4_findWords_36 rfl rfl ?_
          refine am_iload_n (I := iX4_findWords) (pc := 37) dX4_findWords_37 rfl rfl ?_
          refine am_callV (I := iX4_findWords) (pc := 38) (st := []) lv_X4_64 (m_Set_addWord K l _ a x1 x2 x3 x4 x5 x6 (wB g m B i) (wE g m E i) LF NF LB LS (cnt (sep g m) i) ln sm (nI (wbg g m i)) (nI i) (sgS_sg hd ha) hd (by omega)) dX4_findWords_38 (sgS_sg hd ha).1 rfl (Nat.le_of_ble_eq_true rfl) ⟨Nat.le_of_ble_eq_true rfl, Nat.le_of_ble_eq_true rfl⟩ (Nat.le_of_ble_eq_true rfl) (Nat.le_of_ble_eq_true rfl) rfl (fun v9 T9 z9 _ => ?_) (fun _ _ h9 => h9.elim)
          obtain ⟨rfl, eT9⟩ := z9
          have eS1 : T9 = sgS S a x1 x2 x3 x4 x5 x6 (wB g m B (i + 1)) (wE g m E (i + 1)) LF NF LB LS (cnt (sep g m) (i + 1)) ln sm := by
            rw [← eT9, wB, wE, if_pos hsp, if_pos hsp, cnt_s hsp, sgS_sgS]
          subst eS1
          show am_W _ _ _ _ _ _ _ _ _ _ _ _ _ _ _ 41 [some (.ref a), some (.ref t), some (.int (nI (wbg g m i))), some (.int (nI i))] [] (sgS S a x1 x2 x3 x4 x5 x6 (wB g m B (i + 1)) (wE g m E (i + 1)) LF NF LB LS (cnt (sep g m) (i + 1)) ln sm) 0 0
          refine am_iload_n (I := iX4_findWords) (pc := 41) dX4_findWords_41 rfl rfl ?_
          refine am_iconst (I := iX4_findWords) (pc := 42) (x := 1) dX4_findWords_42 (by decide) ?_
          refine am_iadd (I := iX4_findWords) (pc := 43) dX4_findWords_43 ?_
          rw [nI_1]
          refine am_istore_n (I := iX4_findWords) (pc := 44) (L' := [some (.ref a), some (.ref t), some (.int (nI (i + 1))), some (.int (nI i))]) dX4_findWords_44 rfl (by decide) rfl ?_
          refine am_iinc (I := iX4_findWords) (pc := 45) (y := ((nI i) + 1)) (L' := [some (.ref a), some (.ref t), some (.int (nI (i + 1))), some (.int ((nI i) + 1))]) dX4_findWords_45 rfl rfl rfl ?_
          refine am_goto (I := iX4_findWords) (pc := 48) (tgt := 9) dX4_findWords_48 (by decide) ?_
          exact am_same rfl (by rw [nI_1, wbg, if_pos hsp]) rfl rfl rfl rfl (ih9 (i + 1) (by omega) (by omega))
        · have n22 : ¬ i = m := fun q9 => c22 (congrArg nI q9)
          refine am_aload_n (I := iX4_findWords) (pc := 25) dX4_findWords_25 rfl rfl ?_
          refine am_iload_n (I := iX4_findWords) (pc := 26) dX4_findWords_26 rfl rfl ?_
          refine am_callV (I := iX4_findWords) (pc := 27) (st := []) lv_X4_60 (m_Row_at K l _ t b2 cap2 g m (nI i) hti) dX4_findWords_27 hti.1 rfl (Nat.le_of_ble_eq_true rfl) ⟨Nat.le_of_ble_eq_true rfl, Nat.le_of_ble_eq_true rfl⟩ (Nat.le_of_ble_eq_true rfl) (Nat.le_of_ble_eq_true rfl) rfl (fun v9 T9 z9 _ => ?_) (fun _ _ h9 => h9.elim)
          obtain ⟨rfl, rfl⟩ := z9
          show am_W _ _ _ _ _ _ _ _ _ _ _ _ _ _ _ 30 [some (.ref a), some (.ref t), some (.int (nI (wbg g m i))), some (.int (nI i))] [.int (rv g m (nI i))] (sgS S a x1 x2 x3 x4 x5 x6 (wB g m B i) (wE g m E i) LF NF LB LS (cnt (sep g m) i) ln sm) 0 0
          rw [rv_nI (show i < m by omega) (by omega)]
          refine am_bipush (I := iX4_findWords) (pc := 30) (x := 32) dX4_findWords_30 (by decide) ?_
          refine am_icmp_ne (I := iX4_findWords) (pc := 32) (tgt := 45) dX4_findWords_32 (by decide) (fun c32 => ?_) (fun c32 => ?_)
          · have hsp : sep g m i = false := by unfold sep; rw [decide_eq_false n22, decide_eq_false c32]; rfl
            refine am_iinc (I := iX4_findWords) (pc := 45) (y := ((nI i) + 1)) (L' := [some (.ref a), some (.ref t), some (.int (nI (wbg g m i))), some (.int ((nI i) + 1))]) dX4_findWords_45 rfl rfl rfl ?_
            refine am_goto (I := iX4_findWords) (pc := 48) (tgt := 9) dX4_findWords_48 (by decide) ?_
            exact am_same rfl (by rw [nI_1, wbg, if_neg (by rw [hsp]; exact Bool.false_ne_true)]) rfl (by rw [wB, wE, if_neg (by rw [hsp]; exact Bool.false_ne_true), if_neg (by rw [hsp]; exact Bool.false_ne_true), cnt_n hsp]) rfl rfl (ih9 (i + 1) (by omega) (by omega))
          · have hsp : sep g m i = true := by unfold sep; rw [decide_eq_true (p := g i = 32) c32, Bool.or_true]
            rw [cnt_s hsp] at hW1
            refine am_aload_n (I := iX4_findWords) (pc := 35) dX4_findWords_35 rfl rfl ?_
            refine am_iload_n (I := iX4_findWords) (pc := 36) dX4_findWords_36 rfl rfl ?_
            refine am_iload_n (I := iX4_findWords) (pc := 37) dX4_findWords_37 rfl rfl ?_
            refine am_callV (I := iX4_findWords) (pc := 38) (st := []) lv_X4_64 (m_Set_addWord K l _ a x1 x2 x3 x4 x5 x6 (wB g m B i) (wE g m E i) LF NF LB LS (cnt (sep g m) i) ln sm (nI (wbg g m i)) (nI i) (sgS_sg hd ha) hd (by omega)) dX4_findWords_38 (sgS_sg hd ha).1 rfl (Nat.le_of_ble_eq_true rfl) ⟨Nat.le_of_ble_eq_true rfl, Nat.le_of_ble_eq_true rfl⟩ (Nat.le_of_ble_eq_true rfl) (Nat.le_of_ble_eq_true rfl) rfl (fun v9 T9 z9 _ => ?_) (fun _ _ h9 => h9.elim)
            obtain ⟨rfl, eT9⟩ := z9
            have eS1 : T9 = sgS S a x1 x2 x3 x4 x5 x6 (wB g m B (i + 1)) (wE g m E (i + 1)) LF NF LB LS (cnt (sep g m) (i + 1)) ln sm := by
              rw [← eT9, wB, wE, if_pos hsp, if_pos hsp, cnt_s hsp, sgS_sgS]
            subst eS1
            show am_W _ _ _ _ _ _ _ _ _ _ _ _ _ _ _ 41 [some (.ref a), some (.ref t), some (.int (nI (wbg g m i))), some (.int (nI i))] [] (sgS S a x1 x2 x3 x4 x5 x6 (wB g m B (i + 1)) (wE g m E (i + 1)) LF NF LB LS (cnt (sep g m) (i + 1)) ln sm) 0 0
            refine am_iload_n (I := iX4_findWords) (pc := 41) dX4_findWords_41 rfl rfl ?_
            refine am_iconst (I := iX4_findWords) (pc := 42) (x := 1) dX4_findWords_42 (by decide) ?_
            refine am_iadd (I := iX4_findWords) (pc := 43) dX4_findWords_43 ?_
            rw [nI_1]
            refine am_istore_n (I := iX4_findWords) (pc := 44) (L' := [some (.ref a), some (.ref t), some (.int (nI (i + 1))), some (.int (nI i))]) dX4_findWords_44 rfl (by decide) rfl ?_
            refine am_iinc (I := iX4_findWords) (pc := 45) (y := ((nI i) + 1)) (L' := [some (.ref a), some (.ref t), some (.int (nI (i + 1))), some (.int ((nI i) + 1))]) dX4_findWords_45 rfl rfl rfl ?_
            refine am_goto (I := iX4_findWords) (pc := 48) (tgt := 9) dX4_findWords_48 (by decide) ?_
            exact am_same rfl (by rw [nI_1, wbg, if_pos hsp]) rfl rfl rfl rfl (ih9 (i + 1) (by omega) (by omega))
  exact am_same rfl (by rfl) rfl rfl rfl rfl (loop9 _ 0 (Nat.lt_succ_self _) (Nat.zero_le _))
