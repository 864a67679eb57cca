/-- CONTRACTIONS: cell a of class 1, rows w by CR; the k-th has sz k letters lt k in the row ra k, rb k -/
abbrev ctR (h : Nat → am_C) (CR : Nat → Option Nat) (sz : Nat → Nat) (lt : Nat → Nat → Int32) (ra rb : Nat → Nat) (k : Nat) : Prop := (CR k = none ∧ sz k = 0) ∨ (CR k = some (ra k) ∧ rw h (ra k) (rb k) (sz k) (lt k) (sz k) ∧ 2 ≤ sz k ∧ sz k ≤ 5)
abbrev ct (h : Nat → am_C) (a w : Nat) (CR : Nat → Option Nat) (sz : Nat → Nat) (lt : Nat → Nat → Int32) (ra rb : Nat → Nat) (tot : Int32) : Prop := h a = .inr (1, [.ref w, .int tot]) ∧ h w = .inl (2, 36, .inr (.inr (.inr (.inr CR)))) ∧ ∀ k, k < 36 → ctR h CR sz lt ra rb k
/-- the longest that stands there among the first k: its cell, its length -/
def lg (sz : Nat → Nat) (lt : Nat → Nat → Int32) (g : Nat → Int32) (m : Nat) (fr : Int32) : Nat → Int32 × Nat
  | 0 => (-1, 0)
  | k + 1 => if (lg sz lt g m fr k).2 < sz k ∧ stands (lt k) (sz k) g m fr = 1 then (nI (28 + k), sz k) else lg sz lt g m fr k
theorem lg_or {sz : Nat → Nat} {lt : Nat → Nat → Int32} {g : Nat → Int32} {m : Nat} {fr : Int32} : ∀ k, lg sz lt g m fr k = (-1, 0) ∨ ∃ j, j < k ∧ lg sz lt g m fr k = (nI (28 + j), sz j) ∧ 0 < sz j
  | 0 => Or.inl rfl
  | k + 1 => by
    unfold lg
    by_cases h : (lg sz lt g m fr k).2 < sz k ∧ stands (lt k) (sz k) g m fr = 1
    · rw [if_pos h]; exact Or.inr ⟨k, Nat.lt_succ_self k, rfl, by omega⟩
    · rw [if_neg h]
      rcases lg_or (sz := sz) (lt := lt) (g := g) (m := m) (fr := fr) k with e | ⟨j, h1, h2, h3⟩
      · exact Or.inl e
      · exact Or.inr ⟨j, by omega, h2, h3⟩
set_option maxRecDepth 100000 in
set_option maxHeartbeats 4000000 in
theorem m_Con_total (K : am_K) (l : Launch) (S : am_S) (a w : Nat) (CR : Nat → Option Nat) (sz : Nat → Nat) (lt : Nat → Nat → Int32) (ra rb : Nat → Nat) (tot : Int32) (hc : ct S.1 a w CR sz lt ra rb tot) : am_M K l iX1_total 0 0 0 [.ref a] S (fun v S' => v = some (.int tot) ∧ S = S') (fun _ _ => False) := by
  refine am_body (by decide) rfl (by simp [Value.category]) (Nat.le_of_ble_eq_true rfl) (fun xp xe xs xm xa xb xt xc ad0 => ?_)
  show am_W _ _ _ _ _ _ _ _ _ _ _ _ _ _ _ 0 [some (.ref a)] [] S 0 0
  refine am_aload_n (I := iX1_total) (pc := 0) dX1_total_0 rfl rfl ?_
  refine am_getf (I := iX1_total) (pc := 1) lf_X1_17 dX1_total_1 hc.1 rfl ?_
  exact am_iret (I := iX1_total) (pc := 4) dX1_total_4 rfl (Nat.le_refl _) (Nat.le_refl _) (⟨rfl, rfl⟩)
set_option maxRecDepth 100000 in
set_option maxHeartbeats 4000000 in
theorem m_Con_rowOf0 (K : am_K) (l : Launch) (S : am_S) (a w : Nat) (CR : Nat → Option Nat) (sz : Nat → Nat) (lt : Nat → Nat → Int32) (ra rb : Nat → Nat) (tot : Int32) (x : Int32) (hc : ct S.1 a w CR sz lt ra rb tot) (hx : x < 28 ∨ 63 < x) : am_M K l iX1_rowOf 0 0 0 [.ref a, .int x] S (fun v S' => v = some .null ∧ S = S') (fun _ _ => False) := by
  refine am_body (by decide) rfl (by simp [Value.category]) (Nat.le_of_ble_eq_true rfl) (fun xp xe xs xm xa xb xt xc ad0 => ?_)
  show am_W _ _ _ _ _ _ _ _ _ _ _ _ _ _ _ 0 [some (.ref a), some (.int x)] [] S 0 0
  refine am_iload_n (I := iX1_rowOf) (pc := 0) dX1_rowOf_0 rfl rfl ?_
  refine am_bipush (I := iX1_rowOf) (pc := 1) (x := 28) dX1_rowOf_1 (by decide) ?_
  refine am_icmp_lt (I := iX1_rowOf) (pc := 3) (tgt := 12) dX1_rowOf_3 (by decide) (fun c3 => ?_) (fun c3 => ?_)
  · refine am_null (I := iX1_rowOf) (pc := 12) dX1_rowOf_12 ?_
    exact am_aret (I := iX1_rowOf) (pc := 13) dX1_rowOf_13 rfl (Or.inl ⟨_, rfl⟩) (Or.inl rfl) (Nat.le_refl _) (Nat.le_refl _) (⟨rfl, rfl⟩)
  · refine am_iload_n (I := iX1_rowOf) (pc := 6) dX1_rowOf_6 rfl rfl ?_
    refine am_bipush (I := iX1_rowOf) (pc := 7) (x := 63) dX1_rowOf_7 (by decide) ?_
    refine am_icmp_le (I := iX1_rowOf) (pc := 9) (tgt := 14) dX1_rowOf_9 (by decide) (fun c9 => ?_) (fun c9 => ?_)
    · exact absurd c9 (hx.elim (fun h => absurd h c3) (fun h => Int32.not_le.mpr h))
    · refine am_null (I := iX1_rowOf) (pc := 12) dX1_rowOf_12 ?_
      exact am_aret (I := iX1_rowOf) (pc := 13) dX1_rowOf_13 rfl (Or.inl ⟨_, rfl⟩) (Or.inl rfl) (Nat.le_refl _) (Nat.le_refl _) (⟨rfl, rfl⟩)
set_option maxRecDepth 100000 in
set_option maxHeartbeats 4000000 in
theorem m_Con_rowOfN (K : am_K) (l : Launch) (S : am_S) (a w : Nat) (CR : Nat → Option Nat) (sz : Nat → Nat) (lt : Nat → Nat → Int32) (ra rb : Nat → Nat) (tot : Int32) (k : Nat) (hc : ct S.1 a w CR sz lt ra rb tot) (hk : k < 36) (hn : CR k = none) : am_M K l iX1_rowOf 0 0 0 [.ref a, .int (nI (28 + k))] S (fun v S' => v = some .null ∧ S = S') (fun _ _ => False) := by
  refine am_body (by decide) rfl (by simp [Value.category]) (Nat.le_of_ble_eq_true rfl) (fun xp xe xs xm xa xb xt xc ad0 => ?_)
  show am_W _ _ _ _ _ _ _ _ _ _ _ _ _ _ _ 0 [some (.ref a), some (.int (nI (28 + k)))] [] S 0 0
  refine am_iload_n (I := iX1_rowOf) (pc := 0) dX1_rowOf_0 rfl rfl ?_
  refine am_bipush (I := iX1_rowOf) (pc := 1) (x := 28) dX1_rowOf_1 (by decide) ?_
  refine am_icmp_lt (I := iX1_rowOf) (pc := 3) (tgt := 12) dX1_rowOf_3 (by decide) (fun c3 => ?_) (fun c3 => ?_)
  · exact absurd c3 (nI_nlt (a := 28 + k) (b := 28) (by omega) (by omega))
  · refine am_iload_n (I := iX1_rowOf) (pc := 6) dX1_rowOf_6 rfl rfl ?_
    refine am_bipush (I := iX1_rowOf) (pc := 7) (x := 63) dX1_rowOf_7 (by decide) ?_
    refine am_icmp_le (I := iX1_rowOf) (pc := 9) (tgt := 14) dX1_rowOf_9 (by decide) (fun c9 => ?_) (fun c9 => ?_)
    · refine am_aload_n (I := iX1_rowOf) (pc := 14) dX1_rowOf_14 rfl rfl ?_
      refine am_getf (I := iX1_rowOf) (pc := 15) lf_X1_11 dX1_rowOf_15 hc.1 rfl ?_
      refine am_iload_n (I := iX1_rowOf) (pc := 18) dX1_rowOf_18 rfl rfl ?_
      refine am_bipush (I := iX1_rowOf) (pc := 19) (x := 28) dX1_rowOf_19 (by decide) ?_
      refine am_isub (I := iX1_rowOf) (pc := 21) dX1_rowOf_21 ?_
      have e9 : nI (28 + k) - 28 = nI k := by rw [show (28 : Int32) = nI 28 from rfl, pk_sub (by omega), Nat.add_sub_cancel_left]
      rw [e9]
      refine am_aaload (I := iX1_rowOf) (pc := 22) dX1_rowOf_22 hc.2.1 rfl (vp_in_nI hk (by decide)) ?_
      rw [nI_clamp (show k < 2 ^ 31 by omega), hn]
      show am_W _ _ _ _ _ _ _ _ _ _ _ _ _ _ _ 23 [some (.ref a), some (.int (nI (28 + k)))] [.null] S 0 0
      exact am_aret (I := iX1_rowOf) (pc := 23) dX1_rowOf_23 rfl (Or.inl ⟨_, rfl⟩) (Or.inl rfl) (Nat.le_refl _) (Nat.le_refl _) (⟨rfl, rfl⟩)
    · exact absurd (nI_le (a := 28 + k) (b := 63) (by omega) (by omega)) c9
set_option maxRecDepth 100000 in
set_option maxHeartbeats 4000000 in
theorem m_Con_rowOfS (K : am_K) (l : Launch) (S : am_S) (a w : Nat) (CR : Nat → Option Nat) (sz : Nat → Nat) (lt : Nat → Nat → Int32) (ra rb : Nat → Nat) (tot : Int32) (k r : Nat) (hc : ct S.1 a w CR sz lt ra rb tot) (hk : k < 36) (hn : CR k = some r) : am_M K l iX1_rowOf 0 0 0 [.ref a, .int (nI (28 + k))] S (fun v S' => v = some (.ref r) ∧ S = S') (fun _ _ => False) := by
  refine am_body (by decide) rfl (by simp [Value.category]) (Nat.le_of_ble_eq_true rfl) (fun xp xe xs xm xa xb xt xc ad0 => ?_)
  show am_W _ _ _ _ _ _ _ _ _ _ _ _ _ _ _ 0 [some (.ref a), some (.int (nI (28 + k)))] [] S 0 0
  refine am_iload_n (I := iX1_rowOf) (pc := 0) dX1_rowOf_0 rfl rfl ?_
  refine am_bipush (I := iX1_rowOf) (pc := 1) (x := 28) dX1_rowOf_1 (by decide) ?_
  refine am_icmp_lt (I := iX1_rowOf) (pc := 3) (tgt := 12) dX1_rowOf_3 (by decide) (fun c3 => ?_) (fun c3 => ?_)
  · exact absurd c3 (nI_nlt (a := 28 + k) (b := 28) (by omega) (by omega))
  · refine am_iload_n (I := iX1_rowOf) (pc := 6) dX1_rowOf_6 rfl rfl ?_
    refine am_bipush (I := iX1_rowOf) (pc := 7) (x := 63) dX1_rowOf_7 (by decide) ?_
    refine am_icmp_le (I := iX1_rowOf) (pc := 9) (tgt := 14) dX1_rowOf_9 (by decide) (fun c9 => ?_) (fun c9 => ?_)
    · refine am_aload_n (I := iX1_rowOf) (pc := 14) dX1_rowOf_14 rfl rfl ?_
      refine am_getf (I := iX1_rowOf) (pc := 15) lf_X1_11 dX1_rowOf_15 hc.1 rfl ?_
      refine am_iload_n (I := iX1_rowOf) (pc := 18) dX1_rowOf_18 rfl rfl ?_
      refine am_bipush (I := iX1_rowOf) (pc := 19) (x := 28) dX1_rowOf_19 (by decide) ?_
      refine am_isub (I := iX1_rowOf) (pc := 21) dX1_rowOf_21 ?_
      have e9 : nI (28 + k) - 28 = nI k := by rw [show (28 : Int32) = nI 28 from rfl, pk_sub (by omega), Nat.add_sub_cancel_left]
      rw [e9]
      refine am_aaload (I := iX1_rowOf) (pc := 22) dX1_rowOf_22 hc.2.1 rfl (vp_in_nI hk (by decide)) ?_
      rw [nI_clamp (show k < 2 ^ 31 by omega), hn]
      show am_W _ _ _ _ _ _ _ _ _ _ _ _ _ _ _ 23 [some (.ref a), some (.int (nI (28 + k)))] [.ref r] S 0 0
      exact am_aret (I := iX1_rowOf) (pc := 23) dX1_rowOf_23 rfl (Or.inl ⟨_, rfl⟩) (Or.inr ⟨_, rfl⟩) (Nat.le_refl _) (Nat.le_refl _) (⟨rfl, rfl⟩)
    · exact absurd (nI_le (a := 28 + k) (b := 63) (by omega) (by omega)) c9
set_option maxRecDepth 100000 in
set_option maxHeartbeats 4000000 in
theorem m_Con_longestAt (K : am_K) (l : Launch) (S : am_S) (a w : Nat) (CR : Nat → Option Nat) (sz : Nat → Nat) (lt : Nat → Nat → Int32) (ra rb : Nat → Nat) (tot : Int32) (a2 b2 cap2 : Nat) (g : Nat → Int32) (m : Nat) (fr : Int32) (hc : ct S.1 a w CR sz lt ra rb tot) (ht : rw S.1 a2 b2 cap2 g m) : am_M K l iX1_longestAt 2 0 0 [.ref a, .ref a2, .int fr] S (fun v S' => v = some (.int (lg sz lt g m fr 36).1) ∧ S = S') (fun _ _ => False) := by
  refine am_body (by decide) rfl (by simp [Value.category]) (Nat.le_of_ble_eq_true rfl) (fun xp xe xs xm xa xb xt xc ad0 => ?_)
  show am_W _ _ _ _ _ _ _ _ _ _ _ _ _ _ _ 0 [some (.ref a), some (.ref a2), some (.int fr), none, none, none, none] [] S 0 0
  refine am_iconst (I := iX1_longestAt) (pc := 0) (x := (-1)) dX1_longestAt_0 (by decide) ?_
  refine am_istore_n (I := iX1_longestAt) (pc := 1) (L' := [some (.ref a), some (.ref a2), some (.int fr), some (.int (-1)), none, none, none]) dX1_longestAt_1 rfl (by decide) rfl ?_
  refine am_iconst (I := iX1_longestAt) (pc := 2) (x := 0) dX1_longestAt_2 (by decide) ?_
  refine am_istore (I := iX1_longestAt) (pc := 3) (L' := [some (.ref a), some (.ref a2), some (.int fr), some (.int (-1)), some (.int 0), none, none]) dX1_longestAt_3 (by decide) rfl ?_
  refine am_bipush (I := iX1_longestAt) (pc := 5) (x := 28) dX1_longestAt_5 (by decide) ?_
  refine am_istore (I := iX1_longestAt) (pc := 7) (L' := [some (.ref a), some (.ref a2), some (.int fr), some (.int (-1)), some (.int 0), some (.int 28), none]) dX1_longestAt_7 (by decide) rfl ?_
  have loop9 : ∀ (k9 : Nat) (i : Nat), 36 - i < k9 → (i ≤ 36) → am_W K iX1_longestAt xp l xe (am_room 2 0 0) xs xm xa xb xt xc S ad0 (am_E K ad0 S (fun v S' => v = some (.int (lg sz lt g m fr 36).1) ∧ S = S') (fun _ _ => False) xb xa xs 0 0) 9 [some (.ref a), some (.ref a2), some (.int fr), some (.int (lg sz lt g m fr i).1), some (.int (nI (lg sz lt g m fr i).2)), some (.int (nI (28 + i))), none] [] S 0 0 := by
    intro k9
    induction k9 with
    | zero => intro i h9; exact absurd h9 (Nat.not_lt_zero _)
    | succ k9 ih9 =>
      intro i hm9 hi
      have hl80 : (lg sz lt g m fr i).2 ≤ 5 := by
        rcases lg_or (sz := sz) (lt := lt) (g := g) (m := m) (fr := fr) i with e | ⟨j, h1, h2, h3⟩
        · rw [e]; exact Nat.zero_le _
        · rw [h2]
          rcases hc.2.2 j (by omega) with ⟨-, h0⟩ | ⟨-, -, -, h5⟩
          · show sz j ≤ 5; omega
          · exact h5
      refine am_iload (I := iX1_longestAt) (pc := 9) dX1_longestAt_9 rfl ?_
      refine am_bipush (I := iX1_longestAt) (pc := 11) (x := 63) dX1_longestAt_11 (by decide) ?_
      refine am_icmp_gt (I := iX1_longestAt) (pc := 13) (tgt := 65) dX1_longestAt_13 (by decide) (fun c13 => ?_) (fun c13 => ?_)
      · have e13 : i = 36 := by
          rcases Nat.lt_or_ge i 36 with q9 | q9
          · exact absurd c13 (nI_nlt (a := 63) (b := 28 + i) (by omega) (by omega))
          · omega
        subst e13
        refine am_iload_n (I := iX1_longestAt) (pc := 65) dX1_longestAt_65 rfl rfl ?_
        exact am_iret (I := iX1_longestAt) (pc := 66) dX1_longestAt_66 rfl (Nat.le_refl _) (Nat.le_refl _) (⟨rfl, rfl⟩)
      · have l13 : i < 36 := by
          rcases Nat.lt_or_ge i 36 with q9 | q9
          · exact q9
          · exact absurd (nI_lt (a := 63) (b := 28 + i) (by omega) (by omega)) c13
        rcases hc.2.2 i l13 with ⟨hn, hz⟩ | ⟨hs, hrw, h2, h5⟩
        · refine am_aload_n (I := iX1_longestAt) (pc := 16) dX1_longestAt_16 rfl rfl ?_
          refine am_iload (I := iX1_longestAt) (pc := 17) dX1_longestAt_17 rfl ?_
          refine am_callV (I := iX1_longestAt) (pc := 19) (st := []) lv_X1_25 (m_Con_rowOfN K l _ a w CR sz lt ra rb tot i hc l13 hn) dX1_longestAt_19 hc.1 rfl (Nat.le_of_ble_eq_true rfl) ⟨Nat.le_of_ble_eq_true rfl, Nat.le_of_ble_eq_true rfl⟩ (Nat.le_of_ble_eq_true rfl) (Nat.le_of_ble_eq_true rfl) rfl (fun v9 T9 z9 _ => ?_) (fun _ _ h9 => h9.elim)
          obtain ⟨rfl, rfl⟩ := z9
          show am_W _ _ _ _ _ _ _ _ _ _ _ _ _ _ _ 22 [some (.ref a), some (.ref a2), some (.int fr), some (.int (lg sz lt g m fr i).1), some (.int (nI (lg sz lt g m fr i).2)), some (.int (nI (28 + i))), none] [.null] S 0 0
          refine am_astoreN (I := iX1_longestAt) (pc := 22) (L' := [some (.ref a), some (.ref a2), some (.int fr), some (.int (lg sz lt g m fr i).1), some (.int (nI (lg sz lt g m fr i).2)), some (.int (nI (28 + i))), some (.null)]) dX1_longestAt_22 (by decide) rfl ?_
          refine am_aloadN (I := iX1_longestAt) (pc := 24) dX1_longestAt_24 rfl ?_
          refine am_ifnullN (I := iX1_longestAt) (pc := 26) (tgt := 59) dX1_longestAt_26 (by decide) ?_
          refine am_forget 6 ?_
          refine am_iinc (I := iX1_longestAt) (pc := 59) (y := ((nI (28 + i)) + 1)) (L' := [some (.ref a), some (.ref a2), some (.int fr), some (.int (lg sz lt g m fr i).1), some (.int (nI (lg sz lt g m fr i).2)), some (.int ((nI (28 + i)) + 1)), none]) dX1_longestAt_59 rfl rfl rfl ?_
          refine am_goto (I := iX1_longestAt) (pc := 62) (tgt := 9) dX1_longestAt_62 (by decide) ?_
          exact am_same rfl (by rw [nI_1, lg, if_neg (fun q9 => by have := q9.1; omega)]; rfl) rfl rfl rfl rfl (ih9 (i + 1) (by omega) (by omega))
        · refine am_aload_n (I := iX1_longestAt) (pc := 16) dX1_longestAt_16 rfl rfl ?_
          refine am_iload (I := iX1_longestAt) (pc := 17) dX1_longestAt_17 rfl ?_
          refine am_callV (I := iX1_longestAt) (pc := 19) (st := []) lv_X1_25 (m_Con_rowOfS K l _ a w CR sz lt ra rb tot i (ra i) hc l13 hs) dX1_longestAt_19 hc.1 rfl (Nat.le_of_ble_eq_true rfl) ⟨Nat.le_of_ble_eq_true rfl, Nat.le_of_ble_eq_true rfl⟩ (Nat.le_of_ble_eq_true rfl) (Nat.le_of_ble_eq_true rfl) rfl (fun v9 T9 z9 _ => ?_) (fun _ _ h9 => h9.elim)
          obtain ⟨rfl, rfl⟩ := z9
          show am_W _ _ _ _ _ _ _ _ _ _ _ _ _ _ _ 22 [some (.ref a), some (.ref a2), some (.int fr), some (.int (lg sz lt g m fr i).1), some (.int (nI (lg sz lt g m fr i).2)), some (.int (nI (28 + i))), none] [.ref (ra i)] S 0 0
          refine am_astore (I := iX1_longestAt) (pc := 22) (L' := [some (.ref a), some (.ref a2), some (.int fr), some (.int (lg sz lt g m fr i).1), some (.int (nI (lg sz lt g m fr i).2)), some (.int (nI (28 + i))), some (.ref (ra i))]) dX1_longestAt_22 (by decide) rfl ?_
          refine am_aload (I := iX1_longestAt) (pc := 24) dX1_longestAt_24 rfl ?_
          refine am_ifnull (I := iX1_longestAt) (pc := 26) dX1_longestAt_26 ?_
          refine am_aload (I := iX1_longestAt) (pc := 29) dX1_longestAt_29 rfl ?_
          refine am_callV (I := iX1_longestAt) (pc := 31) (st := []) lv_X1_29 (m_Row_length K l _ (ra i) (rb i) (sz i) (lt i) (sz i) hrw) dX1_longestAt_31 hrw.1 rfl (Nat.le_of_ble_eq_true rfl) ⟨Nat.le_of_ble_eq_true rfl, Nat.le_of_ble_eq_true rfl⟩ (Nat.le_of_ble_eq_true rfl) (Nat.le_of_ble_eq_true rfl) rfl (fun v9 T9 z9 _ => ?_) (fun _ _ h9 => h9.elim)
          obtain ⟨rfl, rfl⟩ := z9
          show am_W _ _ _ _ _ _ _ _ _ _ _ _ _ _ _ 34 [some (.ref a), some (.ref a2), some (.int fr), some (.int (lg sz lt g m fr i).1), some (.int (nI (lg sz lt g m fr i).2)), some (.int (nI (28 + i))), some (.ref (ra i))] [.int (nI (sz i))] S 0 0
          refine am_iload (I := iX1_longestAt) (pc := 34) dX1_longestAt_34 rfl ?_
          refine am_icmp_le (I := iX1_longestAt) (pc := 36) (tgt := 59) dX1_longestAt_36 (by decide) (fun c36 => ?_) (fun c36 => ?_)
          · refine am_forget 6 ?_
            refine am_iinc (I := iX1_longestAt) (pc := 59) (y := ((nI (28 + i)) + 1)) (L' := [some (.ref a), some (.ref a2), some (.int fr), some (.int (lg sz lt g m fr i).1), some (.int (nI (lg sz lt g m fr i).2)), some (.int ((nI (28 + i)) + 1)), none]) dX1_longestAt_59 rfl rfl rfl ?_
            refine am_goto (I := iX1_longestAt) (pc := 62) (tgt := 9) dX1_longestAt_62 (by decide) ?_
            exact am_same rfl (by rw [nI_1, lg, if_neg (fun q9 => absurd c36 (nI_ge q9.1 (by omega)))]; rfl) rfl rfl rfl rfl (ih9 (i + 1) (by omega) (by omega))
          · have h36 : (lg sz lt g m fr i).2 < sz i := by
              rcases Nat.lt_or_ge (lg sz lt g m fr i).2 (sz i) with q9 | q9
              · exact q9
              · exact absurd (nI_le q9 (by omega)) c36
            refine am_aload (I := iX1_longestAt) (pc := 39) dX1_longestAt_39 rfl ?_
            refine am_aload_n (I := iX1_longestAt) (pc := 41) dX1_longestAt_41 rfl rfl ?_
            refine am_iload_n (I := iX1_longestAt) (pc := 42) dX1_longestAt_42 rfl rfl ?_
            refine am_callV (I := iX1_longestAt) (pc := 43) (st := []) lv_X1_54 (m_Row_standsIn K l _ (ra i) (rb i) (sz i) (lt i) (sz i) a2 b2 cap2 g m fr hrw ht) dX1_longestAt_43 hrw.1 rfl (Nat.le_of_ble_eq_true rfl) ⟨Nat.le_of_ble_eq_true rfl, Nat.le_of_ble_eq_true rfl⟩ (Nat.le_of_ble_eq_true rfl) (Nat.le_of_ble_eq_true rfl) rfl (fun v9 T9 z9 _ => ?_) (fun _ _ h9 => h9.elim)
            obtain ⟨rfl, rfl⟩ := z9
            show am_W _ _ _ _ _ _ _ _ _ _ _ _ _ _ _ 46 [some (.ref a), some (.ref a2), some (.int fr), some (.int (lg sz lt g m fr i).1), some (.int (nI (lg sz lt g m fr i).2)), some (.int (nI (28 + i))), some (.ref (ra i))] [.int (stands (lt i) (sz i) g m fr)] S 0 0
            refine am_if_eq (I := iX1_longestAt) (pc := 46) (tgt := 59) dX1_longestAt_46 (by decide) (fun c46 => ?_) (fun c46 => ?_)
            · refine am_forget 6 ?_
              refine am_iinc (I := iX1_longestAt) (pc := 59) (y := ((nI (28 + i)) + 1)) (L' := [some (.ref a), some (.ref a2), some (.int fr), some (.int (lg sz lt g m fr i).1), some (.int (nI (lg sz lt g m fr i).2)), some (.int ((nI (28 + i)) + 1)), none]) dX1_longestAt_59 rfl rfl rfl ?_
              refine am_goto (I := iX1_longestAt) (pc := 62) (tgt := 9) dX1_longestAt_62 (by decide) ?_
              exact am_same rfl (by rw [nI_1, lg, if_neg (fun q9 => absurd (q9.2.symm.trans c46) (by decide))]; rfl) rfl rfl rfl rfl (ih9 (i + 1) (by omega) (by omega))
            · have h46 : stands (lt i) (sz i) g m fr = 1 := (stands01 (lt i) (sz i) g m fr).resolve_left c46
              refine am_iload (I := iX1_longestAt) (pc := 49) dX1_longestAt_49 rfl ?_
              refine am_istore_n (I := iX1_longestAt) (pc := 51) (L' := [some (.ref a), some (.ref a2), some (.int fr), some (.int (nI (28 + i))), some (.int (nI (lg sz lt g m fr i).2)), some (.int (nI (28 + i))), some (.ref (ra i))]) dX1_longestAt_51 rfl (by decide) rfl ?_
              refine am_aload (I := iX1_longestAt) (pc := 52) dX1_longestAt_52 rfl ?_
              refine am_callV (I := iX1_longestAt) (pc := 54) (st := []) lv_X1_29 (m_Row_length K l _ (ra i) (rb i) (sz i) (lt i) (sz i) hrw) dX1_longestAt_54 hrw.1 rfl (Nat.le_of_ble_eq_true rfl) ⟨Nat.le_of_ble_eq_true rfl, Nat.le_of_ble_eq_true rfl⟩ (Nat.le_of_ble_eq_true rfl) (Nat.le_of_ble_eq_true rfl) rfl (fun v9 T9 z9 _ => ?_) (fun _ _ h9 => h9.elim)
              obtain ⟨rfl, rfl⟩ := z9
              show am_W _ _ _ _ _ _ _ _ _ _ _ _ _ _ _ 57 [some (.ref a), some (.ref a2), some (.int fr), some (.int (nI (28 + i))), some (.int (nI (lg sz lt g m fr i).2)), some (.int (nI (28 + i))), some (.ref (ra i))] [.int (nI (sz i))] S 0 0
              refine am_istore (I := iX1_longestAt) (pc := 57) (L' := [some (.ref a), some (.ref a2), some (.int fr), some (.int (nI (28 + i))), some (.int (nI (sz i))), some (.int (nI (28 + i))), some (.ref (ra i))]) dX1_longestAt_57 (by decide) rfl ?_
              refine am_forget 6 ?_
              refine am_iinc (I := iX1_longestAt) (pc := 59) (y := ((nI (28 + i)) + 1)) (L' := [some (.ref a), some (.ref a2), some (.int fr), some (.int (nI (28 + i))), some (.int (nI (sz i))), some (.int ((nI (28 + i)) + 1)), none]) dX1_longestAt_59 rfl rfl rfl ?_
              refine am_goto (I := iX1_longestAt) (pc := 62) (tgt := 9) dX1_longestAt_62 (by decide) ?_
              exact am_same rfl (by rw [nI_1, lg, if_pos ⟨h36, h46⟩]; rfl) rfl rfl rfl rfl (ih9 (i + 1) (by omega) (by omega))
  exact am_same rfl (by rfl) rfl rfl rfl rfl (loop9 _ 0 (Nat.lt_succ_self _) (Nat.zero_le _))
