/-- the first i < n with p i, as an int; -1 if there is none -/
def srch (p : Nat → Bool) (n : Nat) : Int32 := match (List.range n).find? p with
  | some i => nI i
  | none => -1
theorem srch_none {p : Nat → Bool} {n : Nat} (h : ∀ j, j < n → p j = false) : srch p n = -1 := by
  unfold srch
  rw [List.find?_eq_none.mpr (fun j hj => by rw [h j (List.mem_range.mp hj)]; decide)]
theorem srch_some {p : Nat → Bool} {n i : Nat} (hi : i < n) (hp : p i = true) (h : ∀ j, j < i → p j = false) : srch p n = nI i := by
  unfold srch
  have e : (List.range n).find? p = some i := by
    rw [List.find?_eq_some_iff_getElem]
    exact ⟨hp, i, by simpa using hi, by simp, fun j hj => by simp [h j hj]⟩
  rw [e]
theorem find_congr {p q : Nat → Bool} : ∀ {l : List Nat}, (∀ j ∈ l, p j = q j) → l.find? p = l.find? q
  | [], _ => rfl
  | a :: t, h => by
    rw [List.find?_cons, List.find?_cons, h a List.mem_cons_self, find_congr (fun j hj => h j (List.mem_cons_of_mem _ hj))]
theorem srch_congr {p q : Nat → Bool} {n : Nat} (h : ∀ j, j < n → p j = q j) : srch p n = srch q n := by
  unfold srch
  have e : (List.range n).find? p = (List.range n).find? q := find_congr (fun j hj => h j (List.mem_range.mp hj))
  rw [e]
/-- ZONES: cell a of class 5 with arrays x, y, r of 16; n of them are in use -/
abbrev zn (h : Nat → am_C) (a x y r : Nat) (fx fy fr : Nat → Int32) (n : Nat) : Prop := h a = .inr (5, [.ref x, .ref y, .ref r, .int (nI n)]) ∧ h x = .inl (0, 16, .inl fx) ∧ h y = .inl (0, 16, .inl fy) ∧ h r = .inl (0, 16, .inl fr) ∧ n ≤ 16 ∧ x ≠ y ∧ x ≠ r ∧ y ≠ r
def zsq (fx fy : Nat → Int32) (x y : Int32) (i : Nat) : Int32 := (fx i - x) * (fx i - x) + (fy i - y) * (fy i - y)
set_option maxRecDepth 100000 in
set_option maxHeartbeats 4000000 in
theorem m_Zones_total (K : am_K) (l : Launch) (S : am_S) (a x y r : Nat) (fx fy fr : Nat → Int32) (n : Nat) (hz : zn S.1 a x y r fx fy fr n) : am_M K l iX5_total 0 0 0 [.ref a] S (fun v S' => v = some (.int (nI n)) ∧ S = S') (fun _ _ => False) := by
  refine am_body (by decide) rfl (by simp [Value.category]) (Nat.le_of_ble_eq_true rfl) (fun xp xe xs xm xa xb xt xc ad0 => ?_)
  show am_W _ _ _ _ _ _ _ _ _ _ _ _ _ _ _ 0 [some (.ref a)] [] S 0 0
  refine am_aload_n (I := iX5_total) (pc := 0) dX5_total_0 rfl rfl ?_
  refine am_getf (I := iX5_total) (pc := 1) lf_X5_21 dX5_total_1 hz.1 rfl ?_
  exact am_iret (I := iX5_total) (pc := 4) dX5_total_4 rfl (Nat.le_refl _) (Nat.le_refl _) (⟨rfl, rfl⟩)
set_option maxRecDepth 100000 in
set_option maxHeartbeats 4000000 in
theorem m_Zones_sq (K : am_K) (l : Launch) (S : am_S) (a x y r : Nat) (fx fy fr : Nat → Int32) (n : Nat) (i : Nat) (u w : Int32) (hz : zn S.1 a x y r fx fy fr n) (hi : i < 16) : am_M K l iX5_squareOfDistance 0 0 0 [.ref a, .int (nI i), .int u, .int w] S (fun v S' => v = some (.int (zsq fx fy u w i)) ∧ S = S') (fun _ _ => False) := by
  refine am_body (by decide) rfl (by simp [Value.category]) (Nat.le_of_ble_eq_true rfl) (fun xp xe xs xm xa xb xt xc ad0 => ?_)
  show am_W _ _ _ _ _ _ _ _ _ _ _ _ _ _ _ 0 [some (.ref a), some (.int (nI i)), some (.int u), some (.int w), none, none] [] S 0 0
  refine am_aload_n (I := iX5_squareOfDistance) (pc := 0) dX5_squareOfDistance_0 rfl rfl ?_
  refine am_getf (I := iX5_squareOfDistance) (pc := 1) lf_X5_9 dX5_squareOfDistance_1 hz.1 rfl ?_
  refine am_iload_n (I := iX5_squareOfDistance) (pc := 4) dX5_squareOfDistance_4 rfl rfl ?_
  refine am_iaload (I := iX5_squareOfDistance) (pc := 5) dX5_squareOfDistance_5 hz.2.1 rfl (vp_in_nI hi (by decide)) ?_
  rw [nI_clamp (show i < 2 ^ 31 by omega)]
  refine am_iload_n (I := iX5_squareOfDistance) (pc := 6) dX5_squareOfDistance_6 rfl rfl ?_
  refine am_isub (I := iX5_squareOfDistance) (pc := 7) dX5_squareOfDistance_7 ?_
  refine am_istore (I := iX5_squareOfDistance) (pc := 8) (L' := [some (.ref a), some (.int (nI i)), some (.int u), some (.int w), some (.int ((fx i) - u)), none]) dX5_squareOfDistance_8 (by decide) rfl ?_
  refine am_aload_n (I := iX5_squareOfDistance) (pc := 10) dX5_squareOfDistance_10 rfl rfl ?_
  refine am_getf (I := iX5_squareOfDistance) (pc := 11) lf_X5_15 dX5_squareOfDistance_11 hz.1 rfl ?_
  refine am_iload_n (I := iX5_squareOfDistance) (pc := 14) dX5_squareOfDistance_14 rfl rfl ?_
  refine am_iaload (I := iX5_squareOfDistance) (pc := 15) dX5_squareOfDistance_15 hz.2.2.1 rfl (vp_in_nI hi (by decide)) ?_
  rw [nI_clamp (show i < 2 ^ 31 by omega)]
  refine am_iload_n (I := iX5_squareOfDistance) (pc := 16) dX5_squareOfDistance_16 rfl rfl ?_
  refine am_isub (I := iX5_squareOfDistance) (pc := 17) dX5_squareOfDistance_17 ?_
  refine am_istore (I := iX5_squareOfDistance) (pc := 18) (L' := [some (.ref a), some (.int (nI i)), some (.int u), some (.int w), some (.int ((fx i) - u)), some (.int ((fy i) - w))]) dX5_squareOfDistance_18 (by decide) rfl ?_
  refine am_iload (I := iX5_squareOfDistance) (pc := 20) dX5_squareOfDistance_20 rfl ?_
  refine am_iload (I := iX5_squareOfDistance) (pc := 22) dX5_squareOfDistance_22 rfl ?_
  refine am_imul (I := iX5_squareOfDistance) (pc := 24) dX5_squareOfDistance_24 ?_
  refine am_iload (I := iX5_squareOfDistance) (pc := 25) dX5_squareOfDistance_25 rfl ?_
  refine am_iload (I := iX5_squareOfDistance) (pc := 27) dX5_squareOfDistance_27 rfl ?_
  refine am_imul (I := iX5_squareOfDistance) (pc := 29) dX5_squareOfDistance_29 ?_
  refine am_iadd (I := iX5_squareOfDistance) (pc := 30) dX5_squareOfDistance_30 ?_
  exact am_iret (I := iX5_squareOfDistance) (pc := 31) dX5_squareOfDistance_31 rfl (Nat.le_refl _) (Nat.le_refl _) (⟨rfl, rfl⟩)
def zov (fx fy fr : Nat → Int32) (x y q : Int32) (i : Nat) : Bool := decide (zsq fx fy x y i < (fr i + q) * (fr i + q))
def zin (fx fy fr : Nat → Int32) (x y : Int32) (i : Nat) : Bool := decide (zsq fx fy x y i ≤ fr i * fr i)
set_option maxRecDepth 100000 in
set_option maxHeartbeats 4000000 in
theorem m_Zones_lowestOverlapped (K : am_K) (l : Launch) (S : am_S) (a x y r : Nat) (fx fy fr : Nat → Int32) (n : Nat) (u w q : Int32) (hz : zn S.1 a x y r fx fy fr n) : am_M K l iX5_lowestOverlapped 1 0 0 [.ref a, .int u, .int w, .int q] S (fun v S' => v = some (.int (srch (zov fx fy fr u w q) n)) ∧ S = S') (fun _ _ => False) := by
  refine am_body (by decide) rfl (by simp [Value.category]) (Nat.le_of_ble_eq_true rfl) (fun xp xe xs xm xa xb xt xc ad0 => ?_)
  show am_W _ _ _ _ _ _ _ _ _ _ _ _ _ _ _ 0 [some (.ref a), some (.int u), some (.int w), some (.int q), none, none] [] S 0 0
  refine am_iconst (I := iX5_lowestOverlapped) (pc := 0) (x := 0) dX5_lowestOverlapped_0 (by decide) ?_
  refine am_istore (I := iX5_lowestOverlapped) (pc := 1) (L' := [some (.ref a), some (.int u), some (.int w), some (.int q), some (.int 0), none]) dX5_lowestOverlapped_1 (by decide) rfl ?_
  have loop3 : ∀ (k3 : Nat) (i : Nat), n - i < k3 → (i ≤ n) → (∀ j, j < i → zov fx fy fr u w q j = false) → am_W K iX5_lowestOverlapped xp l xe (am_room 1 0 0) xs xm xa xb xt xc S ad0 (am_E K ad0 S (fun v S' => v = some (.int (srch (zov fx fy fr u w q) n)) ∧ S = S') (fun _ _ => False) xb xa xs 0 0) 3 [some (.ref a), some (.int u), some (.int w), some (.int q), some (.int (nI i)), none] [] S 0 0 := by
    intro k3
    induction k3 with
    | zero => intro i h9; exact absurd h9 (Nat.not_lt_zero _)
    | succ k3 ih3 =>
      intro i hm3 hi hq
      have hn : n ≤ 16 := hz.2.2.2.2.1
      refine am_iload (I := iX5_lowestOverlapped) (pc := 3) dX5_lowestOverlapped_3 rfl ?_
      refine am_aload_n (I := iX5_lowestOverlapped) (pc := 5) dX5_lowestOverlapped_5 rfl rfl ?_
      refine am_getf (I := iX5_lowestOverlapped) (pc := 6) lf_X5_21 dX5_lowestOverlapped_6 hz.1 rfl ?_
      refine am_icmp_ge (I := iX5_lowestOverlapped) (pc := 9) (tgt := 48) dX5_lowestOverlapped_9 (by decide) (fun c9 => ?_) (fun c9 => ?_)
      · have g9 : n ≤ i := by
          rcases Nat.lt_or_ge i n with q9 | q9
          · exact absurd c9 (nI_ge q9 (by omega))
          · exact q9
        refine am_iconst (I := iX5_lowestOverlapped) (pc := 48) (x := (-1)) dX5_lowestOverlapped_48 (by decide) ?_
        exact am_iret (I := iX5_lowestOverlapped) (pc := 49) dX5_lowestOverlapped_49 rfl (Nat.le_refl _) (Nat.le_refl _) (⟨by rw [srch_none (fun j h9 => hq j (by omega))], rfl⟩)
      · have l9 : i < n := by
          rcases Nat.lt_or_ge i n with q9 | q9
          · exact q9
          · exact absurd (nI_le q9 (by omega)) c9
        refine am_aload_n (I := iX5_lowestOverlapped) (pc := 12) dX5_lowestOverlapped_12 rfl rfl ?_
        refine am_getf (I := iX5_lowestOverlapped) (pc := 13) lf_X5_18 dX5_lowestOverlapped_13 hz.1 rfl ?_
        refine am_iload (I := iX5_lowestOverlapped) (pc := 16) dX5_lowestOverlapped_16 rfl ?_
        refine am_iaload (I := iX5_lowestOverlapped) (pc := 18) dX5_lowestOverlapped_18 hz.2.2.2.1 rfl (vp_in_nI (show i < 16 by omega) (by decide)) ?_
        rw [nI_clamp (show i < 2 ^ 31 by omega)]
        refine am_iload_n (I := iX5_lowestOverlapped) (pc := 19) dX5_lowestOverlapped_19 rfl rfl ?_
        refine am_iadd (I := iX5_lowestOverlapped) (pc := 20) dX5_lowestOverlapped_20 ?_
        refine am_istore (I := iX5_lowestOverlapped) (pc := 21) (L' := [some (.ref a), some (.int u), some (.int w), some (.int q), some (.int (nI i)), some (.int ((fr i) + q))]) dX5_lowestOverlapped_21 (by decide) rfl ?_
        refine am_aload_n (I := iX5_lowestOverlapped) (pc := 23) dX5_lowestOverlapped_23 rfl rfl ?_
        refine am_iload (I := iX5_lowestOverlapped) (pc := 24) dX5_lowestOverlapped_24 rfl ?_
        refine am_iload_n (I := iX5_lowestOverlapped) (pc := 26) dX5_lowestOverlapped_26 rfl rfl ?_
        refine am_iload_n (I := iX5_lowestOverlapped) (pc := 27) dX5_lowestOverlapped_27 rfl rfl ?_
        refine am_callV (I := iX5_lowestOverlapped) (pc := 28) (st := []) lv_X5_25 (m_Zones_sq K l _ a x y r fx fy fr n i u w hz (by omega)) dX5_lowestOverlapped_28 hz.1 rfl (Nat.le_of_ble_eq_true rfl) ⟨Nat.le_of_ble_eq_true rfl, Nat.le_of_ble_eq_true rfl⟩ (Nat.le_of_ble_eq_true rfl) (Nat.le_of_ble_eq_true rfl) rfl (fun v9 T9 z9 _ => ?_) (fun _ _ h9 => h9.elim)
        obtain ⟨rfl, rfl⟩ := z9
        show am_W _ _ _ _ _ _ _ _ _ _ _ _ _ _ _ 31 [some (.ref a), some (.int u), some (.int w), some (.int q), some (.int (nI i)), some (.int ((fr i) + q))] [.int (zsq fx fy u w i)] S 0 0
        refine am_iload (I := iX5_lowestOverlapped) (pc := 31) dX5_lowestOverlapped_31 rfl ?_
        refine am_iload (I := iX5_lowestOverlapped) (pc := 33) dX5_lowestOverlapped_33 rfl ?_
        refine am_imul (I := iX5_lowestOverlapped) (pc := 35) dX5_lowestOverlapped_35 ?_
        refine am_icmp_ge (I := iX5_lowestOverlapped) (pc := 36) (tgt := 42) dX5_lowestOverlapped_36 (by decide) (fun c36 => ?_) (fun c36 => ?_)
        · refine am_forget 5 ?_
          refine am_iinc (I := iX5_lowestOverlapped) (pc := 42) (y := ((nI i) + 1)) (L' := [some (.ref a), some (.int u), some (.int w), some (.int q), some (.int ((nI i) + 1)), none]) dX5_lowestOverlapped_42 rfl rfl rfl ?_
          refine am_goto (I := iX5_lowestOverlapped) (pc := 45) (tgt := 3) dX5_lowestOverlapped_45 (by decide) ?_
          refine am_same rfl (by rw [nI_1]) rfl rfl rfl rfl (ih3 (i + 1) (by omega) (by omega) (fun j h9 => by
                      rcases Nat.lt_or_ge j i with q9 | q9
                      · exact hq j q9
                      · have e9 : j = i := by omega
                        subst e9; exact decide_eq_false (Int32.not_lt.mpr c36)))
        · refine am_iload (I := iX5_lowestOverlapped) (pc := 39) dX5_lowestOverlapped_39 rfl ?_
          exact am_iret (I := iX5_lowestOverlapped) (pc := 41) dX5_lowestOverlapped_41 rfl (Nat.le_refl _) (Nat.le_refl _) (⟨by rw [srch_some l9 (decide_eq_true (Int32.not_le.mp c36)) hq], rfl⟩)
  exact am_same rfl (by rw [nI_0]) rfl rfl rfl rfl (loop3 _ 0 (Nat.lt_succ_self _) (Nat.zero_le _) (fun j h9 => absurd h9 (Nat.not_lt_zero _)))
set_option maxRecDepth 100000 in
set_option maxHeartbeats 4000000 in
theorem m_Zones_lowestAround (K : am_K) (l : Launch) (S : am_S) (a x y r : Nat) (fx fy fr : Nat → Int32) (n : Nat) (u w : Int32) (hz : zn S.1 a x y r fx fy fr n) : am_M K l iX5_lowestAround 1 0 0 [.ref a, .int u, .int w] S (fun v S' => v = some (.int (srch (zin fx fy fr u w) n)) ∧ S = S') (fun _ _ => False) := by
  refine am_body (by decide) rfl (by simp [Value.category]) (Nat.le_of_ble_eq_true rfl) (fun xp xe xs xm xa xb xt xc ad0 => ?_)
  show am_W _ _ _ _ _ _ _ _ _ _ _ _ _ _ _ 0 [some (.ref a), some (.int u), some (.int w), none] [] S 0 0
  refine am_iconst (I := iX5_lowestAround) (pc := 0) (x := 0) dX5_lowestAround_0 (by decide) ?_
  refine am_istore_n (I := iX5_lowestAround) (pc := 1) (L' := [some (.ref a), some (.int u), some (.int w), some (.int 0)]) dX5_lowestAround_1 rfl (by decide) rfl ?_
  have loop2 : ∀ (k2 : Nat) (i : Nat), n - i < k2 → (i ≤ n) → (∀ j, j < i → zin fx fy fr u w j = false) → am_W K iX5_lowestAround xp l xe (am_room 1 0 0) xs xm xa xb xt xc S ad0 (am_E K ad0 S (fun v S' => v = some (.int (srch (zin fx fy fr u w) n)) ∧ S = S') (fun _ _ => False) xb xa xs 0 0) 2 [some (.ref a), some (.int u), some (.int w), some (.int (nI i))] [] S 0 0 := by
    intro k2
    induction k2 with
    | zero => intro i h9; exact absurd h9 (Nat.not_lt_zero _)
    | succ k2 ih2 =>
      intro i hm2 hi hq
      have hn : n ≤ 16 := hz.2.2.2.2.1
      refine am_iload_n (I := iX5_lowestAround) (pc := 2) dX5_lowestAround_2 rfl rfl ?_
      refine am_aload_n (I := iX5_lowestAround) (pc := 3) dX5_lowestAround_3 rfl rfl ?_
      refine am_getf (I := iX5_lowestAround) (pc := 4) lf_X5_21 dX5_lowestAround_4 hz.1 rfl ?_
      refine am_icmp_ge (I := iX5_lowestAround) (pc := 7) (tgt := 41) dX5_lowestAround_7 (by decide) (fun c7 => ?_) (fun c7 => ?_)
      · have g7 : n ≤ i := by
          rcases Nat.lt_or_ge i n with q9 | q9
          · exact absurd c7 (nI_ge q9 (by omega))
          · exact q9
        refine am_iconst (I := iX5_lowestAround) (pc := 41) (x := (-1)) dX5_lowestAround_41 (by decide) ?_
        exact am_iret (I := iX5_lowestAround) (pc := 42) dX5_lowestAround_42 rfl (Nat.le_refl _) (Nat.le_refl _) (⟨by rw [srch_none (fun j h9 => hq j (by omega))], rfl⟩)
      · have l7 : i < n := by
          rcases Nat.lt_or_ge i n with q9 | q9
          · exact q9
          · exact absurd (nI_le q9 (by omega)) c7
        refine am_aload_n (I := iX5_lowestAround) (pc := 10) dX5_lowestAround_10 rfl rfl ?_
        refine am_iload_n (I := iX5_lowestAround) (pc := 11) dX5_lowestAround_11 rfl rfl ?_
        refine am_iload_n (I := iX5_lowestAround) (pc := 12) dX5_lowestAround_12 rfl rfl ?_
        refine am_iload_n (I := iX5_lowestAround) (pc := 13) dX5_lowestAround_13 rfl rfl ?_
        refine am_callV (I := iX5_lowestAround) (pc := 14) (st := []) lv_X5_25 (m_Zones_sq K l _ a x y r fx fy fr n i u w hz (by omega)) dX5_lowestAround_14 hz.1 rfl (Nat.le_of_ble_eq_true rfl) ⟨Nat.le_of_ble_eq_true rfl, Nat.le_of_ble_eq_true rfl⟩ (Nat.le_of_ble_eq_true rfl) (Nat.le_of_ble_eq_true rfl) rfl (fun v9 T9 z9 _ => ?_) (fun _ _ h9 => h9.elim)
        obtain ⟨rfl, rfl⟩ := z9
        show am_W _ _ _ _ _ _ _ _ _ _ _ _ _ _ _ 17 [some (.ref a), some (.int u), some (.int w), some (.int (nI i))] [.int (zsq fx fy u w i)] S 0 0
        refine am_aload_n (I := iX5_lowestAround) (pc := 17) dX5_lowestAround_17 rfl rfl ?_
        refine am_getf (I := iX5_lowestAround) (pc := 18) lf_X5_18 dX5_lowestAround_18 hz.1 rfl ?_
        refine am_iload_n (I := iX5_lowestAround) (pc := 21) dX5_lowestAround_21 rfl rfl ?_
        refine am_iaload (I := iX5_lowestAround) (pc := 22) dX5_lowestAround_22 hz.2.2.2.1 rfl (vp_in_nI (show i < 16 by omega) (by decide)) ?_
        rw [nI_clamp (show i < 2 ^ 31 by omega)]
        refine am_aload_n (I := iX5_lowestAround) (pc := 23) dX5_lowestAround_23 rfl rfl ?_
        refine am_getf (I := iX5_lowestAround) (pc := 24) lf_X5_18 dX5_lowestAround_24 hz.1 rfl ?_
        refine am_iload_n (I := iX5_lowestAround) (pc := 27) dX5_lowestAround_27 rfl rfl ?_
        refine am_iaload (I := iX5_lowestAround) (pc := 28) dX5_lowestAround_28 hz.2.2.2.1 rfl (vp_in_nI (show i < 16 by omega) (by decide)) ?_
        rw [nI_clamp (show i < 2 ^ 31 by omega)]
        refine am_imul (I := iX5_lowestAround) (pc := 29) dX5_lowestAround_29 ?_
        refine am_icmp_gt (I := iX5_lowestAround) (pc := 30) (tgt := 35) dX5_lowestAround_30 (by decide) (fun c30 => ?_) (fun c30 => ?_)
        · refine am_iinc (I := iX5_lowestAround) (pc := 35) (y := ((nI i) + 1)) (L' := [some (.ref a), some (.int u), some (.int w), some (.int ((nI i) + 1))]) dX5_lowestAround_35 rfl rfl rfl ?_
          refine am_goto (I := iX5_lowestAround) (pc := 38) (tgt := 2) dX5_lowestAround_38 (by decide) ?_
          refine am_same rfl (by rw [nI_1]) rfl rfl rfl rfl (ih2 (i + 1) (by omega) (by omega) (fun j h9 => by
                      rcases Nat.lt_or_ge j i with q9 | q9
                      · exact hq j q9
                      · have e9 : j = i := by omega
                        subst e9; exact decide_eq_false (Int32.not_le.mpr c30)))
        · refine am_iload_n (I := iX5_lowestAround) (pc := 33) dX5_lowestAround_33 rfl rfl ?_
          exact am_iret (I := iX5_lowestAround) (pc := 34) dX5_lowestAround_34 rfl (Nat.le_refl _) (Nat.le_refl _) (⟨by rw [srch_some l7 (decide_eq_true (Int32.not_lt.mp c30)) hq], rfl⟩)
  exact am_same rfl (by rw [nI_0]) rfl rfl rfl rfl (loop2 _ 0 (Nat.lt_succ_self _) (Nat.zero_le _) (fun j h9 => absurd h9 (Nat.not_lt_zero _)))
def znS (S : am_S) (a x y r : Nat) (fx fy fr : Nat → Int32) (n : Nat) : am_S := (am_up (am_up (am_up (am_up S.1 x (.inl (0, 16, .inl fx))) y (.inl (0, 16, .inl fy))) r (.inl (0, 16, .inl fr))) a (.inr (5, [.ref x, .ref y, .ref r, .int (nI n)])), S.2)
theorem znS_zn {S : am_S} {a x y r : Nat} {fx fy fr gx gy gr : Nat → Int32} {n m : Nat} (hz : zn S.1 a x y r gx gy gr m) (hn : n ≤ 16) : zn (znS S a x y r fx fy fr n).1 a x y r fx fy fr n := by
  obtain ⟨h1, h2, h3, h4, -, h6, h7, h8⟩ := hz
  have e1 : x ≠ a := am_ne h2 h1 (fun e => by cases e)
  have e2 : y ≠ a := am_ne h3 h1 (fun e => by cases e)
  have e3 : r ≠ a := am_ne h4 h1 (fun e => by cases e)
  exact ⟨am_up_s, (am_up_n e1).trans ((am_up_n h7).trans ((am_up_n h6).trans am_up_s)), (am_up_n e2).trans ((am_up_n h8).trans am_up_s), (am_up_n e3).trans am_up_s, hn, h6, h7, h8⟩
set_option maxRecDepth 100000 in
set_option maxHeartbeats 4000000 in
theorem m_Zones_add (K : am_K) (l : Launch) (S : am_S) (a x y r : Nat) (fx fy fr : Nat → Int32) (n : Nat) (u w q : Int32) (hz : zn S.1 a x y r fx fy fr n) (hn : n < 16) : am_M K l iX5_add 0 0 0 [.ref a, .int u, .int w, .int q] S (fun v S' => v = some (.int (nI n)) ∧ znS S a x y r (upd fx n u) (upd fy n w) (upd fr n q) (n + 1) = S') (fun _ _ => False) := by
  refine am_body (by decide) rfl (by simp [Value.category]) (Nat.le_of_ble_eq_true rfl) (fun xp xe xs xm xa xb xt xc ad0 => ?_)
  show am_W _ _ _ _ _ _ _ _ _ _ _ _ _ _ _ 0 [some (.ref a), some (.int u), some (.int w), some (.int q)] [] S 0 0
  refine am_aload_n (I := iX5_add) (pc := 0) dX5_add_0 rfl rfl ?_
  refine am_getf (I := iX5_add) (pc := 1) lf_X5_21 dX5_add_1 hz.1 rfl ?_
  refine am_bipush (I := iX5_add) (pc := 4) (x := 16) dX5_add_4 (by decide) ?_
  refine am_icmp_lt (I := iX5_add) (pc := 6) (tgt := 11) dX5_add_6 (by decide) (fun c6 => ?_) (fun c6 => ?_)
  · refine am_aload_n (I := iX5_add) (pc := 11) dX5_add_11 rfl rfl ?_
    refine am_getf (I := iX5_add) (pc := 12) lf_X5_9 dX5_add_12 hz.1 rfl ?_
    refine am_aload_n (I := iX5_add) (pc := 15) dX5_add_15 rfl rfl ?_
    refine am_getf (I := iX5_add) (pc := 16) lf_X5_21 dX5_add_16 hz.1 rfl ?_
    refine am_iload_n (I := iX5_add) (pc := 19) dX5_add_19 rfl rfl ?_
    refine am_iastore (I := iX5_add) (pc := 20) dX5_add_20 hz.2.1 rfl (vp_in_nI hn (by decide)) ?_
    generalize eT1 : ((am_up S.1 x (.inl (0, 16, .inl (upd fx (nI n).toNatClampNeg u))), S.2) : am_S) = T1
    have k1 : T1.1 a = (.inr (5, [.ref x, .ref y, .ref r, .int (nI n)])) := by rw [← eT1]; exact (am_up_n (am_ne hz.1 hz.2.1 (fun e9 => by cases e9))).trans hz.1
    have k2 : T1.1 x = (.inl (0, 16, .inl (upd fx (nI n).toNatClampNeg u))) := by rw [← eT1]; exact am_up_s
    have k3 : T1.1 y = (.inl (0, 16, .inl fy)) := by rw [← eT1]; exact (am_up_n (Ne.symm hz.2.2.2.2.2.1)).trans hz.2.2.1
    have k4 : T1.1 r = (.inl (0, 16, .inl fr)) := by rw [← eT1]; exact (am_up_n (Ne.symm hz.2.2.2.2.2.2.1)).trans hz.2.2.2.1
    refine am_aload_n (I := iX5_add) (pc := 21) dX5_add_21 rfl rfl ?_
    refine am_getf (I := iX5_add) (pc := 22) lf_X5_15 dX5_add_22 k1 rfl ?_
    refine am_aload_n (I := iX5_add) (pc := 25) dX5_add_25 rfl rfl ?_
    refine am_getf (I := iX5_add) (pc := 26) lf_X5_21 dX5_add_26 k1 rfl ?_
    refine am_iload_n (I := iX5_add) (pc := 29) dX5_add_29 rfl rfl ?_
    refine am_iastore (I := iX5_add) (pc := 30) dX5_add_30 k3 rfl (vp_in_nI hn (by decide)) ?_
    generalize eT2 : ((am_up T1.1 y (.inl (0, 16, .inl (upd fy (nI n).toNatClampNeg w))), T1.2) : am_S) = T2
    have k5 : T2.1 a = (.inr (5, [.ref x, .ref y, .ref r, .int (nI n)])) := by rw [← eT2]; exact (am_up_n (am_ne k1 k3 (fun e9 => by cases e9))).trans k1
    have k6 : T2.1 x = (.inl (0, 16, .inl (upd fx (nI n).toNatClampNeg u))) := by rw [← eT2]; exact (am_up_n hz.2.2.2.2.2.1).trans k2
    have k7 : T2.1 y = (.inl (0, 16, .inl (upd fy (nI n).toNatClampNeg w))) := by rw [← eT2]; exact am_up_s
    have k8 : T2.1 r = (.inl (0, 16, .inl fr)) := by rw [← eT2]; exact (am_up_n (Ne.symm hz.2.2.2.2.2.2.2)).trans k4
    refine am_aload_n (I := iX5_add) (pc := 31) dX5_add_31 rfl rfl ?_
    refine am_getf (I := iX5_add) (pc := 32) lf_X5_18 dX5_add_32 k5 rfl ?_
    refine am_aload_n (I := iX5_add) (pc := 35) dX5_add_35 rfl rfl ?_
    refine am_getf (I := iX5_add) (pc := 36) lf_X5_21 dX5_add_36 k5 rfl ?_
    refine am_iload_n (I := iX5_add) (pc := 39) dX5_add_39 rfl rfl ?_
    refine am_iastore (I := iX5_add) (pc := 40) dX5_add_40 k8 rfl (vp_in_nI hn (by decide)) ?_
    generalize eT3 : ((am_up T2.1 r (.inl (0, 16, .inl (upd fr (nI n).toNatClampNeg q))), T2.2) : am_S) = T3
    have k9 : T3.1 a = (.inr (5, [.ref x, .ref y, .ref r, .int (nI n)])) := by rw [← eT3]; exact (am_up_n (am_ne k5 k8 (fun e9 => by cases e9))).trans k5
    have k10 : T3.1 x = (.inl (0, 16, .inl (upd fx (nI n).toNatClampNeg u))) := by rw [← eT3]; exact (am_up_n hz.2.2.2.2.2.2.1).trans k6
    have k11 : T3.1 y = (.inl (0, 16, .inl (upd fy (nI n).toNatClampNeg w))) := by rw [← eT3]; exact (am_up_n hz.2.2.2.2.2.2.2).trans k7
    have k12 : T3.1 r = (.inl (0, 16, .inl (upd fr (nI n).toNatClampNeg q))) := by rw [← eT3]; exact am_up_s
    refine am_aload_n (I := iX5_add) (pc := 41) dX5_add_41 rfl rfl ?_
    refine am_dup (I := iX5_add) (pc := 42) dX5_add_42 rfl ?_
    refine am_getf (I := iX5_add) (pc := 43) lf_X5_21 dX5_add_43 k9 rfl ?_
    refine am_iconst (I := iX5_add) (pc := 46) (x := 1) dX5_add_46 (by decide) ?_
    refine am_iadd (I := iX5_add) (pc := 47) dX5_add_47 ?_
    refine am_putf (I := iX5_add) (pc := 48) (fs' := [.ref x, .ref y, .ref r, .int ((nI n) + 1)]) lf_X5_21 dX5_add_48 k9 (fun _ => ⟨rfl, rfl⟩) (Nat.le_of_ble_eq_true rfl) rfl ?_
    generalize eT4 : ((am_up T3.1 a (.inr (5, [.ref x, .ref y, .ref r, .int ((nI n) + 1)])), T3.2) : am_S) = T4
    have k13 : T4.1 a = (.inr (5, [.ref x, .ref y, .ref r, .int ((nI n) + 1)])) := by rw [← eT4]; exact am_up_s
    have k14 : T4.1 x = (.inl (0, 16, .inl (upd fx (nI n).toNatClampNeg u))) := by rw [← eT4]; exact (am_up_n (am_ne k10 k9 (fun e9 => by cases e9))).trans k10
    have k15 : T4.1 y = (.inl (0, 16, .inl (upd fy (nI n).toNatClampNeg w))) := by rw [← eT4]; exact (am_up_n (am_ne k11 k9 (fun e9 => by cases e9))).trans k11
    have k16 : T4.1 r = (.inl (0, 16, .inl (upd fr (nI n).toNatClampNeg q))) := by rw [← eT4]; exact (am_up_n (am_ne k12 k9 (fun e9 => by cases e9))).trans k12
    refine am_aload_n (I := iX5_add) (pc := 51) dX5_add_51 rfl rfl ?_
    refine am_getf (I := iX5_add) (pc := 52) lf_X5_21 dX5_add_52 k13 rfl ?_
    refine am_iconst (I := iX5_add) (pc := 55) (x := 1) dX5_add_55 (by decide) ?_
    refine am_isub (I := iX5_add) (pc := 56) dX5_add_56 ?_
    exact am_iret (I := iX5_add) (pc := 57) dX5_add_57 rfl (Nat.le_refl _) (Nat.le_refl _) (⟨by rw [nI_1, nI_pred], by unfold znS; rw [← eT4, ← eT3, ← eT2, ← eT1, nI_clamp (by omega), nI_1]⟩)
  · exact absurd (nI_lt (b := 16) hn (by decide)) c6
