set_option maxRecDepth 100000 in
set_option maxHeartbeats 4000000 in
theorem q_thrown {K : am_K} {l : Launch} {S : am_S} {th pd wd ln sq st ct cl ft zn : Int32} {a26 a27 a28 a29 a30 a31 a32 a33 a34 a35 a36 a37 a38 a39 a40 a41 a42 a43 a44 : Nat → Int32}   : am_M K l iX7_thrown 0 0 0 [.ref 25] (mdS S th pd wd ln sq st ct cl ft zn a26 a27 a28 a29 a30 a31 a32 a33 a34 a35 a36 a37 a38 a39 a40 a41 a42 a43 a44) (fun v S' => v = some (.int (th)) ∧ mdS S th pd wd ln sq st ct cl ft zn a26 a27 a28 a29 a30 a31 a32 a33 a34 a35 a36 a37 a38 a39 a40 a41 a42 a43 a44 = S') (fun _ _ => False) := by
  refine am_body (by decide) rfl (by simp [Value.category]) (Nat.le_of_ble_eq_true rfl) (fun xp xe xs xm xa xb xt xc ad0 => ?_)
  show am_W _ _ _ _ _ _ _ _ _ _ _ _ _ _ _ 0 [some (.ref 25)] [] (mdS S th pd wd ln sq st ct cl ft zn a26 a27 a28 a29 a30 a31 a32 a33 a34 a35 a36 a37 a38 a39 a40 a41 a42 a43 a44) 0 0
  refine am_aload_n (I := iX7_thrown) (pc := 0) dX7_thrown_0 rfl rfl ?_
  refine am_getf (I := iX7_thrown) (pc := 1) lf_X7_68 dX7_thrown_1 md_25 rfl ?_
  exact am_iret (I := iX7_thrown) (pc := 4) dX7_thrown_4 rfl (Nat.le_refl _) (Nat.le_refl _) (⟨rfl, rfl⟩)
set_option maxRecDepth 100000 in
set_option maxHeartbeats 4000000 in
theorem q_goes0 {K : am_K} {l : Launch} {S : am_S} {th pd wd ln sq st ct cl ft zn : Int32} {a26 a27 a28 a29 a30 a31 a32 a33 a34 a35 a36 a37 a38 a39 a40 a41 a42 a43 a44 : Nat → Int32}   : am_M K l iX7_goes 0 0 0 [.ref 25, .int 1, .int 1] (mdS S th pd wd ln sq st ct cl ft zn a26 a27 a28 a29 a30 a31 a32 a33 a34 a35 a36 a37 a38 a39 a40 a41 a42 a43 a44) (fun v S' => v = some (.int (1)) ∧ mdS S 0 pd wd ln sq st ct cl ft zn a26 a27 a28 a29 a30 a31 a32 a33 a34 a35 a36 a37 a38 a39 a40 a41 a42 a43 a44 = S') (fun _ _ => False) := by
  refine am_body (by decide) rfl (by simp [Value.category]) (Nat.le_of_ble_eq_true rfl) (fun xp xe xs xm xa xb xt xc ad0 => ?_)
  show am_W _ _ _ _ _ _ _ _ _ _ _ _ _ _ _ 0 [some (.ref 25), some (.int 1), some (.int 1)] [] (mdS S th pd wd ln sq st ct cl ft zn a26 a27 a28 a29 a30 a31 a32 a33 a34 a35 a36 a37 a38 a39 a40 a41 a42 a43 a44) 0 0
  refine am_aload_n (I := iX7_goes) (pc := 0) dX7_goes_0 rfl rfl ?_
  refine am_iload_n (I := iX7_goes) (pc := 1) dX7_goes_1 rfl rfl ?_
  refine am_if_ne (I := iX7_goes) (pc := 2) (tgt := 9) dX7_goes_2 (by decide) (fun c2 => ?_) (fun c2 => ?_)
  · refine am_iload_n (I := iX7_goes) (pc := 9) dX7_goes_9 rfl rfl ?_
    refine am_if_ne (I := iX7_goes) (pc := 10) (tgt := 17) dX7_goes_10 (by decide) (fun c10 => ?_) (fun c10 => ?_)
    · refine am_iconst (I := iX7_goes) (pc := 17) (x := 0) dX7_goes_17 (by decide) ?_
      refine am_putf (I := iX7_goes) (pc := 18) (fs' := [.int 0, .int pd, .ref 26, .ref 27, .ref 28, .ref 29, .ref 30, .int wd, .ref 31, .ref 32, .ref 33, .ref 34, .int ln, .int sq, .int st, .ref 35, .ref 36, .ref 37, .ref 38, .int ct, .int cl, .int ft, .ref 39, .int zn, .ref 40, .ref 41, .ref 42, .ref 43, .ref 44]) lf_X7_68 dX7_goes_18 md_25 (fun _ => ⟨rfl, rfl⟩) (Nat.le_of_ble_eq_true rfl) rfl ?_
      refine am_same (S' := mdS S 0 pd wd ln sq st ct cl ft zn a26 a27 a28 a29 a30 a31 a32 a33 a34 a35 a36 a37 a38 a39 a40 a41 a42 a43 a44) rfl rfl rfl mdS_25 rfl rfl ?_
      refine am_aload_n (I := iX7_goes) (pc := 21) dX7_goes_21 rfl rfl ?_
      refine am_getf (I := iX7_goes) (pc := 22) lf_X7_68 dX7_goes_22 md_25 rfl ?_
      refine am_if_ne (I := iX7_goes) (pc := 25) (tgt := 32) dX7_goes_25 (by decide) (fun c25 => ?_) (fun c25 => ?_)
      · exact absurd rfl c25
      · refine am_iconst (I := iX7_goes) (pc := 28) (x := 1) dX7_goes_28 (by decide) ?_
        refine am_goto (I := iX7_goes) (pc := 29) (tgt := 33) dX7_goes_29 (by decide) ?_
        exact am_zret (I := iX7_goes) (pc := 33) dX7_goes_33 rfl (by decide) (Nat.le_refl _) (Nat.le_refl _) (⟨rfl, rfl⟩)
    · exact absurd c10 (by decide)
  · exact absurd c2 (by decide)
set_option maxRecDepth 100000 in
set_option maxHeartbeats 4000000 in
theorem q_goes1 {K : am_K} {l : Launch} {S : am_S} {th pd wd ln sq st ct cl ft zn : Int32} {a26 a27 a28 a29 a30 a31 a32 a33 a34 a35 a36 a37 a38 a39 a40 a41 a42 a43 a44 : Nat → Int32} (y : Int32)  : am_M K l iX7_goes 0 0 0 [.ref 25, .int 0, .int y] (mdS S th pd wd ln sq st ct cl ft zn a26 a27 a28 a29 a30 a31 a32 a33 a34 a35 a36 a37 a38 a39 a40 a41 a42 a43 a44) (fun v S' => v = some (.int (0)) ∧ mdS S 1 pd wd ln sq st ct cl ft zn a26 a27 a28 a29 a30 a31 a32 a33 a34 a35 a36 a37 a38 a39 a40 a41 a42 a43 a44 = S') (fun _ _ => False) := by
  refine am_body (by decide) rfl (by simp [Value.category]) (Nat.le_of_ble_eq_true rfl) (fun xp xe xs xm xa xb xt xc ad0 => ?_)
  show am_W _ _ _ _ _ _ _ _ _ _ _ _ _ _ _ 0 [some (.ref 25), some (.int 0), some (.int y)] [] (mdS S th pd wd ln sq st ct cl ft zn a26 a27 a28 a29 a30 a31 a32 a33 a34 a35 a36 a37 a38 a39 a40 a41 a42 a43 a44) 0 0
  refine am_aload_n (I := iX7_goes) (pc := 0) dX7_goes_0 rfl rfl ?_
  refine am_iload_n (I := iX7_goes) (pc := 1) dX7_goes_1 rfl rfl ?_
  refine am_if_ne (I := iX7_goes) (pc := 2) (tgt := 9) dX7_goes_2 (by decide) (fun c2 => ?_) (fun c2 => ?_)
  · exact absurd rfl c2
  · refine am_iconst (I := iX7_goes) (pc := 5) (x := 1) dX7_goes_5 (by decide) ?_
    refine am_goto (I := iX7_goes) (pc := 6) (tgt := 18) dX7_goes_6 (by decide) ?_
    refine am_putf (I := iX7_goes) (pc := 18) (fs' := [.int 1, .int pd, .ref 26, .ref 27, .ref 28, .ref 29, .ref 30, .int wd, .ref 31, .ref 32, .ref 33, .ref 34, .int ln, .int sq, .int st, .ref 35, .ref 36, .ref 37, .ref 38, .int ct, .int cl, .int ft, .ref 39, .int zn, .ref 40, .ref 41, .ref 42, .ref 43, .ref 44]) lf_X7_68 dX7_goes_18 md_25 (fun _ => ⟨rfl, rfl⟩) (Nat.le_of_ble_eq_true rfl) rfl ?_
    refine am_same (S' := mdS S 1 pd wd ln sq st ct cl ft zn a26 a27 a28 a29 a30 a31 a32 a33 a34 a35 a36 a37 a38 a39 a40 a41 a42 a43 a44) rfl rfl rfl mdS_25 rfl rfl ?_
    refine am_aload_n (I := iX7_goes) (pc := 21) dX7_goes_21 rfl rfl ?_
    refine am_getf (I := iX7_goes) (pc := 22) lf_X7_68 dX7_goes_22 md_25 rfl ?_
    refine am_if_ne (I := iX7_goes) (pc := 25) (tgt := 32) dX7_goes_25 (by decide) (fun c25 => ?_) (fun c25 => ?_)
    · refine am_iconst (I := iX7_goes) (pc := 32) (x := 0) dX7_goes_32 (by decide) ?_
      exact am_zret (I := iX7_goes) (pc := 33) dX7_goes_33 rfl (by decide) (Nat.le_refl _) (Nat.le_refl _) (⟨rfl, rfl⟩)
    · exact absurd c25 (by decide)
set_option maxRecDepth 100000 in
set_option maxHeartbeats 4000000 in
theorem q_goes2 {K : am_K} {l : Launch} {S : am_S} {th pd wd ln sq st ct cl ft zn : Int32} {a26 a27 a28 a29 a30 a31 a32 a33 a34 a35 a36 a37 a38 a39 a40 a41 a42 a43 a44 : Nat → Int32}   : am_M K l iX7_goes 0 0 0 [.ref 25, .int 1, .int 0] (mdS S th pd wd ln sq st ct cl ft zn a26 a27 a28 a29 a30 a31 a32 a33 a34 a35 a36 a37 a38 a39 a40 a41 a42 a43 a44) (fun v S' => v = some (.int (0)) ∧ mdS S 2 pd wd ln sq st ct cl ft zn a26 a27 a28 a29 a30 a31 a32 a33 a34 a35 a36 a37 a38 a39 a40 a41 a42 a43 a44 = S') (fun _ _ => False) := by
  refine am_body (by decide) rfl (by simp [Value.category]) (Nat.le_of_ble_eq_true rfl) (fun xp xe xs xm xa xb xt xc ad0 => ?_)
  show am_W _ _ _ _ _ _ _ _ _ _ _ _ _ _ _ 0 [some (.ref 25), some (.int 1), some (.int 0)] [] (mdS S th pd wd ln sq st ct cl ft zn a26 a27 a28 a29 a30 a31 a32 a33 a34 a35 a36 a37 a38 a39 a40 a41 a42 a43 a44) 0 0
  refine am_aload_n (I := iX7_goes) (pc := 0) dX7_goes_0 rfl rfl ?_
  refine am_iload_n (I := iX7_goes) (pc := 1) dX7_goes_1 rfl rfl ?_
  refine am_if_ne (I := iX7_goes) (pc := 2) (tgt := 9) dX7_goes_2 (by decide) (fun c2 => ?_) (fun c2 => ?_)
  · refine am_iload_n (I := iX7_goes) (pc := 9) dX7_goes_9 rfl rfl ?_
    refine am_if_ne (I := iX7_goes) (pc := 10) (tgt := 17) dX7_goes_10 (by decide) (fun c10 => ?_) (fun c10 => ?_)
    · exact absurd rfl c10
    · refine am_iconst (I := iX7_goes) (pc := 13) (x := 2) dX7_goes_13 (by decide) ?_
      refine am_goto (I := iX7_goes) (pc := 14) (tgt := 18) dX7_goes_14 (by decide) ?_
      refine am_putf (I := iX7_goes) (pc := 18) (fs' := [.int 2, .int pd, .ref 26, .ref 27, .ref 28, .ref 29, .ref 30, .int wd, .ref 31, .ref 32, .ref 33, .ref 34, .int ln, .int sq, .int st, .ref 35, .ref 36, .ref 37, .ref 38, .int ct, .int cl, .int ft, .ref 39, .int zn, .ref 40, .ref 41, .ref 42, .ref 43, .ref 44]) lf_X7_68 dX7_goes_18 md_25 (fun _ => ⟨rfl, rfl⟩) (Nat.le_of_ble_eq_true rfl) rfl ?_
      refine am_same (S' := mdS S 2 pd wd ln sq st ct cl ft zn a26 a27 a28 a29 a30 a31 a32 a33 a34 a35 a36 a37 a38 a39 a40 a41 a42 a43 a44) rfl rfl rfl mdS_25 rfl rfl ?_
      refine am_aload_n (I := iX7_goes) (pc := 21) dX7_goes_21 rfl rfl ?_
      refine am_getf (I := iX7_goes) (pc := 22) lf_X7_68 dX7_goes_22 md_25 rfl ?_
      refine am_if_ne (I := iX7_goes) (pc := 25) (tgt := 32) dX7_goes_25 (by decide) (fun c25 => ?_) (fun c25 => ?_)
      · refine am_iconst (I := iX7_goes) (pc := 32) (x := 0) dX7_goes_32 (by decide) ?_
        exact am_zret (I := iX7_goes) (pc := 33) dX7_goes_33 rfl (by decide) (Nat.le_refl _) (Nat.le_refl _) (⟨rfl, rfl⟩)
      · exact absurd c25 (by decide)
  · exact absurd c2 (by decide)
def blw (x n : Int32) : Bool := !decide (x < 0) && decide (x < n)
theorem blw_t {p n : Nat} (h : p < n) (hn : n < 2 ^ 31) : blw (nI p) (nI n) = true := by
  unfold blw
  rw [decide_eq_false (nI_pos (by omega)), decide_eq_true (nI_lt h hn)]; rfl
theorem blw_f {x n : Int32} (h : x < 0 ∨ n ≤ x) : blw x n = false := by
  unfold blw
  rcases h with h | h
  · rw [decide_eq_true h]; rfl
  · rw [decide_eq_false (Int32.not_lt.mpr h), Bool.and_false]
def ipr (x y : Int32) : Bool := blw x 10 && blw y 5
theorem ipr_t {p q : Nat} (hp : p < 10) (hq : q < 5) : ipr (nI p) (nI q) = true := by
  unfold ipr
  rw [show (10 : Int32) = nI 10 from rfl, show (5 : Int32) = nI 5 from rfl, blw_t hp (by decide), blw_t hq (by decide)]; rfl
theorem ipr_f {x y : Int32} (h : (x < 0 ∨ 10 ≤ x) ∨ (y < 0 ∨ 5 ≤ y)) : ipr x y = false := by
  unfold ipr
  rcases h with h | h
  · rw [blw_f h]; rfl
  · rw [blw_f h, Bool.and_false]
set_option maxRecDepth 100000 in
set_option maxHeartbeats 4000000 in
theorem q_below {K : am_K} {l : Launch} {S : am_S} (x n : Int32)  : am_M K l iX7_below 0 0 0 [.int x, .int n] S (fun v S' => v = some (.int (bI (blw x n))) ∧ S = S') (fun _ _ => False) := by
  refine am_body (by decide) rfl (by simp [Value.category]) (Nat.le_of_ble_eq_true rfl) (fun xp xe xs xm xa xb xt xc ad0 => ?_)
  show am_W _ _ _ _ _ _ _ _ _ _ _ _ _ _ _ 0 [some (.int x), some (.int n)] [] S 0 0
  refine am_iload_n (I := iX7_below) (pc := 0) dX7_below_0 rfl rfl ?_
  refine am_if_lt (I := iX7_below) (pc := 1) (tgt := 13) dX7_below_1 (by decide) (fun c1 => ?_) (fun c1 => ?_)
  · refine am_iconst (I := iX7_below) (pc := 13) (x := 0) dX7_below_13 (by decide) ?_
    exact am_zret (I := iX7_below) (pc := 14) dX7_below_14 rfl (by decide) (Nat.le_refl _) (Nat.le_refl _) (⟨by rw [blw_f (Or.inl c1)]; rfl, rfl⟩)
  · refine am_iload_n (I := iX7_below) (pc := 4) dX7_below_4 rfl rfl ?_
    refine am_iload_n (I := iX7_below) (pc := 5) dX7_below_5 rfl rfl ?_
    refine am_icmp_ge (I := iX7_below) (pc := 6) (tgt := 13) dX7_below_6 (by decide) (fun c6 => ?_) (fun c6 => ?_)
    · refine am_iconst (I := iX7_below) (pc := 13) (x := 0) dX7_below_13 (by decide) ?_
      exact am_zret (I := iX7_below) (pc := 14) dX7_below_14 rfl (by decide) (Nat.le_refl _) (Nat.le_refl _) (⟨by rw [blw_f (Or.inr c6)]; rfl, rfl⟩)
    · refine am_iconst (I := iX7_below) (pc := 9) (x := 1) dX7_below_9 (by decide) ?_
      refine am_goto (I := iX7_below) (pc := 10) (tgt := 14) dX7_below_10 (by decide) ?_
      exact am_zret (I := iX7_below) (pc := 14) dX7_below_14 rfl (by decide) (Nat.le_refl _) (Nat.le_refl _) (⟨by rw [bI_t (by unfold blw; rw [decide_eq_false c1, decide_eq_true (Int32.not_le.mp c6)]; rfl)], rfl⟩)
set_option maxRecDepth 100000 in
set_option maxHeartbeats 4000000 in
theorem q_isLetter {K : am_K} {l : Launch} {S : am_S} (x : Int32)  : am_M K l iX7_isLetter 0 0 0 [.int x] S (fun v S' => v = some (.int (bI (isl x))) ∧ S = S') (fun _ _ => False) := by
  refine am_body (by decide) rfl (by simp [Value.category]) (Nat.le_of_ble_eq_true rfl) (fun xp xe xs xm xa xb xt xc ad0 => ?_)
  show am_W _ _ _ _ _ _ _ _ _ _ _ _ _ _ _ 0 [some (.int x)] [] S 0 0
  refine am_iload_n (I := iX7_isLetter) (pc := 0) dX7_isLetter_0 rfl rfl ?_
  refine am_bipush (I := iX7_isLetter) (pc := 1) (x := 97) dX7_isLetter_1 (by decide) ?_
  refine am_icmp_lt (I := iX7_isLetter) (pc := 3) (tgt := 16) dX7_isLetter_3 (by decide) (fun c3 => ?_) (fun c3 => ?_)
  · refine am_iconst (I := iX7_isLetter) (pc := 16) (x := 0) dX7_isLetter_16 (by decide) ?_
    exact am_zret (I := iX7_isLetter) (pc := 17) dX7_isLetter_17 rfl (by decide) (Nat.le_refl _) (Nat.le_refl _) (⟨by rw [bI_f (by unfold isl; rw [decide_eq_false (Int32.not_le.mpr c3)]; rfl)], rfl⟩)
  · refine am_iload_n (I := iX7_isLetter) (pc := 6) dX7_isLetter_6 rfl rfl ?_
    refine am_bipush (I := iX7_isLetter) (pc := 7) (x := 122) dX7_isLetter_7 (by decide) ?_
    refine am_icmp_gt (I := iX7_isLetter) (pc := 9) (tgt := 16) dX7_isLetter_9 (by decide) (fun c9 => ?_) (fun c9 => ?_)
    · refine am_iconst (I := iX7_isLetter) (pc := 16) (x := 0) dX7_isLetter_16 (by decide) ?_
      exact am_zret (I := iX7_isLetter) (pc := 17) dX7_isLetter_17 rfl (by decide) (Nat.le_refl _) (Nat.le_refl _) (⟨by rw [bI_f (by unfold isl; rw [decide_eq_false (Int32.not_le.mpr c9), Bool.and_false])], rfl⟩)
    · refine am_iconst (I := iX7_isLetter) (pc := 12) (x := 1) dX7_isLetter_12 (by decide) ?_
      refine am_goto (I := iX7_isLetter) (pc := 13) (tgt := 17) dX7_isLetter_13 (by decide) ?_
      exact am_zret (I := iX7_isLetter) (pc := 17) dX7_isLetter_17 rfl (by decide) (Nat.le_refl _) (Nat.le_refl _) (⟨by rw [bI_t (by unfold isl; rw [decide_eq_true (Int32.not_lt.mp c3), decide_eq_true (Int32.not_lt.mp c9)]; rfl)], rfl⟩)
set_option maxRecDepth 100000 in
set_option maxHeartbeats 4000000 in
theorem q_isPair {K : am_K} {l : Launch} {S : am_S} (x y : Int32)  : am_M K l iX7_isPair 1 0 0 [.int x, .int y] S (fun v S' => v = some (.int (bI (ipr x y))) ∧ S = S') (fun _ _ => False) := by
  refine am_body (by decide) rfl (by simp [Value.category]) (Nat.le_of_ble_eq_true rfl) (fun xp xe xs xm xa xb xt xc ad0 => ?_)
  show am_W _ _ _ _ _ _ _ _ _ _ _ _ _ _ _ 0 [some (.int x), some (.int y)] [] S 0 0
  refine am_iload_n (I := iX7_isPair) (pc := 0) dX7_isPair_0 rfl rfl ?_
  refine am_bipush (I := iX7_isPair) (pc := 1) (x := 10) dX7_isPair_1 (by decide) ?_
  refine am_callS (I := iX7_isPair) (pc := 3) (st := []) lv_X7_83 rfl (q_below x 10) dX7_isPair_3 rfl (Nat.le_of_ble_eq_true rfl) ⟨Nat.le_of_ble_eq_true rfl, Nat.le_of_ble_eq_true rfl⟩ (Nat.le_of_ble_eq_true rfl) (Nat.le_of_ble_eq_true rfl) rfl (fun v9 T9 z9 _ => ?_) (fun _ _ h9 => h9.elim)
  obtain ⟨rfl, rfl⟩ := z9
  show am_W _ _ _ _ _ _ _ _ _ _ _ _ _ _ _ 6 [some (.int x), some (.int y)] [.int (bI (blw x 10))] S 0 0
  refine am_if_eq (I := iX7_isPair) (pc := 6) (tgt := 21) dX7_isPair_6 (by decide) (fun c6 => ?_) (fun c6 => ?_)
  · refine am_iconst (I := iX7_isPair) (pc := 21) (x := 0) dX7_isPair_21 (by decide) ?_
    exact am_zret (I := iX7_isPair) (pc := 22) dX7_isPair_22 rfl (by decide) (Nat.le_refl _) (Nat.le_refl _) (⟨by unfold ipr; rw [bI_0 c6]; rfl, rfl⟩)
  · refine am_iload_n (I := iX7_isPair) (pc := 9) dX7_isPair_9 rfl rfl ?_
    refine am_iconst (I := iX7_isPair) (pc := 10) (x := 5) dX7_isPair_10 (by decide) ?_
    refine am_callS (I := iX7_isPair) (pc := 11) (st := []) lv_X7_83 rfl (q_below y 5) dX7_isPair_11 rfl (Nat.le_of_ble_eq_true rfl) ⟨Nat.le_of_ble_eq_true rfl, Nat.le_of_ble_eq_true rfl⟩ (Nat.le_of_ble_eq_true rfl) (Nat.le_of_ble_eq_true rfl) rfl (fun v9 T9 z9 _ => ?_) (fun _ _ h9 => h9.elim)
    obtain ⟨rfl, rfl⟩ := z9
    show am_W _ _ _ _ _ _ _ _ _ _ _ _ _ _ _ 14 [some (.int x), some (.int y)] [.int (bI (blw y 5))] S 0 0
    refine am_if_eq (I := iX7_isPair) (pc := 14) (tgt := 21) dX7_isPair_14 (by decide) (fun c14 => ?_) (fun c14 => ?_)
    · refine am_iconst (I := iX7_isPair) (pc := 21) (x := 0) dX7_isPair_21 (by decide) ?_
      exact am_zret (I := iX7_isPair) (pc := 22) dX7_isPair_22 rfl (by decide) (Nat.le_refl _) (Nat.le_refl _) (⟨by unfold ipr; rw [bI_0 c14, Bool.and_false]; rfl, rfl⟩)
    · refine am_iconst (I := iX7_isPair) (pc := 17) (x := 1) dX7_isPair_17 (by decide) ?_
      refine am_goto (I := iX7_isPair) (pc := 18) (tgt := 22) dX7_isPair_18 (by decide) ?_
      exact am_zret (I := iX7_isPair) (pc := 22) dX7_isPair_22 rfl (by decide) (Nat.le_refl _) (Nat.le_refl _) (⟨by unfold ipr; rw [bI_1 c6, bI_1 c14]; rfl, rfl⟩)
set_option maxRecDepth 100000 in
set_option maxHeartbeats 4000000 in
theorem q_unit_x1 {K : am_K} {l : Launch} {S : am_S} {th wd ln sq st ct cl ft zn : Int32} {a26 a27 a28 a29 a30 a31 a32 a33 a34 a35 a36 a37 a38 a39 a40 a41 a42 a43 a44 : Nat → Int32} (n : Nat) (x : Int32) (hn : 80 ≤ n) (hn2 : n ≤ 80) : am_M K l iX7_unit 1 0 0 [.ref 25, .int x] (mdS S th (nI n) wd ln sq st ct cl ft zn a26 a27 a28 a29 a30 a31 a32 a33 a34 a35 a36 a37 a38 a39 a40 a41 a42 a43 a44) (fun v S' => v = some (.int (0)) ∧ mdS S 1 (nI n) wd ln sq st ct cl ft zn a26 a27 a28 a29 a30 a31 a32 a33 a34 a35 a36 a37 a38 a39 a40 a41 a42 a43 a44 = S') (fun _ _ => False) := by
  refine am_body (by decide) rfl (by simp [Value.category]) (Nat.le_of_ble_eq_true rfl) (fun xp xe xs xm xa xb xt xc ad0 => ?_)
  show am_W _ _ _ _ _ _ _ _ _ _ _ _ _ _ _ 0 [some (.ref 25), some (.int x)] [] (mdS S th (nI n) wd ln sq st ct cl ft zn a26 a27 a28 a29 a30 a31 a32 a33 a34 a35 a36 a37 a38 a39 a40 a41 a42 a43 a44) 0 0
  refine am_aload_n (I := iX7_unit) (pc := 0) dX7_unit_0 rfl rfl ?_
  refine am_aload_n (I := iX7_unit) (pc := 1) dX7_unit_1 rfl rfl ?_
  refine am_getf (I := iX7_unit) (pc := 2) lf_X7_72 dX7_unit_2 md_25 rfl ?_
  refine am_bipush (I := iX7_unit) (pc := 5) (x := 80) dX7_unit_5 (by decide) ?_
  refine am_icmp_ge (I := iX7_unit) (pc := 7) (tgt := 14) dX7_unit_7 (by decide) (fun c7 => ?_) (fun c7 => ?_)
  · refine am_iconst (I := iX7_unit) (pc := 14) (x := 0) dX7_unit_14 (by decide) ?_
    refine am_iload_n (I := iX7_unit) (pc := 15) dX7_unit_15 rfl rfl ?_
    refine am_callS (I := iX7_unit) (pc := 16) (st := [.int 0, .ref 25]) lv_X7_75 rfl (q_isLetter x) dX7_unit_16 rfl (Nat.le_of_ble_eq_true rfl) ⟨Nat.le_of_ble_eq_true rfl, Nat.le_of_ble_eq_true rfl⟩ (Nat.le_of_ble_eq_true rfl) (Nat.le_of_ble_eq_true rfl) rfl (fun v9 T9 z9 _ => ?_) (fun _ _ h9 => h9.elim)
    obtain ⟨rfl, rfl⟩ := z9
    show am_W _ _ _ _ _ _ _ _ _ _ _ _ _ _ _ 19 [some (.ref 25), some (.int x)] [.int (bI (isl x)), .int 0, .ref 25] (mdS S th (nI n) wd ln sq st ct cl ft zn a26 a27 a28 a29 a30 a31 a32 a33 a34 a35 a36 a37 a38 a39 a40 a41 a42 a43 a44) 0 0
    refine am_if_ne (I := iX7_unit) (pc := 19) (tgt := 34) dX7_unit_19 (by decide) (fun c19 => ?_) (fun c19 => ?_)
    · refine am_iconst (I := iX7_unit) (pc := 34) (x := 1) dX7_unit_34 (by decide) ?_
      refine am_goto (I := iX7_unit) (pc := 35) (tgt := 39) dX7_unit_35 (by decide) ?_
      refine am_callV (I := iX7_unit) (pc := 39) (st := []) lv_X7_79 (q_goes1 _) dX7_unit_39 md_25 rfl (Nat.le_of_ble_eq_true rfl) ⟨Nat.le_of_ble_eq_true rfl, Nat.le_of_ble_eq_true rfl⟩ (Nat.le_of_ble_eq_true rfl) (Nat.le_of_ble_eq_true rfl) rfl (fun v9 T9 z9 _ => ?_) (fun _ _ h9 => h9.elim)
      obtain ⟨rfl, rfl⟩ := z9
      show am_W _ _ _ _ _ _ _ _ _ _ _ _ _ _ _ 42 [some (.ref 25), some (.int x)] [.int 0] (mdS S 1 (nI n) wd ln sq st ct cl ft zn a26 a27 a28 a29 a30 a31 a32 a33 a34 a35 a36 a37 a38 a39 a40 a41 a42 a43 a44) 0 0
      refine am_if_ne (I := iX7_unit) (pc := 42) (tgt := 47) dX7_unit_42 (by decide) (fun c42 => ?_) (fun c42 => ?_)
      · exact absurd rfl c42
      · refine am_iconst (I := iX7_unit) (pc := 45) (x := 0) dX7_unit_45 (by decide) ?_
        exact am_iret (I := iX7_unit) (pc := 46) dX7_unit_46 rfl (Nat.le_refl _) (Nat.le_refl _) (⟨rfl, rfl⟩)
    · refine am_iload_n (I := iX7_unit) (pc := 22) dX7_unit_22 rfl rfl ?_
      refine am_bipush (I := iX7_unit) (pc := 23) (x := 32) dX7_unit_23 (by decide) ?_
      refine am_icmp_eq (I := iX7_unit) (pc := 25) (tgt := 34) dX7_unit_25 (by decide) (fun c25 => ?_) (fun c25 => ?_)
      · refine am_iconst (I := iX7_unit) (pc := 34) (x := 1) dX7_unit_34 (by decide) ?_
        refine am_goto (I := iX7_unit) (pc := 35) (tgt := 39) dX7_unit_35 (by decide) ?_
        refine am_callV (I := iX7_unit) (pc := 39) (st := []) lv_X7_79 (q_goes1 _) dX7_unit_39 md_25 rfl (Nat.le_of_ble_eq_true rfl) ⟨Nat.le_of_ble_eq_true rfl, Nat.le_of_ble_eq_true rfl⟩ (Nat.le_of_ble_eq_true rfl) (Nat.le_of_ble_eq_true rfl) rfl (fun v9 T9 z9 _ => ?_) (fun _ _ h9 => h9.elim)
        obtain ⟨rfl, rfl⟩ := z9
        show am_W _ _ _ _ _ _ _ _ _ _ _ _ _ _ _ 42 [some (.ref 25), some (.int x)] [.int 0] (mdS S 1 (nI n) wd ln sq st ct cl ft zn a26 a27 a28 a29 a30 a31 a32 a33 a34 a35 a36 a37 a38 a39 a40 a41 a42 a43 a44) 0 0
        refine am_if_ne (I := iX7_unit) (pc := 42) (tgt := 47) dX7_unit_42 (by decide) (fun c42 => ?_) (fun c42 => ?_)
        · exact absurd rfl c42
        · refine am_iconst (I := iX7_unit) (pc := 45) (x := 0) dX7_unit_45 (by decide) ?_
          exact am_iret (I := iX7_unit) (pc := 46) dX7_unit_46 rfl (Nat.le_refl _) (Nat.le_refl _) (⟨rfl, rfl⟩)
      · refine am_iload_n (I := iX7_unit) (pc := 28) dX7_unit_28 rfl rfl ?_
        refine am_bipush (I := iX7_unit) (pc := 29) (x := 46) dX7_unit_29 (by decide) ?_
        refine am_icmp_ne (I := iX7_unit) (pc := 31) (tgt := 38) dX7_unit_31 (by decide) (fun c31 => ?_) (fun c31 => ?_)
        · refine am_iconst (I := iX7_unit) (pc := 38) (x := 0) dX7_unit_38 (by decide) ?_
          refine am_callV (I := iX7_unit) (pc := 39) (st := []) lv_X7_79 (q_goes1 _) dX7_unit_39 md_25 rfl (Nat.le_of_ble_eq_true rfl) ⟨Nat.le_of_ble_eq_true rfl, Nat.le_of_ble_eq_true rfl⟩ (Nat.le_of_ble_eq_true rfl) (Nat.le_of_ble_eq_true rfl) rfl (fun v9 T9 z9 _ => ?_) (fun _ _ h9 => h9.elim)
          obtain ⟨rfl, rfl⟩ := z9
          show am_W _ _ _ _ _ _ _ _ _ _ _ _ _ _ _ 42 [some (.ref 25), some (.int x)] [.int 0] (mdS S 1 (nI n) wd ln sq st ct cl ft zn a26 a27 a28 a29 a30 a31 a32 a33 a34 a35 a36 a37 a38 a39 a40 a41 a42 a43 a44) 0 0
          refine am_if_ne (I := iX7_unit) (pc := 42) (tgt := 47) dX7_unit_42 (by decide) (fun c42 => ?_) (fun c42 => ?_)
          · exact absurd rfl c42
          · refine am_iconst (I := iX7_unit) (pc := 45) (x := 0) dX7_unit_45 (by decide) ?_
            exact am_iret (I := iX7_unit) (pc := 46) dX7_unit_46 rfl (Nat.le_refl _) (Nat.le_refl _) (⟨rfl, rfl⟩)
        · refine am_iconst (I := iX7_unit) (pc := 34) (x := 1) dX7_unit_34 (by decide) ?_
          refine am_goto (I := iX7_unit) (pc := 35) (tgt := 39) dX7_unit_35 (by decide) ?_
          refine am_callV (I := iX7_unit) (pc := 39) (st := []) lv_X7_79 (q_goes1 _) dX7_unit_39 md_25 rfl (Nat.le_of_ble_eq_true rfl) ⟨Nat.le_of_ble_eq_true rfl, Nat.le_of_ble_eq_true rfl⟩ (Nat.le_of_ble_eq_true rfl) (Nat.le_of_ble_eq_true rfl) rfl (fun v9 T9 z9 _ => ?_) (fun _ _ h9 => h9.elim)
          obtain ⟨rfl, rfl⟩ := z9
          show am_W _ _ _ _ _ _ _ _ _ _ _ _ _ _ _ 42 [some (.ref 25), some (.int x)] [.int 0] (mdS S 1 (nI n) wd ln sq st ct cl ft zn a26 a27 a28 a29 a30 a31 a32 a33 a34 a35 a36 a37 a38 a39 a40 a41 a42 a43 a44) 0 0
          refine am_if_ne (I := iX7_unit) (pc := 42) (tgt := 47) dX7_unit_42 (by decide) (fun c42 => ?_) (fun c42 => ?_)
          · exact absurd rfl c42
          · refine am_iconst (I := iX7_unit) (pc := 45) (x := 0) dX7_unit_45 (by decide) ?_
            exact am_iret (I := iX7_unit) (pc := 46) dX7_unit_46 rfl (Nat.le_refl _) (Nat.le_refl _) (⟨rfl, rfl⟩)
  · exact absurd (nI_le (a := 80) hn (by omega)) c7
set_option maxRecDepth 100000 in
set_option maxHeartbeats 4000000 in
theorem q_unit_x2 {K : am_K} {l : Launch} {S : am_S} {th wd ln sq st ct cl ft zn : Int32} {a26 a27 a28 a29 a30 a31 a32 a33 a34 a35 a36 a37 a38 a39 a40 a41 a42 a43 a44 : Nat → Int32} (n : Nat) (x : Int32) (hn : n < 80) (hs : isl x = false ∧ ¬ x = 32 ∧ ¬ x = 46) : am_M K l iX7_unit 1 0 0 [.ref 25, .int x] (mdS S th (nI n) wd ln sq st ct cl ft zn a26 a27 a28 a29 a30 a31 a32 a33 a34 a35 a36 a37 a38 a39 a40 a41 a42 a43 a44) (fun v S' => v = some (.int (0)) ∧ mdS S 2 (nI n) wd ln sq st ct cl ft zn a26 a27 a28 a29 a30 a31 a32 a33 a34 a35 a36 a37 a38 a39 a40 a41 a42 a43 a44 = S') (fun _ _ => False) := by
  refine am_body (by decide) rfl (by simp [Value.category]) (Nat.le_of_ble_eq_true rfl) (fun xp xe xs xm xa xb xt xc ad0 => ?_)
  show am_W _ _ _ _ _ _ _ _ _ _ _ _ _ _ _ 0 [some (.ref 25), some (.int x)] [] (mdS S th (nI n) wd ln sq st ct cl ft zn a26 a27 a28 a29 a30 a31 a32 a33 a34 a35 a36 a37 a38 a39 a40 a41 a42 a43 a44) 0 0
  refine am_aload_n (I := iX7_unit) (pc := 0) dX7_unit_0 rfl rfl ?_
  refine am_aload_n (I := iX7_unit) (pc := 1) dX7_unit_1 rfl rfl ?_
  refine am_getf (I := iX7_unit) (pc := 2) lf_X7_72 dX7_unit_2 md_25 rfl ?_
  refine am_bipush (I := iX7_unit) (pc := 5) (x := 80) dX7_unit_5 (by decide) ?_
  refine am_icmp_ge (I := iX7_unit) (pc := 7) (tgt := 14) dX7_unit_7 (by decide) (fun c7 => ?_) (fun c7 => ?_)
  · exact absurd c7 (nI_ge (b := 80) hn (by decide))
  · refine am_iconst (I := iX7_unit) (pc := 10) (x := 1) dX7_unit_10 (by decide) ?_
    refine am_goto (I := iX7_unit) (pc := 11) (tgt := 15) dX7_unit_11 (by decide) ?_
    refine am_iload_n (I := iX7_unit) (pc := 15) dX7_unit_15 rfl rfl ?_
    refine am_callS (I := iX7_unit) (pc := 16) (st := [.int 1, .ref 25]) lv_X7_75 rfl (q_isLetter x) dX7_unit_16 rfl (Nat.le_of_ble_eq_true rfl) ⟨Nat.le_of_ble_eq_true rfl, Nat.le_of_ble_eq_true rfl⟩ (Nat.le_of_ble_eq_true rfl) (Nat.le_of_ble_eq_true rfl) rfl (fun v9 T9 z9 _ => ?_) (fun _ _ h9 => h9.elim)
    obtain ⟨rfl, rfl⟩ := z9
    show am_W _ _ _ _ _ _ _ _ _ _ _ _ _ _ _ 19 [some (.ref 25), some (.int x)] [.int (bI (isl x)), .int 1, .ref 25] (mdS S th (nI n) wd ln sq st ct cl ft zn a26 a27 a28 a29 a30 a31 a32 a33 a34 a35 a36 a37 a38 a39 a40 a41 a42 a43 a44) 0 0
    refine am_if_ne (I := iX7_unit) (pc := 19) (tgt := 34) dX7_unit_19 (by decide) (fun c19 => ?_) (fun c19 => ?_)
    · exact absurd (bI_f hs.1) c19
    · refine am_iload_n (I := iX7_unit) (pc := 22) dX7_unit_22 rfl rfl ?_
      refine am_bipush (I := iX7_unit) (pc := 23) (x := 32) dX7_unit_23 (by decide) ?_
      refine am_icmp_eq (I := iX7_unit) (pc := 25) (tgt := 34) dX7_unit_25 (by decide) (fun c25 => ?_) (fun c25 => ?_)
      · exact absurd c25 hs.2.1
      · refine am_iload_n (I := iX7_unit) (pc := 28) dX7_unit_28 rfl rfl ?_
        refine am_bipush (I := iX7_unit) (pc := 29) (x := 46) dX7_unit_29 (by decide) ?_
        refine am_icmp_ne (I := iX7_unit) (pc := 31) (tgt := 38) dX7_unit_31 (by decide) (fun c31 => ?_) (fun c31 => ?_)
        · refine am_iconst (I := iX7_unit) (pc := 38) (x := 0) dX7_unit_38 (by decide) ?_
          refine am_callV (I := iX7_unit) (pc := 39) (st := []) lv_X7_79 (q_goes2) dX7_unit_39 md_25 rfl (Nat.le_of_ble_eq_true rfl) ⟨Nat.le_of_ble_eq_true rfl, Nat.le_of_ble_eq_true rfl⟩ (Nat.le_of_ble_eq_true rfl) (Nat.le_of_ble_eq_true rfl) rfl (fun v9 T9 z9 _ => ?_) (fun _ _ h9 => h9.elim)
          obtain ⟨rfl, rfl⟩ := z9
          show am_W _ _ _ _ _ _ _ _ _ _ _ _ _ _ _ 42 [some (.ref 25), some (.int x)] [.int 0] (mdS S 2 (nI n) wd ln sq st ct cl ft zn a26 a27 a28 a29 a30 a31 a32 a33 a34 a35 a36 a37 a38 a39 a40 a41 a42 a43 a44) 0 0
          refine am_if_ne (I := iX7_unit) (pc := 42) (tgt := 47) dX7_unit_42 (by decide) (fun c42 => ?_) (fun c42 => ?_)
          · exact absurd rfl c42
          · refine am_iconst (I := iX7_unit) (pc := 45) (x := 0) dX7_unit_45 (by decide) ?_
            exact am_iret (I := iX7_unit) (pc := 46) dX7_unit_46 rfl (Nat.le_refl _) (Nat.le_refl _) (⟨rfl, rfl⟩)
        · exact absurd c31 hs.2.2
set_option maxRecDepth 100000 in
set_option maxHeartbeats 4000000 in
theorem q_unit {K : am_K} {l : Launch} {S : am_S} {th wd ln sq st ct cl ft zn : Int32} {a26 a27 a28 a29 a30 a31 a32 a33 a34 a35 a36 a37 a38 a39 a40 a41 a42 a43 a44 : Nat → Int32} (n : Nat) (x : Int32) (hn : n < 80) (hs : isl x = true ∨ x = 32 ∨ x = 46) : am_M K l iX7_unit 1 0 0 [.ref 25, .int x] (mdS S th (nI n) wd ln sq st ct cl ft zn a26 a27 a28 a29 a30 a31 a32 a33 a34 a35 a36 a37 a38 a39 a40 a41 a42 a43 a44) (fun v S' => v = some (.int (nI (n + 1))) ∧ mdS S 0 (nI (n + 1)) wd ln sq st ct cl ft zn (upd a26 n x) a27 a28 a29 a30 a31 a32 a33 a34 a35 a36 a37 a38 a39 a40 a41 a42 a43 a44 = S') (fun _ _ => False) := by
  refine am_body (by decide) rfl (by simp [Value.category]) (Nat.le_of_ble_eq_true rfl) (fun xp xe xs xm xa xb xt xc ad0 => ?_)
  show am_W _ _ _ _ _ _ _ _ _ _ _ _ _ _ _ 0 [some (.ref 25), some (.int x)] [] (mdS S th (nI n) wd ln sq st ct cl ft zn a26 a27 a28 a29 a30 a31 a32 a33 a34 a35 a36 a37 a38 a39 a40 a41 a42 a43 a44) 0 0
  refine am_aload_n (I := iX7_unit) (pc := 0) dX7_unit_0 rfl rfl ?_
  refine am_aload_n (I := iX7_unit) (pc := 1) dX7_unit_1 rfl rfl ?_
  refine am_getf (I := iX7_unit) (pc := 2) lf_X7_72 dX7_unit_2 md_25 rfl ?_
  refine am_bipush (I := iX7_unit) (pc := 5) (x := 80) dX7_unit_5 (by decide) ?_
  refine am_icmp_ge (I := iX7_unit) (pc := 7) (tgt := 14) dX7_unit_7 (by decide) (fun c7 => ?_) (fun c7 => ?_)
  · exact absurd c7 (nI_ge (b := 80) hn (by decide))
  · refine am_iconst (I := iX7_unit) (pc := 10) (x := 1) dX7_unit_10 (by decide) ?_
    refine am_goto (I := iX7_unit) (pc := 11) (tgt := 15) dX7_unit_11 (by decide) ?_
    refine am_iload_n (I := iX7_unit) (pc := 15) dX7_unit_15 rfl rfl ?_
    refine am_callS (I := iX7_unit) (pc := 16) (st := [.int 1, .ref 25]) lv_X7_75 rfl (q_isLetter x) dX7_unit_16 rfl (Nat.le_of_ble_eq_true rfl) ⟨Nat.le_of_ble_eq_true rfl, Nat.le_of_ble_eq_true rfl⟩ (Nat.le_of_ble_eq_true rfl) (Nat.le_of_ble_eq_true rfl) rfl (fun v9 T9 z9 _ => ?_) (fun _ _ h9 => h9.elim)
    obtain ⟨rfl, rfl⟩ := z9
    show am_W _ _ _ _ _ _ _ _ _ _ _ _ _ _ _ 19 [some (.ref 25), some (.int x)] [.int (bI (isl x)), .int 1, .ref 25] (mdS S th (nI n) wd ln sq st ct cl ft zn a26 a27 a28 a29 a30 a31 a32 a33 a34 a35 a36 a37 a38 a39 a40 a41 a42 a43 a44) 0 0
    refine am_if_ne (I := iX7_unit) (pc := 19) (tgt := 34) dX7_unit_19 (by decide) (fun c19 => ?_) (fun c19 => ?_)
    · refine am_iconst (I := iX7_unit) (pc := 34) (x := 1) dX7_unit_34 (by decide) ?_
      refine am_goto (I := iX7_unit) (pc := 35) (tgt := 39) dX7_unit_35 (by decide) ?_
      refine am_callV (I := iX7_unit) (pc := 39) (st := []) lv_X7_79 (q_goes0) dX7_unit_39 md_25 rfl (Nat.le_of_ble_eq_true rfl) ⟨Nat.le_of_ble_eq_true rfl, Nat.le_of_ble_eq_true rfl⟩ (Nat.le_of_ble_eq_true rfl) (Nat.le_of_ble_eq_true rfl) rfl (fun v9 T9 z9 _ => ?_) (fun _ _ h9 => h9.elim)
      obtain ⟨rfl, rfl⟩ := z9
      show am_W _ _ _ _ _ _ _ _ _ _ _ _ _ _ _ 42 [some (.ref 25), some (.int x)] [.int 1] (mdS S 0 (nI n) wd ln sq st ct cl ft zn a26 a27 a28 a29 a30 a31 a32 a33 a34 a35 a36 a37 a38 a39 a40 a41 a42 a43 a44) 0 0
      refine am_if_ne (I := iX7_unit) (pc := 42) (tgt := 47) dX7_unit_42 (by decide) (fun c42 => ?_) (fun c42 => ?_)
      · refine am_aload_n (I := iX7_unit) (pc := 47) dX7_unit_47 rfl rfl ?_
        refine am_getf (I := iX7_unit) (pc := 48) lf_X7_7 dX7_unit_48 md_25 rfl ?_
        refine am_aload_n (I := iX7_unit) (pc := 51) dX7_unit_51 rfl rfl ?_
        refine am_getf (I := iX7_unit) (pc := 52) lf_X7_72 dX7_unit_52 md_25 rfl ?_
        refine am_iload_n (I := iX7_unit) (pc := 55) dX7_unit_55 rfl rfl ?_
        refine am_iastore (I := iX7_unit) (pc := 56) dX7_unit_56 md_26 rfl (vp_in_nI hn (by decide)) ?_
        rw [nI_clamp (show n < 2 ^ 31 by omega)]
        refine am_same (S' := mdS S 0 (nI n) wd ln sq st ct cl ft zn (upd a26 n x) a27 a28 a29 a30 a31 a32 a33 a34 a35 a36 a37 a38 a39 a40 a41 a42 a43 a44) rfl rfl rfl mdS_26 rfl rfl ?_
        refine am_aload_n (I := iX7_unit) (pc := 57) dX7_unit_57 rfl rfl ?_
        refine am_dup (I := iX7_unit) (pc := 58) dX7_unit_58 rfl ?_
        refine am_getf (I := iX7_unit) (pc := 59) lf_X7_72 dX7_unit_59 md_25 rfl ?_
        refine am_iconst (I := iX7_unit) (pc := 62) (x := 1) dX7_unit_62 (by decide) ?_
        refine am_iadd (I := iX7_unit) (pc := 63) dX7_unit_63 ?_
        rw [nI_1]
        refine am_putf (I := iX7_unit) (pc := 64) (fs' := [.int 0, .int (nI (n + 1)), .ref 26, .ref 27, .ref 28, .ref 29, .ref 30, .int wd, .ref 31, .ref 32, .ref 33, .ref 34, .int ln, .int sq, .int st, .ref 35, .ref 36, .ref 37, .ref 38, .int ct, .int cl, .int ft, .ref 39, .int zn, .ref 40, .ref 41, .ref 42, .ref 43, .ref 44]) lf_X7_72 dX7_unit_64 md_25 (fun _ => ⟨rfl, rfl⟩) (Nat.le_of_ble_eq_true rfl) rfl ?_
        refine am_same (S' := mdS S 0 (nI (n + 1)) wd ln sq st ct cl ft zn (upd a26 n x) a27 a28 a29 a30 a31 a32 a33 a34 a35 a36 a37 a38 a39 a40 a41 a42 a43 a44) rfl rfl rfl mdS_25 rfl rfl ?_
        refine am_aload_n (I := iX7_unit) (pc := 67) dX7_unit_67 rfl rfl ?_
        refine am_getf (I := iX7_unit) (pc := 68) lf_X7_72 dX7_unit_68 md_25 rfl ?_
        exact am_iret (I := iX7_unit) (pc := 71) dX7_unit_71 rfl (Nat.le_refl _) (Nat.le_refl _) (⟨rfl, rfl⟩)
      · exact absurd c42 (by decide)
    · refine am_iload_n (I := iX7_unit) (pc := 22) dX7_unit_22 rfl rfl ?_
      refine am_bipush (I := iX7_unit) (pc := 23) (x := 32) dX7_unit_23 (by decide) ?_
      refine am_icmp_eq (I := iX7_unit) (pc := 25) (tgt := 34) dX7_unit_25 (by decide) (fun c25 => ?_) (fun c25 => ?_)
      · refine am_iconst (I := iX7_unit) (pc := 34) (x := 1) dX7_unit_34 (by decide) ?_
        refine am_goto (I := iX7_unit) (pc := 35) (tgt := 39) dX7_unit_35 (by decide) ?_
        refine am_callV (I := iX7_unit) (pc := 39) (st := []) lv_X7_79 (q_goes0) dX7_unit_39 md_25 rfl (Nat.le_of_ble_eq_true rfl) ⟨Nat.le_of_ble_eq_true rfl, Nat.le_of_ble_eq_true rfl⟩ (Nat.le_of_ble_eq_true rfl) (Nat.le_of_ble_eq_true rfl) rfl (fun v9 T9 z9 _ => ?_) (fun _ _ h9 => h9.elim)
        obtain ⟨rfl, rfl⟩ := z9
        show am_W _ _ _ _ _ _ _ _ _ _ _ _ _ _ _ 42 [some (.ref 25), some (.int x)] [.int 1] (mdS S 0 (nI n) wd ln sq st ct cl ft zn a26 a27 a28 a29 a30 a31 a32 a33 a34 a35 a36 a37 a38 a39 a40 a41 a42 a43 a44) 0 0
        refine am_if_ne (I := iX7_unit) (pc := 42) (tgt := 47) dX7_unit_42 (by decide) (fun c42 => ?_) (fun c42 => ?_)
        · refine am_aload_n (I := iX7_unit) (pc := 47) dX7_unit_47 rfl rfl ?_
          refine am_getf (I := iX7_unit) (pc := 48) lf_X7_7 dX7_unit_48 md_25 rfl ?_
          refine am_aload_n (I := iX7_unit) (pc := 51) dX7_unit_51 rfl rfl ?_
          refine am_getf (I := iX7_unit) (pc := 52) lf_X7_72 dX7_unit_52 md_25 rfl ?_
          refine am_iload_n (I := iX7_unit) (pc := 55) dX7_unit_55 rfl rfl ?_
          refine am_iastore (I := iX7_unit) (pc := 56) dX7_unit_56 md_26 rfl (vp_in_nI hn (by decide)) ?_
          rw [nI_clamp (show n < 2 ^ 31 by omega)]
          refine am_same (S' := mdS S 0 (nI n) wd ln sq st ct cl ft zn (upd a26 n x) a27 a28 a29 a30 a31 a32 a33 a34 a35 a36 a37 a38 a39 a40 a41 a42 a43 a44) rfl rfl rfl mdS_26 rfl rfl ?_
          refine am_aload_n (I := iX7_unit) (pc := 57) dX7_unit_57 rfl rfl ?_
          refine am_dup (I := iX7_unit) (pc := 58) dX7_unit_58 rfl ?_
          refine am_getf (I := iX7_unit) (pc := 59) lf_X7_72 dX7_unit_59 md_25 rfl ?_
          refine am_iconst (I := iX7_unit) (pc := 62) (x := 1) dX7_unit_62 (by decide) ?_
          refine am_iadd (I := iX7_unit) (pc := 63) dX7_unit_63 ?_
          rw [nI_1]
          refine am_putf (I := iX7_unit) (pc := 64) (fs' := [.int 0, .int (nI (n + 1)), .ref 26, .ref 27, .ref 28, .ref 29, .ref 30, .int wd, .ref 31, .ref 32, .ref 33, .ref 34, .int ln, .int sq, .int st, .ref 35, .ref 36, .ref 37, .ref 38, .int ct, .int cl, .int ft, .ref 39, .int zn, .ref 40, .ref 41, .ref 42, .ref 43, .ref 44]) lf_X7_72 dX7_unit_64 md_25 (fun _ => ⟨rfl, rfl⟩) (Nat.le_of_ble_eq_true rfl) rfl ?_
          refine am_same (S' := mdS S 0 (nI (n + 1)) wd ln sq st ct cl ft zn (upd a26 n x) a27 a28 a29 a30 a31 a32 a33 a34 a35 a36 a37 a38 a39 a40 a41 a42 a43 a44) rfl rfl rfl mdS_25 rfl rfl ?_
          refine am_aload_n (I := iX7_unit) (pc := 67) dX7_unit_67 rfl rfl ?_
          refine am_getf (I := iX7_unit) (pc := 68) lf_X7_72 dX7_unit_68 md_25 rfl ?_
          exact am_iret (I := iX7_unit) (pc := 71) dX7_unit_71 rfl (Nat.le_refl _) (Nat.le_refl _) (⟨rfl, rfl⟩)
        · exact absurd c42 (by decide)
      · refine am_iload_n (I := iX7_unit) (pc := 28) dX7_unit_28 rfl rfl ?_
        refine am_bipush (I := iX7_unit) (pc := 29) (x := 46) dX7_unit_29 (by decide) ?_
        refine am_icmp_ne (I := iX7_unit) (pc := 31) (tgt := 38) dX7_unit_31 (by decide) (fun c31 => ?_) (fun c31 => ?_)
        · exact absurd hs (fun q => q.elim (fun q => absurd c19 (by rw [q]; decide)) (fun q => q.elim c25 c31))
        · refine am_iconst (I := iX7_unit) (pc := 34) (x := 1) dX7_unit_34 (by decide) ?_
          refine am_goto (I := iX7_unit) (pc := 35) (tgt := 39) dX7_unit_35 (by decide) ?_
          refine am_callV (I := iX7_unit) (pc := 39) (st := []) lv_X7_79 (q_goes0) dX7_unit_39 md_25 rfl (Nat.le_of_ble_eq_true rfl) ⟨Nat.le_of_ble_eq_true rfl, Nat.le_of_ble_eq_true rfl⟩ (Nat.le_of_ble_eq_true rfl) (Nat.le_of_ble_eq_true rfl) rfl (fun v9 T9 z9 _ => ?_) (fun _ _ h9 => h9.elim)
          obtain ⟨rfl, rfl⟩ := z9
          show am_W _ _ _ _ _ _ _ _ _ _ _ _ _ _ _ 42 [some (.ref 25), some (.int x)] [.int 1] (mdS S 0 (nI n) wd ln sq st ct cl ft zn a26 a27 a28 a29 a30 a31 a32 a33 a34 a35 a36 a37 a38 a39 a40 a41 a42 a43 a44) 0 0
          refine am_if_ne (I := iX7_unit) (pc := 42) (tgt := 47) dX7_unit_42 (by decide) (fun c42 => ?_) (fun c42 => ?_)
          · refine am_aload_n (I := iX7_unit) (pc := 47) dX7_unit_47 rfl rfl ?_
            refine am_getf (I := iX7_unit) (pc := 48) lf_X7_7 dX7_unit_48 md_25 rfl ?_
            refine am_aload_n (I := iX7_unit) (pc := 51) dX7_unit_51 rfl rfl ?_
            refine am_getf (I := iX7_unit) (pc := 52) lf_X7_72 dX7_unit_52 md_25 rfl ?_
            refine am_iload_n (I := iX7_unit) (pc := 55) dX7_unit_55 rfl rfl ?_
            refine am_iastore (I := iX7_unit) (pc := 56) dX7_unit_56 md_26 rfl (vp_in_nI hn (by decide)) ?_
            rw [nI_clamp (show n < 2 ^ 31 by omega)]
            refine am_same (S' := mdS S 0 (nI n) wd ln sq st ct cl ft zn (upd a26 n x) a27 a28 a29 a30 a31 a32 a33 a34 a35 a36 a37 a38 a39 a40 a41 a42 a43 a44) rfl rfl rfl mdS_26 rfl rfl ?_
            refine am_aload_n (I := iX7_unit) (pc := 57) dX7_unit_57 rfl rfl ?_
            refine am_dup (I := iX7_unit) (pc := 58) dX7_unit_58 rfl ?_
            refine am_getf (I := iX7_unit) (pc := 59) lf_X7_72 dX7_unit_59 md_25 rfl ?_
            refine am_iconst (I := iX7_unit) (pc := 62) (x := 1) dX7_unit_62 (by decide) ?_
            refine am_iadd (I := iX7_unit) (pc := 63) dX7_unit_63 ?_
            rw [nI_1]
            refine am_putf (I := iX7_unit) (pc := 64) (fs' := [.int 0, .int (nI (n + 1)), .ref 26, .ref 27, .ref 28, .ref 29, .ref 30, .int wd, .ref 31, .ref 32, .ref 33, .ref 34, .int ln, .int sq, .int st, .ref 35, .ref 36, .ref 37, .ref 38, .int ct, .int cl, .int ft, .ref 39, .int zn, .ref 40, .ref 41, .ref 42, .ref 43, .ref 44]) lf_X7_72 dX7_unit_64 md_25 (fun _ => ⟨rfl, rfl⟩) (Nat.le_of_ble_eq_true rfl) rfl ?_
            refine am_same (S' := mdS S 0 (nI (n + 1)) wd ln sq st ct cl ft zn (upd a26 n x) a27 a28 a29 a30 a31 a32 a33 a34 a35 a36 a37 a38 a39 a40 a41 a42 a43 a44) rfl rfl rfl mdS_25 rfl rfl ?_
            refine am_aload_n (I := iX7_unit) (pc := 67) dX7_unit_67 rfl rfl ?_
            refine am_getf (I := iX7_unit) (pc := 68) lf_X7_72 dX7_unit_68 md_25 rfl ?_
            exact am_iret (I := iX7_unit) (pc := 71) dX7_unit_71 rfl (Nat.le_refl _) (Nat.le_refl _) (⟨rfl, rfl⟩)
          · exact absurd c42 (by decide)
set_option maxRecDepth 100000 in
set_option maxHeartbeats 4000000 in
theorem q_clear {K : am_K} {l : Launch} {S : am_S} {th pd wd ln sq st ct cl ft zn : Int32} {a26 a27 a28 a29 a30 a31 a32 a33 a34 a35 a36 a37 a38 a39 a40 a41 a42 a43 a44 : Nat → Int32}   : am_M K l iX7_clear 0 0 0 [.ref 25] (mdS S th pd wd ln sq st ct cl ft zn a26 a27 a28 a29 a30 a31 a32 a33 a34 a35 a36 a37 a38 a39 a40 a41 a42 a43 a44) (fun v S' => v = some (.int (pd)) ∧ mdS S 0 0 wd ln sq st ct cl ft zn a26 a27 a28 a29 a30 a31 a32 a33 a34 a35 a36 a37 a38 a39 a40 a41 a42 a43 a44 = S') (fun _ _ => False) := by
  refine am_body (by decide) rfl (by simp [Value.category]) (Nat.le_of_ble_eq_true rfl) (fun xp xe xs xm xa xb xt xc ad0 => ?_)
  show am_W _ _ _ _ _ _ _ _ _ _ _ _ _ _ _ 0 [some (.ref 25), none] [] (mdS S th pd wd ln sq st ct cl ft zn a26 a27 a28 a29 a30 a31 a32 a33 a34 a35 a36 a37 a38 a39 a40 a41 a42 a43 a44) 0 0
  refine am_aload_n (I := iX7_clear) (pc := 0) dX7_clear_0 rfl rfl ?_
  refine am_iconst (I := iX7_clear) (pc := 1) (x := 0) dX7_clear_1 (by decide) ?_
  refine am_putf (I := iX7_clear) (pc := 2) (fs' := [.int 0, .int pd, .ref 26, .ref 27, .ref 28, .ref 29, .ref 30, .int wd, .ref 31, .ref 32, .ref 33, .ref 34, .int ln, .int sq, .int st, .ref 35, .ref 36, .ref 37, .ref 38, .int ct, .int cl, .int ft, .ref 39, .int zn, .ref 40, .ref 41, .ref 42, .ref 43, .ref 44]) lf_X7_68 dX7_clear_2 md_25 (fun _ => ⟨rfl, rfl⟩) (Nat.le_of_ble_eq_true rfl) rfl ?_
  refine am_same (S' := mdS S 0 pd wd ln sq st ct cl ft zn a26 a27 a28 a29 a30 a31 a32 a33 a34 a35 a36 a37 a38 a39 a40 a41 a42 a43 a44) rfl rfl rfl mdS_25 rfl rfl ?_
  refine am_aload_n (I := iX7_clear) (pc := 5) dX7_clear_5 rfl rfl ?_
  refine am_getf (I := iX7_clear) (pc := 6) lf_X7_72 dX7_clear_6 md_25 rfl ?_
  refine am_istore_n (I := iX7_clear) (pc := 9) (L' := [some (.ref 25), some (.int pd)]) dX7_clear_9 rfl (by decide) rfl ?_
  refine am_aload_n (I := iX7_clear) (pc := 10) dX7_clear_10 rfl rfl ?_
  refine am_iconst (I := iX7_clear) (pc := 11) (x := 0) dX7_clear_11 (by decide) ?_
  refine am_putf (I := iX7_clear) (pc := 12) (fs' := [.int 0, .int 0, .ref 26, .ref 27, .ref 28, .ref 29, .ref 30, .int wd, .ref 31, .ref 32, .ref 33, .ref 34, .int ln, .int sq, .int st, .ref 35, .ref 36, .ref 37, .ref 38, .int ct, .int cl, .int ft, .ref 39, .int zn, .ref 40, .ref 41, .ref 42, .ref 43, .ref 44]) lf_X7_72 dX7_clear_12 md_25 (fun _ => ⟨rfl, rfl⟩) (Nat.le_of_ble_eq_true rfl) rfl ?_
  refine am_same (S' := mdS S 0 0 wd ln sq st ct cl ft zn a26 a27 a28 a29 a30 a31 a32 a33 a34 a35 a36 a37 a38 a39 a40 a41 a42 a43 a44) rfl rfl rfl mdS_25 rfl rfl ?_
  refine am_iload_n (I := iX7_clear) (pc := 15) dX7_clear_15 rfl rfl ?_
  exact am_iret (I := iX7_clear) (pc := 16) dX7_clear_16 rfl (Nat.le_refl _) (Nat.le_refl _) (⟨rfl, rfl⟩)
def sgn (x : Int32) : Prop := isl x = true ∨ x = 32 ∨ x = 46
def rgd (ah s : Int32) : Bool := if isl s then !decide (ah = 46) else if s = 46 then isl ah else !decide (ah = 32)
theorem isl_ne {x : Int32} (h : isl x = true) : ¬ x = 32 ∧ ¬ x = 46 := ⟨fun e => by rw [e] at h; exact absurd h (by decide), fun e => by rw [e] at h; exact absurd h (by decide)⟩
theorem rgd_mf {ah s : Int32} (h1 : sgn ah) (h2 : sgn s) : rgd ah s = mf ah s := by
  have i32 : isl 32 = false := by decide
  have i46 : isl 46 = false := by decide
  unfold rgd mf
  rcases h1 with h1 | h1 | h1 <;> rcases h2 with h2 | h2 | h2 <;> simp [h1, h2, i32, i46, isl_ne]
  all_goals first | exact (isl_ne h1).1 | exact (isl_ne h1).2
set_option maxRecDepth 100000 in
set_option maxHeartbeats 4000000 in
theorem q_fault {K : am_K} {l : Launch} {S : am_S} {th wd ln sq st ct cl ft zn : Int32} {a26 a27 a28 a29 a30 a31 a32 a33 a34 a35 a36 a37 a38 a39 a40 a41 a42 a43 a44 : Nat → Int32} (n : Nat) (hn : n ≤ 80) (hv : ∀ j, j < n → sgn (a26 j)) : am_M K l iX7_fault 1 0 0 [.ref 25] (mdS S th (nI n) wd ln sq st ct cl ft zn a26 a27 a28 a29 a30 a31 a32 a33 a34 a35 a36 a37 a38 a39 a40 a41 a42 a43 a44) (fun v S' => v = some (.int (fwp a26 n n 0 32)) ∧ mdS S th (nI n) wd ln sq st ct cl ft zn a26 a27 a28 a29 a30 a31 a32 a33 a34 a35 a36 a37 a38 a39 a40 a41 a42 a43 a44 = S') (fun _ _ => False) := by
  refine am_body (by decide) rfl (by simp [Value.category]) (Nat.le_of_ble_eq_true rfl) (fun xp xe xs xm xa xb xt xc ad0 => ?_)
  show am_W _ _ _ _ _ _ _ _ _ _ _ _ _ _ _ 0 [some (.ref 25), none, none, none, none] [] (mdS S th (nI n) wd ln sq st ct cl ft zn a26 a27 a28 a29 a30 a31 a32 a33 a34 a35 a36 a37 a38 a39 a40 a41 a42 a43 a44) 0 0
  refine am_bipush (I := iX7_fault) (pc := 0) (x := 32) dX7_fault_0 (by decide) ?_
  refine am_istore_n (I := iX7_fault) (pc := 2) (L' := [some (.ref 25), some (.int 32), none, none, none]) dX7_fault_2 rfl (by decide) rfl ?_
  refine am_iconst (I := iX7_fault) (pc := 3) (x := 0) dX7_fault_3 (by decide) ?_
  refine am_istore_n (I := iX7_fault) (pc := 4) (L' := [some (.ref 25), some (.int 32), some (.int 0), none, none]) dX7_fault_4 rfl (by decide) rfl ?_
  have loop5 : ∀ (k5 : Nat) (i : Nat) (ah : Int32), n - i < k5 → (i ≤ n) → (sgn ah) → (fwp a26 n (n - i) i ah = fwp a26 n n 0 32) → am_W K iX7_fault xp l xe (am_room 1 0 0) xs xm xa xb xt xc (mdS S th (nI n) wd ln sq st ct cl ft zn a26 a27 a28 a29 a30 a31 a32 a33 a34 a35 a36 a37 a38 a39 a40 a41 a42 a43 a44) ad0 (am_E K ad0 (mdS S th (nI n) wd ln sq st ct cl ft zn a26 a27 a28 a29 a30 a31 a32 a33 a34 a35 a36 a37 a38 a39 a40 a41 a42 a43 a44) (fun v S' => v = some (.int (fwp a26 n n 0 32)) ∧ mdS S th (nI n) wd ln sq st ct cl ft zn a26 a27 a28 a29 a30 a31 a32 a33 a34 a35 a36 a37 a38 a39 a40 a41 a42 a43 a44 = S') (fun _ _ => False) xb xa xs 0 0) 5 [some (.ref 25), some (.int ah), some (.int (nI i)), none, none] [] (mdS S th (nI n) wd ln sq st ct cl ft zn a26 a27 a28 a29 a30 a31 a32 a33 a34 a35 a36 a37 a38 a39 a40 a41 a42 a43 a44) 0 0 := by
    intro k5
    induction k5 with
    | zero => intro i ah h9; exact absurd h9 (Nat.not_lt_zero _)
    | succ k5 ih5 =>
      intro i ah hm5 hi hah he
      refine am_iload_n (I := iX7_fault) (pc := 5) dX7_fault_5 rfl rfl ?_
      refine am_aload_n (I := iX7_fault) (pc := 6) dX7_fault_6 rfl rfl ?_
      refine am_getf (I := iX7_fault) (pc := 7) lf_X7_72 dX7_fault_7 md_25 rfl ?_
      refine am_icmp_ge (I := iX7_fault) (pc := 10) (tgt := 82) dX7_fault_10 (by decide) (fun c10 => ?_) (fun c10 => ?_)
      · have g10 : n ≤ i := by
          rcases Nat.lt_or_ge i n with q9 | q9
          · exact absurd c10 (nI_ge (a := i) (b := n) q9 (by omega))
          · exact q9
        refine am_iload_n (I := iX7_fault) (pc := 82) dX7_fault_82 rfl rfl ?_
        refine am_bipush (I := iX7_fault) (pc := 83) (x := 32) dX7_fault_83 (by decide) ?_
        refine am_icmp_ne (I := iX7_fault) (pc := 85) (tgt := 95) dX7_fault_85 (by decide) (fun c85 => ?_) (fun c85 => ?_)
        · refine am_iconst (I := iX7_fault) (pc := 95) (x := (-1)) dX7_fault_95 (by decide) ?_
          exact am_iret (I := iX7_fault) (pc := 96) dX7_fault_96 rfl (Nat.le_refl _) (Nat.le_refl _) (⟨by rw [← he, show n - i = 0 by omega, fwp, if_neg c85], rfl⟩)
        · refine am_aload_n (I := iX7_fault) (pc := 88) dX7_fault_88 rfl rfl ?_
          refine am_getf (I := iX7_fault) (pc := 89) lf_X7_72 dX7_fault_89 md_25 rfl ?_
          refine am_goto (I := iX7_fault) (pc := 92) (tgt := 96) dX7_fault_92 (by decide) ?_
          exact am_iret (I := iX7_fault) (pc := 96) dX7_fault_96 rfl (Nat.le_refl _) (Nat.le_refl _) (⟨by rw [← he, show n - i = 0 by omega, fwp, if_pos c85], rfl⟩)
      · have l10 : i < n := by
          rcases Nat.lt_or_ge i n with q9 | q9
          · exact q9
          · exact absurd (nI_le (a := n) (b := i) q9 (by omega)) c10
        refine am_aload_n (I := iX7_fault) (pc := 13) dX7_fault_13 rfl rfl ?_
        refine am_getf (I := iX7_fault) (pc := 14) lf_X7_7 dX7_fault_14 md_25 rfl ?_
        refine am_iload_n (I := iX7_fault) (pc := 17) dX7_fault_17 rfl rfl ?_
        refine am_iaload (I := iX7_fault) (pc := 18) dX7_fault_18 md_26 rfl (vp_in_nI (show i < 80 by omega) (by decide)) ?_
        rw [nI_clamp (show i < 2 ^ 31 by omega)]
        refine am_istore_n (I := iX7_fault) (pc := 19) (L' := [some (.ref 25), some (.int ah), some (.int (nI i)), some (.int (a26 i)), none]) dX7_fault_19 rfl (by decide) rfl ?_
        refine am_iload_n (I := iX7_fault) (pc := 20) dX7_fault_20 rfl rfl ?_
        refine am_callS (I := iX7_fault) (pc := 21) (st := []) lv_X7_75 rfl (q_isLetter (a26 i)) dX7_fault_21 rfl (Nat.le_of_ble_eq_true rfl) ⟨Nat.le_of_ble_eq_true rfl, Nat.le_of_ble_eq_true rfl⟩ (Nat.le_of_ble_eq_true rfl) (Nat.le_of_ble_eq_true rfl) rfl (fun v9 T9 z9 _ => ?_) (fun _ _ h9 => h9.elim)
        obtain ⟨rfl, rfl⟩ := z9
        show am_W _ _ _ _ _ _ _ _ _ _ _ _ _ _ _ 24 [some (.ref 25), some (.int ah), some (.int (nI i)), some (.int (a26 i)), none] [.int (bI (isl (a26 i)))] (mdS S th (nI n) wd ln sq st ct cl ft zn a26 a27 a28 a29 a30 a31 a32 a33 a34 a35 a36 a37 a38 a39 a40 a41 a42 a43 a44) 0 0
        refine am_if_eq (I := iX7_fault) (pc := 24) (tgt := 41) dX7_fault_24 (by decide) (fun c24 => ?_) (fun c24 => ?_)
        · refine am_iload_n (I := iX7_fault) (pc := 41) dX7_fault_41 rfl rfl ?_
          refine am_bipush (I := iX7_fault) (pc := 42) (x := 46) dX7_fault_42 (by decide) ?_
          refine am_icmp_ne (I := iX7_fault) (pc := 44) (tgt := 54) dX7_fault_44 (by decide) (fun c44 => ?_) (fun c44 => ?_)
          · refine am_iload_n (I := iX7_fault) (pc := 54) dX7_fault_54 rfl rfl ?_
            refine am_bipush (I := iX7_fault) (pc := 55) (x := 32) dX7_fault_55 (by decide) ?_
            refine am_icmp_eq (I := iX7_fault) (pc := 57) (tgt := 64) dX7_fault_57 (by decide) (fun c57 => ?_) (fun c57 => ?_)
            · refine am_iconst (I := iX7_fault) (pc := 64) (x := 0) dX7_fault_64 (by decide) ?_
              refine am_istore (I := iX7_fault) (pc := 65) (L' := [some (.ref 25), some (.int ah), some (.int (nI i)), some (.int (a26 i)), some (.int 0)]) dX7_fault_65 (by decide) rfl ?_
              refine am_iload (I := iX7_fault) (pc := 67) dX7_fault_67 rfl ?_
              refine am_if_ne (I := iX7_fault) (pc := 69) (tgt := 74) dX7_fault_69 (by decide) (fun c69 => ?_) (fun c69 => ?_)
              · exact absurd rfl c69
              · have hg : ¬ mf ah (a26 i) = true := by
                  rw [← rgd_mf hah (hv i l10)]
                  unfold rgd
                  rw [bI_0 c24, if_neg Bool.false_ne_true, if_neg c44, decide_eq_true c57]; decide
                refine am_iload_n (I := iX7_fault) (pc := 72) dX7_fault_72 rfl rfl ?_
                exact am_iret (I := iX7_fault) (pc := 73) dX7_fault_73 rfl (Nat.le_refl _) (Nat.le_refl _) (⟨by rw [← he, show n - i = (n - (i + 1)) + 1 by omega, fwp, if_neg hg], rfl⟩)
            · refine am_iconst (I := iX7_fault) (pc := 60) (x := 1) dX7_fault_60 (by decide) ?_
              refine am_goto (I := iX7_fault) (pc := 61) (tgt := 65) dX7_fault_61 (by decide) ?_
              refine am_istore (I := iX7_fault) (pc := 65) (L' := [some (.ref 25), some (.int ah), some (.int (nI i)), some (.int (a26 i)), some (.int 1)]) dX7_fault_65 (by decide) rfl ?_
              refine am_iload (I := iX7_fault) (pc := 67) dX7_fault_67 rfl ?_
              refine am_if_ne (I := iX7_fault) (pc := 69) (tgt := 74) dX7_fault_69 (by decide) (fun c69 => ?_) (fun c69 => ?_)
              · have hg : mf ah (a26 i) = true := by
                  rw [← rgd_mf hah (hv i l10)]
                  unfold rgd
                  rw [bI_0 c24, if_neg Bool.false_ne_true, if_neg c44, decide_eq_false c57]; rfl
                refine am_iload_n (I := iX7_fault) (pc := 74) dX7_fault_74 rfl rfl ?_
                refine am_istore_n (I := iX7_fault) (pc := 75) (L' := [some (.ref 25), some (.int (a26 i)), some (.int (nI i)), some (.int (a26 i)), some (.int 1)]) dX7_fault_75 rfl (by decide) rfl ?_
                refine am_iinc (I := iX7_fault) (pc := 76) (y := ((nI i) + 1)) (L' := [some (.ref 25), some (.int (a26 i)), some (.int ((nI i) + 1)), some (.int (a26 i)), some (.int 1)]) dX7_fault_76 rfl rfl rfl ?_
                refine am_forget 3 (am_forget 4 ?_)
                refine am_goto (I := iX7_fault) (pc := 79) (tgt := 5) dX7_fault_79 (by decide) ?_
                exact am_same rfl (by rw [nI_1]; rfl) rfl rfl rfl rfl (ih5 (i + 1) (a26 i) (by omega) (by omega) (hv i l10) (by rw [← he, show n - i = (n - (i + 1)) + 1 by omega, fwp, if_pos hg]))
              · exact absurd c69 (by decide)
          · refine am_iload_n (I := iX7_fault) (pc := 47) dX7_fault_47 rfl rfl ?_
            refine am_callS (I := iX7_fault) (pc := 48) (st := []) lv_X7_75 rfl (q_isLetter ah) dX7_fault_48 rfl (Nat.le_of_ble_eq_true rfl) ⟨Nat.le_of_ble_eq_true rfl, Nat.le_of_ble_eq_true rfl⟩ (Nat.le_of_ble_eq_true rfl) (Nat.le_of_ble_eq_true rfl) rfl (fun v9 T9 z9 _ => ?_) (fun _ _ h9 => h9.elim)
            obtain ⟨rfl, rfl⟩ := z9
            show am_W _ _ _ _ _ _ _ _ _ _ _ _ _ _ _ 51 [some (.ref 25), some (.int ah), some (.int (nI i)), some (.int (a26 i)), none] [.int (bI (isl ah))] (mdS S th (nI n) wd ln sq st ct cl ft zn a26 a27 a28 a29 a30 a31 a32 a33 a34 a35 a36 a37 a38 a39 a40 a41 a42 a43 a44) 0 0
            refine am_goto (I := iX7_fault) (pc := 51) (tgt := 65) dX7_fault_51 (by decide) ?_
            refine am_istore (I := iX7_fault) (pc := 65) (L' := [some (.ref 25), some (.int ah), some (.int (nI i)), some (.int (a26 i)), some (.int (bI (isl ah)))]) dX7_fault_65 (by decide) rfl ?_
            refine am_iload (I := iX7_fault) (pc := 67) dX7_fault_67 rfl ?_
            refine am_if_ne (I := iX7_fault) (pc := 69) (tgt := 74) dX7_fault_69 (by decide) (fun c69 => ?_) (fun c69 => ?_)
            · have hg : mf ah (a26 i) = true := by
                rw [← rgd_mf hah (hv i l10)]
                unfold rgd
                rw [bI_0 c24, if_neg Bool.false_ne_true, if_pos c44]; exact bI_1 c69
              refine am_iload_n (I := iX7_fault) (pc := 74) dX7_fault_74 rfl rfl ?_
              refine am_istore_n (I := iX7_fault) (pc := 75) (L' := [some (.ref 25), some (.int (a26 i)), some (.int (nI i)), some (.int (a26 i)), some (.int (bI (isl ah)))]) dX7_fault_75 rfl (by decide) rfl ?_
              refine am_iinc (I := iX7_fault) (pc := 76) (y := ((nI i) + 1)) (L' := [some (.ref 25), some (.int (a26 i)), some (.int ((nI i) + 1)), some (.int (a26 i)), some (.int (bI (isl ah)))]) dX7_fault_76 rfl rfl rfl ?_
              refine am_forget 3 (am_forget 4 ?_)
              refine am_goto (I := iX7_fault) (pc := 79) (tgt := 5) dX7_fault_79 (by decide) ?_
              exact am_same rfl (by rw [nI_1]; rfl) rfl rfl rfl rfl (ih5 (i + 1) (a26 i) (by omega) (by omega) (hv i l10) (by rw [← he, show n - i = (n - (i + 1)) + 1 by omega, fwp, if_pos hg]))
            · have hg : ¬ mf ah (a26 i) = true := by
                rw [← rgd_mf hah (hv i l10)]
                unfold rgd
                rw [bI_0 c24, if_neg Bool.false_ne_true, if_pos c44, bI_0 c69]; decide
              refine am_iload_n (I := iX7_fault) (pc := 72) dX7_fault_72 rfl rfl ?_
              exact am_iret (I := iX7_fault) (pc := 73) dX7_fault_73 rfl (Nat.le_refl _) (Nat.le_refl _) (⟨by rw [← he, show n - i = (n - (i + 1)) + 1 by omega, fwp, if_neg hg], rfl⟩)
        · refine am_iload_n (I := iX7_fault) (pc := 27) dX7_fault_27 rfl rfl ?_
          refine am_bipush (I := iX7_fault) (pc := 28) (x := 46) dX7_fault_28 (by decide) ?_
          refine am_icmp_eq (I := iX7_fault) (pc := 30) (tgt := 37) dX7_fault_30 (by decide) (fun c30 => ?_) (fun c30 => ?_)
          · refine am_iconst (I := iX7_fault) (pc := 37) (x := 0) dX7_fault_37 (by decide) ?_
            refine am_goto (I := iX7_fault) (pc := 38) (tgt := 65) dX7_fault_38 (by decide) ?_
            refine am_istore (I := iX7_fault) (pc := 65) (L' := [some (.ref 25), some (.int ah), some (.int (nI i)), some (.int (a26 i)), some (.int 0)]) dX7_fault_65 (by decide) rfl ?_
            refine am_iload (I := iX7_fault) (pc := 67) dX7_fault_67 rfl ?_
            refine am_if_ne (I := iX7_fault) (pc := 69) (tgt := 74) dX7_fault_69 (by decide) (fun c69 => ?_) (fun c69 => ?_)
            · exact absurd rfl c69
            · have hg : ¬ mf ah (a26 i) = true := by
                rw [← rgd_mf hah (hv i l10)]
                unfold rgd
                rw [bI_1 c24, if_pos rfl, decide_eq_true c30]; decide
              refine am_iload_n (I := iX7_fault) (pc := 72) dX7_fault_72 rfl rfl ?_
              exact am_iret (I := iX7_fault) (pc := 73) dX7_fault_73 rfl (Nat.le_refl _) (Nat.le_refl _) (⟨by rw [← he, show n - i = (n - (i + 1)) + 1 by omega, fwp, if_neg hg], rfl⟩)
          · refine am_iconst (I := iX7_fault) (pc := 33) (x := 1) dX7_fault_33 (by decide) ?_
            refine am_goto (I := iX7_fault) (pc := 34) (tgt := 65) dX7_fault_34 (by decide) ?_
            refine am_istore (I := iX7_fault) (pc := 65) (L' := [some (.ref 25), some (.int ah), some (.int (nI i)), some (.int (a26 i)), some (.int 1)]) dX7_fault_65 (by decide) rfl ?_
            refine am_iload (I := iX7_fault) (pc := 67) dX7_fault_67 rfl ?_
            refine am_if_ne (I := iX7_fault) (pc := 69) (tgt := 74) dX7_fault_69 (by decide) (fun c69 => ?_) (fun c69 => ?_)
            · have hg : mf ah (a26 i) = true := by
                rw [← rgd_mf hah (hv i l10)]
                unfold rgd
                rw [bI_1 c24, if_pos rfl, decide_eq_false c30]; rfl
              refine am_iload_n (I := iX7_fault) (pc := 74) dX7_fault_74 rfl rfl ?_
              refine am_istore_n (I := iX7_fault) (pc := 75) (L' := [some (.ref 25), some (.int (a26 i)), some (.int (nI i)), some (.int (a26 i)), some (.int 1)]) dX7_fault_75 rfl (by decide) rfl ?_
              refine am_iinc (I := iX7_fault) (pc := 76) (y := ((nI i) + 1)) (L' := [some (.ref 25), some (.int (a26 i)), some (.int ((nI i) + 1)), some (.int (a26 i)), some (.int 1)]) dX7_fault_76 rfl rfl rfl ?_
              refine am_forget 3 (am_forget 4 ?_)
              refine am_goto (I := iX7_fault) (pc := 79) (tgt := 5) dX7_fault_79 (by decide) ?_
              exact am_same rfl (by rw [nI_1]; rfl) rfl rfl rfl rfl (ih5 (i + 1) (a26 i) (by omega) (by omega) (hv i l10) (by rw [← he, show n - i = (n - (i + 1)) + 1 by omega, fwp, if_pos hg]))
            · exact absurd c69 (by decide)
  exact am_same rfl (by rw [nI_0]) rfl rfl rfl rfl (loop5 _ 0 32 (Nat.lt_succ_self _) (Nat.zero_le _) (Or.inr (Or.inl rfl)) rfl)
