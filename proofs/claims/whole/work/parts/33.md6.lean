set_option maxRecDepth 100000 in
set_option maxHeartbeats 4000000 in
theorem q_line_x0 {K : am_K} {l : Launch} {S : am_S} {th pd wd sq st ct cl ft zn : Int32} {a26 a27 a28 a29 a30 a31 a32 a33 a34 a35 a36 a37 a38 a39 a40 a41 a42 a43 a44 : Nat → Int32} (n : Nat) (x y : Int32) (hb : st = 0 ∨ x < -1 ∨ nI n ≤ x ∨ (¬ y = 0 ∧ ¬ y = 1)) : am_M K l iX7_line 1 0 0 [.ref 25, .int x, .int y] (mdS S th pd wd (nI n) sq st ct cl ft zn a26 a27 a28 a29 a30 a31 a32 a33 a34 a35 a36 a37 a38 a39 a40 a41 a42 a43 a44) (fun v S' => v = some (.int (0)) ∧ mdS S 1 pd wd (nI n) sq st ct cl ft zn a26 a27 a28 a29 a30 a31 a32 a33 a34 a35 a36 a37 a38 a39 a40 a41 a42 a43 a44 = S') (fun _ _ => False) := by
  refine am_body (by decide) rfl (by simp [Value.category]) (Nat.le_of_ble_eq_true rfl) (fun xp xe xs xm xa xb xt xc ad0 => ?_)
  show am_W _ _ _ _ _ _ _ _ _ _ _ _ _ _ _ 0 [some (.ref 25), some (.int x), some (.int y)] [] (mdS S th pd wd (nI n) sq st ct cl ft zn a26 a27 a28 a29 a30 a31 a32 a33 a34 a35 a36 a37 a38 a39 a40 a41 a42 a43 a44) 0 0
  refine am_aload_n (I := iX7_line) (pc := 0) dX7_line_0 rfl rfl ?_
  refine am_aload_n (I := iX7_line) (pc := 1) dX7_line_1 rfl rfl ?_
  refine am_getf (I := iX7_line) (pc := 2) lf_X7_118 dX7_line_2 md_25 rfl ?_
  refine am_if_eq (I := iX7_line) (pc := 5) (tgt := 34) dX7_line_5 (by decide) (fun c5 => ?_) (fun c5 => ?_)
  · refine am_iconst (I := iX7_line) (pc := 34) (x := 0) dX7_line_34 (by decide) ?_
    refine am_iconst (I := iX7_line) (pc := 35) (x := 1) dX7_line_35 (by decide) ?_
    refine am_callV (I := iX7_line) (pc := 36) (st := []) lv_X7_79 (q_goes1 _) dX7_line_36 md_25 rfl (Nat.le_of_ble_eq_true rfl) ⟨Nat.le_of_ble_eq_true rfl, Nat.le_of_ble_eq_true rfl⟩ (Nat.le_of_ble_eq_true rfl) (Nat.le_of_ble_eq_true rfl) rfl (fun v9 T9 z9 _ => ?_) (fun _ _ h9 => h9.elim)
    obtain ⟨rfl, rfl⟩ := z9
    show am_W _ _ _ _ _ _ _ _ _ _ _ _ _ _ _ 39 [some (.ref 25), some (.int x), some (.int y)] [.int 0] (mdS S 1 pd wd (nI n) sq st ct cl ft zn a26 a27 a28 a29 a30 a31 a32 a33 a34 a35 a36 a37 a38 a39 a40 a41 a42 a43 a44) 0 0
    refine am_if_ne (I := iX7_line) (pc := 39) (tgt := 44) dX7_line_39 (by decide) (fun c39 => ?_) (fun c39 => ?_)
    · exact absurd rfl c39
    · refine am_iconst (I := iX7_line) (pc := 42) (x := 0) dX7_line_42 (by decide) ?_
      exact am_iret (I := iX7_line) (pc := 43) dX7_line_43 rfl (Nat.le_refl _) (Nat.le_refl _) (⟨rfl, rfl⟩)
  · refine am_iload_n (I := iX7_line) (pc := 8) dX7_line_8 rfl rfl ?_
    refine am_iconst (I := iX7_line) (pc := 9) (x := (-1)) dX7_line_9 (by decide) ?_
    refine am_icmp_lt (I := iX7_line) (pc := 10) (tgt := 34) dX7_line_10 (by decide) (fun c10 => ?_) (fun c10 => ?_)
    · refine am_iconst (I := iX7_line) (pc := 34) (x := 0) dX7_line_34 (by decide) ?_
      refine am_iconst (I := iX7_line) (pc := 35) (x := 1) dX7_line_35 (by decide) ?_
      refine am_callV (I := iX7_line) (pc := 36) (st := []) lv_X7_79 (q_goes1 _) dX7_line_36 md_25 rfl (Nat.le_of_ble_eq_true rfl) ⟨Nat.le_of_ble_eq_true rfl, Nat.le_of_ble_eq_true rfl⟩ (Nat.le_of_ble_eq_true rfl) (Nat.le_of_ble_eq_true rfl) rfl (fun v9 T9 z9 _ => ?_) (fun _ _ h9 => h9.elim)
      obtain ⟨rfl, rfl⟩ := z9
      show am_W _ _ _ _ _ _ _ _ _ _ _ _ _ _ _ 39 [some (.ref 25), some (.int x), some (.int y)] [.int 0] (mdS S 1 pd wd (nI n) sq st ct cl ft zn a26 a27 a28 a29 a30 a31 a32 a33 a34 a35 a36 a37 a38 a39 a40 a41 a42 a43 a44) 0 0
      refine am_if_ne (I := iX7_line) (pc := 39) (tgt := 44) dX7_line_39 (by decide) (fun c39 => ?_) (fun c39 => ?_)
      · exact absurd rfl c39
      · refine am_iconst (I := iX7_line) (pc := 42) (x := 0) dX7_line_42 (by decide) ?_
        exact am_iret (I := iX7_line) (pc := 43) dX7_line_43 rfl (Nat.le_refl _) (Nat.le_refl _) (⟨rfl, rfl⟩)
    · refine am_iload_n (I := iX7_line) (pc := 13) dX7_line_13 rfl rfl ?_
      refine am_aload_n (I := iX7_line) (pc := 14) dX7_line_14 rfl rfl ?_
      refine am_getf (I := iX7_line) (pc := 15) lf_X7_112 dX7_line_15 md_25 rfl ?_
      refine am_icmp_ge (I := iX7_line) (pc := 18) (tgt := 34) dX7_line_18 (by decide) (fun c18 => ?_) (fun c18 => ?_)
      · refine am_iconst (I := iX7_line) (pc := 34) (x := 0) dX7_line_34 (by decide) ?_
        refine am_iconst (I := iX7_line) (pc := 35) (x := 1) dX7_line_35 (by decide) ?_
        refine am_callV (I := iX7_line) (pc := 36) (st := []) lv_X7_79 (q_goes1 _) dX7_line_36 md_25 rfl (Nat.le_of_ble_eq_true rfl) ⟨Nat.le_of_ble_eq_true rfl, Nat.le_of_ble_eq_true rfl⟩ (Nat.le_of_ble_eq_true rfl) (Nat.le_of_ble_eq_true rfl) rfl (fun v9 T9 z9 _ => ?_) (fun _ _ h9 => h9.elim)
        obtain ⟨rfl, rfl⟩ := z9
        show am_W _ _ _ _ _ _ _ _ _ _ _ _ _ _ _ 39 [some (.ref 25), some (.int x), some (.int y)] [.int 0] (mdS S 1 pd wd (nI n) sq st ct cl ft zn a26 a27 a28 a29 a30 a31 a32 a33 a34 a35 a36 a37 a38 a39 a40 a41 a42 a43 a44) 0 0
        refine am_if_ne (I := iX7_line) (pc := 39) (tgt := 44) dX7_line_39 (by decide) (fun c39 => ?_) (fun c39 => ?_)
        · exact absurd rfl c39
        · refine am_iconst (I := iX7_line) (pc := 42) (x := 0) dX7_line_42 (by decide) ?_
          exact am_iret (I := iX7_line) (pc := 43) dX7_line_43 rfl (Nat.le_refl _) (Nat.le_refl _) (⟨rfl, rfl⟩)
      · refine am_iload_n (I := iX7_line) (pc := 21) dX7_line_21 rfl rfl ?_
        refine am_if_eq (I := iX7_line) (pc := 22) (tgt := 30) dX7_line_22 (by decide) (fun c22 => ?_) (fun c22 => ?_)
        · exact absurd hb (fun q => q.elim c5 (fun q => q.elim c10 (fun q => q.elim c18 (fun q => q.1 c22))))
        · refine am_iload_n (I := iX7_line) (pc := 25) dX7_line_25 rfl rfl ?_
          refine am_iconst (I := iX7_line) (pc := 26) (x := 1) dX7_line_26 (by decide) ?_
          refine am_icmp_ne (I := iX7_line) (pc := 27) (tgt := 34) dX7_line_27 (by decide) (fun c27 => ?_) (fun c27 => ?_)
          · refine am_iconst (I := iX7_line) (pc := 34) (x := 0) dX7_line_34 (by decide) ?_
            refine am_iconst (I := iX7_line) (pc := 35) (x := 1) dX7_line_35 (by decide) ?_
            refine am_callV (I := iX7_line) (pc := 36) (st := []) lv_X7_79 (q_goes1 _) dX7_line_36 md_25 rfl (Nat.le_of_ble_eq_true rfl) ⟨Nat.le_of_ble_eq_true rfl, Nat.le_of_ble_eq_true rfl⟩ (Nat.le_of_ble_eq_true rfl) (Nat.le_of_ble_eq_true rfl) rfl (fun v9 T9 z9 _ => ?_) (fun _ _ h9 => h9.elim)
            obtain ⟨rfl, rfl⟩ := z9
            show am_W _ _ _ _ _ _ _ _ _ _ _ _ _ _ _ 39 [some (.ref 25), some (.int x), some (.int y)] [.int 0] (mdS S 1 pd wd (nI n) sq st ct cl ft zn a26 a27 a28 a29 a30 a31 a32 a33 a34 a35 a36 a37 a38 a39 a40 a41 a42 a43 a44) 0 0
            refine am_if_ne (I := iX7_line) (pc := 39) (tgt := 44) dX7_line_39 (by decide) (fun c39 => ?_) (fun c39 => ?_)
            · exact absurd rfl c39
            · refine am_iconst (I := iX7_line) (pc := 42) (x := 0) dX7_line_42 (by decide) ?_
              exact am_iret (I := iX7_line) (pc := 43) dX7_line_43 rfl (Nat.le_refl _) (Nat.le_refl _) (⟨rfl, rfl⟩)
          · exact absurd hb (fun q => q.elim c5 (fun q => q.elim c10 (fun q => q.elim c18 (fun q => q.2 c27))))
set_option maxRecDepth 100000 in
set_option maxHeartbeats 4000000 in
theorem q_line_s {K : am_K} {l : Launch} {S : am_S} {th pd wd sq ct cl ft zn : Int32} {a26 a27 a28 a29 a30 a31 a32 a33 a34 a35 a36 a37 a38 a39 a40 a41 a42 a43 a44 : Nat → Int32} (n : Nat) (y : Int32) (hn : n ≤ 40) (hy : y = 0 ∨ y = 1) : am_M K l iX7_line 1 0 0 [.ref 25, .int (-1), .int y] (mdS S th pd wd (nI n) sq 1 ct cl ft zn a26 a27 a28 a29 a30 a31 a32 a33 a34 a35 a36 a37 a38 a39 a40 a41 a42 a43 a44) (fun v S' => v = some (.int (sq)) ∧ mdS S 0 pd wd (nI n) sq 1 ct cl ft zn a26 a27 a28 a29 a30 a31 a32 a33 a34 a35 a36 a37 a38 a39 a40 a41 a42 a43 a44 = S') (fun _ _ => False) := by
  refine am_body (by decide) rfl (by simp [Value.category]) (Nat.le_of_ble_eq_true rfl) (fun xp xe xs xm xa xb xt xc ad0 => ?_)
  show am_W _ _ _ _ _ _ _ _ _ _ _ _ _ _ _ 0 [some (.ref 25), some (.int (-1)), some (.int y)] [] (mdS S th pd wd (nI n) sq 1 ct cl ft zn a26 a27 a28 a29 a30 a31 a32 a33 a34 a35 a36 a37 a38 a39 a40 a41 a42 a43 a44) 0 0
  refine am_aload_n (I := iX7_line) (pc := 0) dX7_line_0 rfl rfl ?_
  refine am_aload_n (I := iX7_line) (pc := 1) dX7_line_1 rfl rfl ?_
  refine am_getf (I := iX7_line) (pc := 2) lf_X7_118 dX7_line_2 md_25 rfl ?_
  refine am_if_eq (I := iX7_line) (pc := 5) (tgt := 34) dX7_line_5 (by decide) (fun c5 => ?_) (fun c5 => ?_)
  · exact absurd c5 (by decide)
  · refine am_iload_n (I := iX7_line) (pc := 8) dX7_line_8 rfl rfl ?_
    refine am_iconst (I := iX7_line) (pc := 9) (x := (-1)) dX7_line_9 (by decide) ?_
    refine am_icmp_lt (I := iX7_line) (pc := 10) (tgt := 34) dX7_line_10 (by decide) (fun c10 => ?_) (fun c10 => ?_)
    · exact absurd c10 (by decide)
    · refine am_iload_n (I := iX7_line) (pc := 13) dX7_line_13 rfl rfl ?_
      refine am_aload_n (I := iX7_line) (pc := 14) dX7_line_14 rfl rfl ?_
      refine am_getf (I := iX7_line) (pc := 15) lf_X7_112 dX7_line_15 md_25 rfl ?_
      refine am_icmp_ge (I := iX7_line) (pc := 18) (tgt := 34) dX7_line_18 (by decide) (fun c18 => ?_) (fun c18 => ?_)
      · exact absurd c18 (Int32.not_le.mpr (Int32.lt_of_lt_of_le (show (-1 : Int32) < 0 by decide) (nI_pos' (by omega))))
      · refine am_iload_n (I := iX7_line) (pc := 21) dX7_line_21 rfl rfl ?_
        refine am_if_eq (I := iX7_line) (pc := 22) (tgt := 30) dX7_line_22 (by decide) (fun c22 => ?_) (fun c22 => ?_)
        · refine am_iconst (I := iX7_line) (pc := 30) (x := 1) dX7_line_30 (by decide) ?_
          refine am_goto (I := iX7_line) (pc := 31) (tgt := 35) dX7_line_31 (by decide) ?_
          refine am_iconst (I := iX7_line) (pc := 35) (x := 1) dX7_line_35 (by decide) ?_
          refine am_callV (I := iX7_line) (pc := 36) (st := []) lv_X7_79 (q_goes0) dX7_line_36 md_25 rfl (Nat.le_of_ble_eq_true rfl) ⟨Nat.le_of_ble_eq_true rfl, Nat.le_of_ble_eq_true rfl⟩ (Nat.le_of_ble_eq_true rfl) (Nat.le_of_ble_eq_true rfl) rfl (fun v9 T9 z9 _ => ?_) (fun _ _ h9 => h9.elim)
          obtain ⟨rfl, rfl⟩ := z9
          show am_W _ _ _ _ _ _ _ _ _ _ _ _ _ _ _ 39 [some (.ref 25), some (.int (-1)), some (.int y)] [.int 1] (mdS S 0 pd wd (nI n) sq 1 ct cl ft zn a26 a27 a28 a29 a30 a31 a32 a33 a34 a35 a36 a37 a38 a39 a40 a41 a42 a43 a44) 0 0
          refine am_if_ne (I := iX7_line) (pc := 39) (tgt := 44) dX7_line_39 (by decide) (fun c39 => ?_) (fun c39 => ?_)
          · refine am_iload_n (I := iX7_line) (pc := 44) dX7_line_44 rfl rfl ?_
            refine am_iconst (I := iX7_line) (pc := 45) (x := (-1)) dX7_line_45 (by decide) ?_
            refine am_icmp_ne (I := iX7_line) (pc := 46) (tgt := 56) dX7_line_46 (by decide) (fun c46 => ?_) (fun c46 => ?_)
            · exact absurd c46 (by decide)
            · refine am_aload_n (I := iX7_line) (pc := 49) dX7_line_49 rfl rfl ?_
              refine am_getf (I := iX7_line) (pc := 50) lf_X7_115 dX7_line_50 md_25 rfl ?_
              refine am_goto (I := iX7_line) (pc := 53) (tgt := 75) dX7_line_53 (by decide) ?_
              exact am_iret (I := iX7_line) (pc := 75) dX7_line_75 rfl (Nat.le_refl _) (Nat.le_refl _) (⟨rfl, rfl⟩)
          · exact absurd c39 (by decide)
        · refine am_iload_n (I := iX7_line) (pc := 25) dX7_line_25 rfl rfl ?_
          refine am_iconst (I := iX7_line) (pc := 26) (x := 1) dX7_line_26 (by decide) ?_
          refine am_icmp_ne (I := iX7_line) (pc := 27) (tgt := 34) dX7_line_27 (by decide) (fun c27 => ?_) (fun c27 => ?_)
          · exact absurd hy (fun q => q.elim c22 c27)
          · refine am_iconst (I := iX7_line) (pc := 30) (x := 1) dX7_line_30 (by decide) ?_
            refine am_goto (I := iX7_line) (pc := 31) (tgt := 35) dX7_line_31 (by decide) ?_
            refine am_iconst (I := iX7_line) (pc := 35) (x := 1) dX7_line_35 (by decide) ?_
            refine am_callV (I := iX7_line) (pc := 36) (st := []) lv_X7_79 (q_goes0) dX7_line_36 md_25 rfl (Nat.le_of_ble_eq_true rfl) ⟨Nat.le_of_ble_eq_true rfl, Nat.le_of_ble_eq_true rfl⟩ (Nat.le_of_ble_eq_true rfl) (Nat.le_of_ble_eq_true rfl) rfl (fun v9 T9 z9 _ => ?_) (fun _ _ h9 => h9.elim)
            obtain ⟨rfl, rfl⟩ := z9
            show am_W _ _ _ _ _ _ _ _ _ _ _ _ _ _ _ 39 [some (.ref 25), some (.int (-1)), some (.int y)] [.int 1] (mdS S 0 pd wd (nI n) sq 1 ct cl ft zn a26 a27 a28 a29 a30 a31 a32 a33 a34 a35 a36 a37 a38 a39 a40 a41 a42 a43 a44) 0 0
            refine am_if_ne (I := iX7_line) (pc := 39) (tgt := 44) dX7_line_39 (by decide) (fun c39 => ?_) (fun c39 => ?_)
            · refine am_iload_n (I := iX7_line) (pc := 44) dX7_line_44 rfl rfl ?_
              refine am_iconst (I := iX7_line) (pc := 45) (x := (-1)) dX7_line_45 (by decide) ?_
              refine am_icmp_ne (I := iX7_line) (pc := 46) (tgt := 56) dX7_line_46 (by decide) (fun c46 => ?_) (fun c46 => ?_)
              · exact absurd c46 (by decide)
              · refine am_aload_n (I := iX7_line) (pc := 49) dX7_line_49 rfl rfl ?_
                refine am_getf (I := iX7_line) (pc := 50) lf_X7_115 dX7_line_50 md_25 rfl ?_
                refine am_goto (I := iX7_line) (pc := 53) (tgt := 75) dX7_line_53 (by decide) ?_
                exact am_iret (I := iX7_line) (pc := 75) dX7_line_75 rfl (Nat.le_refl _) (Nat.le_refl _) (⟨rfl, rfl⟩)
            · exact absurd c39 (by decide)
set_option maxRecDepth 100000 in
set_option maxHeartbeats 4000000 in
theorem q_line_b {K : am_K} {l : Launch} {S : am_S} {th pd wd sq ct cl ft zn : Int32} {a26 a27 a28 a29 a30 a31 a32 a33 a34 a35 a36 a37 a38 a39 a40 a41 a42 a43 a44 : Nat → Int32} (n k : Nat) (hn : n ≤ 40) (hk : k < n) : am_M K l iX7_line 1 0 0 [.ref 25, .int (nI k), .int 0] (mdS S th pd wd (nI n) sq 1 ct cl ft zn a26 a27 a28 a29 a30 a31 a32 a33 a34 a35 a36 a37 a38 a39 a40 a41 a42 a43 a44) (fun v S' => v = some (.int (a35 k)) ∧ mdS S 0 pd wd (nI n) sq 1 ct cl ft zn a26 a27 a28 a29 a30 a31 a32 a33 a34 a35 a36 a37 a38 a39 a40 a41 a42 a43 a44 = S') (fun _ _ => False) := by
  refine am_body (by decide) rfl (by simp [Value.category]) (Nat.le_of_ble_eq_true rfl) (fun xp xe xs xm xa xb xt xc ad0 => ?_)
  show am_W _ _ _ _ _ _ _ _ _ _ _ _ _ _ _ 0 [some (.ref 25), some (.int (nI k)), some (.int 0)] [] (mdS S th pd wd (nI n) sq 1 ct cl ft zn a26 a27 a28 a29 a30 a31 a32 a33 a34 a35 a36 a37 a38 a39 a40 a41 a42 a43 a44) 0 0
  refine am_aload_n (I := iX7_line) (pc := 0) dX7_line_0 rfl rfl ?_
  refine am_aload_n (I := iX7_line) (pc := 1) dX7_line_1 rfl rfl ?_
  refine am_getf (I := iX7_line) (pc := 2) lf_X7_118 dX7_line_2 md_25 rfl ?_
  refine am_if_eq (I := iX7_line) (pc := 5) (tgt := 34) dX7_line_5 (by decide) (fun c5 => ?_) (fun c5 => ?_)
  · exact absurd c5 (by decide)
  · refine am_iload_n (I := iX7_line) (pc := 8) dX7_line_8 rfl rfl ?_
    refine am_iconst (I := iX7_line) (pc := 9) (x := (-1)) dX7_line_9 (by decide) ?_
    refine am_icmp_lt (I := iX7_line) (pc := 10) (tgt := 34) dX7_line_10 (by decide) (fun c10 => ?_) (fun c10 => ?_)
    · exact absurd c10 (Int32.not_lt.mpr (Int32.le_of_lt (Int32.lt_of_lt_of_le (show (-1 : Int32) < 0 by decide) (nI_pos' (by omega)))))
    · refine am_iload_n (I := iX7_line) (pc := 13) dX7_line_13 rfl rfl ?_
      refine am_aload_n (I := iX7_line) (pc := 14) dX7_line_14 rfl rfl ?_
      refine am_getf (I := iX7_line) (pc := 15) lf_X7_112 dX7_line_15 md_25 rfl ?_
      refine am_icmp_ge (I := iX7_line) (pc := 18) (tgt := 34) dX7_line_18 (by decide) (fun c18 => ?_) (fun c18 => ?_)
      · exact absurd c18 (nI_ge hk (by omega))
      · refine am_iload_n (I := iX7_line) (pc := 21) dX7_line_21 rfl rfl ?_
        refine am_if_eq (I := iX7_line) (pc := 22) (tgt := 30) dX7_line_22 (by decide) (fun c22 => ?_) (fun c22 => ?_)
        · refine am_iconst (I := iX7_line) (pc := 30) (x := 1) dX7_line_30 (by decide) ?_
          refine am_goto (I := iX7_line) (pc := 31) (tgt := 35) dX7_line_31 (by decide) ?_
          refine am_iconst (I := iX7_line) (pc := 35) (x := 1) dX7_line_35 (by decide) ?_
          refine am_callV (I := iX7_line) (pc := 36) (st := []) lv_X7_79 (q_goes0) dX7_line_36 md_25 rfl (Nat.le_of_ble_eq_true rfl) ⟨Nat.le_of_ble_eq_true rfl, Nat.le_of_ble_eq_true rfl⟩ (Nat.le_of_ble_eq_true rfl) (Nat.le_of_ble_eq_true rfl) rfl (fun v9 T9 z9 _ => ?_) (fun _ _ h9 => h9.elim)
          obtain ⟨rfl, rfl⟩ := z9
          show am_W _ _ _ _ _ _ _ _ _ _ _ _ _ _ _ 39 [some (.ref 25), some (.int (nI k)), some (.int 0)] [.int 1] (mdS S 0 pd wd (nI n) sq 1 ct cl ft zn a26 a27 a28 a29 a30 a31 a32 a33 a34 a35 a36 a37 a38 a39 a40 a41 a42 a43 a44) 0 0
          refine am_if_ne (I := iX7_line) (pc := 39) (tgt := 44) dX7_line_39 (by decide) (fun c39 => ?_) (fun c39 => ?_)
          · refine am_iload_n (I := iX7_line) (pc := 44) dX7_line_44 rfl rfl ?_
            refine am_iconst (I := iX7_line) (pc := 45) (x := (-1)) dX7_line_45 (by decide) ?_
            refine am_icmp_ne (I := iX7_line) (pc := 46) (tgt := 56) dX7_line_46 (by decide) (fun c46 => ?_) (fun c46 => ?_)
            · refine am_iload_n (I := iX7_line) (pc := 56) dX7_line_56 rfl rfl ?_
              refine am_if_ne (I := iX7_line) (pc := 57) (tgt := 69) dX7_line_57 (by decide) (fun c57 => ?_) (fun c57 => ?_)
              · exact absurd rfl c57
              · refine am_aload_n (I := iX7_line) (pc := 60) dX7_line_60 rfl rfl ?_
                refine am_getf (I := iX7_line) (pc := 61) lf_X7_37 dX7_line_61 md_25 rfl ?_
                refine am_iload_n (I := iX7_line) (pc := 64) dX7_line_64 rfl rfl ?_
                refine am_iaload (I := iX7_line) (pc := 65) dX7_line_65 md_35 rfl (vp_in_nI (show k < 41 by omega) (by decide)) ?_
                rw [nI_clamp (show k < 2 ^ 31 by omega)]
                refine am_goto (I := iX7_line) (pc := 66) (tgt := 75) dX7_line_66 (by decide) ?_
                exact am_iret (I := iX7_line) (pc := 75) dX7_line_75 rfl (Nat.le_refl _) (Nat.le_refl _) (⟨rfl, rfl⟩)
            · exact absurd c46 (fun e9 => by have h9 := nI_pos (n := k) (by omega); rw [e9] at h9; exact h9 (by decide))
          · exact absurd c39 (by decide)
        · exact absurd rfl c22
set_option maxRecDepth 100000 in
set_option maxHeartbeats 4000000 in
theorem q_line_l {K : am_K} {l : Launch} {S : am_S} {th pd wd sq ct cl ft zn : Int32} {a26 a27 a28 a29 a30 a31 a32 a33 a34 a35 a36 a37 a38 a39 a40 a41 a42 a43 a44 : Nat → Int32} (n k : Nat) (hn : n ≤ 40) (hk : k < n) : am_M K l iX7_line 1 0 0 [.ref 25, .int (nI k), .int 1] (mdS S th pd wd (nI n) sq 1 ct cl ft zn a26 a27 a28 a29 a30 a31 a32 a33 a34 a35 a36 a37 a38 a39 a40 a41 a42 a43 a44) (fun v S' => v = some (.int (a36 k)) ∧ mdS S 0 pd wd (nI n) sq 1 ct cl ft zn a26 a27 a28 a29 a30 a31 a32 a33 a34 a35 a36 a37 a38 a39 a40 a41 a42 a43 a44 = S') (fun _ _ => False) := by
  refine am_body (by decide) rfl (by simp [Value.category]) (Nat.le_of_ble_eq_true rfl) (fun xp xe xs xm xa xb xt xc ad0 => ?_)
  show am_W _ _ _ _ _ _ _ _ _ _ _ _ _ _ _ 0 [some (.ref 25), some (.int (nI k)), some (.int 1)] [] (mdS S th pd wd (nI n) sq 1 ct cl ft zn a26 a27 a28 a29 a30 a31 a32 a33 a34 a35 a36 a37 a38 a39 a40 a41 a42 a43 a44) 0 0
  refine am_aload_n (I := iX7_line) (pc := 0) dX7_line_0 rfl rfl ?_
  refine am_aload_n (I := iX7_line) (pc := 1) dX7_line_1 rfl rfl ?_
  refine am_getf (I := iX7_line) (pc := 2) lf_X7_118 dX7_line_2 md_25 rfl ?_
  refine am_if_eq (I := iX7_line) (pc := 5) (tgt := 34) dX7_line_5 (by decide) (fun c5 => ?_) (fun c5 => ?_)
  · exact absurd c5 (by decide)
  · refine am_iload_n (I := iX7_line) (pc := 8) dX7_line_8 rfl rfl ?_
    refine am_iconst (I := iX7_line) (pc := 9) (x := (-1)) dX7_line_9 (by decide) ?_
    refine am_icmp_lt (I := iX7_line) (pc := 10) (tgt := 34) dX7_line_10 (by decide) (fun c10 => ?_) (fun c10 => ?_)
    · exact absurd c10 (Int32.not_lt.mpr (Int32.le_of_lt (Int32.lt_of_lt_of_le (show (-1 : Int32) < 0 by decide) (nI_pos' (by omega)))))
    · refine am_iload_n (I := iX7_line) (pc := 13) dX7_line_13 rfl rfl ?_
      refine am_aload_n (I := iX7_line) (pc := 14) dX7_line_14 rfl rfl ?_
      refine am_getf (I := iX7_line) (pc := 15) lf_X7_112 dX7_line_15 md_25 rfl ?_
      refine am_icmp_ge (I := iX7_line) (pc := 18) (tgt := 34) dX7_line_18 (by decide) (fun c18 => ?_) (fun c18 => ?_)
      · exact absurd c18 (nI_ge hk (by omega))
      · refine am_iload_n (I := iX7_line) (pc := 21) dX7_line_21 rfl rfl ?_
        refine am_if_eq (I := iX7_line) (pc := 22) (tgt := 30) dX7_line_22 (by decide) (fun c22 => ?_) (fun c22 => ?_)
        · exact absurd c22 (by decide)
        · refine am_iload_n (I := iX7_line) (pc := 25) dX7_line_25 rfl rfl ?_
          refine am_iconst (I := iX7_line) (pc := 26) (x := 1) dX7_line_26 (by decide) ?_
          refine am_icmp_ne (I := iX7_line) (pc := 27) (tgt := 34) dX7_line_27 (by decide) (fun c27 => ?_) (fun c27 => ?_)
          · exact absurd c27 (by decide)
          · refine am_iconst (I := iX7_line) (pc := 30) (x := 1) dX7_line_30 (by decide) ?_
            refine am_goto (I := iX7_line) (pc := 31) (tgt := 35) dX7_line_31 (by decide) ?_
            refine am_iconst (I := iX7_line) (pc := 35) (x := 1) dX7_line_35 (by decide) ?_
            refine am_callV (I := iX7_line) (pc := 36) (st := []) lv_X7_79 (q_goes0) dX7_line_36 md_25 rfl (Nat.le_of_ble_eq_true rfl) ⟨Nat.le_of_ble_eq_true rfl, Nat.le_of_ble_eq_true rfl⟩ (Nat.le_of_ble_eq_true rfl) (Nat.le_of_ble_eq_true rfl) rfl (fun v9 T9 z9 _ => ?_) (fun _ _ h9 => h9.elim)
            obtain ⟨rfl, rfl⟩ := z9
            show am_W _ _ _ _ _ _ _ _ _ _ _ _ _ _ _ 39 [some (.ref 25), some (.int (nI k)), some (.int 1)] [.int 1] (mdS S 0 pd wd (nI n) sq 1 ct cl ft zn a26 a27 a28 a29 a30 a31 a32 a33 a34 a35 a36 a37 a38 a39 a40 a41 a42 a43 a44) 0 0
            refine am_if_ne (I := iX7_line) (pc := 39) (tgt := 44) dX7_line_39 (by decide) (fun c39 => ?_) (fun c39 => ?_)
            · refine am_iload_n (I := iX7_line) (pc := 44) dX7_line_44 rfl rfl ?_
              refine am_iconst (I := iX7_line) (pc := 45) (x := (-1)) dX7_line_45 (by decide) ?_
              refine am_icmp_ne (I := iX7_line) (pc := 46) (tgt := 56) dX7_line_46 (by decide) (fun c46 => ?_) (fun c46 => ?_)
              · refine am_iload_n (I := iX7_line) (pc := 56) dX7_line_56 rfl rfl ?_
                refine am_if_ne (I := iX7_line) (pc := 57) (tgt := 69) dX7_line_57 (by decide) (fun c57 => ?_) (fun c57 => ?_)
                · refine am_aload_n (I := iX7_line) (pc := 69) dX7_line_69 rfl rfl ?_
                  refine am_getf (I := iX7_line) (pc := 70) lf_X7_40 dX7_line_70 md_25 rfl ?_
                  refine am_iload_n (I := iX7_line) (pc := 73) dX7_line_73 rfl rfl ?_
                  refine am_iaload (I := iX7_line) (pc := 74) dX7_line_74 md_36 rfl (vp_in_nI (show k < 41 by omega) (by decide)) ?_
                  rw [nI_clamp (show k < 2 ^ 31 by omega)]
                  exact am_iret (I := iX7_line) (pc := 75) dX7_line_75 rfl (Nat.le_refl _) (Nat.le_refl _) (⟨rfl, rfl⟩)
                · exact absurd c57 (by decide)
              · exact absurd c46 (fun e9 => by have h9 := nI_pos (n := k) (by omega); rw [e9] at h9; exact h9 (by decide))
            · exact absurd c39 (by decide)
set_option maxRecDepth 100000 in
set_option maxHeartbeats 4000000 in
theorem q_level_x0 {K : am_K} {l : Launch} {S : am_S} {th pd wd ln sq st ct cl ft zn : Int32} {a26 a27 a28 a29 a30 a31 a32 a33 a34 a35 a36 a37 a38 a39 a40 a41 a42 a43 a44 : Nat → Int32} (x y : Int32) (hb : (x < 0 ∨ 10 ≤ x) ∨ (y < 0 ∨ 5 ≤ y)) : am_M K l iX7_level 2 0 0 [.ref 25, .int x, .int y] (mdS S th pd wd ln sq st ct cl ft zn a26 a27 a28 a29 a30 a31 a32 a33 a34 a35 a36 a37 a38 a39 a40 a41 a42 a43 a44) (fun v S' => v = some (.int (0)) ∧ mdS S 1 pd wd ln sq st ct cl ft zn a26 a27 a28 a29 a30 a31 a32 a33 a34 a35 a36 a37 a38 a39 a40 a41 a42 a43 a44 = S') (fun _ _ => False) := by
  refine am_body (by decide) rfl (by simp [Value.category]) (Nat.le_of_ble_eq_true rfl) (fun xp xe xs xm xa xb xt xc ad0 => ?_)
  show am_W _ _ _ _ _ _ _ _ _ _ _ _ _ _ _ 0 [some (.ref 25), some (.int x), some (.int y), none, none, none, none, none, none] [] (mdS S th pd wd ln sq st ct cl ft zn a26 a27 a28 a29 a30 a31 a32 a33 a34 a35 a36 a37 a38 a39 a40 a41 a42 a43 a44) 0 0
  refine am_aload_n (I := iX7_level) (pc := 0) dX7_level_0 rfl rfl ?_
  refine am_iload_n (I := iX7_level) (pc := 1) dX7_level_1 rfl rfl ?_
  refine am_iload_n (I := iX7_level) (pc := 2) dX7_level_2 rfl rfl ?_
  refine am_callS (I := iX7_level) (pc := 3) (st := [.ref 25]) lv_X7_87 rfl (q_isPair x y) dX7_level_3 rfl (Nat.le_of_ble_eq_true rfl) ⟨Nat.le_of_ble_eq_true rfl, Nat.le_of_ble_eq_true rfl⟩ (Nat.le_of_ble_eq_true rfl) (Nat.le_of_ble_eq_true rfl) rfl (fun v9 T9 z9 _ => ?_) (fun _ _ h9 => h9.elim)
  obtain ⟨rfl, rfl⟩ := z9
  show am_W _ _ _ _ _ _ _ _ _ _ _ _ _ _ _ 6 [some (.ref 25), some (.int x), some (.int y), none, none, none, none, none, none] [.int (bI (ipr x y)), .ref 25] (mdS S th pd wd ln sq st ct cl ft zn a26 a27 a28 a29 a30 a31 a32 a33 a34 a35 a36 a37 a38 a39 a40 a41 a42 a43 a44) 0 0
  rw [bI_f (ipr_f hb)]
  refine am_iconst (I := iX7_level) (pc := 6) (x := 1) dX7_level_6 (by decide) ?_
  refine am_callV (I := iX7_level) (pc := 7) (st := []) lv_X7_79 (q_goes1 _) dX7_level_7 md_25 rfl (Nat.le_of_ble_eq_true rfl) ⟨Nat.le_of_ble_eq_true rfl, Nat.le_of_ble_eq_true rfl⟩ (Nat.le_of_ble_eq_true rfl) (Nat.le_of_ble_eq_true rfl) rfl (fun v9 T9 z9 _ => ?_) (fun _ _ h9 => h9.elim)
  obtain ⟨rfl, rfl⟩ := z9
  show am_W _ _ _ _ _ _ _ _ _ _ _ _ _ _ _ 10 [some (.ref 25), some (.int x), some (.int y), none, none, none, none, none, none] [.int 0] (mdS S 1 pd wd ln sq st ct cl ft zn a26 a27 a28 a29 a30 a31 a32 a33 a34 a35 a36 a37 a38 a39 a40 a41 a42 a43 a44) 0 0
  refine am_if_ne (I := iX7_level) (pc := 10) (tgt := 15) dX7_level_10 (by decide) (fun c10 => ?_) (fun c10 => ?_)
  · exact absurd rfl c10
  · refine am_iconst (I := iX7_level) (pc := 13) (x := 0) dX7_level_13 (by decide) ?_
    exact am_iret (I := iX7_level) (pc := 14) dX7_level_14 rfl (Nat.le_refl _) (Nat.le_refl _) (⟨rfl, rfl⟩)
set_option maxRecDepth 100000 in
set_option maxHeartbeats 4000000 in
theorem q_level_n {K : am_K} {l : Launch} {S : am_S} {th pd wd ln sq st ct cl ft zn : Int32} {a26 a28 a29 a31 a32 a33 a34 a35 a36 a37 a38 a39 a40 a41 a42 a43 a44 : Nat → Int32} (cn : Nat → Nat) (fb : Nat → Option Nat) (p q : Nat) (h4 : ∀ k, cn k ≤ 4) (hf : ∀ l k, fb l = some k → k < 5) (hp : p < 10) (hq : q < 5) (hen : ends fb 5 (some q)) (hs : sh cn fb p 5 (some q) = none) : am_M K l iX7_level 2 0 0 [.ref 25, .int (nI p), .int (nI q)] (mdS S th pd wd ln sq st ct cl ft zn a26 (fun k => nI (cn k)) a28 a29 (fun l => fo (fb l)) a31 a32 a33 a34 a35 a36 a37 a38 a39 a40 a41 a42 a43 a44) (fun v S' => v = some (.int (-1)) ∧ mdS S 0 pd wd ln sq st ct cl ft zn a26 (fun k => nI (cn k)) a28 a29 (fun l => fo (fb l)) a31 a32 a33 a34 a35 a36 a37 a38 a39 a40 a41 a42 a43 a44 = S') (fun _ _ => False) := by
  refine am_body (by decide) rfl (by simp [Value.category]) (Nat.le_of_ble_eq_true rfl) (fun xp xe xs xm xa xb xt xc ad0 => ?_)
  show am_W _ _ _ _ _ _ _ _ _ _ _ _ _ _ _ 0 [some (.ref 25), some (.int (nI p)), some (.int (nI q)), none, none, none, none, none, none] [] (mdS S th pd wd ln sq st ct cl ft zn a26 (fun k => nI (cn k)) a28 a29 (fun l => fo (fb l)) a31 a32 a33 a34 a35 a36 a37 a38 a39 a40 a41 a42 a43 a44) 0 0
  refine am_aload_n (I := iX7_level) (pc := 0) dX7_level_0 rfl rfl ?_
  refine am_iload_n (I := iX7_level) (pc := 1) dX7_level_1 rfl rfl ?_
  refine am_iload_n (I := iX7_level) (pc := 2) dX7_level_2 rfl rfl ?_
  refine am_callS (I := iX7_level) (pc := 3) (st := [.ref 25]) lv_X7_87 rfl (q_isPair (nI p) (nI q)) dX7_level_3 rfl (Nat.le_of_ble_eq_true rfl) ⟨Nat.le_of_ble_eq_true rfl, Nat.le_of_ble_eq_true rfl⟩ (Nat.le_of_ble_eq_true rfl) (Nat.le_of_ble_eq_true rfl) rfl (fun v9 T9 z9 _ => ?_) (fun _ _ h9 => h9.elim)
  obtain ⟨rfl, rfl⟩ := z9
  show am_W _ _ _ _ _ _ _ _ _ _ _ _ _ _ _ 6 [some (.ref 25), some (.int (nI p)), some (.int (nI q)), none, none, none, none, none, none] [.int (bI (ipr (nI p) (nI q))), .ref 25] (mdS S th pd wd ln sq st ct cl ft zn a26 (fun k => nI (cn k)) a28 a29 (fun l => fo (fb l)) a31 a32 a33 a34 a35 a36 a37 a38 a39 a40 a41 a42 a43 a44) 0 0
  rw [bI_t (ipr_t hp hq)]
  refine am_iconst (I := iX7_level) (pc := 6) (x := 1) dX7_level_6 (by decide) ?_
  refine am_callV (I := iX7_level) (pc := 7) (st := []) lv_X7_79 (q_goes0) dX7_level_7 md_25 rfl (Nat.le_of_ble_eq_true rfl) ⟨Nat.le_of_ble_eq_true rfl, Nat.le_of_ble_eq_true rfl⟩ (Nat.le_of_ble_eq_true rfl) (Nat.le_of_ble_eq_true rfl) rfl (fun v9 T9 z9 _ => ?_) (fun _ _ h9 => h9.elim)
  obtain ⟨rfl, rfl⟩ := z9
  show am_W _ _ _ _ _ _ _ _ _ _ _ _ _ _ _ 10 [some (.ref 25), some (.int (nI p)), some (.int (nI q)), none, none, none, none, none, none] [.int 1] (mdS S 0 pd wd ln sq st ct cl ft zn a26 (fun k => nI (cn k)) a28 a29 (fun l => fo (fb l)) a31 a32 a33 a34 a35 a36 a37 a38 a39 a40 a41 a42 a43 a44) 0 0
  refine am_if_ne (I := iX7_level) (pc := 10) (tgt := 15) dX7_level_10 (by decide) (fun c10 => ?_) (fun c10 => ?_)
  · refine am_aload_n (I := iX7_level) (pc := 15) dX7_level_15 rfl rfl ?_
    refine am_iload_n (I := iX7_level) (pc := 16) dX7_level_16 rfl rfl ?_
    refine am_iload_n (I := iX7_level) (pc := 17) dX7_level_17 rfl rfl ?_
    refine am_callV (I := iX7_level) (pc := 18) (st := []) lv_X7_101 (q_latest0 cn fb p q h4 hf hp hq hen hs) dX7_level_18 md_25 rfl (Nat.le_of_ble_eq_true rfl) ⟨Nat.le_of_ble_eq_true rfl, Nat.le_of_ble_eq_true rfl⟩ (Nat.le_of_ble_eq_true rfl) (Nat.le_of_ble_eq_true rfl) rfl (fun v9 T9 z9 _ => ?_) (fun _ _ h9 => h9.elim)
    obtain ⟨rfl, rfl⟩ := z9
    show am_W _ _ _ _ _ _ _ _ _ _ _ _ _ _ _ 21 [some (.ref 25), some (.int (nI p)), some (.int (nI q)), none, none, none, none, none, none] [.int (-1)] (mdS S 0 pd wd ln sq st ct cl ft zn a26 (fun k => nI (cn k)) a28 a29 (fun l => fo (fb l)) a31 a32 a33 a34 a35 a36 a37 a38 a39 a40 a41 a42 a43 a44) 0 0
    refine am_istore_n (I := iX7_level) (pc := 21) (L' := [some (.ref 25), some (.int (nI p)), some (.int (nI q)), some (.int (-1)), none, none, none, none, none]) dX7_level_21 rfl (by decide) rfl ?_
    refine am_iload_n (I := iX7_level) (pc := 22) dX7_level_22 rfl rfl ?_
    refine am_iconst (I := iX7_level) (pc := 23) (x := (-1)) dX7_level_23 (by decide) ?_
    refine am_icmp_ne (I := iX7_level) (pc := 24) (tgt := 29) dX7_level_24 (by decide) (fun c24 => ?_) (fun c24 => ?_)
    · exact absurd c24 (by decide)
    · refine am_iconst (I := iX7_level) (pc := 27) (x := (-1)) dX7_level_27 (by decide) ?_
      exact am_iret (I := iX7_level) (pc := 28) dX7_level_28 rfl (Nat.le_refl _) (Nat.le_refl _) (⟨rfl, rfl⟩)
  · exact absurd c10 (by decide)
def pD (f : Nat → Int32) (j : Nat) : Bool := decide (f j = 46)
theorem ix8 {k : Nat} : (80 : Int32) * nI k = nI (80 * k) := by rw [show (80 : Int32) = nI 80 from rfl, nI_mul]
theorem cnt_congr {p q : Nat → Bool} : ∀ {n : Nat}, (∀ j, j < n → p j = q j) → cnt p n = cnt q n
  | 0, _ => rfl
  | n + 1, h => by rw [cnt, cnt, h n (Nat.lt_succ_self _), cnt_congr (fun j hj => h j (Nat.lt_succ_of_lt hj))]
/-- dots, and the class's ends of sentences -/
theorem dots_eq {g : Nat → Int32} {m : Nat} (hv : ∀ j, j < m → sgn (g j)) (h0 : 0 < m) : (if g (m - 1) = 46 then cnt (pD g) m else cnt (pD g) m + 1) = 1 + cnt (pS g m) m := by
  obtain ⟨k, rfl⟩ : ∃ k, m = k + 1 := ⟨m - 1, by omega⟩
  have e : cnt (pS g (k + 1)) k = cnt (pD g) k := cnt_congr (fun j hj => by
    unfold pS pD
    rw [decide_eq_true (show j + 1 < k + 1 by omega), Bool.and_true]
    rcases hv j (by omega) with h | h | h
    · rw [h, decide_eq_false (isl_ne h).2]; rfl
    · rw [h]; decide
    · rw [h]; decide)
  have e2 : pS g (k + 1) k = false := by unfold pS; rw [decide_eq_false (show ¬ k + 1 < k + 1 by omega), Bool.and_false]
  rw [cnt_n e2, e, show k + 1 - 1 = k from rfl]
  by_cases h : g k = 46
  · rw [if_pos h, cnt_s (show pD g k = true from decide_eq_true h)]; omega
  · rw [if_neg h, cnt_n (show pD g k = false from decide_eq_false h)]; omega
set_option maxRecDepth 100000 in
set_option maxHeartbeats 4000000 in
theorem q_level {K : am_K} {l : Launch} {S : am_S} {th pd wd ln sq st ct cl ft zn : Int32} {a26 a28 a29 a31 a32 a33 a34 a35 a36 a37 a38 a39 a40 a41 a42 a43 a44 : Nat → Int32} (cn : Nat → Nat) (fb : Nat → Option Nat) (p q : Nat) (r : Nat) (iv m : Nat) (g : Nat → Int32) (h4 : ∀ k, cn k ≤ 4) (hf : ∀ l k, fb l = some k → k < 5) (hp : p < 10) (hq : q < 5) (hen : ends fb 5 (some q)) (hs : sh cn fb p 5 (some q) = some r) (eiv : iv = ((p * 5 + r) * 4 + (cn (p * 5 + r) - 1))) (hiv : iv < 200) (hm : a28 iv = nI m) (hm8 : m ≤ 80) (hg : ∀ t, t < m → a29 (80 * iv + t) = g t) (h01 : 0 < m) (hv : ∀ j, j < m → sgn (g j)) : am_M K l iX7_level 2 0 0 [.ref 25, .int (nI p), .int (nI q)] (mdS S th pd wd ln sq st ct cl ft zn a26 (fun k => nI (cn k)) a28 a29 (fun l => fo (fb l)) a31 a32 a33 a34 a35 a36 a37 a38 a39 a40 a41 a42 a43 a44) (fun v S' => v = some (.int (lvl g m)) ∧ mdS S 0 pd wd ln sq st ct cl ft zn a26 (fun k => nI (cn k)) a28 a29 (fun l => fo (fb l)) a31 a32 a33 a34 a35 a36 a37 a38 a39 a40 a41 a42 a43 a44 = S') (fun _ _ => False) := by
  refine am_body (by decide) rfl (by simp [Value.category]) (Nat.le_of_ble_eq_true rfl) (fun xp xe xs xm xa xb xt xc ad0 => ?_)
  show am_W _ _ _ _ _ _ _ _ _ _ _ _ _ _ _ 0 [some (.ref 25), some (.int (nI p)), some (.int (nI q)), none, none, none, none, none, none] [] (mdS S th pd wd ln sq st ct cl ft zn a26 (fun k => nI (cn k)) a28 a29 (fun l => fo (fb l)) a31 a32 a33 a34 a35 a36 a37 a38 a39 a40 a41 a42 a43 a44) 0 0
  refine am_aload_n (I := iX7_level) (pc := 0) dX7_level_0 rfl rfl ?_
  refine am_iload_n (I := iX7_level) (pc := 1) dX7_level_1 rfl rfl ?_
  refine am_iload_n (I := iX7_level) (pc := 2) dX7_level_2 rfl rfl ?_
  refine am_callS (I := iX7_level) (pc := 3) (st := [.ref 25]) lv_X7_87 rfl (q_isPair (nI p) (nI q)) dX7_level_3 rfl (Nat.le_of_ble_eq_true rfl) ⟨Nat.le_of_ble_eq_true rfl, Nat.le_of_ble_eq_true rfl⟩ (Nat.le_of_ble_eq_true rfl) (Nat.le_of_ble_eq_true rfl) rfl (fun v9 T9 z9 _ => ?_) (fun _ _ h9 => h9.elim)
  obtain ⟨rfl, rfl⟩ := z9
  show am_W _ _ _ _ _ _ _ _ _ _ _ _ _ _ _ 6 [some (.ref 25), some (.int (nI p)), some (.int (nI q)), none, none, none, none, none, none] [.int (bI (ipr (nI p) (nI q))), .ref 25] (mdS S th pd wd ln sq st ct cl ft zn a26 (fun k => nI (cn k)) a28 a29 (fun l => fo (fb l)) a31 a32 a33 a34 a35 a36 a37 a38 a39 a40 a41 a42 a43 a44) 0 0
  rw [bI_t (ipr_t hp hq)]
  refine am_iconst (I := iX7_level) (pc := 6) (x := 1) dX7_level_6 (by decide) ?_
  refine am_callV (I := iX7_level) (pc := 7) (st := []) lv_X7_79 (q_goes0) dX7_level_7 md_25 rfl (Nat.le_of_ble_eq_true rfl) ⟨Nat.le_of_ble_eq_true rfl, Nat.le_of_ble_eq_true rfl⟩ (Nat.le_of_ble_eq_true rfl) (Nat.le_of_ble_eq_true rfl) rfl (fun v9 T9 z9 _ => ?_) (fun _ _ h9 => h9.elim)
  obtain ⟨rfl, rfl⟩ := z9
  show am_W _ _ _ _ _ _ _ _ _ _ _ _ _ _ _ 10 [some (.ref 25), some (.int (nI p)), some (.int (nI q)), none, none, none, none, none, none] [.int 1] (mdS S 0 pd wd ln sq st ct cl ft zn a26 (fun k => nI (cn k)) a28 a29 (fun l => fo (fb l)) a31 a32 a33 a34 a35 a36 a37 a38 a39 a40 a41 a42 a43 a44) 0 0
  refine am_if_ne (I := iX7_level) (pc := 10) (tgt := 15) dX7_level_10 (by decide) (fun c10 => ?_) (fun c10 => ?_)
  · refine am_aload_n (I := iX7_level) (pc := 15) dX7_level_15 rfl rfl ?_
    refine am_iload_n (I := iX7_level) (pc := 16) dX7_level_16 rfl rfl ?_
    refine am_iload_n (I := iX7_level) (pc := 17) dX7_level_17 rfl rfl ?_
    refine am_callV (I := iX7_level) (pc := 18) (st := []) lv_X7_101 (q_latest1 cn fb p q r h4 hf hp hq hen hs) dX7_level_18 md_25 rfl (Nat.le_of_ble_eq_true rfl) ⟨Nat.le_of_ble_eq_true rfl, Nat.le_of_ble_eq_true rfl⟩ (Nat.le_of_ble_eq_true rfl) (Nat.le_of_ble_eq_true rfl) rfl (fun v9 T9 z9 _ => ?_) (fun _ _ h9 => h9.elim)
    obtain ⟨rfl, rfl⟩ := z9
    show am_W _ _ _ _ _ _ _ _ _ _ _ _ _ _ _ 21 [some (.ref 25), some (.int (nI p)), some (.int (nI q)), none, none, none, none, none, none] [.int (nI ((p * 5 + r) * 4 + (cn (p * 5 + r) - 1)))] (mdS S 0 pd wd ln sq st ct cl ft zn a26 (fun k => nI (cn k)) a28 a29 (fun l => fo (fb l)) a31 a32 a33 a34 a35 a36 a37 a38 a39 a40 a41 a42 a43 a44) 0 0
    obtain ⟨hr, h0⟩ := sh_lt (cn := cn) (fb := fb) (p := p) hf 5 (some q) (fun j h9 => by cases h9; exact hq) r hs
    rw [← eiv]
    refine am_istore_n (I := iX7_level) (pc := 21) (L' := [some (.ref 25), some (.int (nI p)), some (.int (nI q)), some (.int (nI iv)), none, none, none, none, none]) dX7_level_21 rfl (by decide) rfl ?_
    refine am_iload_n (I := iX7_level) (pc := 22) dX7_level_22 rfl rfl ?_
    refine am_iconst (I := iX7_level) (pc := 23) (x := (-1)) dX7_level_23 (by decide) ?_
    refine am_icmp_ne (I := iX7_level) (pc := 24) (tgt := 29) dX7_level_24 (by decide) (fun c24 => ?_) (fun c24 => ?_)
    · refine am_iconst (I := iX7_level) (pc := 29) (x := 0) dX7_level_29 (by decide) ?_
      refine am_istore (I := iX7_level) (pc := 30) (L' := [some (.ref 25), some (.int (nI p)), some (.int (nI q)), some (.int (nI iv)), some (.int 0), none, none, none, none]) dX7_level_30 (by decide) rfl ?_
      refine am_iconst (I := iX7_level) (pc := 32) (x := 0) dX7_level_32 (by decide) ?_
      refine am_istore (I := iX7_level) (pc := 33) (L' := [some (.ref 25), some (.int (nI p)), some (.int (nI q)), some (.int (nI iv)), some (.int 0), some (.int 0), none, none, none]) dX7_level_33 (by decide) rfl ?_
      refine am_iconst (I := iX7_level) (pc := 35) (x := 0) dX7_level_35 (by decide) ?_
      refine am_istore (I := iX7_level) (pc := 36) (L' := [some (.ref 25), some (.int (nI p)), some (.int (nI q)), some (.int (nI iv)), some (.int 0), some (.int 0), some (.int 0), none, none]) dX7_level_36 (by decide) rfl ?_
      refine am_bipush (I := iX7_level) (pc := 38) (x := 80) dX7_level_38 (by decide) ?_
      refine am_iload_n (I := iX7_level) (pc := 40) dX7_level_40 rfl rfl ?_
      refine am_imul (I := iX7_level) (pc := 41) dX7_level_41 ?_
      rw [ix8]
      refine am_istore (I := iX7_level) (pc := 42) (L' := [some (.ref 25), some (.int (nI p)), some (.int (nI q)), some (.int (nI iv)), some (.int 0), some (.int 0), some (.int 0), some (.int (nI (80 * iv))), none]) dX7_level_42 (by decide) rfl ?_
      have loop44 : ∀ (k44 : Nat) (i : Nat), m - i < k44 → (i ≤ m) → am_W K iX7_level xp l xe (am_room 2 0 0) xs xm xa xb xt xc (mdS S th pd wd ln sq st ct cl ft zn a26 (fun k => nI (cn k)) a28 a29 (fun l => fo (fb l)) a31 a32 a33 a34 a35 a36 a37 a38 a39 a40 a41 a42 a43 a44) ad0 (am_E K ad0 (mdS S th pd wd ln sq st ct cl ft zn a26 (fun k => nI (cn k)) a28 a29 (fun l => fo (fb l)) a31 a32 a33 a34 a35 a36 a37 a38 a39 a40 a41 a42 a43 a44) (fun v S' => v = some (.int (lvl g m)) ∧ mdS S 0 pd wd ln sq st ct cl ft zn a26 (fun k => nI (cn k)) a28 a29 (fun l => fo (fb l)) a31 a32 a33 a34 a35 a36 a37 a38 a39 a40 a41 a42 a43 a44 = S') (fun _ _ => False) xb xa xs 0 0) 44 [some (.ref 25), some (.int (nI p)), some (.int (nI q)), some (.int (nI iv)), some (.int (nI (cnt (pL g) i))), some (.int (nI (cnt (pW g) i))), some (.int (nI (cnt (pD g) i))), some (.int (nI (80 * iv + i))), none] [] (mdS S 0 pd wd ln sq st ct cl ft zn a26 (fun k => nI (cn k)) a28 a29 (fun l => fo (fb l)) a31 a32 a33 a34 a35 a36 a37 a38 a39 a40 a41 a42 a43 a44) 0 0 := by
        intro k44
        induction k44 with
        | zero => intro i h9; exact absurd h9 (Nat.not_lt_zero _)
        | succ k44 ih44 =>
          intro i hm44 hi
          refine am_iload (I := iX7_level) (pc := 44) dX7_level_44 rfl ?_
          refine am_bipush (I := iX7_level) (pc := 46) (x := 80) dX7_level_46 (by decide) ?_
          refine am_iload_n (I := iX7_level) (pc := 48) dX7_level_48 rfl rfl ?_
          refine am_imul (I := iX7_level) (pc := 49) dX7_level_49 ?_
          rw [ix8]
          refine am_aload_n (I := iX7_level) (pc := 50) dX7_level_50 rfl rfl ?_
          refine am_getf (I := iX7_level) (pc := 51) lf_X7_16 dX7_level_51 md_25 rfl ?_
          refine am_iload_n (I := iX7_level) (pc := 54) dX7_level_54 rfl rfl ?_
          refine am_iaload (I := iX7_level) (pc := 55) dX7_level_55 md_28 rfl (vp_in_nI hiv (by decide)) ?_
          refine am_same (st' := [.int (nI m), .int (nI (80 * iv)), .int (nI (80 * iv + i))]) rfl rfl (by rw [nI_clamp (show iv < 2 ^ 31 by omega), hm]) rfl rfl rfl ?_
          refine am_iadd (I := iX7_level) (pc := 56) dX7_level_56 ?_
          rw [nI_add]
          refine am_icmp_ge (I := iX7_level) (pc := 57) (tgt := 136) dX7_level_57 (by decide) (fun c57 => ?_) (fun c57 => ?_)
          · have g57 : (80 * iv + m) ≤ (80 * iv + i) := by
              rcases Nat.lt_or_ge (80 * iv + i) (80 * iv + m) with q9 | q9
              · exact absurd c57 (nI_ge (a := (80 * iv + i)) (b := (80 * iv + m)) q9 (by omega))
              · exact q9
            have em : i = m := by omega
            rw [em]
            refine am_aload_n (I := iX7_level) (pc := 136) dX7_level_136 rfl rfl ?_
            refine am_getf (I := iX7_level) (pc := 137) lf_X7_19 dX7_level_137 md_25 rfl ?_
            refine am_bipush (I := iX7_level) (pc := 140) (x := 80) dX7_level_140 (by decide) ?_
            refine am_iload_n (I := iX7_level) (pc := 142) dX7_level_142 rfl rfl ?_
            refine am_imul (I := iX7_level) (pc := 143) dX7_level_143 ?_
            rw [ix8]
            refine am_aload_n (I := iX7_level) (pc := 144) dX7_level_144 rfl rfl ?_
            refine am_getf (I := iX7_level) (pc := 145) lf_X7_16 dX7_level_145 md_25 rfl ?_
            refine am_iload_n (I := iX7_level) (pc := 148) dX7_level_148 rfl rfl ?_
            refine am_iaload (I := iX7_level) (pc := 149) dX7_level_149 md_28 rfl (vp_in_nI hiv (by decide)) ?_
            refine am_same (st' := [.int (nI m), .int (nI (80 * iv)), .ref 29]) rfl rfl (by rw [nI_clamp (show iv < 2 ^ 31 by omega), hm]) rfl rfl rfl ?_
            refine am_iadd (I := iX7_level) (pc := 150) dX7_level_150 ?_
            refine am_iconst (I := iX7_level) (pc := 151) (x := 1) dX7_level_151 (by decide) ?_
            refine am_isub (I := iX7_level) (pc := 152) dX7_level_152 ?_
            rw [nI_add, show 80 * iv + m = (80 * iv + (m - 1)) + 1 by omega, nI_pred]
            refine am_iaload (I := iX7_level) (pc := 153) dX7_level_153 md_29 rfl (vp_in_nI (show 80 * iv + (m - 1) < 16000 by omega) (by decide)) ?_
            refine am_same (st' := [.int (g (m - 1))]) rfl rfl (by rw [nI_clamp (show 80 * iv + (m - 1) < 2 ^ 31 by omega), hg (m - 1) (by omega)]) rfl rfl rfl ?_
            refine am_bipush (I := iX7_level) (pc := 154) (x := 46) dX7_level_154 (by decide) ?_
            refine am_icmp_eq (I := iX7_level) (pc := 156) (tgt := 163) dX7_level_156 (by decide) (fun c156 => ?_) (fun c156 => ?_)
            · refine am_iconst (I := iX7_level) (pc := 163) (x := 0) dX7_level_163 (by decide) ?_
              refine am_istore (I := iX7_level) (pc := 164) (L' := [some (.ref 25), some (.int (nI p)), some (.int (nI q)), some (.int (nI iv)), some (.int (nI (cnt (pL g) m))), some (.int (nI (cnt (pW g) m))), some (.int (nI (cnt (pD g) m))), some (.int 0), none]) dX7_level_164 (by decide) rfl ?_
              refine am_iload (I := iX7_level) (pc := 166) dX7_level_166 rfl ?_
              refine am_if_eq (I := iX7_level) (pc := 168) (tgt := 178) dX7_level_168 (by decide) (fun c168 => ?_) (fun c168 => ?_)
              · refine am_iload (I := iX7_level) (pc := 178) dX7_level_178 rfl ?_
                have hd9 := dots_eq hv h01
                rw [if_pos c156] at hd9
                rw [hd9]
                refine am_istore (I := iX7_level) (pc := 180) (L' := [some (.ref 25), some (.int (nI p)), some (.int (nI q)), some (.int (nI iv)), some (.int (nI (cnt (pL g) m))), some (.int (nI (cnt (pW g) m))), some (.int (nI (1 + cnt (pS g m) m))), some (.int 0), some (.int (nI (1 + cnt (pS g m) m)))]) dX7_level_180 (by decide) rfl ?_
                refine am_bipush (I := iX7_level) (pc := 182) (x := 10) dX7_level_182 (by decide) ?_
                refine am_iload (I := iX7_level) (pc := 184) dX7_level_184 rfl ?_
                refine am_imul (I := iX7_level) (pc := 186) dX7_level_186 ?_
                refine am_iload (I := iX7_level) (pc := 187) dX7_level_187 rfl ?_
                refine am_iconst (I := iX7_level) (pc := 189) (x := 1) dX7_level_189 (by decide) ?_
                refine am_iadd (I := iX7_level) (pc := 190) dX7_level_190 ?_
                refine am_idiv (I := iX7_level) (pc := 191) dX7_level_191 (by rw [nI_1]; exact nI_ne0 (by omega) (by have := cnt_le (pW g) m; omega)) ?_
                refine am_iconst (I := iX7_level) (pc := 192) (x := 5) dX7_level_192 (by decide) ?_
                refine am_iload (I := iX7_level) (pc := 193) dX7_level_193 rfl ?_
                refine am_iconst (I := iX7_level) (pc := 195) (x := 1) dX7_level_195 (by decide) ?_
                refine am_iadd (I := iX7_level) (pc := 196) dX7_level_196 ?_
                refine am_imul (I := iX7_level) (pc := 197) dX7_level_197 ?_
                refine am_iload (I := iX7_level) (pc := 198) dX7_level_198 rfl ?_
                refine am_idiv (I := iX7_level) (pc := 200) dX7_level_200 (nI_ne0 (by omega) (by have := cnt_le (pS g m) m; omega)) ?_
                refine am_iadd (I := iX7_level) (pc := 201) dX7_level_201 ?_
                exact am_iret (I := iX7_level) (pc := 202) dX7_level_202 rfl (Nat.le_refl _) (Nat.le_refl _) (⟨by unfold lvl; rw [nI_1, Nat.add_comm 1 (cnt (pW g) m)], rfl⟩)
              · exact absurd rfl c168
            · refine am_iconst (I := iX7_level) (pc := 159) (x := 1) dX7_level_159 (by decide) ?_
              refine am_goto (I := iX7_level) (pc := 160) (tgt := 164) dX7_level_160 (by decide) ?_
              refine am_istore (I := iX7_level) (pc := 164) (L' := [some (.ref 25), some (.int (nI p)), some (.int (nI q)), some (.int (nI iv)), some (.int (nI (cnt (pL g) m))), some (.int (nI (cnt (pW g) m))), some (.int (nI (cnt (pD g) m))), some (.int 1), none]) dX7_level_164 (by decide) rfl ?_
              refine am_iload (I := iX7_level) (pc := 166) dX7_level_166 rfl ?_
              refine am_if_eq (I := iX7_level) (pc := 168) (tgt := 178) dX7_level_168 (by decide) (fun c168 => ?_) (fun c168 => ?_)
              · exact absurd c168 (by decide)
              · refine am_iload (I := iX7_level) (pc := 171) dX7_level_171 rfl ?_
                refine am_iconst (I := iX7_level) (pc := 173) (x := 1) dX7_level_173 (by decide) ?_
                refine am_iadd (I := iX7_level) (pc := 174) dX7_level_174 ?_
                refine am_goto (I := iX7_level) (pc := 175) (tgt := 180) dX7_level_175 (by decide) ?_
                have hd9 := dots_eq hv h01
                rw [if_neg c156] at hd9
                rw [nI_1, hd9]
                refine am_istore (I := iX7_level) (pc := 180) (L' := [some (.ref 25), some (.int (nI p)), some (.int (nI q)), some (.int (nI iv)), some (.int (nI (cnt (pL g) m))), some (.int (nI (cnt (pW g) m))), some (.int (nI (cnt (pD g) m))), some (.int 1), some (.int (nI (1 + cnt (pS g m) m)))]) dX7_level_180 (by decide) rfl ?_
                refine am_bipush (I := iX7_level) (pc := 182) (x := 10) dX7_level_182 (by decide) ?_
                refine am_iload (I := iX7_level) (pc := 184) dX7_level_184 rfl ?_
                refine am_imul (I := iX7_level) (pc := 186) dX7_level_186 ?_
                refine am_iload (I := iX7_level) (pc := 187) dX7_level_187 rfl ?_
                refine am_iconst (I := iX7_level) (pc := 189) (x := 1) dX7_level_189 (by decide) ?_
                refine am_iadd (I := iX7_level) (pc := 190) dX7_level_190 ?_
                refine am_idiv (I := iX7_level) (pc := 191) dX7_level_191 (by rw [nI_1]; exact nI_ne0 (by omega) (by have := cnt_le (pW g) m; omega)) ?_
                refine am_iconst (I := iX7_level) (pc := 192) (x := 5) dX7_level_192 (by decide) ?_
                refine am_iload (I := iX7_level) (pc := 193) dX7_level_193 rfl ?_
                refine am_iconst (I := iX7_level) (pc := 195) (x := 1) dX7_level_195 (by decide) ?_
                refine am_iadd (I := iX7_level) (pc := 196) dX7_level_196 ?_
                refine am_imul (I := iX7_level) (pc := 197) dX7_level_197 ?_
                refine am_iload (I := iX7_level) (pc := 198) dX7_level_198 rfl ?_
                refine am_idiv (I := iX7_level) (pc := 200) dX7_level_200 (nI_ne0 (by omega) (by have := cnt_le (pS g m) m; omega)) ?_
                refine am_iadd (I := iX7_level) (pc := 201) dX7_level_201 ?_
                exact am_iret (I := iX7_level) (pc := 202) dX7_level_202 rfl (Nat.le_refl _) (Nat.le_refl _) (⟨by unfold lvl; rw [nI_1, Nat.add_comm 1 (cnt (pW g) m)], rfl⟩)
          · have l57 : (80 * iv + i) < (80 * iv + m) := by
              rcases Nat.lt_or_ge (80 * iv + i) (80 * iv + m) with q9 | q9
              · exact q9
              · exact absurd (nI_le (a := (80 * iv + m)) (b := (80 * iv + i)) q9 (by omega)) c57
            refine am_aload_n (I := iX7_level) (pc := 60) dX7_level_60 rfl rfl ?_
            refine am_getf (I := iX7_level) (pc := 61) lf_X7_19 dX7_level_61 md_25 rfl ?_
            refine am_iload (I := iX7_level) (pc := 64) dX7_level_64 rfl ?_
            refine am_iaload (I := iX7_level) (pc := 66) dX7_level_66 md_29 rfl (vp_in_nI (show 80 * iv + i < 16000 by omega) (by decide)) ?_
            refine am_same (st' := [.int (g i)]) rfl rfl (by rw [nI_clamp (show 80 * iv + i < 2 ^ 31 by omega), hg i (by omega)]) rfl rfl rfl ?_
            refine am_callS (I := iX7_level) (pc := 67) (st := []) lv_X7_75 rfl (q_isLetter (g i)) dX7_level_67 rfl (Nat.le_of_ble_eq_true rfl) ⟨Nat.le_of_ble_eq_true rfl, Nat.le_of_ble_eq_true rfl⟩ (Nat.le_of_ble_eq_true rfl) (Nat.le_of_ble_eq_true rfl) rfl (fun v9 T9 z9 _ => ?_) (fun _ _ h9 => h9.elim)
            obtain ⟨rfl, rfl⟩ := z9
            show am_W _ _ _ _ _ _ _ _ _ _ _ _ _ _ _ 70 [some (.ref 25), some (.int (nI p)), some (.int (nI q)), some (.int (nI iv)), some (.int (nI (cnt (pL g) i))), some (.int (nI (cnt (pW g) i))), some (.int (nI (cnt (pD g) i))), some (.int (nI (80 * iv + i))), none] [.int (bI (isl (g i)))] (mdS S 0 pd wd ln sq st ct cl ft zn a26 (fun k => nI (cn k)) a28 a29 (fun l => fo (fb l)) a31 a32 a33 a34 a35 a36 a37 a38 a39 a40 a41 a42 a43 a44) 0 0
            refine am_if_eq (I := iX7_level) (pc := 70) (tgt := 80) dX7_level_70 (by decide) (fun c70 => ?_) (fun c70 => ?_)
            · refine am_iload (I := iX7_level) (pc := 80) dX7_level_80 rfl ?_
              refine am_istore (I := iX7_level) (pc := 82) (L' := [some (.ref 25), some (.int (nI p)), some (.int (nI q)), some (.int (nI iv)), some (.int (nI (cnt (pL g) i))), some (.int (nI (cnt (pW g) i))), some (.int (nI (cnt (pD g) i))), some (.int (nI (80 * iv + i))), none]) dX7_level_82 (by decide) rfl ?_
              refine am_aload_n (I := iX7_level) (pc := 84) dX7_level_84 rfl rfl ?_
              refine am_getf (I := iX7_level) (pc := 85) lf_X7_19 dX7_level_85 md_25 rfl ?_
              refine am_iload (I := iX7_level) (pc := 88) dX7_level_88 rfl ?_
              refine am_iaload (I := iX7_level) (pc := 90) dX7_level_90 md_29 rfl (vp_in_nI (show 80 * iv + i < 16000 by omega) (by decide)) ?_
              refine am_same (st' := [.int (g i)]) rfl rfl (by rw [nI_clamp (show 80 * iv + i < 2 ^ 31 by omega), hg i (by omega)]) rfl rfl rfl ?_
              refine am_bipush (I := iX7_level) (pc := 91) (x := 32) dX7_level_91 (by decide) ?_
              refine am_icmp_ne (I := iX7_level) (pc := 93) (tgt := 103) dX7_level_93 (by decide) (fun c93 => ?_) (fun c93 => ?_)
              · refine am_iload (I := iX7_level) (pc := 103) dX7_level_103 rfl ?_
                refine am_istore (I := iX7_level) (pc := 105) (L' := [some (.ref 25), some (.int (nI p)), some (.int (nI q)), some (.int (nI iv)), some (.int (nI (cnt (pL g) i))), some (.int (nI (cnt (pW g) i))), some (.int (nI (cnt (pD g) i))), some (.int (nI (80 * iv + i))), none]) dX7_level_105 (by decide) rfl ?_
                refine am_aload_n (I := iX7_level) (pc := 107) dX7_level_107 rfl rfl ?_
                refine am_getf (I := iX7_level) (pc := 108) lf_X7_19 dX7_level_108 md_25 rfl ?_
                refine am_iload (I := iX7_level) (pc := 111) dX7_level_111 rfl ?_
                refine am_iaload (I := iX7_level) (pc := 113) dX7_level_113 md_29 rfl (vp_in_nI (show 80 * iv + i < 16000 by omega) (by decide)) ?_
                refine am_same (st' := [.int (g i)]) rfl rfl (by rw [nI_clamp (show 80 * iv + i < 2 ^ 31 by omega), hg i (by omega)]) rfl rfl rfl ?_
                refine am_bipush (I := iX7_level) (pc := 114) (x := 46) dX7_level_114 (by decide) ?_
                refine am_icmp_ne (I := iX7_level) (pc := 116) (tgt := 126) dX7_level_116 (by decide) (fun c116 => ?_) (fun c116 => ?_)
                · refine am_iload (I := iX7_level) (pc := 126) dX7_level_126 rfl ?_
                  refine am_istore (I := iX7_level) (pc := 128) (L' := [some (.ref 25), some (.int (nI p)), some (.int (nI q)), some (.int (nI iv)), some (.int (nI (cnt (pL g) i))), some (.int (nI (cnt (pW g) i))), some (.int (nI (cnt (pD g) i))), some (.int (nI (80 * iv + i))), none]) dX7_level_128 (by decide) rfl ?_
                  refine am_iinc (I := iX7_level) (pc := 130) (y := ((nI (80 * iv + i)) + 1)) (L' := [some (.ref 25), some (.int (nI p)), some (.int (nI q)), some (.int (nI iv)), some (.int (nI (cnt (pL g) i))), some (.int (nI (cnt (pW g) i))), some (.int (nI (cnt (pD g) i))), some (.int ((nI (80 * iv + i)) + 1)), none]) dX7_level_130 rfl rfl rfl ?_
                  refine am_goto (I := iX7_level) (pc := 133) (tgt := 44) dX7_level_133 (by decide) ?_
                  exact am_same rfl (by rw [cnt_n (show pL g i = false from bI_0 c70), cnt_n (show pW g i = false from decide_eq_false c93), cnt_n (show pD g i = false from decide_eq_false c116)]; simp only [nI_1]; rfl) rfl rfl rfl rfl (ih44 (i + 1) (by omega) (by omega))
                · refine am_iload (I := iX7_level) (pc := 119) dX7_level_119 rfl ?_
                  refine am_iconst (I := iX7_level) (pc := 121) (x := 1) dX7_level_121 (by decide) ?_
                  refine am_iadd (I := iX7_level) (pc := 122) dX7_level_122 ?_
                  refine am_goto (I := iX7_level) (pc := 123) (tgt := 128) dX7_level_123 (by decide) ?_
                  refine am_istore (I := iX7_level) (pc := 128) (L' := [some (.ref 25), some (.int (nI p)), some (.int (nI q)), some (.int (nI iv)), some (.int (nI (cnt (pL g) i))), some (.int (nI (cnt (pW g) i))), some (.int ((nI (cnt (pD g) i)) + 1)), some (.int (nI (80 * iv + i))), none]) dX7_level_128 (by decide) rfl ?_
                  refine am_iinc (I := iX7_level) (pc := 130) (y := ((nI (80 * iv + i)) + 1)) (L' := [some (.ref 25), some (.int (nI p)), some (.int (nI q)), some (.int (nI iv)), some (.int (nI (cnt (pL g) i))), some (.int (nI (cnt (pW g) i))), some (.int ((nI (cnt (pD g) i)) + 1)), some (.int ((nI (80 * iv + i)) + 1)), none]) dX7_level_130 rfl rfl rfl ?_
                  refine am_goto (I := iX7_level) (pc := 133) (tgt := 44) dX7_level_133 (by decide) ?_
                  exact am_same rfl (by rw [cnt_n (show pL g i = false from bI_0 c70), cnt_n (show pW g i = false from decide_eq_false c93), cnt_s (show pD g i = true from decide_eq_true c116)]; simp only [nI_1]; rfl) rfl rfl rfl rfl (ih44 (i + 1) (by omega) (by omega))
              · refine am_iload (I := iX7_level) (pc := 96) dX7_level_96 rfl ?_
                refine am_iconst (I := iX7_level) (pc := 98) (x := 1) dX7_level_98 (by decide) ?_
                refine am_iadd (I := iX7_level) (pc := 99) dX7_level_99 ?_
                refine am_goto (I := iX7_level) (pc := 100) (tgt := 105) dX7_level_100 (by decide) ?_
                refine am_istore (I := iX7_level) (pc := 105) (L' := [some (.ref 25), some (.int (nI p)), some (.int (nI q)), some (.int (nI iv)), some (.int (nI (cnt (pL g) i))), some (.int ((nI (cnt (pW g) i)) + 1)), some (.int (nI (cnt (pD g) i))), some (.int (nI (80 * iv + i))), none]) dX7_level_105 (by decide) rfl ?_
                refine am_aload_n (I := iX7_level) (pc := 107) dX7_level_107 rfl rfl ?_
                refine am_getf (I := iX7_level) (pc := 108) lf_X7_19 dX7_level_108 md_25 rfl ?_
                refine am_iload (I := iX7_level) (pc := 111) dX7_level_111 rfl ?_
                refine am_iaload (I := iX7_level) (pc := 113) dX7_level_113 md_29 rfl (vp_in_nI (show 80 * iv + i < 16000 by omega) (by decide)) ?_
                refine am_same (st' := [.int (g i)]) rfl rfl (by rw [nI_clamp (show 80 * iv + i < 2 ^ 31 by omega), hg i (by omega)]) rfl rfl rfl ?_
                refine am_bipush (I := iX7_level) (pc := 114) (x := 46) dX7_level_114 (by decide) ?_
                refine am_icmp_ne (I := iX7_level) (pc := 116) (tgt := 126) dX7_level_116 (by decide) (fun c116 => ?_) (fun c116 => ?_)
                · refine am_iload (I := iX7_level) (pc := 126) dX7_level_126 rfl ?_
                  refine am_istore (I := iX7_level) (pc := 128) (L' := [some (.ref 25), some (.int (nI p)), some (.int (nI q)), some (.int (nI iv)), some (.int (nI (cnt (pL g) i))), some (.int ((nI (cnt (pW g) i)) + 1)), some (.int (nI (cnt (pD g) i))), some (.int (nI (80 * iv + i))), none]) dX7_level_128 (by decide) rfl ?_
                  refine am_iinc (I := iX7_level) (pc := 130) (y := ((nI (80 * iv + i)) + 1)) (L' := [some (.ref 25), some (.int (nI p)), some (.int (nI q)), some (.int (nI iv)), some (.int (nI (cnt (pL g) i))), some (.int ((nI (cnt (pW g) i)) + 1)), some (.int (nI (cnt (pD g) i))), some (.int ((nI (80 * iv + i)) + 1)), none]) dX7_level_130 rfl rfl rfl ?_
                  refine am_goto (I := iX7_level) (pc := 133) (tgt := 44) dX7_level_133 (by decide) ?_
                  exact am_same rfl (by rw [cnt_n (show pL g i = false from bI_0 c70), cnt_s (show pW g i = true from decide_eq_true c93), cnt_n (show pD g i = false from decide_eq_false c116)]; simp only [nI_1]; rfl) rfl rfl rfl rfl (ih44 (i + 1) (by omega) (by omega))
                · refine am_iload (I := iX7_level) (pc := 119) dX7_level_119 rfl ?_
                  refine am_iconst (I := iX7_level) (pc := 121) (x := 1) dX7_level_121 (by decide) ?_
                  refine am_iadd (I := iX7_level) (pc := 122) dX7_level_122 ?_
                  refine am_goto (I := iX7_level) (pc := 123) (tgt := 128) dX7_level_123 (by decide) ?_
                  refine am_istore (I := iX7_level) (pc := 128) (L' := [some (.ref 25), some (.int (nI p)), some (.int (nI q)), some (.int (nI iv)), some (.int (nI (cnt (pL g) i))), some (.int ((nI (cnt (pW g) i)) + 1)), some (.int ((nI (cnt (pD g) i)) + 1)), some (.int (nI (80 * iv + i))), none]) dX7_level_128 (by decide) rfl ?_
                  refine am_iinc (I := iX7_level) (pc := 130) (y := ((nI (80 * iv + i)) + 1)) (L' := [some (.ref 25), some (.int (nI p)), some (.int (nI q)), some (.int (nI iv)), some (.int (nI (cnt (pL g) i))), some (.int ((nI (cnt (pW g) i)) + 1)), some (.int ((nI (cnt (pD g) i)) + 1)), some (.int ((nI (80 * iv + i)) + 1)), none]) dX7_level_130 rfl rfl rfl ?_
                  refine am_goto (I := iX7_level) (pc := 133) (tgt := 44) dX7_level_133 (by decide) ?_
                  exact am_same rfl (by rw [cnt_n (show pL g i = false from bI_0 c70), cnt_s (show pW g i = true from decide_eq_true c93), cnt_s (show pD g i = true from decide_eq_true c116)]; simp only [nI_1]; rfl) rfl rfl rfl rfl (ih44 (i + 1) (by omega) (by omega))
            · refine am_iload (I := iX7_level) (pc := 73) dX7_level_73 rfl ?_
              refine am_iconst (I := iX7_level) (pc := 75) (x := 1) dX7_level_75 (by decide) ?_
              refine am_iadd (I := iX7_level) (pc := 76) dX7_level_76 ?_
              refine am_goto (I := iX7_level) (pc := 77) (tgt := 82) dX7_level_77 (by decide) ?_
              refine am_istore (I := iX7_level) (pc := 82) (L' := [some (.ref 25), some (.int (nI p)), some (.int (nI q)), some (.int (nI iv)), some (.int ((nI (cnt (pL g) i)) + 1)), some (.int (nI (cnt (pW g) i))), some (.int (nI (cnt (pD g) i))), some (.int (nI (80 * iv + i))), none]) dX7_level_82 (by decide) rfl ?_
              refine am_aload_n (I := iX7_level) (pc := 84) dX7_level_84 rfl rfl ?_
              refine am_getf (I := iX7_level) (pc := 85) lf_X7_19 dX7_level_85 md_25 rfl ?_
              refine am_iload (I := iX7_level) (pc := 88) dX7_level_88 rfl ?_
              refine am_iaload (I := iX7_level) (pc := 90) dX7_level_90 md_29 rfl (vp_in_nI (show 80 * iv + i < 16000 by omega) (by decide)) ?_
              refine am_same (st' := [.int (g i)]) rfl rfl (by rw [nI_clamp (show 80 * iv + i < 2 ^ 31 by omega), hg i (by omega)]) rfl rfl rfl ?_
              refine am_bipush (I := iX7_level) (pc := 91) (x := 32) dX7_level_91 (by decide) ?_
              refine am_icmp_ne (I := iX7_level) (pc := 93) (tgt := 103) dX7_level_93 (by decide) (fun c93 => ?_) (fun c93 => ?_)
              · refine am_iload (I := iX7_level) (pc := 103) dX7_level_103 rfl ?_
                refine am_istore (I := iX7_level) (pc := 105) (L' := [some (.ref 25), some (.int (nI p)), some (.int (nI q)), some (.int (nI iv)), some (.int ((nI (cnt (pL g) i)) + 1)), some (.int (nI (cnt (pW g) i))), some (.int (nI (cnt (pD g) i))), some (.int (nI (80 * iv + i))), none]) dX7_level_105 (by decide) rfl ?_
                refine am_aload_n (I := iX7_level) (pc := 107) dX7_level_107 rfl rfl ?_
                refine am_getf (I := iX7_level) (pc := 108) lf_X7_19 dX7_level_108 md_25 rfl ?_
                refine am_iload (I := iX7_level) (pc := 111) dX7_level_111 rfl ?_
                refine am_iaload (I := iX7_level) (pc := 113) dX7_level_113 md_29 rfl (vp_in_nI (show 80 * iv + i < 16000 by omega) (by decide)) ?_
                refine am_same (st' := [.int (g i)]) rfl rfl (by rw [nI_clamp (show 80 * iv + i < 2 ^ 31 by omega), hg i (by omega)]) rfl rfl rfl ?_
                refine am_bipush (I := iX7_level) (pc := 114) (x := 46) dX7_level_114 (by decide) ?_
                refine am_icmp_ne (I := iX7_level) (pc := 116) (tgt := 126) dX7_level_116 (by decide) (fun c116 => ?_) (fun c116 => ?_)
                · refine am_iload (I := iX7_level) (pc := 126) dX7_level_126 rfl ?_
                  refine am_istore (I := iX7_level) (pc := 128) (L' := [some (.ref 25), some (.int (nI p)), some (.int (nI q)), some (.int (nI iv)), some (.int ((nI (cnt (pL g) i)) + 1)), some (.int (nI (cnt (pW g) i))), some (.int (nI (cnt (pD g) i))), some (.int (nI (80 * iv + i))), none]) dX7_level_128 (by decide) rfl ?_
                  refine am_iinc (I := iX7_level) (pc := 130) (y := ((nI (80 * iv + i)) + 1)) (L' := [some (.ref 25), some (.int (nI p)), some (.int (nI q)), some (.int (nI iv)), some (.int ((nI (cnt (pL g) i)) + 1)), some (.int (nI (cnt (pW g) i))), some (.int (nI (cnt (pD g) i))), some (.int ((nI (80 * iv + i)) + 1)), none]) dX7_level_130 rfl rfl rfl ?_
                  refine am_goto (I := iX7_level) (pc := 133) (tgt := 44) dX7_level_133 (by decide) ?_
                  exact am_same rfl (by rw [cnt_s (show pL g i = true from bI_1 c70), cnt_n (show pW g i = false from decide_eq_false c93), cnt_n (show pD g i = false from decide_eq_false c116)]; simp only [nI_1]; rfl) rfl rfl rfl rfl (ih44 (i + 1) (by omega) (by omega))
                · refine am_iload (I := iX7_level) (pc := 119) dX7_level_119 rfl ?_
                  refine am_iconst (I := iX7_level) (pc := 121) (x := 1) dX7_level_121 (by decide) ?_
                  refine am_iadd (I := iX7_level) (pc := 122) dX7_level_122 ?_
                  refine am_goto (I := iX7_level) (pc := 123) (tgt := 128) dX7_level_123 (by decide) ?_
                  refine am_istore (I := iX7_level) (pc := 128) (L' := [some (.ref 25), some (.int (nI p)), some (.int (nI q)), some (.int (nI iv)), some (.int ((nI (cnt (pL g) i)) + 1)), some (.int (nI (cnt (pW g) i))), some (.int ((nI (cnt (pD g) i)) + 1)), some (.int (nI (80 * iv + i))), none]) dX7_level_128 (by decide) rfl ?_
                  refine am_iinc (I := iX7_level) (pc := 130) (y := ((nI (80 * iv + i)) + 1)) (L' := [some (.ref 25), some (.int (nI p)), some (.int (nI q)), some (.int (nI iv)), some (.int ((nI (cnt (pL g) i)) + 1)), some (.int (nI (cnt (pW g) i))), some (.int ((nI (cnt (pD g) i)) + 1)), some (.int ((nI (80 * iv + i)) + 1)), none]) dX7_level_130 rfl rfl rfl ?_
                  refine am_goto (I := iX7_level) (pc := 133) (tgt := 44) dX7_level_133 (by decide) ?_
                  exact am_same rfl (by rw [cnt_s (show pL g i = true from bI_1 c70), cnt_n (show pW g i = false from decide_eq_false c93), cnt_s (show pD g i = true from decide_eq_true c116)]; simp only [nI_1]; rfl) rfl rfl rfl rfl (ih44 (i + 1) (by omega) (by omega))
              · refine am_iload (I := iX7_level) (pc := 96) dX7_level_96 rfl ?_
                refine am_iconst (I := iX7_level) (pc := 98) (x := 1) dX7_level_98 (by decide) ?_
                refine am_iadd (I := iX7_level) (pc := 99) dX7_level_99 ?_
                refine am_goto (I := iX7_level) (pc := 100) (tgt := 105) dX7_level_100 (by decide) ?_
                refine am_istore (I := iX7_level) (pc := 105) (L' := [some (.ref 25), some (.int (nI p)), some (.int (nI q)), some (.int (nI iv)), some (.int ((nI (cnt (pL g) i)) + 1)), some (.int ((nI (cnt (pW g) i)) + 1)), some (.int (nI (cnt (pD g) i))), some (.int (nI (80 * iv + i))), none]) dX7_level_105 (by decide) rfl ?_
                refine am_aload_n (I := iX7_level) (pc := 107) dX7_level_107 rfl rfl ?_
                refine am_getf (I := iX7_level) (pc := 108) lf_X7_19 dX7_level_108 md_25 rfl ?_
                refine am_iload (I := iX7_level) (pc := 111) dX7_level_111 rfl ?_
                refine am_iaload (I := iX7_level) (pc := 113) dX7_level_113 md_29 rfl (vp_in_nI (show 80 * iv + i < 16000 by omega) (by decide)) ?_
                refine am_same (st' := [.int (g i)]) rfl rfl (by rw [nI_clamp (show 80 * iv + i < 2 ^ 31 by omega), hg i (by omega)]) rfl rfl rfl ?_
                refine am_bipush (I := iX7_level) (pc := 114) (x := 46) dX7_level_114 (by decide) ?_
                refine am_icmp_ne (I := iX7_level) (pc := 116) (tgt := 126) dX7_level_116 (by decide) (fun c116 => ?_) (fun c116 => ?_)
                · refine am_iload (I := iX7_level) (pc := 126) dX7_level_126 rfl ?_
                  refine am_istore (I := iX7_level) (pc := 128) (L' := [some (.ref 25), some (.int (nI p)), some (.int (nI q)), some (.int (nI iv)), some (.int ((nI (cnt (pL g) i)) + 1)), some (.int ((nI (cnt (pW g) i)) + 1)), some (.int (nI (cnt (pD g) i))), some (.int (nI (80 * iv + i))), none]) dX7_level_128 (by decide) rfl ?_
                  refine am_iinc (I := iX7_level) (pc := 130) (y := ((nI (80 * iv + i)) + 1)) (L' := [some (.ref 25), some (.int (nI p)), some (.int (nI q)), some (.int (nI iv)), some (.int ((nI (cnt (pL g) i)) + 1)), some (.int ((nI (cnt (pW g) i)) + 1)), some (.int (nI (cnt (pD g) i))), some (.int ((nI (80 * iv + i)) + 1)), none]) dX7_level_130 rfl rfl rfl ?_
                  refine am_goto (I := iX7_level) (pc := 133) (tgt := 44) dX7_level_133 (by decide) ?_
                  exact am_same rfl (by rw [cnt_s (show pL g i = true from bI_1 c70), cnt_s (show pW g i = true from decide_eq_true c93), cnt_n (show pD g i = false from decide_eq_false c116)]; simp only [nI_1]; rfl) rfl rfl rfl rfl (ih44 (i + 1) (by omega) (by omega))
                · refine am_iload (I := iX7_level) (pc := 119) dX7_level_119 rfl ?_
                  refine am_iconst (I := iX7_level) (pc := 121) (x := 1) dX7_level_121 (by decide) ?_
                  refine am_iadd (I := iX7_level) (pc := 122) dX7_level_122 ?_
                  refine am_goto (I := iX7_level) (pc := 123) (tgt := 128) dX7_level_123 (by decide) ?_
                  refine am_istore (I := iX7_level) (pc := 128) (L' := [some (.ref 25), some (.int (nI p)), some (.int (nI q)), some (.int (nI iv)), some (.int ((nI (cnt (pL g) i)) + 1)), some (.int ((nI (cnt (pW g) i)) + 1)), some (.int ((nI (cnt (pD g) i)) + 1)), some (.int (nI (80 * iv + i))), none]) dX7_level_128 (by decide) rfl ?_
                  refine am_iinc (I := iX7_level) (pc := 130) (y := ((nI (80 * iv + i)) + 1)) (L' := [some (.ref 25), some (.int (nI p)), some (.int (nI q)), some (.int (nI iv)), some (.int ((nI (cnt (pL g) i)) + 1)), some (.int ((nI (cnt (pW g) i)) + 1)), some (.int ((nI (cnt (pD g) i)) + 1)), some (.int ((nI (80 * iv + i)) + 1)), none]) dX7_level_130 rfl rfl rfl ?_
                  refine am_goto (I := iX7_level) (pc := 133) (tgt := 44) dX7_level_133 (by decide) ?_
                  exact am_same rfl (by rw [cnt_s (show pL g i = true from bI_1 c70), cnt_s (show pW g i = true from decide_eq_true c93), cnt_s (show pD g i = true from decide_eq_true c116)]; simp only [nI_1]; rfl) rfl rfl rfl rfl (ih44 (i + 1) (by omega) (by omega))
      exact am_same rfl (by rfl) rfl rfl rfl rfl (loop44 _ 0 (Nat.lt_succ_self _) (Nat.zero_le _))
    · exact absurd c24 (fun e9 => by have h9 := nI_pos (n := iv) (by omega); rw [e9] at h9; exact h9 (by decide))
  · exact absurd c10 (by decide)
