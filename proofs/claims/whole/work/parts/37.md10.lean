theorem ix24 {a b : Nat} : (24 : Int32) * nI a + nI b = nI (24 * a + b) := by
  rw [show (24 : Int32) = nI 24 from rfl, nI_mul, nI_add]
theorem nI_div {a b : Nat} (ha : a < 2 ^ 31) (hb : b < 2 ^ 31) : nI a / nI b = nI (a / b) := (Int32.ofNat_div ha hb).symm
theorem ixd {k : Nat} (h : k < 576) : nI k / 24 = nI (k / 24) := nI_div (b := 24) (by omega) (by decide)
theorem ixm {k : Nat} (h : k < 576) : nI k - nI k / 24 * 24 = nI (k % 24) := by
  rw [ixd h, show (24 : Int32) = nI 24 from rfl, nI_mul]
  have e : nI k = nI (k % 24) + nI (k / 24 * 24) := by rw [nI_add]; congr 1; omega
  rw [e, Int32.add_sub_cancel]
set_option maxRecDepth 100000 in
set_option maxHeartbeats 4000000 in
theorem q_way_x0 {K : am_K} {l : Launch} {S : am_S} {th pd wd ln sq st ct cl ft zn : Int32} {a26 a27 a28 a29 a30 a31 a32 a33 a34 a35 a36 a37 a38 a39 a40 a41 a42 a43 a44 : Nat → Int32} (x y w : Int32) (hb : (x < 0 ∨ 24 ≤ x) ∨ (y < 0 ∨ 24 ≤ y)) : am_M K l iX7_way 1 0 0 [.ref 25, .int x, .int y, .int w] (mdS S th pd wd ln sq st ct cl ft zn a26 a27 a28 a29 a30 a31 a32 a33 a34 a35 a36 a37 a38 a39 a40 a41 a42 a43 a44) (fun v S' => v = some (.int (0)) ∧ mdS S 1 pd wd ln sq st ct cl ft zn a26 a27 a28 a29 a30 a31 a32 a33 a34 a35 a36 a37 a38 a39 a40 a41 a42 a43 a44 = S') (fun _ _ => False) := by
  refine am_body (by decide) rfl (by simp [Value.category]) (Nat.le_of_ble_eq_true rfl) (fun xp xe xs xm xa xb xt xc ad0 => ?_)
  show am_W _ _ _ _ _ _ _ _ _ _ _ _ _ _ _ 0 [some (.ref 25), some (.int x), some (.int y), some (.int w), none] [] (mdS S th pd wd ln sq st ct cl ft zn a26 a27 a28 a29 a30 a31 a32 a33 a34 a35 a36 a37 a38 a39 a40 a41 a42 a43 a44) 0 0
  refine am_aload_n (I := iX7_way) (pc := 0) dX7_way_0 rfl rfl ?_
  refine am_iload_n (I := iX7_way) (pc := 1) dX7_way_1 rfl rfl ?_
  refine am_bipush (I := iX7_way) (pc := 2) (x := 24) dX7_way_2 (by decide) ?_
  refine am_callS (I := iX7_way) (pc := 4) (st := [.ref 25]) lv_X7_83 rfl (q_below x 24) dX7_way_4 rfl (Nat.le_of_ble_eq_true rfl) ⟨Nat.le_of_ble_eq_true rfl, Nat.le_of_ble_eq_true rfl⟩ (Nat.le_of_ble_eq_true rfl) (Nat.le_of_ble_eq_true rfl) rfl (fun v9 T9 z9 _ => ?_) (fun _ _ h9 => h9.elim)
  obtain ⟨rfl, rfl⟩ := z9
  show am_W _ _ _ _ _ _ _ _ _ _ _ _ _ _ _ 7 [some (.ref 25), some (.int x), some (.int y), some (.int w), none] [.int (bI (blw x 24)), .ref 25] (mdS S th pd wd ln sq st ct cl ft zn a26 a27 a28 a29 a30 a31 a32 a33 a34 a35 a36 a37 a38 a39 a40 a41 a42 a43 a44) 0 0
  refine am_if_eq (I := iX7_way) (pc := 7) (tgt := 23) dX7_way_7 (by decide) (fun c7 => ?_) (fun c7 => ?_)
  · refine am_iconst (I := iX7_way) (pc := 23) (x := 0) dX7_way_23 (by decide) ?_
    refine am_iload_n (I := iX7_way) (pc := 24) dX7_way_24 rfl rfl ?_
    refine am_iload_n (I := iX7_way) (pc := 25) dX7_way_25 rfl rfl ?_
    refine am_icmp_eq (I := iX7_way) (pc := 26) (tgt := 33) dX7_way_26 (by decide) (fun c26 => ?_) (fun c26 => ?_)
    · refine am_iconst (I := iX7_way) (pc := 33) (x := 0) dX7_way_33 (by decide) ?_
      refine am_callV (I := iX7_way) (pc := 34) (st := []) lv_X7_79 (q_goes1 _) dX7_way_34 md_25 rfl (Nat.le_of_ble_eq_true rfl) ⟨Nat.le_of_ble_eq_true rfl, Nat.le_of_ble_eq_true rfl⟩ (Nat.le_of_ble_eq_true rfl) (Nat.le_of_ble_eq_true rfl) rfl (fun v9 T9 z9 _ => ?_) (fun _ _ h9 => h9.elim)
      obtain ⟨rfl, rfl⟩ := z9
      show am_W _ _ _ _ _ _ _ _ _ _ _ _ _ _ _ 37 [some (.ref 25), some (.int x), some (.int y), some (.int w), none] [.int 0] (mdS S 1 pd wd ln sq st ct cl ft zn a26 a27 a28 a29 a30 a31 a32 a33 a34 a35 a36 a37 a38 a39 a40 a41 a42 a43 a44) 0 0
      refine am_if_ne (I := iX7_way) (pc := 37) (tgt := 42) dX7_way_37 (by decide) (fun c37 => ?_) (fun c37 => ?_)
      · exact absurd rfl c37
      · refine am_iconst (I := iX7_way) (pc := 40) (x := 0) dX7_way_40 (by decide) ?_
        exact am_zret (I := iX7_way) (pc := 41) dX7_way_41 rfl (by decide) (Nat.le_refl _) (Nat.le_refl _) (⟨rfl, rfl⟩)
    · refine am_iconst (I := iX7_way) (pc := 29) (x := 1) dX7_way_29 (by decide) ?_
      refine am_goto (I := iX7_way) (pc := 30) (tgt := 34) dX7_way_30 (by decide) ?_
      refine am_callV (I := iX7_way) (pc := 34) (st := []) lv_X7_79 (q_goes1 _) dX7_way_34 md_25 rfl (Nat.le_of_ble_eq_true rfl) ⟨Nat.le_of_ble_eq_true rfl, Nat.le_of_ble_eq_true rfl⟩ (Nat.le_of_ble_eq_true rfl) (Nat.le_of_ble_eq_true rfl) rfl (fun v9 T9 z9 _ => ?_) (fun _ _ h9 => h9.elim)
      obtain ⟨rfl, rfl⟩ := z9
      show am_W _ _ _ _ _ _ _ _ _ _ _ _ _ _ _ 37 [some (.ref 25), some (.int x), some (.int y), some (.int w), none] [.int 0] (mdS S 1 pd wd ln sq st ct cl ft zn a26 a27 a28 a29 a30 a31 a32 a33 a34 a35 a36 a37 a38 a39 a40 a41 a42 a43 a44) 0 0
      refine am_if_ne (I := iX7_way) (pc := 37) (tgt := 42) dX7_way_37 (by decide) (fun c37 => ?_) (fun c37 => ?_)
      · exact absurd rfl c37
      · refine am_iconst (I := iX7_way) (pc := 40) (x := 0) dX7_way_40 (by decide) ?_
        exact am_zret (I := iX7_way) (pc := 41) dX7_way_41 rfl (by decide) (Nat.le_refl _) (Nat.le_refl _) (⟨rfl, rfl⟩)
  · refine am_iload_n (I := iX7_way) (pc := 10) dX7_way_10 rfl rfl ?_
    refine am_bipush (I := iX7_way) (pc := 11) (x := 24) dX7_way_11 (by decide) ?_
    refine am_callS (I := iX7_way) (pc := 13) (st := [.ref 25]) lv_X7_83 rfl (q_below y 24) dX7_way_13 rfl (Nat.le_of_ble_eq_true rfl) ⟨Nat.le_of_ble_eq_true rfl, Nat.le_of_ble_eq_true rfl⟩ (Nat.le_of_ble_eq_true rfl) (Nat.le_of_ble_eq_true rfl) rfl (fun v9 T9 z9 _ => ?_) (fun _ _ h9 => h9.elim)
    obtain ⟨rfl, rfl⟩ := z9
    show am_W _ _ _ _ _ _ _ _ _ _ _ _ _ _ _ 16 [some (.ref 25), some (.int x), some (.int y), some (.int w), none] [.int (bI (blw y 24)), .ref 25] (mdS S th pd wd ln sq st ct cl ft zn a26 a27 a28 a29 a30 a31 a32 a33 a34 a35 a36 a37 a38 a39 a40 a41 a42 a43 a44) 0 0
    refine am_if_eq (I := iX7_way) (pc := 16) (tgt := 23) dX7_way_16 (by decide) (fun c16 => ?_) (fun c16 => ?_)
    · refine am_iconst (I := iX7_way) (pc := 23) (x := 0) dX7_way_23 (by decide) ?_
      refine am_iload_n (I := iX7_way) (pc := 24) dX7_way_24 rfl rfl ?_
      refine am_iload_n (I := iX7_way) (pc := 25) dX7_way_25 rfl rfl ?_
      refine am_icmp_eq (I := iX7_way) (pc := 26) (tgt := 33) dX7_way_26 (by decide) (fun c26 => ?_) (fun c26 => ?_)
      · refine am_iconst (I := iX7_way) (pc := 33) (x := 0) dX7_way_33 (by decide) ?_
        refine am_callV (I := iX7_way) (pc := 34) (st := []) lv_X7_79 (q_goes1 _) dX7_way_34 md_25 rfl (Nat.le_of_ble_eq_true rfl) ⟨Nat.le_of_ble_eq_true rfl, Nat.le_of_ble_eq_true rfl⟩ (Nat.le_of_ble_eq_true rfl) (Nat.le_of_ble_eq_true rfl) rfl (fun v9 T9 z9 _ => ?_) (fun _ _ h9 => h9.elim)
        obtain ⟨rfl, rfl⟩ := z9
        show am_W _ _ _ _ _ _ _ _ _ _ _ _ _ _ _ 37 [some (.ref 25), some (.int x), some (.int y), some (.int w), none] [.int 0] (mdS S 1 pd wd ln sq st ct cl ft zn a26 a27 a28 a29 a30 a31 a32 a33 a34 a35 a36 a37 a38 a39 a40 a41 a42 a43 a44) 0 0
        refine am_if_ne (I := iX7_way) (pc := 37) (tgt := 42) dX7_way_37 (by decide) (fun c37 => ?_) (fun c37 => ?_)
        · exact absurd rfl c37
        · refine am_iconst (I := iX7_way) (pc := 40) (x := 0) dX7_way_40 (by decide) ?_
          exact am_zret (I := iX7_way) (pc := 41) dX7_way_41 rfl (by decide) (Nat.le_refl _) (Nat.le_refl _) (⟨rfl, rfl⟩)
      · refine am_iconst (I := iX7_way) (pc := 29) (x := 1) dX7_way_29 (by decide) ?_
        refine am_goto (I := iX7_way) (pc := 30) (tgt := 34) dX7_way_30 (by decide) ?_
        refine am_callV (I := iX7_way) (pc := 34) (st := []) lv_X7_79 (q_goes1 _) dX7_way_34 md_25 rfl (Nat.le_of_ble_eq_true rfl) ⟨Nat.le_of_ble_eq_true rfl, Nat.le_of_ble_eq_true rfl⟩ (Nat.le_of_ble_eq_true rfl) (Nat.le_of_ble_eq_true rfl) rfl (fun v9 T9 z9 _ => ?_) (fun _ _ h9 => h9.elim)
        obtain ⟨rfl, rfl⟩ := z9
        show am_W _ _ _ _ _ _ _ _ _ _ _ _ _ _ _ 37 [some (.ref 25), some (.int x), some (.int y), some (.int w), none] [.int 0] (mdS S 1 pd wd ln sq st ct cl ft zn a26 a27 a28 a29 a30 a31 a32 a33 a34 a35 a36 a37 a38 a39 a40 a41 a42 a43 a44) 0 0
        refine am_if_ne (I := iX7_way) (pc := 37) (tgt := 42) dX7_way_37 (by decide) (fun c37 => ?_) (fun c37 => ?_)
        · exact absurd rfl c37
        · refine am_iconst (I := iX7_way) (pc := 40) (x := 0) dX7_way_40 (by decide) ?_
          exact am_zret (I := iX7_way) (pc := 41) dX7_way_41 rfl (by decide) (Nat.le_refl _) (Nat.le_refl _) (⟨rfl, rfl⟩)
    · exact absurd hb (fun q => q.elim (fun q => c7 (by rw [blw_f q]; rfl)) (fun q => c16 (by rw [blw_f q]; rfl)))
set_option maxRecDepth 100000 in
set_option maxHeartbeats 4000000 in
theorem q_way_x2 {K : am_K} {l : Launch} {S : am_S} {th pd wd ln sq st ct cl ft zn : Int32} {a26 a27 a28 a29 a30 a31 a32 a33 a34 a35 a36 a37 a38 a39 a40 a41 a42 a43 a44 : Nat → Int32} (a : Nat) (w : Int32) (ha : a < 24) : am_M K l iX7_way 1 0 0 [.ref 25, .int (nI a), .int (nI a), .int w] (mdS S th pd wd ln sq st ct cl ft zn a26 a27 a28 a29 a30 a31 a32 a33 a34 a35 a36 a37 a38 a39 a40 a41 a42 a43 a44) (fun v S' => v = some (.int (0)) ∧ mdS S 2 pd wd ln sq st ct cl ft zn a26 a27 a28 a29 a30 a31 a32 a33 a34 a35 a36 a37 a38 a39 a40 a41 a42 a43 a44 = S') (fun _ _ => False) := by
  refine am_body (by decide) rfl (by simp [Value.category]) (Nat.le_of_ble_eq_true rfl) (fun xp xe xs xm xa xb xt xc ad0 => ?_)
  show am_W _ _ _ _ _ _ _ _ _ _ _ _ _ _ _ 0 [some (.ref 25), some (.int (nI a)), some (.int (nI a)), some (.int w), none] [] (mdS S th pd wd ln sq st ct cl ft zn a26 a27 a28 a29 a30 a31 a32 a33 a34 a35 a36 a37 a38 a39 a40 a41 a42 a43 a44) 0 0
  refine am_aload_n (I := iX7_way) (pc := 0) dX7_way_0 rfl rfl ?_
  refine am_iload_n (I := iX7_way) (pc := 1) dX7_way_1 rfl rfl ?_
  refine am_bipush (I := iX7_way) (pc := 2) (x := 24) dX7_way_2 (by decide) ?_
  refine am_callS (I := iX7_way) (pc := 4) (st := [.ref 25]) lv_X7_83 rfl (q_below (nI a) 24) dX7_way_4 rfl (Nat.le_of_ble_eq_true rfl) ⟨Nat.le_of_ble_eq_true rfl, Nat.le_of_ble_eq_true rfl⟩ (Nat.le_of_ble_eq_true rfl) (Nat.le_of_ble_eq_true rfl) rfl (fun v9 T9 z9 _ => ?_) (fun _ _ h9 => h9.elim)
  obtain ⟨rfl, rfl⟩ := z9
  show am_W _ _ _ _ _ _ _ _ _ _ _ _ _ _ _ 7 [some (.ref 25), some (.int (nI a)), some (.int (nI a)), some (.int w), none] [.int (bI (blw (nI a) 24)), .ref 25] (mdS S th pd wd ln sq st ct cl ft zn a26 a27 a28 a29 a30 a31 a32 a33 a34 a35 a36 a37 a38 a39 a40 a41 a42 a43 a44) 0 0
  refine am_if_eq (I := iX7_way) (pc := 7) (tgt := 23) dX7_way_7 (by decide) (fun c7 => ?_) (fun c7 => ?_)
  · exact absurd c7 (by rw [show (24 : Int32) = nI 24 from rfl, blw_t ha (by decide)]; decide)
  · refine am_iload_n (I := iX7_way) (pc := 10) dX7_way_10 rfl rfl ?_
    refine am_bipush (I := iX7_way) (pc := 11) (x := 24) dX7_way_11 (by decide) ?_
    refine am_callS (I := iX7_way) (pc := 13) (st := [.ref 25]) lv_X7_83 rfl (q_below (nI a) 24) dX7_way_13 rfl (Nat.le_of_ble_eq_true rfl) ⟨Nat.le_of_ble_eq_true rfl, Nat.le_of_ble_eq_true rfl⟩ (Nat.le_of_ble_eq_true rfl) (Nat.le_of_ble_eq_true rfl) rfl (fun v9 T9 z9 _ => ?_) (fun _ _ h9 => h9.elim)
    obtain ⟨rfl, rfl⟩ := z9
    show am_W _ _ _ _ _ _ _ _ _ _ _ _ _ _ _ 16 [some (.ref 25), some (.int (nI a)), some (.int (nI a)), some (.int w), none] [.int (bI (blw (nI a) 24)), .ref 25] (mdS S th pd wd ln sq st ct cl ft zn a26 a27 a28 a29 a30 a31 a32 a33 a34 a35 a36 a37 a38 a39 a40 a41 a42 a43 a44) 0 0
    refine am_if_eq (I := iX7_way) (pc := 16) (tgt := 23) dX7_way_16 (by decide) (fun c16 => ?_) (fun c16 => ?_)
    · exact absurd c16 (by rw [show (24 : Int32) = nI 24 from rfl, blw_t ha (by decide)]; decide)
    · refine am_iconst (I := iX7_way) (pc := 19) (x := 1) dX7_way_19 (by decide) ?_
      refine am_goto (I := iX7_way) (pc := 20) (tgt := 24) dX7_way_20 (by decide) ?_
      refine am_iload_n (I := iX7_way) (pc := 24) dX7_way_24 rfl rfl ?_
      refine am_iload_n (I := iX7_way) (pc := 25) dX7_way_25 rfl rfl ?_
      refine am_icmp_eq (I := iX7_way) (pc := 26) (tgt := 33) dX7_way_26 (by decide) (fun c26 => ?_) (fun c26 => ?_)
      · refine am_iconst (I := iX7_way) (pc := 33) (x := 0) dX7_way_33 (by decide) ?_
        refine am_callV (I := iX7_way) (pc := 34) (st := []) lv_X7_79 (q_goes2) dX7_way_34 md_25 rfl (Nat.le_of_ble_eq_true rfl) ⟨Nat.le_of_ble_eq_true rfl, Nat.le_of_ble_eq_true rfl⟩ (Nat.le_of_ble_eq_true rfl) (Nat.le_of_ble_eq_true rfl) rfl (fun v9 T9 z9 _ => ?_) (fun _ _ h9 => h9.elim)
        obtain ⟨rfl, rfl⟩ := z9
        show am_W _ _ _ _ _ _ _ _ _ _ _ _ _ _ _ 37 [some (.ref 25), some (.int (nI a)), some (.int (nI a)), some (.int w), none] [.int 0] (mdS S 2 pd wd ln sq st ct cl ft zn a26 a27 a28 a29 a30 a31 a32 a33 a34 a35 a36 a37 a38 a39 a40 a41 a42 a43 a44) 0 0
        refine am_if_ne (I := iX7_way) (pc := 37) (tgt := 42) dX7_way_37 (by decide) (fun c37 => ?_) (fun c37 => ?_)
        · exact absurd rfl c37
        · refine am_iconst (I := iX7_way) (pc := 40) (x := 0) dX7_way_40 (by decide) ?_
          exact am_zret (I := iX7_way) (pc := 41) dX7_way_41 rfl (by decide) (Nat.le_refl _) (Nat.le_refl _) (⟨rfl, rfl⟩)
      · exact absurd rfl c26
set_option maxRecDepth 100000 in
set_option maxHeartbeats 4000000 in
theorem q_way {K : am_K} {l : Launch} {S : am_S} {th pd wd ln sq st ct cl ft zn : Int32} {a26 a27 a28 a29 a30 a31 a32 a33 a34 a35 a36 a37 a38 a39 a40 a41 a42 a43 a44 : Nat → Int32} (a b : Nat) (on was : Bool) (ha : a < 24) (hb : b < 24) (hab : ¬ a = b) (hw : a43 (24 * a + b) = bI was) : am_M K l iX7_way 1 0 0 [.ref 25, .int (nI a), .int (nI b), .int (bI on)] (mdS S th pd wd ln sq st ct cl ft zn a26 a27 a28 a29 a30 a31 a32 a33 a34 a35 a36 a37 a38 a39 a40 a41 a42 a43 a44) (fun v S' => v = some (.int (bI (was != on))) ∧ mdS S 0 pd wd ln sq st ct cl ft zn a26 a27 a28 a29 a30 a31 a32 a33 a34 a35 a36 a37 a38 a39 a40 a41 a42 (upd (upd a43 (24 * a + b) (bI on)) (24 * b + a) (bI on)) a44 = S') (fun _ _ => False) := by
  refine am_body (by decide) rfl (by simp [Value.category]) (Nat.le_of_ble_eq_true rfl) (fun xp xe xs xm xa xb xt xc ad0 => ?_)
  show am_W _ _ _ _ _ _ _ _ _ _ _ _ _ _ _ 0 [some (.ref 25), some (.int (nI a)), some (.int (nI b)), some (.int (bI on)), none] [] (mdS S th pd wd ln sq st ct cl ft zn a26 a27 a28 a29 a30 a31 a32 a33 a34 a35 a36 a37 a38 a39 a40 a41 a42 a43 a44) 0 0
  refine am_aload_n (I := iX7_way) (pc := 0) dX7_way_0 rfl rfl ?_
  refine am_iload_n (I := iX7_way) (pc := 1) dX7_way_1 rfl rfl ?_
  refine am_bipush (I := iX7_way) (pc := 2) (x := 24) dX7_way_2 (by decide) ?_
  refine am_callS (I := iX7_way) (pc := 4) (st := [.ref 25]) lv_X7_83 rfl (q_below (nI a) 24) dX7_way_4 rfl (Nat.le_of_ble_eq_true rfl) ⟨Nat.le_of_ble_eq_true rfl, Nat.le_of_ble_eq_true rfl⟩ (Nat.le_of_ble_eq_true rfl) (Nat.le_of_ble_eq_true rfl) rfl (fun v9 T9 z9 _ => ?_) (fun _ _ h9 => h9.elim)
  obtain ⟨rfl, rfl⟩ := z9
  show am_W _ _ _ _ _ _ _ _ _ _ _ _ _ _ _ 7 [some (.ref 25), some (.int (nI a)), some (.int (nI b)), some (.int (bI on)), none] [.int (bI (blw (nI a) 24)), .ref 25] (mdS S th pd wd ln sq st ct cl ft zn a26 a27 a28 a29 a30 a31 a32 a33 a34 a35 a36 a37 a38 a39 a40 a41 a42 a43 a44) 0 0
  refine am_if_eq (I := iX7_way) (pc := 7) (tgt := 23) dX7_way_7 (by decide) (fun c7 => ?_) (fun c7 => ?_)
  · exact absurd c7 (by rw [show (24 : Int32) = nI 24 from rfl, blw_t ha (by decide)]; decide)
  · refine am_iload_n (I := iX7_way) (pc := 10) dX7_way_10 rfl rfl ?_
    refine am_bipush (I := iX7_way) (pc := 11) (x := 24) dX7_way_11 (by decide) ?_
    refine am_callS (I := iX7_way) (pc := 13) (st := [.ref 25]) lv_X7_83 rfl (q_below (nI b) 24) dX7_way_13 rfl (Nat.le_of_ble_eq_true rfl) ⟨Nat.le_of_ble_eq_true rfl, Nat.le_of_ble_eq_true rfl⟩ (Nat.le_of_ble_eq_true rfl) (Nat.le_of_ble_eq_true rfl) rfl (fun v9 T9 z9 _ => ?_) (fun _ _ h9 => h9.elim)
    obtain ⟨rfl, rfl⟩ := z9
    show am_W _ _ _ _ _ _ _ _ _ _ _ _ _ _ _ 16 [some (.ref 25), some (.int (nI a)), some (.int (nI b)), some (.int (bI on)), none] [.int (bI (blw (nI b) 24)), .ref 25] (mdS S th pd wd ln sq st ct cl ft zn a26 a27 a28 a29 a30 a31 a32 a33 a34 a35 a36 a37 a38 a39 a40 a41 a42 a43 a44) 0 0
    refine am_if_eq (I := iX7_way) (pc := 16) (tgt := 23) dX7_way_16 (by decide) (fun c16 => ?_) (fun c16 => ?_)
    · exact absurd c16 (by rw [show (24 : Int32) = nI 24 from rfl, blw_t hb (by decide)]; decide)
    · refine am_iconst (I := iX7_way) (pc := 19) (x := 1) dX7_way_19 (by decide) ?_
      refine am_goto (I := iX7_way) (pc := 20) (tgt := 24) dX7_way_20 (by decide) ?_
      refine am_iload_n (I := iX7_way) (pc := 24) dX7_way_24 rfl rfl ?_
      refine am_iload_n (I := iX7_way) (pc := 25) dX7_way_25 rfl rfl ?_
      refine am_icmp_eq (I := iX7_way) (pc := 26) (tgt := 33) dX7_way_26 (by decide) (fun c26 => ?_) (fun c26 => ?_)
      · exact absurd ((nI_eq (by omega) (by omega)).mp c26) hab
      · refine am_iconst (I := iX7_way) (pc := 29) (x := 1) dX7_way_29 (by decide) ?_
        refine am_goto (I := iX7_way) (pc := 30) (tgt := 34) dX7_way_30 (by decide) ?_
        refine am_callV (I := iX7_way) (pc := 34) (st := []) lv_X7_79 (q_goes0) dX7_way_34 md_25 rfl (Nat.le_of_ble_eq_true rfl) ⟨Nat.le_of_ble_eq_true rfl, Nat.le_of_ble_eq_true rfl⟩ (Nat.le_of_ble_eq_true rfl) (Nat.le_of_ble_eq_true rfl) rfl (fun v9 T9 z9 _ => ?_) (fun _ _ h9 => h9.elim)
        obtain ⟨rfl, rfl⟩ := z9
        show am_W _ _ _ _ _ _ _ _ _ _ _ _ _ _ _ 37 [some (.ref 25), some (.int (nI a)), some (.int (nI b)), some (.int (bI on)), none] [.int 1] (mdS S 0 pd wd ln sq st ct cl ft zn a26 a27 a28 a29 a30 a31 a32 a33 a34 a35 a36 a37 a38 a39 a40 a41 a42 a43 a44) 0 0
        refine am_if_ne (I := iX7_way) (pc := 37) (tgt := 42) dX7_way_37 (by decide) (fun c37 => ?_) (fun c37 => ?_)
        · refine am_aload_n (I := iX7_way) (pc := 42) dX7_way_42 rfl rfl ?_
          refine am_getf (I := iX7_way) (pc := 43) lf_X7_61 dX7_way_43 md_25 rfl ?_
          refine am_bipush (I := iX7_way) (pc := 46) (x := 24) dX7_way_46 (by decide) ?_
          refine am_iload_n (I := iX7_way) (pc := 48) dX7_way_48 rfl rfl ?_
          refine am_imul (I := iX7_way) (pc := 49) dX7_way_49 ?_
          refine am_iload_n (I := iX7_way) (pc := 50) dX7_way_50 rfl rfl ?_
          refine am_iadd (I := iX7_way) (pc := 51) dX7_way_51 ?_
          rw [ix24]
          refine am_baload (I := iX7_way) (pc := 52) dX7_way_52 md_43 rfl (vp_in_nI (show (24 * a + b) < 576 by omega) (by decide)) ?_
          refine am_same (st' := [.int (bI was)]) rfl rfl (by rw [nI_clamp (show (24 * a + b) < 2 ^ 31 by omega), hw]) rfl rfl rfl ?_
          refine am_istore (I := iX7_way) (pc := 53) (L' := [some (.ref 25), some (.int (nI a)), some (.int (nI b)), some (.int (bI on)), some (.int (bI was))]) dX7_way_53 (by decide) rfl ?_
          refine am_aload_n (I := iX7_way) (pc := 55) dX7_way_55 rfl rfl ?_
          refine am_getf (I := iX7_way) (pc := 56) lf_X7_61 dX7_way_56 md_25 rfl ?_
          refine am_bipush (I := iX7_way) (pc := 59) (x := 24) dX7_way_59 (by decide) ?_
          refine am_iload_n (I := iX7_way) (pc := 61) dX7_way_61 rfl rfl ?_
          refine am_imul (I := iX7_way) (pc := 62) dX7_way_62 ?_
          refine am_iload_n (I := iX7_way) (pc := 63) dX7_way_63 rfl rfl ?_
          refine am_iadd (I := iX7_way) (pc := 64) dX7_way_64 ?_
          rw [ix24]
          refine am_iload_n (I := iX7_way) (pc := 65) dX7_way_65 rfl rfl ?_
          refine am_bastore (I := iX7_way) (pc := 66) dX7_way_66 md_43 rfl (vp_in_nI (show (24 * a + b) < 576 by omega) (by decide)) (bI01 on) ?_
          rw [nI_clamp (show (24 * a + b) < 2 ^ 31 by omega)]
          refine am_same (S' := mdS S 0 pd wd ln sq st ct cl ft zn a26 a27 a28 a29 a30 a31 a32 a33 a34 a35 a36 a37 a38 a39 a40 a41 a42 (upd a43 (24 * a + b) (bI on)) a44) rfl rfl rfl mdS_43 rfl rfl ?_
          refine am_aload_n (I := iX7_way) (pc := 67) dX7_way_67 rfl rfl ?_
          refine am_getf (I := iX7_way) (pc := 68) lf_X7_61 dX7_way_68 md_25 rfl ?_
          refine am_bipush (I := iX7_way) (pc := 71) (x := 24) dX7_way_71 (by decide) ?_
          refine am_iload_n (I := iX7_way) (pc := 73) dX7_way_73 rfl rfl ?_
          refine am_imul (I := iX7_way) (pc := 74) dX7_way_74 ?_
          refine am_iload_n (I := iX7_way) (pc := 75) dX7_way_75 rfl rfl ?_
          refine am_iadd (I := iX7_way) (pc := 76) dX7_way_76 ?_
          rw [ix24]
          refine am_iload_n (I := iX7_way) (pc := 77) dX7_way_77 rfl rfl ?_
          refine am_bastore (I := iX7_way) (pc := 78) dX7_way_78 md_43 rfl (vp_in_nI (show (24 * b + a) < 576 by omega) (by decide)) (bI01 on) ?_
          rw [nI_clamp (show (24 * b + a) < 2 ^ 31 by omega)]
          refine am_same (S' := mdS S 0 pd wd ln sq st ct cl ft zn a26 a27 a28 a29 a30 a31 a32 a33 a34 a35 a36 a37 a38 a39 a40 a41 a42 (upd (upd a43 (24 * a + b) (bI on)) (24 * b + a) (bI on)) a44) rfl rfl rfl mdS_43 rfl rfl ?_
          refine am_iload (I := iX7_way) (pc := 79) dX7_way_79 rfl ?_
          refine am_iload_n (I := iX7_way) (pc := 81) dX7_way_81 rfl rfl ?_
          refine am_icmp_eq (I := iX7_way) (pc := 82) (tgt := 89) dX7_way_82 (by decide) (fun c82 => ?_) (fun c82 => ?_)
          · refine am_iconst (I := iX7_way) (pc := 89) (x := 0) dX7_way_89 (by decide) ?_
            exact am_zret (I := iX7_way) (pc := 90) dX7_way_90 rfl (by decide) (Nat.le_refl _) (Nat.le_refl _) (⟨by cases was <;> cases on <;> first | rfl | exact absurd c82 (by decide), rfl⟩)
          · refine am_iconst (I := iX7_way) (pc := 85) (x := 1) dX7_way_85 (by decide) ?_
            refine am_goto (I := iX7_way) (pc := 86) (tgt := 90) dX7_way_86 (by decide) ?_
            exact am_zret (I := iX7_way) (pc := 90) dX7_way_90 rfl (by decide) (Nat.le_refl _) (Nat.le_refl _) (⟨by cases was <;> cases on <;> first | rfl | exact absurd c82 (by decide), rfl⟩)
        · exact absurd c37 (by decide)
def mst (W : Nat → Int32) (d : Nat) (F : Nat → Int32) (k : Nat) : Nat → Int32 := upd F (k % 24) (if W k = 0 then F (k % 24) else if F (k / 24) = nI d then (if F (k % 24) = -1 then nI (d + 1) else F (k % 24)) else F (k % 24))
def mlk (W : Nat → Int32) (d : Nat) (F : Nat → Int32) : Nat → Nat → Int32
  | 0 => F
  | k + 1 => mst W d (mlk W d F k) k
def mld (W : Nat → Int32) (F : Nat → Int32) : Nat → Nat → Int32
  | 0 => F
  | d + 1 => mlk W d (mld W F d) 576
def min0 (F : Nat → Int32) (t : Nat) : Nat → Int32 := rcat F 0 (fun r => if r = t then 0 else -1) 24
def mfar (W F : Nat → Int32) (t : Nat) : Nat → Int32 := mld W (min0 F t) 24
set_option maxRecDepth 100000 in
set_option maxHeartbeats 4000000 in
theorem q_measure {K : am_K} {l : Launch} {S : am_S} {th pd wd ln sq st ct cl ft zn : Int32} {a26 a27 a28 a29 a30 a31 a32 a33 a34 a35 a36 a37 a38 a39 a40 a41 a42 a43 a44 : Nat → Int32} (t : Nat) (ht : t < 24) : am_M K l iX7_measure 0 0 0 [.ref 25, .int (nI t)] (mdS S th pd wd ln sq st ct cl ft zn a26 a27 a28 a29 a30 a31 a32 a33 a34 a35 a36 a37 a38 a39 a40 a41 a42 a43 a44) (fun v S' => v = none ∧ mdS S th pd wd ln sq st ct cl ft zn a26 a27 a28 a29 a30 a31 a32 a33 a34 a35 a36 a37 a38 a39 a40 a41 a42 a43 (mfar a43 a44 t) = S') (fun _ _ => False) := by
  refine am_body (by decide) rfl (by simp [Value.category]) (Nat.le_of_ble_eq_true rfl) (fun xp xe xs xm xa xb xt xc ad0 => ?_)
  show am_W _ _ _ _ _ _ _ _ _ _ _ _ _ _ _ 0 [some (.ref 25), some (.int (nI t)), none, none] [] (mdS S th pd wd ln sq st ct cl ft zn a26 a27 a28 a29 a30 a31 a32 a33 a34 a35 a36 a37 a38 a39 a40 a41 a42 a43 a44) 0 0
  refine am_iconst (I := iX7_measure) (pc := 0) (x := 0) dX7_measure_0 (by decide) ?_
  refine am_istore_n (I := iX7_measure) (pc := 1) (L' := [some (.ref 25), some (.int (nI t)), some (.int 0), none]) dX7_measure_1 rfl (by decide) rfl ?_
  have loop2 : ∀ (k2 : Nat) (i : Nat), 24 - i < k2 → (i ≤ 24) → am_W K iX7_measure xp l xe (am_room 0 0 0) xs xm xa xb xt xc (mdS S th pd wd ln sq st ct cl ft zn a26 a27 a28 a29 a30 a31 a32 a33 a34 a35 a36 a37 a38 a39 a40 a41 a42 a43 a44) ad0 (am_E K ad0 (mdS S th pd wd ln sq st ct cl ft zn a26 a27 a28 a29 a30 a31 a32 a33 a34 a35 a36 a37 a38 a39 a40 a41 a42 a43 a44) (fun v S' => v = none ∧ mdS S th pd wd ln sq st ct cl ft zn a26 a27 a28 a29 a30 a31 a32 a33 a34 a35 a36 a37 a38 a39 a40 a41 a42 a43 (mfar a43 a44 t) = S') (fun _ _ => False) xb xa xs 0 0) 2 [some (.ref 25), some (.int (nI t)), some (.int (nI i)), none] [] (mdS S th pd wd ln sq st ct cl ft zn a26 a27 a28 a29 a30 a31 a32 a33 a34 a35 a36 a37 a38 a39 a40 a41 a42 a43 (rcat a44 0 (fun r => if r = t then 0 else -1) i)) 0 0 := by
    intro k2
    induction k2 with
    | zero => intro i h9; exact absurd h9 (Nat.not_lt_zero _)
    | succ k2 ih2 =>
      intro i hm2 hi
      refine am_iload_n (I := iX7_measure) (pc := 2) dX7_measure_2 rfl rfl ?_
      refine am_bipush (I := iX7_measure) (pc := 3) (x := 24) dX7_measure_3 (by decide) ?_
      refine am_icmp_ge (I := iX7_measure) (pc := 5) (tgt := 30) dX7_measure_5 (by decide) (fun c5 => ?_) (fun c5 => ?_)
      · have g5 : 24 ≤ i := by
          rcases Nat.lt_or_ge i 24 with q9 | q9
          · exact absurd c5 (nI_ge (a := i) (b := 24) q9 (by omega))
          · exact q9
        refine am_iconst (I := iX7_measure) (pc := 30) (x := 0) dX7_measure_30 (by decide) ?_
        refine am_istore_n (I := iX7_measure) (pc := 31) (L' := [some (.ref 25), some (.int (nI t)), some (.int 0), none]) dX7_measure_31 rfl (by decide) rfl ?_
        have loop32 : ∀ (k32 : Nat) (d : Nat), 24 - d < k32 → (d ≤ 24) → am_W K iX7_measure xp l xe (am_room 0 0 0) xs xm xa xb xt xc (mdS S th pd wd ln sq st ct cl ft zn a26 a27 a28 a29 a30 a31 a32 a33 a34 a35 a36 a37 a38 a39 a40 a41 a42 a43 a44) ad0 (am_E K ad0 (mdS S th pd wd ln sq st ct cl ft zn a26 a27 a28 a29 a30 a31 a32 a33 a34 a35 a36 a37 a38 a39 a40 a41 a42 a43 a44) (fun v S' => v = none ∧ mdS S th pd wd ln sq st ct cl ft zn a26 a27 a28 a29 a30 a31 a32 a33 a34 a35 a36 a37 a38 a39 a40 a41 a42 a43 (mfar a43 a44 t) = S') (fun _ _ => False) xb xa xs 0 0) 32 [some (.ref 25), some (.int (nI t)), some (.int (nI d)), none] [] (mdS S th pd wd ln sq st ct cl ft zn a26 a27 a28 a29 a30 a31 a32 a33 a34 a35 a36 a37 a38 a39 a40 a41 a42 a43 (mld a43 (min0 a44 t) d)) 0 0 := by
          intro k32
          induction k32 with
          | zero => intro d h9; exact absurd h9 (Nat.not_lt_zero _)
          | succ k32 ih32 =>
            intro d hm32 hd
            refine am_iload_n (I := iX7_measure) (pc := 32) dX7_measure_32 rfl rfl ?_
            refine am_bipush (I := iX7_measure) (pc := 33) (x := 24) dX7_measure_33 (by decide) ?_
            refine am_icmp_ge (I := iX7_measure) (pc := 35) (tgt := 118) dX7_measure_35 (by decide) (fun c35 => ?_) (fun c35 => ?_)
            · have g35 : 24 ≤ d := by
                rcases Nat.lt_or_ge d 24 with q9 | q9
                · exact absurd c35 (nI_ge (a := d) (b := 24) q9 (by omega))
                · exact q9
              exact am_vret (I := iX7_measure) (pc := 118) dX7_measure_118 rfl (Nat.le_refl _) (Nat.le_refl _) (⟨rfl, by rw [show d = 24 by omega]; rfl⟩)
            · have l35 : d < 24 := by
                rcases Nat.lt_or_ge d 24 with q9 | q9
                · exact q9
                · exact absurd (nI_le (a := 24) (b := d) q9 (by omega)) c35
              refine am_iconst (I := iX7_measure) (pc := 38) (x := 0) dX7_measure_38 (by decide) ?_
              refine am_istore_n (I := iX7_measure) (pc := 39) (L' := [some (.ref 25), some (.int (nI t)), some (.int (nI d)), some (.int 0)]) dX7_measure_39 rfl (by decide) rfl ?_
              have loop40 : ∀ (k40 : Nat) (k : Nat), 576 - k < k40 → (k ≤ 576) → am_W K iX7_measure xp l xe (am_room 0 0 0) xs xm xa xb xt xc (mdS S th pd wd ln sq st ct cl ft zn a26 a27 a28 a29 a30 a31 a32 a33 a34 a35 a36 a37 a38 a39 a40 a41 a42 a43 a44) ad0 (am_E K ad0 (mdS S th pd wd ln sq st ct cl ft zn a26 a27 a28 a29 a30 a31 a32 a33 a34 a35 a36 a37 a38 a39 a40 a41 a42 a43 a44) (fun v S' => v = none ∧ mdS S th pd wd ln sq st ct cl ft zn a26 a27 a28 a29 a30 a31 a32 a33 a34 a35 a36 a37 a38 a39 a40 a41 a42 a43 (mfar a43 a44 t) = S') (fun _ _ => False) xb xa xs 0 0) 40 [some (.ref 25), some (.int (nI t)), some (.int (nI d)), some (.int (nI k))] [] (mdS S th pd wd ln sq st ct cl ft zn a26 a27 a28 a29 a30 a31 a32 a33 a34 a35 a36 a37 a38 a39 a40 a41 a42 a43 (mlk a43 d (mld a43 (min0 a44 t) d) k)) 0 0 := by
                intro k40
                induction k40 with
                | zero => intro k h9; exact absurd h9 (Nat.not_lt_zero _)
                | succ k40 ih40 =>
                  intro k hm40 hk
                  refine am_iload_n (I := iX7_measure) (pc := 40) dX7_measure_40 rfl rfl ?_
                  refine am_sipush (I := iX7_measure) (pc := 41) (x := 576) dX7_measure_41 (by decide) ?_
                  refine am_icmp_ge (I := iX7_measure) (pc := 44) (tgt := 112) dX7_measure_44 (by decide) (fun c44 => ?_) (fun c44 => ?_)
                  · have g44 : 576 ≤ k := by
                      rcases Nat.lt_or_ge k 576 with q9 | q9
                      · exact absurd c44 (nI_ge (a := k) (b := 576) q9 (by omega))
                      · exact q9
                    refine am_forget 3 ?_
                    refine am_iinc (I := iX7_measure) (pc := 112) (y := ((nI d) + 1)) (L' := [some (.ref 25), some (.int (nI t)), some (.int ((nI d) + 1)), none]) dX7_measure_112 rfl rfl rfl ?_
                    refine am_goto (I := iX7_measure) (pc := 115) (tgt := 32) dX7_measure_115 (by decide) ?_
                    exact am_same rfl (by rw [nI_1]) rfl (by rw [show k = 576 by omega]; rfl) rfl rfl (ih32 (d + 1) (by omega) (by omega))
                  · have l44 : k < 576 := by
                      rcases Nat.lt_or_ge k 576 with q9 | q9
                      · exact q9
                      · exact absurd (nI_le (a := 576) (b := k) q9 (by omega)) c44
                    refine am_aload_n (I := iX7_measure) (pc := 47) dX7_measure_47 rfl rfl ?_
                    refine am_getf (I := iX7_measure) (pc := 48) lf_X7_65 dX7_measure_48 md_25 rfl ?_
                    refine am_iload_n (I := iX7_measure) (pc := 51) dX7_measure_51 rfl rfl ?_
                    refine am_bipush (I := iX7_measure) (pc := 52) (x := 24) dX7_measure_52 (by decide) ?_
                    refine am_irem (I := iX7_measure) (pc := 54) dX7_measure_54 (by decide) ?_
                    rw [ixm l44]
                    refine am_aload_n (I := iX7_measure) (pc := 55) dX7_measure_55 rfl rfl ?_
                    refine am_getf (I := iX7_measure) (pc := 56) lf_X7_61 dX7_measure_56 md_25 rfl ?_
                    refine am_iload_n (I := iX7_measure) (pc := 59) dX7_measure_59 rfl rfl ?_
                    refine am_baload (I := iX7_measure) (pc := 60) dX7_measure_60 md_43 rfl (vp_in_nI (show k < 576 by omega) (by decide)) ?_
                    rw [nI_clamp (show k < 2 ^ 31 by omega)]
                    refine am_if_eq (I := iX7_measure) (pc := 61) (tgt := 96) dX7_measure_61 (by decide) (fun c61 => ?_) (fun c61 => ?_)
                    · refine am_aload_n (I := iX7_measure) (pc := 96) dX7_measure_96 rfl rfl ?_
                      refine am_getf (I := iX7_measure) (pc := 97) lf_X7_65 dX7_measure_97 md_25 rfl ?_
                      refine am_iload_n (I := iX7_measure) (pc := 100) dX7_measure_100 rfl rfl ?_
                      refine am_bipush (I := iX7_measure) (pc := 101) (x := 24) dX7_measure_101 (by decide) ?_
                      refine am_irem (I := iX7_measure) (pc := 103) dX7_measure_103 (by decide) ?_
                      rw [ixm l44]
                      refine am_iaload (I := iX7_measure) (pc := 104) dX7_measure_104 md_44 rfl (vp_in_nI (show k % 24 < 24 by omega) (by decide)) ?_
                      rw [nI_clamp (show k % 24 < 2 ^ 31 by omega)]
                      refine am_iastore (I := iX7_measure) (pc := 105) dX7_measure_105 md_44 rfl (vp_in_nI (show k % 24 < 24 by omega) (by decide)) ?_
                      rw [nI_clamp (show k % 24 < 2 ^ 31 by omega)]
                      refine am_same (S' := mdS S th pd wd ln sq st ct cl ft zn a26 a27 a28 a29 a30 a31 a32 a33 a34 a35 a36 a37 a38 a39 a40 a41 a42 a43 (upd (mlk a43 d (mld a43 (min0 a44 t) d) k) (k % 24) ((mlk a43 d (mld a43 (min0 a44 t) d) k) (k % 24)))) rfl rfl rfl mdS_44 rfl rfl ?_
                      refine am_iinc (I := iX7_measure) (pc := 106) (y := ((nI k) + 1)) (L' := [some (.ref 25), some (.int (nI t)), some (.int (nI d)), some (.int ((nI k) + 1))]) dX7_measure_106 rfl rfl rfl ?_
                      refine am_goto (I := iX7_measure) (pc := 109) (tgt := 40) dX7_measure_109 (by decide) ?_
                      exact am_same rfl (by rw [nI_1]) rfl (by rw [mlk, mst, if_pos c61]) rfl rfl (ih40 (k + 1) (by omega) (by omega))
                    · refine am_aload_n (I := iX7_measure) (pc := 64) dX7_measure_64 rfl rfl ?_
                      refine am_getf (I := iX7_measure) (pc := 65) lf_X7_65 dX7_measure_65 md_25 rfl ?_
                      refine am_iload_n (I := iX7_measure) (pc := 68) dX7_measure_68 rfl rfl ?_
                      refine am_bipush (I := iX7_measure) (pc := 69) (x := 24) dX7_measure_69 (by decide) ?_
                      refine am_idiv (I := iX7_measure) (pc := 71) dX7_measure_71 (by decide) ?_
                      rw [ixd l44]
                      refine am_iaload (I := iX7_measure) (pc := 72) dX7_measure_72 md_44 rfl (vp_in_nI (show k / 24 < 24 by omega) (by decide)) ?_
                      rw [nI_clamp (show k / 24 < 2 ^ 31 by omega)]
                      refine am_iload_n (I := iX7_measure) (pc := 73) dX7_measure_73 rfl rfl ?_
                      refine am_icmp_ne (I := iX7_measure) (pc := 74) (tgt := 96) dX7_measure_74 (by decide) (fun c74 => ?_) (fun c74 => ?_)
                      · refine am_aload_n (I := iX7_measure) (pc := 96) dX7_measure_96 rfl rfl ?_
                        refine am_getf (I := iX7_measure) (pc := 97) lf_X7_65 dX7_measure_97 md_25 rfl ?_
                        refine am_iload_n (I := iX7_measure) (pc := 100) dX7_measure_100 rfl rfl ?_
                        refine am_bipush (I := iX7_measure) (pc := 101) (x := 24) dX7_measure_101 (by decide) ?_
                        refine am_irem (I := iX7_measure) (pc := 103) dX7_measure_103 (by decide) ?_
                        rw [ixm l44]
                        refine am_iaload (I := iX7_measure) (pc := 104) dX7_measure_104 md_44 rfl (vp_in_nI (show k % 24 < 24 by omega) (by decide)) ?_
                        rw [nI_clamp (show k % 24 < 2 ^ 31 by omega)]
                        refine am_iastore (I := iX7_measure) (pc := 105) dX7_measure_105 md_44 rfl (vp_in_nI (show k % 24 < 24 by omega) (by decide)) ?_
                        rw [nI_clamp (show k % 24 < 2 ^ 31 by omega)]
                        refine am_same (S' := mdS S th pd wd ln sq st ct cl ft zn a26 a27 a28 a29 a30 a31 a32 a33 a34 a35 a36 a37 a38 a39 a40 a41 a42 a43 (upd (mlk a43 d (mld a43 (min0 a44 t) d) k) (k % 24) ((mlk a43 d (mld a43 (min0 a44 t) d) k) (k % 24)))) rfl rfl rfl mdS_44 rfl rfl ?_
                        refine am_iinc (I := iX7_measure) (pc := 106) (y := ((nI k) + 1)) (L' := [some (.ref 25), some (.int (nI t)), some (.int (nI d)), some (.int ((nI k) + 1))]) dX7_measure_106 rfl rfl rfl ?_
                        refine am_goto (I := iX7_measure) (pc := 109) (tgt := 40) dX7_measure_109 (by decide) ?_
                        exact am_same rfl (by rw [nI_1]) rfl (by rw [mlk, mst, if_neg c61, if_neg c74]) rfl rfl (ih40 (k + 1) (by omega) (by omega))
                      · refine am_aload_n (I := iX7_measure) (pc := 77) dX7_measure_77 rfl rfl ?_
                        refine am_getf (I := iX7_measure) (pc := 78) lf_X7_65 dX7_measure_78 md_25 rfl ?_
                        refine am_iload_n (I := iX7_measure) (pc := 81) dX7_measure_81 rfl rfl ?_
                        refine am_bipush (I := iX7_measure) (pc := 82) (x := 24) dX7_measure_82 (by decide) ?_
                        refine am_irem (I := iX7_measure) (pc := 84) dX7_measure_84 (by decide) ?_
                        rw [ixm l44]
                        refine am_iaload (I := iX7_measure) (pc := 85) dX7_measure_85 md_44 rfl (vp_in_nI (show k % 24 < 24 by omega) (by decide)) ?_
                        rw [nI_clamp (show k % 24 < 2 ^ 31 by omega)]
                        refine am_iconst (I := iX7_measure) (pc := 86) (x := (-1)) dX7_measure_86 (by decide) ?_
                        refine am_icmp_ne (I := iX7_measure) (pc := 87) (tgt := 96) dX7_measure_87 (by decide) (fun c87 => ?_) (fun c87 => ?_)
                        · refine am_aload_n (I := iX7_measure) (pc := 96) dX7_measure_96 rfl rfl ?_
                          refine am_getf (I := iX7_measure) (pc := 97) lf_X7_65 dX7_measure_97 md_25 rfl ?_
                          refine am_iload_n (I := iX7_measure) (pc := 100) dX7_measure_100 rfl rfl ?_
                          refine am_bipush (I := iX7_measure) (pc := 101) (x := 24) dX7_measure_101 (by decide) ?_
                          refine am_irem (I := iX7_measure) (pc := 103) dX7_measure_103 (by decide) ?_
                          rw [ixm l44]
                          refine am_iaload (I := iX7_measure) (pc := 104) dX7_measure_104 md_44 rfl (vp_in_nI (show k % 24 < 24 by omega) (by decide)) ?_
                          rw [nI_clamp (show k % 24 < 2 ^ 31 by omega)]
                          refine am_iastore (I := iX7_measure) (pc := 105) dX7_measure_105 md_44 rfl (vp_in_nI (show k % 24 < 24 by omega) (by decide)) ?_
                          rw [nI_clamp (show k % 24 < 2 ^ 31 by omega)]
                          refine am_same (S' := mdS S th pd wd ln sq st ct cl ft zn a26 a27 a28 a29 a30 a31 a32 a33 a34 a35 a36 a37 a38 a39 a40 a41 a42 a43 (upd (mlk a43 d (mld a43 (min0 a44 t) d) k) (k % 24) ((mlk a43 d (mld a43 (min0 a44 t) d) k) (k % 24)))) rfl rfl rfl mdS_44 rfl rfl ?_
                          refine am_iinc (I := iX7_measure) (pc := 106) (y := ((nI k) + 1)) (L' := [some (.ref 25), some (.int (nI t)), some (.int (nI d)), some (.int ((nI k) + 1))]) dX7_measure_106 rfl rfl rfl ?_
                          refine am_goto (I := iX7_measure) (pc := 109) (tgt := 40) dX7_measure_109 (by decide) ?_
                          exact am_same rfl (by rw [nI_1]) rfl (by rw [mlk, mst, if_neg c61, if_pos c74, if_neg c87]) rfl rfl (ih40 (k + 1) (by omega) (by omega))
                        · refine am_iload_n (I := iX7_measure) (pc := 90) dX7_measure_90 rfl rfl ?_
                          refine am_iconst (I := iX7_measure) (pc := 91) (x := 1) dX7_measure_91 (by decide) ?_
                          refine am_iadd (I := iX7_measure) (pc := 92) dX7_measure_92 ?_
                          refine am_goto (I := iX7_measure) (pc := 93) (tgt := 105) dX7_measure_93 (by decide) ?_
                          refine am_iastore (I := iX7_measure) (pc := 105) dX7_measure_105 md_44 rfl (vp_in_nI (show k % 24 < 24 by omega) (by decide)) ?_
                          rw [nI_clamp (show k % 24 < 2 ^ 31 by omega)]
                          refine am_same (S' := mdS S th pd wd ln sq st ct cl ft zn a26 a27 a28 a29 a30 a31 a32 a33 a34 a35 a36 a37 a38 a39 a40 a41 a42 a43 (upd (mlk a43 d (mld a43 (min0 a44 t) d) k) (k % 24) ((nI d) + 1))) rfl rfl rfl mdS_44 rfl rfl ?_
                          refine am_iinc (I := iX7_measure) (pc := 106) (y := ((nI k) + 1)) (L' := [some (.ref 25), some (.int (nI t)), some (.int (nI d)), some (.int ((nI k) + 1))]) dX7_measure_106 rfl rfl rfl ?_
                          refine am_goto (I := iX7_measure) (pc := 109) (tgt := 40) dX7_measure_109 (by decide) ?_
                          exact am_same rfl (by rw [nI_1]) rfl (by rw [mlk, mst, if_neg c61, if_pos c74, if_pos c87]; rw [nI_1]) rfl rfl (ih40 (k + 1) (by omega) (by omega))
              exact am_same rfl (by rfl) rfl (by rfl) rfl rfl (loop40 _ 0 (Nat.lt_succ_self _) (Nat.zero_le _))
        exact am_same rfl (by rfl) rfl (by rw [show i = 24 by omega]; rfl) rfl rfl (loop32 _ 0 (Nat.lt_succ_self _) (Nat.zero_le _))
      · have l5 : i < 24 := by
          rcases Nat.lt_or_ge i 24 with q9 | q9
          · exact q9
          · exact absurd (nI_le (a := 24) (b := i) q9 (by omega)) c5
        refine am_aload_n (I := iX7_measure) (pc := 8) dX7_measure_8 rfl rfl ?_
        refine am_getf (I := iX7_measure) (pc := 9) lf_X7_65 dX7_measure_9 md_25 rfl ?_
        refine am_iload_n (I := iX7_measure) (pc := 12) dX7_measure_12 rfl rfl ?_
        refine am_iload_n (I := iX7_measure) (pc := 13) dX7_measure_13 rfl rfl ?_
        refine am_iload_n (I := iX7_measure) (pc := 14) dX7_measure_14 rfl rfl ?_
        refine am_icmp_ne (I := iX7_measure) (pc := 15) (tgt := 22) dX7_measure_15 (by decide) (fun c15 => ?_) (fun c15 => ?_)
        · have e15 : ¬ i = t := fun e9 => c15 (by rw [e9])
          refine am_iconst (I := iX7_measure) (pc := 22) (x := (-1)) dX7_measure_22 (by decide) ?_
          refine am_iastore (I := iX7_measure) (pc := 23) dX7_measure_23 md_44 rfl (vp_in_nI (show i < 24 by omega) (by decide)) ?_
          rw [nI_clamp (show i < 2 ^ 31 by omega)]
          refine am_same (S' := mdS S th pd wd ln sq st ct cl ft zn a26 a27 a28 a29 a30 a31 a32 a33 a34 a35 a36 a37 a38 a39 a40 a41 a42 a43 (upd (rcat a44 0 (fun r => if r = t then 0 else -1) i) i (-1))) rfl rfl rfl mdS_44 rfl rfl ?_
          refine am_iinc (I := iX7_measure) (pc := 24) (y := ((nI i) + 1)) (L' := [some (.ref 25), some (.int (nI t)), some (.int ((nI i) + 1)), none]) dX7_measure_24 rfl rfl rfl ?_
          refine am_goto (I := iX7_measure) (pc := 27) (tgt := 2) dX7_measure_27 (by decide) ?_
          exact am_same rfl (by rw [nI_1]) rfl (by rw [← rcat_s, Nat.zero_add, if_neg e15]) rfl rfl (ih2 (i + 1) (by omega) (by omega))
        · have e15 : i = t := (nI_eq (by omega) (by omega)).mp c15
          refine am_iconst (I := iX7_measure) (pc := 18) (x := 0) dX7_measure_18 (by decide) ?_
          refine am_goto (I := iX7_measure) (pc := 19) (tgt := 23) dX7_measure_19 (by decide) ?_
          refine am_iastore (I := iX7_measure) (pc := 23) dX7_measure_23 md_44 rfl (vp_in_nI (show i < 24 by omega) (by decide)) ?_
          rw [nI_clamp (show i < 2 ^ 31 by omega)]
          refine am_same (S' := mdS S th pd wd ln sq st ct cl ft zn a26 a27 a28 a29 a30 a31 a32 a33 a34 a35 a36 a37 a38 a39 a40 a41 a42 a43 (upd (rcat a44 0 (fun r => if r = t then 0 else -1) i) i 0)) rfl rfl rfl mdS_44 rfl rfl ?_
          refine am_iinc (I := iX7_measure) (pc := 24) (y := ((nI i) + 1)) (L' := [some (.ref 25), some (.int (nI t)), some (.int ((nI i) + 1)), none]) dX7_measure_24 rfl rfl rfl ?_
          refine am_goto (I := iX7_measure) (pc := 27) (tgt := 2) dX7_measure_27 (by decide) ?_
          exact am_same rfl (by rw [nI_1]) rfl (by rw [← rcat_s, Nat.zero_add, if_pos e15]) rfl rfl (ih2 (i + 1) (by omega) (by omega))
  exact am_same rfl (by rfl) rfl (by rw [rcat_0]) rfl rfl (loop2 _ 0 (Nat.lt_succ_self _) (Nat.zero_le _))
set_option maxRecDepth 100000 in
set_option maxHeartbeats 4000000 in
theorem q_arrow_x0 {K : am_K} {l : Launch} {S : am_S} {th pd wd ln sq st ct cl ft zn : Int32} {a26 a27 a28 a29 a30 a31 a32 a33 a34 a35 a36 a37 a38 a39 a40 a41 a42 a43 a44 : Nat → Int32} (x y : Int32) (hb : (x < 0 ∨ 24 ≤ x) ∨ (y < 0 ∨ 24 ≤ y)) : am_M K l iX7_arrow 1 0 0 [.ref 25, .int x, .int y] (mdS S th pd wd ln sq st ct cl ft zn a26 a27 a28 a29 a30 a31 a32 a33 a34 a35 a36 a37 a38 a39 a40 a41 a42 a43 a44) (fun v S' => v = some (.int (0)) ∧ mdS S 1 pd wd ln sq st ct cl ft zn a26 a27 a28 a29 a30 a31 a32 a33 a34 a35 a36 a37 a38 a39 a40 a41 a42 a43 a44 = S') (fun _ _ => False) := by
  refine am_body (by decide) rfl (by simp [Value.category]) (Nat.le_of_ble_eq_true rfl) (fun xp xe xs xm xa xb xt xc ad0 => ?_)
  show am_W _ _ _ _ _ _ _ _ _ _ _ _ _ _ _ 0 [some (.ref 25), some (.int x), some (.int y), none, none] [] (mdS S th pd wd ln sq st ct cl ft zn a26 a27 a28 a29 a30 a31 a32 a33 a34 a35 a36 a37 a38 a39 a40 a41 a42 a43 a44) 0 0
  refine am_aload_n (I := iX7_arrow) (pc := 0) dX7_arrow_0 rfl rfl ?_
  refine am_iload_n (I := iX7_arrow) (pc := 1) dX7_arrow_1 rfl rfl ?_
  refine am_bipush (I := iX7_arrow) (pc := 2) (x := 24) dX7_arrow_2 (by decide) ?_
  refine am_callS (I := iX7_arrow) (pc := 4) (st := [.ref 25]) lv_X7_83 rfl (q_below x 24) dX7_arrow_4 rfl (Nat.le_of_ble_eq_true rfl) ⟨Nat.le_of_ble_eq_true rfl, Nat.le_of_ble_eq_true rfl⟩ (Nat.le_of_ble_eq_true rfl) (Nat.le_of_ble_eq_true rfl) rfl (fun v9 T9 z9 _ => ?_) (fun _ _ h9 => h9.elim)
  obtain ⟨rfl, rfl⟩ := z9
  show am_W _ _ _ _ _ _ _ _ _ _ _ _ _ _ _ 7 [some (.ref 25), some (.int x), some (.int y), none, none] [.int (bI (blw x 24)), .ref 25] (mdS S th pd wd ln sq st ct cl ft zn a26 a27 a28 a29 a30 a31 a32 a33 a34 a35 a36 a37 a38 a39 a40 a41 a42 a43 a44) 0 0
  refine am_if_eq (I := iX7_arrow) (pc := 7) (tgt := 23) dX7_arrow_7 (by decide) (fun c7 => ?_) (fun c7 => ?_)
  · refine am_iconst (I := iX7_arrow) (pc := 23) (x := 0) dX7_arrow_23 (by decide) ?_
    refine am_iconst (I := iX7_arrow) (pc := 24) (x := 1) dX7_arrow_24 (by decide) ?_
    refine am_callV (I := iX7_arrow) (pc := 25) (st := []) lv_X7_79 (q_goes1 _) dX7_arrow_25 md_25 rfl (Nat.le_of_ble_eq_true rfl) ⟨Nat.le_of_ble_eq_true rfl, Nat.le_of_ble_eq_true rfl⟩ (Nat.le_of_ble_eq_true rfl) (Nat.le_of_ble_eq_true rfl) rfl (fun v9 T9 z9 _ => ?_) (fun _ _ h9 => h9.elim)
    obtain ⟨rfl, rfl⟩ := z9
    show am_W _ _ _ _ _ _ _ _ _ _ _ _ _ _ _ 28 [some (.ref 25), some (.int x), some (.int y), none, none] [.int 0] (mdS S 1 pd wd ln sq st ct cl ft zn a26 a27 a28 a29 a30 a31 a32 a33 a34 a35 a36 a37 a38 a39 a40 a41 a42 a43 a44) 0 0
    refine am_if_ne (I := iX7_arrow) (pc := 28) (tgt := 33) dX7_arrow_28 (by decide) (fun c28 => ?_) (fun c28 => ?_)
    · exact absurd rfl c28
    · refine am_iconst (I := iX7_arrow) (pc := 31) (x := 0) dX7_arrow_31 (by decide) ?_
      exact am_iret (I := iX7_arrow) (pc := 32) dX7_arrow_32 rfl (Nat.le_refl _) (Nat.le_refl _) (⟨rfl, rfl⟩)
  · refine am_iload_n (I := iX7_arrow) (pc := 10) dX7_arrow_10 rfl rfl ?_
    refine am_bipush (I := iX7_arrow) (pc := 11) (x := 24) dX7_arrow_11 (by decide) ?_
    refine am_callS (I := iX7_arrow) (pc := 13) (st := [.ref 25]) lv_X7_83 rfl (q_below y 24) dX7_arrow_13 rfl (Nat.le_of_ble_eq_true rfl) ⟨Nat.le_of_ble_eq_true rfl, Nat.le_of_ble_eq_true rfl⟩ (Nat.le_of_ble_eq_true rfl) (Nat.le_of_ble_eq_true rfl) rfl (fun v9 T9 z9 _ => ?_) (fun _ _ h9 => h9.elim)
    obtain ⟨rfl, rfl⟩ := z9
    show am_W _ _ _ _ _ _ _ _ _ _ _ _ _ _ _ 16 [some (.ref 25), some (.int x), some (.int y), none, none] [.int (bI (blw y 24)), .ref 25] (mdS S th pd wd ln sq st ct cl ft zn a26 a27 a28 a29 a30 a31 a32 a33 a34 a35 a36 a37 a38 a39 a40 a41 a42 a43 a44) 0 0
    refine am_if_eq (I := iX7_arrow) (pc := 16) (tgt := 23) dX7_arrow_16 (by decide) (fun c16 => ?_) (fun c16 => ?_)
    · refine am_iconst (I := iX7_arrow) (pc := 23) (x := 0) dX7_arrow_23 (by decide) ?_
      refine am_iconst (I := iX7_arrow) (pc := 24) (x := 1) dX7_arrow_24 (by decide) ?_
      refine am_callV (I := iX7_arrow) (pc := 25) (st := []) lv_X7_79 (q_goes1 _) dX7_arrow_25 md_25 rfl (Nat.le_of_ble_eq_true rfl) ⟨Nat.le_of_ble_eq_true rfl, Nat.le_of_ble_eq_true rfl⟩ (Nat.le_of_ble_eq_true rfl) (Nat.le_of_ble_eq_true rfl) rfl (fun v9 T9 z9 _ => ?_) (fun _ _ h9 => h9.elim)
      obtain ⟨rfl, rfl⟩ := z9
      show am_W _ _ _ _ _ _ _ _ _ _ _ _ _ _ _ 28 [some (.ref 25), some (.int x), some (.int y), none, none] [.int 0] (mdS S 1 pd wd ln sq st ct cl ft zn a26 a27 a28 a29 a30 a31 a32 a33 a34 a35 a36 a37 a38 a39 a40 a41 a42 a43 a44) 0 0
      refine am_if_ne (I := iX7_arrow) (pc := 28) (tgt := 33) dX7_arrow_28 (by decide) (fun c28 => ?_) (fun c28 => ?_)
      · exact absurd rfl c28
      · refine am_iconst (I := iX7_arrow) (pc := 31) (x := 0) dX7_arrow_31 (by decide) ?_
        exact am_iret (I := iX7_arrow) (pc := 32) dX7_arrow_32 rfl (Nat.le_refl _) (Nat.le_refl _) (⟨rfl, rfl⟩)
    · exact absurd hb (fun q => q.elim (fun q => c7 (by rw [blw_f q]; rfl)) (fun q => c16 (by rw [blw_f q]; rfl)))
set_option maxRecDepth 100000 in
set_option maxHeartbeats 4000000 in
theorem q_arrow_s {K : am_K} {l : Launch} {S : am_S} {th pd wd ln sq st ct cl ft zn : Int32} {a26 a27 a28 a29 a30 a31 a32 a33 a34 a35 a36 a37 a38 a39 a40 a41 a42 a43 a44 : Nat → Int32} (a : Nat) (ha : a < 24) : am_M K l iX7_arrow 1 0 0 [.ref 25, .int (nI a), .int (nI a)] (mdS S th pd wd ln sq st ct cl ft zn a26 a27 a28 a29 a30 a31 a32 a33 a34 a35 a36 a37 a38 a39 a40 a41 a42 a43 a44) (fun v S' => v = some (.int (nI a)) ∧ mdS S 0 pd wd ln sq st ct cl ft zn a26 a27 a28 a29 a30 a31 a32 a33 a34 a35 a36 a37 a38 a39 a40 a41 a42 a43 (mfar a43 a44 a) = S') (fun _ _ => False) := by
  refine am_body (by decide) rfl (by simp [Value.category]) (Nat.le_of_ble_eq_true rfl) (fun xp xe xs xm xa xb xt xc ad0 => ?_)
  show am_W _ _ _ _ _ _ _ _ _ _ _ _ _ _ _ 0 [some (.ref 25), some (.int (nI a)), some (.int (nI a)), none, none] [] (mdS S th pd wd ln sq st ct cl ft zn a26 a27 a28 a29 a30 a31 a32 a33 a34 a35 a36 a37 a38 a39 a40 a41 a42 a43 a44) 0 0
  refine am_aload_n (I := iX7_arrow) (pc := 0) dX7_arrow_0 rfl rfl ?_
  refine am_iload_n (I := iX7_arrow) (pc := 1) dX7_arrow_1 rfl rfl ?_
  refine am_bipush (I := iX7_arrow) (pc := 2) (x := 24) dX7_arrow_2 (by decide) ?_
  refine am_callS (I := iX7_arrow) (pc := 4) (st := [.ref 25]) lv_X7_83 rfl (q_below (nI a) 24) dX7_arrow_4 rfl (Nat.le_of_ble_eq_true rfl) ⟨Nat.le_of_ble_eq_true rfl, Nat.le_of_ble_eq_true rfl⟩ (Nat.le_of_ble_eq_true rfl) (Nat.le_of_ble_eq_true rfl) rfl (fun v9 T9 z9 _ => ?_) (fun _ _ h9 => h9.elim)
  obtain ⟨rfl, rfl⟩ := z9
  show am_W _ _ _ _ _ _ _ _ _ _ _ _ _ _ _ 7 [some (.ref 25), some (.int (nI a)), some (.int (nI a)), none, none] [.int (bI (blw (nI a) 24)), .ref 25] (mdS S th pd wd ln sq st ct cl ft zn a26 a27 a28 a29 a30 a31 a32 a33 a34 a35 a36 a37 a38 a39 a40 a41 a42 a43 a44) 0 0
  refine am_if_eq (I := iX7_arrow) (pc := 7) (tgt := 23) dX7_arrow_7 (by decide) (fun c7 => ?_) (fun c7 => ?_)
  · exact absurd c7 (by rw [show (24 : Int32) = nI 24 from rfl, blw_t ha (by decide)]; decide)
  · refine am_iload_n (I := iX7_arrow) (pc := 10) dX7_arrow_10 rfl rfl ?_
    refine am_bipush (I := iX7_arrow) (pc := 11) (x := 24) dX7_arrow_11 (by decide) ?_
    refine am_callS (I := iX7_arrow) (pc := 13) (st := [.ref 25]) lv_X7_83 rfl (q_below (nI a) 24) dX7_arrow_13 rfl (Nat.le_of_ble_eq_true rfl) ⟨Nat.le_of_ble_eq_true rfl, Nat.le_of_ble_eq_true rfl⟩ (Nat.le_of_ble_eq_true rfl) (Nat.le_of_ble_eq_true rfl) rfl (fun v9 T9 z9 _ => ?_) (fun _ _ h9 => h9.elim)
    obtain ⟨rfl, rfl⟩ := z9
    show am_W _ _ _ _ _ _ _ _ _ _ _ _ _ _ _ 16 [some (.ref 25), some (.int (nI a)), some (.int (nI a)), none, none] [.int (bI (blw (nI a) 24)), .ref 25] (mdS S th pd wd ln sq st ct cl ft zn a26 a27 a28 a29 a30 a31 a32 a33 a34 a35 a36 a37 a38 a39 a40 a41 a42 a43 a44) 0 0
    refine am_if_eq (I := iX7_arrow) (pc := 16) (tgt := 23) dX7_arrow_16 (by decide) (fun c16 => ?_) (fun c16 => ?_)
    · exact absurd c16 (by rw [show (24 : Int32) = nI 24 from rfl, blw_t ha (by decide)]; decide)
    · refine am_iconst (I := iX7_arrow) (pc := 19) (x := 1) dX7_arrow_19 (by decide) ?_
      refine am_goto (I := iX7_arrow) (pc := 20) (tgt := 24) dX7_arrow_20 (by decide) ?_
      refine am_iconst (I := iX7_arrow) (pc := 24) (x := 1) dX7_arrow_24 (by decide) ?_
      refine am_callV (I := iX7_arrow) (pc := 25) (st := []) lv_X7_79 (q_goes0) dX7_arrow_25 md_25 rfl (Nat.le_of_ble_eq_true rfl) ⟨Nat.le_of_ble_eq_true rfl, Nat.le_of_ble_eq_true rfl⟩ (Nat.le_of_ble_eq_true rfl) (Nat.le_of_ble_eq_true rfl) rfl (fun v9 T9 z9 _ => ?_) (fun _ _ h9 => h9.elim)
      obtain ⟨rfl, rfl⟩ := z9
      show am_W _ _ _ _ _ _ _ _ _ _ _ _ _ _ _ 28 [some (.ref 25), some (.int (nI a)), some (.int (nI a)), none, none] [.int 1] (mdS S 0 pd wd ln sq st ct cl ft zn a26 a27 a28 a29 a30 a31 a32 a33 a34 a35 a36 a37 a38 a39 a40 a41 a42 a43 a44) 0 0
      refine am_if_ne (I := iX7_arrow) (pc := 28) (tgt := 33) dX7_arrow_28 (by decide) (fun c28 => ?_) (fun c28 => ?_)
      · refine am_aload_n (I := iX7_arrow) (pc := 33) dX7_arrow_33 rfl rfl ?_
        refine am_iload_n (I := iX7_arrow) (pc := 34) dX7_arrow_34 rfl rfl ?_
        refine am_callV (I := iX7_arrow) (pc := 35) (st := []) lv_X7_147 (q_measure a ha) dX7_arrow_35 md_25 rfl (Nat.le_of_ble_eq_true rfl) ⟨Nat.le_of_ble_eq_true rfl, Nat.le_of_ble_eq_true rfl⟩ (Nat.le_of_ble_eq_true rfl) (Nat.le_of_ble_eq_true rfl) rfl (fun v9 T9 z9 _ => ?_) (fun _ _ h9 => h9.elim)
        obtain ⟨rfl, rfl⟩ := z9
        show am_W _ _ _ _ _ _ _ _ _ _ _ _ _ _ _ 38 [some (.ref 25), some (.int (nI a)), some (.int (nI a)), none, none] [] (mdS S 0 pd wd ln sq st ct cl ft zn a26 a27 a28 a29 a30 a31 a32 a33 a34 a35 a36 a37 a38 a39 a40 a41 a42 a43 (mfar a43 a44 a)) 0 0
        refine am_iload_n (I := iX7_arrow) (pc := 38) dX7_arrow_38 rfl rfl ?_
        refine am_iload_n (I := iX7_arrow) (pc := 39) dX7_arrow_39 rfl rfl ?_
        refine am_icmp_ne (I := iX7_arrow) (pc := 40) (tgt := 47) dX7_arrow_40 (by decide) (fun c40 => ?_) (fun c40 => ?_)
        · exact absurd rfl c40
        · refine am_iload_n (I := iX7_arrow) (pc := 43) dX7_arrow_43 rfl rfl ?_
          refine am_goto (I := iX7_arrow) (pc := 44) (tgt := 48) dX7_arrow_44 (by decide) ?_
          refine am_istore_n (I := iX7_arrow) (pc := 48) (L' := [some (.ref 25), some (.int (nI a)), some (.int (nI a)), some (.int (nI a)), none]) dX7_arrow_48 rfl (by decide) rfl ?_
          refine am_bipush (I := iX7_arrow) (pc := 49) (x := 23) dX7_arrow_49 (by decide) ?_
          refine am_istore (I := iX7_arrow) (pc := 51) (L' := [some (.ref 25), some (.int (nI a)), some (.int (nI a)), some (.int (nI a)), some (.int 23)]) dX7_arrow_51 (by decide) rfl ?_
          refine am_iload (I := iX7_arrow) (pc := 53) dX7_arrow_53 rfl ?_
          refine am_if_lt (I := iX7_arrow) (pc := 55) (tgt := 120) dX7_arrow_55 (by decide) (fun c55 => ?_) (fun c55 => ?_)
          · exact absurd c55 (by decide)
          · refine am_iload_n (I := iX7_arrow) (pc := 58) dX7_arrow_58 rfl rfl ?_
            refine am_iload_n (I := iX7_arrow) (pc := 59) dX7_arrow_59 rfl rfl ?_
            refine am_icmp_eq (I := iX7_arrow) (pc := 60) (tgt := 120) dX7_arrow_60 (by decide) (fun c60 => ?_) (fun c60 => ?_)
            · refine am_iload_n (I := iX7_arrow) (pc := 120) dX7_arrow_120 rfl rfl ?_
              exact am_iret (I := iX7_arrow) (pc := 121) dX7_arrow_121 rfl (Nat.le_refl _) (Nat.le_refl _) (⟨rfl, rfl⟩)
            · exact absurd rfl c60
      · exact absurd c28 (by decide)
def arb (W F : Nat → Int32) (a : Nat) : Nat → Int32
  | 0 => -1
  | i + 1 => if W (24 * a + (23 - i)) = 0 then arb W F a i else if F (23 - i) = -1 then arb W F a i else if F (23 - i) + 1 = F a then nI (23 - i) else arb W F a i
set_option maxRecDepth 100000 in
set_option maxHeartbeats 4000000 in
theorem q_arrow {K : am_K} {l : Launch} {S : am_S} {th pd wd ln sq st ct cl ft zn : Int32} {a26 a27 a28 a29 a30 a31 a32 a33 a34 a35 a36 a37 a38 a39 a40 a41 a42 a43 a44 : Nat → Int32} (a b : Nat) (ha : a < 24) (hb : b < 24) (hab : ¬ a = b) : am_M K l iX7_arrow 1 0 0 [.ref 25, .int (nI a), .int (nI b)] (mdS S th pd wd ln sq st ct cl ft zn a26 a27 a28 a29 a30 a31 a32 a33 a34 a35 a36 a37 a38 a39 a40 a41 a42 a43 a44) (fun v S' => v = some (.int (arb a43 (mfar a43 a44 b) a 24)) ∧ mdS S 0 pd wd ln sq st ct cl ft zn a26 a27 a28 a29 a30 a31 a32 a33 a34 a35 a36 a37 a38 a39 a40 a41 a42 a43 (mfar a43 a44 b) = S') (fun _ _ => False) := by
  refine am_body (by decide) rfl (by simp [Value.category]) (Nat.le_of_ble_eq_true rfl) (fun xp xe xs xm xa xb xt xc ad0 => ?_)
  show am_W _ _ _ _ _ _ _ _ _ _ _ _ _ _ _ 0 [some (.ref 25), some (.int (nI a)), some (.int (nI b)), none, none] [] (mdS S th pd wd ln sq st ct cl ft zn a26 a27 a28 a29 a30 a31 a32 a33 a34 a35 a36 a37 a38 a39 a40 a41 a42 a43 a44) 0 0
  refine am_aload_n (I := iX7_arrow) (pc := 0) dX7_arrow_0 rfl rfl ?_
  refine am_iload_n (I := iX7_arrow) (pc := 1) dX7_arrow_1 rfl rfl ?_
  refine am_bipush (I := iX7_arrow) (pc := 2) (x := 24) dX7_arrow_2 (by decide) ?_
  refine am_callS (I := iX7_arrow) (pc := 4) (st := [.ref 25]) lv_X7_83 rfl (q_below (nI a) 24) dX7_arrow_4 rfl (Nat.le_of_ble_eq_true rfl) ⟨Nat.le_of_ble_eq_true rfl, Nat.le_of_ble_eq_true rfl⟩ (Nat.le_of_ble_eq_true rfl) (Nat.le_of_ble_eq_true rfl) rfl (fun v9 T9 z9 _ => ?_) (fun _ _ h9 => h9.elim)
  obtain ⟨rfl, rfl⟩ := z9
  show am_W _ _ _ _ _ _ _ _ _ _ _ _ _ _ _ 7 [some (.ref 25), some (.int (nI a)), some (.int (nI b)), none, none] [.int (bI (blw (nI a) 24)), .ref 25] (mdS S th pd wd ln sq st ct cl ft zn a26 a27 a28 a29 a30 a31 a32 a33 a34 a35 a36 a37 a38 a39 a40 a41 a42 a43 a44) 0 0
  refine am_if_eq (I := iX7_arrow) (pc := 7) (tgt := 23) dX7_arrow_7 (by decide) (fun c7 => ?_) (fun c7 => ?_)
  · exact absurd c7 (by rw [show (24 : Int32) = nI 24 from rfl, blw_t ha (by decide)]; decide)
  · refine am_iload_n (I := iX7_arrow) (pc := 10) dX7_arrow_10 rfl rfl ?_
    refine am_bipush (I := iX7_arrow) (pc := 11) (x := 24) dX7_arrow_11 (by decide) ?_
    refine am_callS (I := iX7_arrow) (pc := 13) (st := [.ref 25]) lv_X7_83 rfl (q_below (nI b) 24) dX7_arrow_13 rfl (Nat.le_of_ble_eq_true rfl) ⟨Nat.le_of_ble_eq_true rfl, Nat.le_of_ble_eq_true rfl⟩ (Nat.le_of_ble_eq_true rfl) (Nat.le_of_ble_eq_true rfl) rfl (fun v9 T9 z9 _ => ?_) (fun _ _ h9 => h9.elim)
    obtain ⟨rfl, rfl⟩ := z9
    show am_W _ _ _ _ _ _ _ _ _ _ _ _ _ _ _ 16 [some (.ref 25), some (.int (nI a)), some (.int (nI b)), none, none] [.int (bI (blw (nI b) 24)), .ref 25] (mdS S th pd wd ln sq st ct cl ft zn a26 a27 a28 a29 a30 a31 a32 a33 a34 a35 a36 a37 a38 a39 a40 a41 a42 a43 a44) 0 0
    refine am_if_eq (I := iX7_arrow) (pc := 16) (tgt := 23) dX7_arrow_16 (by decide) (fun c16 => ?_) (fun c16 => ?_)
    · exact absurd c16 (by rw [show (24 : Int32) = nI 24 from rfl, blw_t hb (by decide)]; decide)
    · refine am_iconst (I := iX7_arrow) (pc := 19) (x := 1) dX7_arrow_19 (by decide) ?_
      refine am_goto (I := iX7_arrow) (pc := 20) (tgt := 24) dX7_arrow_20 (by decide) ?_
      refine am_iconst (I := iX7_arrow) (pc := 24) (x := 1) dX7_arrow_24 (by decide) ?_
      refine am_callV (I := iX7_arrow) (pc := 25) (st := []) lv_X7_79 (q_goes0) dX7_arrow_25 md_25 rfl (Nat.le_of_ble_eq_true rfl) ⟨Nat.le_of_ble_eq_true rfl, Nat.le_of_ble_eq_true rfl⟩ (Nat.le_of_ble_eq_true rfl) (Nat.le_of_ble_eq_true rfl) rfl (fun v9 T9 z9 _ => ?_) (fun _ _ h9 => h9.elim)
      obtain ⟨rfl, rfl⟩ := z9
      show am_W _ _ _ _ _ _ _ _ _ _ _ _ _ _ _ 28 [some (.ref 25), some (.int (nI a)), some (.int (nI b)), none, none] [.int 1] (mdS S 0 pd wd ln sq st ct cl ft zn a26 a27 a28 a29 a30 a31 a32 a33 a34 a35 a36 a37 a38 a39 a40 a41 a42 a43 a44) 0 0
      refine am_if_ne (I := iX7_arrow) (pc := 28) (tgt := 33) dX7_arrow_28 (by decide) (fun c28 => ?_) (fun c28 => ?_)
      · refine am_aload_n (I := iX7_arrow) (pc := 33) dX7_arrow_33 rfl rfl ?_
        refine am_iload_n (I := iX7_arrow) (pc := 34) dX7_arrow_34 rfl rfl ?_
        refine am_callV (I := iX7_arrow) (pc := 35) (st := []) lv_X7_147 (q_measure b hb) dX7_arrow_35 md_25 rfl (Nat.le_of_ble_eq_true rfl) ⟨Nat.le_of_ble_eq_true rfl, Nat.le_of_ble_eq_true rfl⟩ (Nat.le_of_ble_eq_true rfl) (Nat.le_of_ble_eq_true rfl) rfl (fun v9 T9 z9 _ => ?_) (fun _ _ h9 => h9.elim)
        obtain ⟨rfl, rfl⟩ := z9
        show am_W _ _ _ _ _ _ _ _ _ _ _ _ _ _ _ 38 [some (.ref 25), some (.int (nI a)), some (.int (nI b)), none, none] [] (mdS S 0 pd wd ln sq st ct cl ft zn a26 a27 a28 a29 a30 a31 a32 a33 a34 a35 a36 a37 a38 a39 a40 a41 a42 a43 (mfar a43 a44 b)) 0 0
        refine am_iload_n (I := iX7_arrow) (pc := 38) dX7_arrow_38 rfl rfl ?_
        refine am_iload_n (I := iX7_arrow) (pc := 39) dX7_arrow_39 rfl rfl ?_
        refine am_icmp_ne (I := iX7_arrow) (pc := 40) (tgt := 47) dX7_arrow_40 (by decide) (fun c40 => ?_) (fun c40 => ?_)
        · refine am_iconst (I := iX7_arrow) (pc := 47) (x := (-1)) dX7_arrow_47 (by decide) ?_
          refine am_istore_n (I := iX7_arrow) (pc := 48) (L' := [some (.ref 25), some (.int (nI a)), some (.int (nI b)), some (.int (-1)), none]) dX7_arrow_48 rfl (by decide) rfl ?_
          refine am_bipush (I := iX7_arrow) (pc := 49) (x := 23) dX7_arrow_49 (by decide) ?_
          refine am_istore (I := iX7_arrow) (pc := 51) (L' := [some (.ref 25), some (.int (nI a)), some (.int (nI b)), some (.int (-1)), some (.int 23)]) dX7_arrow_51 (by decide) rfl ?_
          have loop53 : ∀ (k53 : Nat) (i : Nat), 24 - i < k53 → (i ≤ 24) → am_W K iX7_arrow xp l xe (am_room 1 0 0) xs xm xa xb xt xc (mdS S th pd wd ln sq st ct cl ft zn a26 a27 a28 a29 a30 a31 a32 a33 a34 a35 a36 a37 a38 a39 a40 a41 a42 a43 a44) ad0 (am_E K ad0 (mdS S th pd wd ln sq st ct cl ft zn a26 a27 a28 a29 a30 a31 a32 a33 a34 a35 a36 a37 a38 a39 a40 a41 a42 a43 a44) (fun v S' => v = some (.int (arb a43 (mfar a43 a44 b) a 24)) ∧ mdS S 0 pd wd ln sq st ct cl ft zn a26 a27 a28 a29 a30 a31 a32 a33 a34 a35 a36 a37 a38 a39 a40 a41 a42 a43 (mfar a43 a44 b) = S') (fun _ _ => False) xb xa xs 0 0) 53 [some (.ref 25), some (.int (nI a)), some (.int (nI b)), some (.int (arb a43 (mfar a43 a44 b) a i)), some (.int (nI (24 - i) - 1))] [] (mdS S 0 pd wd ln sq st ct cl ft zn a26 a27 a28 a29 a30 a31 a32 a33 a34 a35 a36 a37 a38 a39 a40 a41 a42 a43 (mfar a43 a44 b)) 0 0 := by
            intro k53
            induction k53 with
            | zero => intro i h9; exact absurd h9 (Nat.not_lt_zero _)
            | succ k53 ih53 =>
              intro i hm53 hi
              refine am_iload (I := iX7_arrow) (pc := 53) dX7_arrow_53 rfl ?_
              refine am_if_lt (I := iX7_arrow) (pc := 55) (tgt := 120) dX7_arrow_55 (by decide) (fun c55 => ?_) (fun c55 => ?_)
              · have gi : i = 24 := by
                  rcases Nat.lt_or_ge i 24 with q9 | q9
                  · exfalso
                    rw [show 24 - i = (23 - i) + 1 by omega, nI_pred] at c55
                    exact nI_pos (by omega) c55
                  · omega
                refine am_iload_n (I := iX7_arrow) (pc := 120) dX7_arrow_120 rfl rfl ?_
                exact am_iret (I := iX7_arrow) (pc := 121) dX7_arrow_121 rfl (Nat.le_refl _) (Nat.le_refl _) (⟨by rw [gi], rfl⟩)
              · have li : i < 24 := by
                  rcases Nat.lt_or_ge i 24 with q9 | q9
                  · exact q9
                  · exact absurd (show nI (24 - i) - 1 < 0 by rw [show 24 - i = 0 by omega]; decide) c55
                have e55 : nI (24 - i) - 1 = nI (23 - i) := by rw [show 24 - i = (23 - i) + 1 by omega]; exact nI_pred _
                rw [e55]
                refine am_iload_n (I := iX7_arrow) (pc := 58) dX7_arrow_58 rfl rfl ?_
                refine am_iload_n (I := iX7_arrow) (pc := 59) dX7_arrow_59 rfl rfl ?_
                refine am_icmp_eq (I := iX7_arrow) (pc := 60) (tgt := 120) dX7_arrow_60 (by decide) (fun c60 => ?_) (fun c60 => ?_)
                · exact absurd ((nI_eq (by omega) (by omega)).mp c60) hab
                · refine am_aload_n (I := iX7_arrow) (pc := 63) dX7_arrow_63 rfl rfl ?_
                  refine am_getf (I := iX7_arrow) (pc := 64) lf_X7_61 dX7_arrow_64 md_25 rfl ?_
                  refine am_bipush (I := iX7_arrow) (pc := 67) (x := 24) dX7_arrow_67 (by decide) ?_
                  refine am_iload_n (I := iX7_arrow) (pc := 69) dX7_arrow_69 rfl rfl ?_
                  refine am_imul (I := iX7_arrow) (pc := 70) dX7_arrow_70 ?_
                  refine am_iload (I := iX7_arrow) (pc := 71) dX7_arrow_71 rfl ?_
                  refine am_iadd (I := iX7_arrow) (pc := 73) dX7_arrow_73 ?_
                  rw [ix24]
                  refine am_baload (I := iX7_arrow) (pc := 74) dX7_arrow_74 md_43 rfl (vp_in_nI (show 24 * a + (23 - i) < 576 by omega) (by decide)) ?_
                  rw [nI_clamp (show 24 * a + (23 - i) < 2 ^ 31 by omega)]
                  refine am_if_eq (I := iX7_arrow) (pc := 75) (tgt := 112) dX7_arrow_75 (by decide) (fun c75 => ?_) (fun c75 => ?_)
                  · refine am_iload_n (I := iX7_arrow) (pc := 112) dX7_arrow_112 rfl rfl ?_
                    refine am_istore_n (I := iX7_arrow) (pc := 113) (L' := [some (.ref 25), some (.int (nI a)), some (.int (nI b)), some (.int (arb a43 (mfar a43 a44 b) a i)), some (.int (nI (23 - i)))]) dX7_arrow_113 rfl (by decide) rfl ?_
                    refine am_iinc (I := iX7_arrow) (pc := 114) (y := ((nI (23 - i)) + (-1))) (L' := [some (.ref 25), some (.int (nI a)), some (.int (nI b)), some (.int (arb a43 (mfar a43 a44 b) a i)), some (.int ((nI (23 - i)) + (-1)))]) dX7_arrow_114 rfl rfl rfl ?_
                    refine am_goto (I := iX7_arrow) (pc := 117) (tgt := 53) dX7_arrow_117 (by decide) ?_
                    exact am_same rfl (by rw [arb, if_pos c75, add_m1, show 24 - (i + 1) = 23 - i by omega]) rfl rfl rfl rfl (ih53 (i + 1) (by omega) (by omega))
                  · refine am_aload_n (I := iX7_arrow) (pc := 78) dX7_arrow_78 rfl rfl ?_
                    refine am_getf (I := iX7_arrow) (pc := 79) lf_X7_65 dX7_arrow_79 md_25 rfl ?_
                    refine am_iload (I := iX7_arrow) (pc := 82) dX7_arrow_82 rfl ?_
                    refine am_iaload (I := iX7_arrow) (pc := 84) dX7_arrow_84 md_44 rfl (vp_in_nI (show 23 - i < 24 by omega) (by decide)) ?_
                    rw [nI_clamp (show 23 - i < 2 ^ 31 by omega)]
                    refine am_iconst (I := iX7_arrow) (pc := 85) (x := (-1)) dX7_arrow_85 (by decide) ?_
                    refine am_icmp_eq (I := iX7_arrow) (pc := 86) (tgt := 112) dX7_arrow_86 (by decide) (fun c86 => ?_) (fun c86 => ?_)
                    · refine am_iload_n (I := iX7_arrow) (pc := 112) dX7_arrow_112 rfl rfl ?_
                      refine am_istore_n (I := iX7_arrow) (pc := 113) (L' := [some (.ref 25), some (.int (nI a)), some (.int (nI b)), some (.int (arb a43 (mfar a43 a44 b) a i)), some (.int (nI (23 - i)))]) dX7_arrow_113 rfl (by decide) rfl ?_
                      refine am_iinc (I := iX7_arrow) (pc := 114) (y := ((nI (23 - i)) + (-1))) (L' := [some (.ref 25), some (.int (nI a)), some (.int (nI b)), some (.int (arb a43 (mfar a43 a44 b) a i)), some (.int ((nI (23 - i)) + (-1)))]) dX7_arrow_114 rfl rfl rfl ?_
                      refine am_goto (I := iX7_arrow) (pc := 117) (tgt := 53) dX7_arrow_117 (by decide) ?_
                      exact am_same rfl (by rw [arb, if_neg c75, if_pos c86, add_m1, show 24 - (i + 1) = 23 - i by omega]) rfl rfl rfl rfl (ih53 (i + 1) (by omega) (by omega))
                    · refine am_aload_n (I := iX7_arrow) (pc := 89) dX7_arrow_89 rfl rfl ?_
                      refine am_getf (I := iX7_arrow) (pc := 90) lf_X7_65 dX7_arrow_90 md_25 rfl ?_
                      refine am_iload (I := iX7_arrow) (pc := 93) dX7_arrow_93 rfl ?_
                      refine am_iaload (I := iX7_arrow) (pc := 95) dX7_arrow_95 md_44 rfl (vp_in_nI (show 23 - i < 24 by omega) (by decide)) ?_
                      rw [nI_clamp (show 23 - i < 2 ^ 31 by omega)]
                      refine am_iconst (I := iX7_arrow) (pc := 96) (x := 1) dX7_arrow_96 (by decide) ?_
                      refine am_iadd (I := iX7_arrow) (pc := 97) dX7_arrow_97 ?_
                      refine am_aload_n (I := iX7_arrow) (pc := 98) dX7_arrow_98 rfl rfl ?_
                      refine am_getf (I := iX7_arrow) (pc := 99) lf_X7_65 dX7_arrow_99 md_25 rfl ?_
                      refine am_iload_n (I := iX7_arrow) (pc := 102) dX7_arrow_102 rfl rfl ?_
                      refine am_iaload (I := iX7_arrow) (pc := 103) dX7_arrow_103 md_44 rfl (vp_in_nI (show a < 24 by omega) (by decide)) ?_
                      rw [nI_clamp (show a < 2 ^ 31 by omega)]
                      refine am_icmp_ne (I := iX7_arrow) (pc := 104) (tgt := 112) dX7_arrow_104 (by decide) (fun c104 => ?_) (fun c104 => ?_)
                      · refine am_iload_n (I := iX7_arrow) (pc := 112) dX7_arrow_112 rfl rfl ?_
                        refine am_istore_n (I := iX7_arrow) (pc := 113) (L' := [some (.ref 25), some (.int (nI a)), some (.int (nI b)), some (.int (arb a43 (mfar a43 a44 b) a i)), some (.int (nI (23 - i)))]) dX7_arrow_113 rfl (by decide) rfl ?_
                        refine am_iinc (I := iX7_arrow) (pc := 114) (y := ((nI (23 - i)) + (-1))) (L' := [some (.ref 25), some (.int (nI a)), some (.int (nI b)), some (.int (arb a43 (mfar a43 a44 b) a i)), some (.int ((nI (23 - i)) + (-1)))]) dX7_arrow_114 rfl rfl rfl ?_
                        refine am_goto (I := iX7_arrow) (pc := 117) (tgt := 53) dX7_arrow_117 (by decide) ?_
                        exact am_same rfl (by rw [arb, if_neg c75, if_neg c86, if_neg c104, add_m1, show 24 - (i + 1) = 23 - i by omega]) rfl rfl rfl rfl (ih53 (i + 1) (by omega) (by omega))
                      · refine am_iload (I := iX7_arrow) (pc := 107) dX7_arrow_107 rfl ?_
                        refine am_goto (I := iX7_arrow) (pc := 109) (tgt := 113) dX7_arrow_109 (by decide) ?_
                        refine am_istore_n (I := iX7_arrow) (pc := 113) (L' := [some (.ref 25), some (.int (nI a)), some (.int (nI b)), some (.int (nI (23 - i))), some (.int (nI (23 - i)))]) dX7_arrow_113 rfl (by decide) rfl ?_
                        refine am_iinc (I := iX7_arrow) (pc := 114) (y := ((nI (23 - i)) + (-1))) (L' := [some (.ref 25), some (.int (nI a)), some (.int (nI b)), some (.int (nI (23 - i))), some (.int ((nI (23 - i)) + (-1)))]) dX7_arrow_114 rfl rfl rfl ?_
                        refine am_goto (I := iX7_arrow) (pc := 117) (tgt := 53) dX7_arrow_117 (by decide) ?_
                        exact am_same rfl (by rw [arb, if_neg c75, if_neg c86, if_pos c104, add_m1, show 24 - (i + 1) = 23 - i by omega]) rfl rfl rfl rfl (ih53 (i + 1) (by omega) (by omega))
          exact am_same rfl (by rfl) rfl rfl rfl rfl (loop53 _ 0 (Nat.lt_succ_self _) (Nat.zero_le _))
        · exact absurd ((nI_eq (by omega) (by omega)).mp c40) hab
      · exact absurd c28 (by decide)
set_option maxRecDepth 100000 in
set_option maxHeartbeats 4000000 in
theorem q_count_x0 {K : am_K} {l : Launch} {S : am_S} {th pd wd ln sq st ct cl ft zn : Int32} {a26 a27 a28 a29 a30 a31 a32 a33 a34 a35 a36 a37 a38 a39 a40 a41 a42 a43 a44 : Nat → Int32} (x : Int32) (hb : x < 0 ∨ 6 ≤ x) : am_M K l iX7_count 1 0 0 [.ref 25, .int x] (mdS S th pd wd ln sq st ct cl ft zn a26 a27 a28 a29 a30 a31 a32 a33 a34 a35 a36 a37 a38 a39 a40 a41 a42 a43 a44) (fun v S' => v = some (.int (0)) ∧ mdS S 1 pd wd ln sq st ct cl ft zn a26 a27 a28 a29 a30 a31 a32 a33 a34 a35 a36 a37 a38 a39 a40 a41 a42 a43 a44 = S') (fun _ _ => False) := by
  refine am_body (by decide) rfl (by simp [Value.category]) (Nat.le_of_ble_eq_true rfl) (fun xp xe xs xm xa xb xt xc ad0 => ?_)
  show am_W _ _ _ _ _ _ _ _ _ _ _ _ _ _ _ 0 [some (.ref 25), some (.int x), none, none] [] (mdS S th pd wd ln sq st ct cl ft zn a26 a27 a28 a29 a30 a31 a32 a33 a34 a35 a36 a37 a38 a39 a40 a41 a42 a43 a44) 0 0
  refine am_aload_n (I := iX7_count) (pc := 0) dX7_count_0 rfl rfl ?_
  refine am_iload_n (I := iX7_count) (pc := 1) dX7_count_1 rfl rfl ?_
  refine am_bipush (I := iX7_count) (pc := 2) (x := 6) dX7_count_2 (by decide) ?_
  refine am_callS (I := iX7_count) (pc := 4) (st := [.ref 25]) lv_X7_83 rfl (q_below x 6) dX7_count_4 rfl (Nat.le_of_ble_eq_true rfl) ⟨Nat.le_of_ble_eq_true rfl, Nat.le_of_ble_eq_true rfl⟩ (Nat.le_of_ble_eq_true rfl) (Nat.le_of_ble_eq_true rfl) rfl (fun v9 T9 z9 _ => ?_) (fun _ _ h9 => h9.elim)
  obtain ⟨rfl, rfl⟩ := z9
  show am_W _ _ _ _ _ _ _ _ _ _ _ _ _ _ _ 7 [some (.ref 25), some (.int x), none, none] [.int (bI (blw x 6)), .ref 25] (mdS S th pd wd ln sq st ct cl ft zn a26 a27 a28 a29 a30 a31 a32 a33 a34 a35 a36 a37 a38 a39 a40 a41 a42 a43 a44) 0 0
  rw [bI_f (blw_f hb)]
  refine am_iconst (I := iX7_count) (pc := 7) (x := 1) dX7_count_7 (by decide) ?_
  refine am_callV (I := iX7_count) (pc := 8) (st := []) lv_X7_79 (q_goes1 _) dX7_count_8 md_25 rfl (Nat.le_of_ble_eq_true rfl) ⟨Nat.le_of_ble_eq_true rfl, Nat.le_of_ble_eq_true rfl⟩ (Nat.le_of_ble_eq_true rfl) (Nat.le_of_ble_eq_true rfl) rfl (fun v9 T9 z9 _ => ?_) (fun _ _ h9 => h9.elim)
  obtain ⟨rfl, rfl⟩ := z9
  show am_W _ _ _ _ _ _ _ _ _ _ _ _ _ _ _ 11 [some (.ref 25), some (.int x), none, none] [.int 0] (mdS S 1 pd wd ln sq st ct cl ft zn a26 a27 a28 a29 a30 a31 a32 a33 a34 a35 a36 a37 a38 a39 a40 a41 a42 a43 a44) 0 0
  refine am_if_ne (I := iX7_count) (pc := 11) (tgt := 16) dX7_count_11 (by decide) (fun c11 => ?_) (fun c11 => ?_)
  · exact absurd rfl c11
  · refine am_iconst (I := iX7_count) (pc := 14) (x := 0) dX7_count_14 (by decide) ?_
    exact am_iret (I := iX7_count) (pc := 15) dX7_count_15 rfl (Nat.le_refl _) (Nat.le_refl _) (⟨rfl, rfl⟩)
def sumN (cn : Nat → Nat) : Nat → Nat
  | 0 => 0
  | k + 1 => sumN cn k + cn k
def wyp (W : Nat → Int32) (k : Nat) : Bool := !decide (W k = 0) && decide (k / 24 < k % 24)
set_option maxRecDepth 100000 in
set_option maxHeartbeats 4000000 in
theorem q_count0 {K : am_K} {l : Launch} {S : am_S} {th pd wd ln sq st ct cl ft zn : Int32} {a26 a27 a28 a29 a30 a31 a32 a33 a34 a35 a36 a37 a38 a39 a40 a41 a42 a43 a44 : Nat → Int32}   : am_M K l iX7_count 1 0 0 [.ref 25, .int 0] (mdS S th pd wd ln sq st ct cl ft zn a26 a27 a28 a29 a30 a31 a32 a33 a34 a35 a36 a37 a38 a39 a40 a41 a42 a43 a44) (fun v S' => v = some (.int (pd)) ∧ mdS S 0 pd wd ln sq st ct cl ft zn a26 a27 a28 a29 a30 a31 a32 a33 a34 a35 a36 a37 a38 a39 a40 a41 a42 a43 a44 = S') (fun _ _ => False) := by
  refine am_body (by decide) rfl (by simp [Value.category]) (Nat.le_of_ble_eq_true rfl) (fun xp xe xs xm xa xb xt xc ad0 => ?_)
  show am_W _ _ _ _ _ _ _ _ _ _ _ _ _ _ _ 0 [some (.ref 25), some (.int 0), none, none] [] (mdS S th pd wd ln sq st ct cl ft zn a26 a27 a28 a29 a30 a31 a32 a33 a34 a35 a36 a37 a38 a39 a40 a41 a42 a43 a44) 0 0
  refine am_aload_n (I := iX7_count) (pc := 0) dX7_count_0 rfl rfl ?_
  refine am_iload_n (I := iX7_count) (pc := 1) dX7_count_1 rfl rfl ?_
  refine am_bipush (I := iX7_count) (pc := 2) (x := 6) dX7_count_2 (by decide) ?_
  refine am_callS (I := iX7_count) (pc := 4) (st := [.ref 25]) lv_X7_83 rfl (q_below 0 6) dX7_count_4 rfl (Nat.le_of_ble_eq_true rfl) ⟨Nat.le_of_ble_eq_true rfl, Nat.le_of_ble_eq_true rfl⟩ (Nat.le_of_ble_eq_true rfl) (Nat.le_of_ble_eq_true rfl) rfl (fun v9 T9 z9 _ => ?_) (fun _ _ h9 => h9.elim)
  obtain ⟨rfl, rfl⟩ := z9
  show am_W _ _ _ _ _ _ _ _ _ _ _ _ _ _ _ 7 [some (.ref 25), some (.int 0), none, none] [.int (bI (blw 0 6)), .ref 25] (mdS S th pd wd ln sq st ct cl ft zn a26 a27 a28 a29 a30 a31 a32 a33 a34 a35 a36 a37 a38 a39 a40 a41 a42 a43 a44) 0 0
  rw [bI_t (show blw 0 6 = true by decide)]
  refine am_iconst (I := iX7_count) (pc := 7) (x := 1) dX7_count_7 (by decide) ?_
  refine am_callV (I := iX7_count) (pc := 8) (st := []) lv_X7_79 (q_goes0) dX7_count_8 md_25 rfl (Nat.le_of_ble_eq_true rfl) ⟨Nat.le_of_ble_eq_true rfl, Nat.le_of_ble_eq_true rfl⟩ (Nat.le_of_ble_eq_true rfl) (Nat.le_of_ble_eq_true rfl) rfl (fun v9 T9 z9 _ => ?_) (fun _ _ h9 => h9.elim)
  obtain ⟨rfl, rfl⟩ := z9
  show am_W _ _ _ _ _ _ _ _ _ _ _ _ _ _ _ 11 [some (.ref 25), some (.int 0), none, none] [.int 1] (mdS S 0 pd wd ln sq st ct cl ft zn a26 a27 a28 a29 a30 a31 a32 a33 a34 a35 a36 a37 a38 a39 a40 a41 a42 a43 a44) 0 0
  refine am_if_ne (I := iX7_count) (pc := 11) (tgt := 16) dX7_count_11 (by decide) (fun c11 => ?_) (fun c11 => ?_)
  · refine am_iconst (I := iX7_count) (pc := 16) (x := 0) dX7_count_16 (by decide) ?_
    refine am_istore_n (I := iX7_count) (pc := 17) (L' := [some (.ref 25), some (.int 0), some (.int 0), none]) dX7_count_17 rfl (by decide) rfl ?_
    refine am_iload_n (I := iX7_count) (pc := 18) dX7_count_18 rfl rfl ?_
    refine am_iconst (I := iX7_count) (pc := 19) (x := 1) dX7_count_19 (by decide) ?_
    refine am_icmp_ne (I := iX7_count) (pc := 20) (tgt := 49) dX7_count_20 (by decide) (fun c20 => ?_) (fun c20 => ?_)
    · refine am_iload_n (I := iX7_count) (pc := 49) dX7_count_49 rfl rfl ?_
      refine am_iconst (I := iX7_count) (pc := 50) (x := 4) dX7_count_50 (by decide) ?_
      refine am_icmp_ne (I := iX7_count) (pc := 51) (tgt := 97) dX7_count_51 (by decide) (fun c51 => ?_) (fun c51 => ?_)
      · refine am_iload_n (I := iX7_count) (pc := 97) dX7_count_97 rfl rfl ?_
        refine am_if_ne (I := iX7_count) (pc := 98) (tgt := 108) dX7_count_98 (by decide) (fun c98 => ?_) (fun c98 => ?_)
        · exact absurd rfl c98
        · refine am_aload_n (I := iX7_count) (pc := 101) dX7_count_101 rfl rfl ?_
          refine am_getf (I := iX7_count) (pc := 102) lf_X7_72 dX7_count_102 md_25 rfl ?_
          refine am_goto (I := iX7_count) (pc := 105) (tgt := 145) dX7_count_105 (by decide) ?_
          exact am_iret (I := iX7_count) (pc := 145) dX7_count_145 rfl (Nat.le_refl _) (Nat.le_refl _) (⟨rfl, rfl⟩)
      · exact absurd c51 (by decide)
    · exact absurd c20 (by decide)
  · exact absurd c11 (by decide)
set_option maxRecDepth 100000 in
set_option maxHeartbeats 4000000 in
theorem q_count2 {K : am_K} {l : Launch} {S : am_S} {th pd wd ln sq st ct cl ft zn : Int32} {a26 a27 a28 a29 a30 a31 a32 a33 a34 a35 a36 a37 a38 a39 a40 a41 a42 a43 a44 : Nat → Int32}   : am_M K l iX7_count 1 0 0 [.ref 25, .int 2] (mdS S th pd wd ln sq st ct cl ft zn a26 a27 a28 a29 a30 a31 a32 a33 a34 a35 a36 a37 a38 a39 a40 a41 a42 a43 a44) (fun v S' => v = some (.int (ct)) ∧ mdS S 0 pd wd ln sq st ct cl ft zn a26 a27 a28 a29 a30 a31 a32 a33 a34 a35 a36 a37 a38 a39 a40 a41 a42 a43 a44 = S') (fun _ _ => False) := by
  refine am_body (by decide) rfl (by simp [Value.category]) (Nat.le_of_ble_eq_true rfl) (fun xp xe xs xm xa xb xt xc ad0 => ?_)
  show am_W _ _ _ _ _ _ _ _ _ _ _ _ _ _ _ 0 [some (.ref 25), some (.int 2), none, none] [] (mdS S th pd wd ln sq st ct cl ft zn a26 a27 a28 a29 a30 a31 a32 a33 a34 a35 a36 a37 a38 a39 a40 a41 a42 a43 a44) 0 0
  refine am_aload_n (I := iX7_count) (pc := 0) dX7_count_0 rfl rfl ?_
  refine am_iload_n (I := iX7_count) (pc := 1) dX7_count_1 rfl rfl ?_
  refine am_bipush (I := iX7_count) (pc := 2) (x := 6) dX7_count_2 (by decide) ?_
  refine am_callS (I := iX7_count) (pc := 4) (st := [.ref 25]) lv_X7_83 rfl (q_below 2 6) dX7_count_4 rfl (Nat.le_of_ble_eq_true rfl) ⟨Nat.le_of_ble_eq_true rfl, Nat.le_of_ble_eq_true rfl⟩ (Nat.le_of_ble_eq_true rfl) (Nat.le_of_ble_eq_true rfl) rfl (fun v9 T9 z9 _ => ?_) (fun _ _ h9 => h9.elim)
  obtain ⟨rfl, rfl⟩ := z9
  show am_W _ _ _ _ _ _ _ _ _ _ _ _ _ _ _ 7 [some (.ref 25), some (.int 2), none, none] [.int (bI (blw 2 6)), .ref 25] (mdS S th pd wd ln sq st ct cl ft zn a26 a27 a28 a29 a30 a31 a32 a33 a34 a35 a36 a37 a38 a39 a40 a41 a42 a43 a44) 0 0
  rw [bI_t (show blw 2 6 = true by decide)]
  refine am_iconst (I := iX7_count) (pc := 7) (x := 1) dX7_count_7 (by decide) ?_
  refine am_callV (I := iX7_count) (pc := 8) (st := []) lv_X7_79 (q_goes0) dX7_count_8 md_25 rfl (Nat.le_of_ble_eq_true rfl) ⟨Nat.le_of_ble_eq_true rfl, Nat.le_of_ble_eq_true rfl⟩ (Nat.le_of_ble_eq_true rfl) (Nat.le_of_ble_eq_true rfl) rfl (fun v9 T9 z9 _ => ?_) (fun _ _ h9 => h9.elim)
  obtain ⟨rfl, rfl⟩ := z9
  show am_W _ _ _ _ _ _ _ _ _ _ _ _ _ _ _ 11 [some (.ref 25), some (.int 2), none, none] [.int 1] (mdS S 0 pd wd ln sq st ct cl ft zn a26 a27 a28 a29 a30 a31 a32 a33 a34 a35 a36 a37 a38 a39 a40 a41 a42 a43 a44) 0 0
  refine am_if_ne (I := iX7_count) (pc := 11) (tgt := 16) dX7_count_11 (by decide) (fun c11 => ?_) (fun c11 => ?_)
  · refine am_iconst (I := iX7_count) (pc := 16) (x := 0) dX7_count_16 (by decide) ?_
    refine am_istore_n (I := iX7_count) (pc := 17) (L' := [some (.ref 25), some (.int 2), some (.int 0), none]) dX7_count_17 rfl (by decide) rfl ?_
    refine am_iload_n (I := iX7_count) (pc := 18) dX7_count_18 rfl rfl ?_
    refine am_iconst (I := iX7_count) (pc := 19) (x := 1) dX7_count_19 (by decide) ?_
    refine am_icmp_ne (I := iX7_count) (pc := 20) (tgt := 49) dX7_count_20 (by decide) (fun c20 => ?_) (fun c20 => ?_)
    · refine am_iload_n (I := iX7_count) (pc := 49) dX7_count_49 rfl rfl ?_
      refine am_iconst (I := iX7_count) (pc := 50) (x := 4) dX7_count_50 (by decide) ?_
      refine am_icmp_ne (I := iX7_count) (pc := 51) (tgt := 97) dX7_count_51 (by decide) (fun c51 => ?_) (fun c51 => ?_)
      · refine am_iload_n (I := iX7_count) (pc := 97) dX7_count_97 rfl rfl ?_
        refine am_if_ne (I := iX7_count) (pc := 98) (tgt := 108) dX7_count_98 (by decide) (fun c98 => ?_) (fun c98 => ?_)
        · refine am_iload_n (I := iX7_count) (pc := 108) dX7_count_108 rfl rfl ?_
          refine am_iconst (I := iX7_count) (pc := 109) (x := 2) dX7_count_109 (by decide) ?_
          refine am_icmp_ne (I := iX7_count) (pc := 110) (tgt := 120) dX7_count_110 (by decide) (fun c110 => ?_) (fun c110 => ?_)
          · exact absurd c110 (by decide)
          · refine am_aload_n (I := iX7_count) (pc := 113) dX7_count_113 rfl rfl ?_
            refine am_getf (I := iX7_count) (pc := 114) lf_X7_125 dX7_count_114 md_25 rfl ?_
            refine am_goto (I := iX7_count) (pc := 117) (tgt := 145) dX7_count_117 (by decide) ?_
            exact am_iret (I := iX7_count) (pc := 145) dX7_count_145 rfl (Nat.le_refl _) (Nat.le_refl _) (⟨rfl, rfl⟩)
        · exact absurd c98 (by decide)
      · exact absurd c51 (by decide)
    · exact absurd c20 (by decide)
  · exact absurd c11 (by decide)
set_option maxRecDepth 100000 in
set_option maxHeartbeats 4000000 in
theorem q_count3 {K : am_K} {l : Launch} {S : am_S} {th pd wd ln sq st ct cl ft zn : Int32} {a26 a27 a28 a29 a30 a31 a32 a33 a34 a35 a36 a37 a38 a39 a40 a41 a42 a43 a44 : Nat → Int32}   : am_M K l iX7_count 1 0 0 [.ref 25, .int 3] (mdS S th pd wd ln sq st ct cl ft zn a26 a27 a28 a29 a30 a31 a32 a33 a34 a35 a36 a37 a38 a39 a40 a41 a42 a43 a44) (fun v S' => v = some (.int (zn)) ∧ mdS S 0 pd wd ln sq st ct cl ft zn a26 a27 a28 a29 a30 a31 a32 a33 a34 a35 a36 a37 a38 a39 a40 a41 a42 a43 a44 = S') (fun _ _ => False) := by
  refine am_body (by decide) rfl (by simp [Value.category]) (Nat.le_of_ble_eq_true rfl) (fun xp xe xs xm xa xb xt xc ad0 => ?_)
  show am_W _ _ _ _ _ _ _ _ _ _ _ _ _ _ _ 0 [some (.ref 25), some (.int 3), none, none] [] (mdS S th pd wd ln sq st ct cl ft zn a26 a27 a28 a29 a30 a31 a32 a33 a34 a35 a36 a37 a38 a39 a40 a41 a42 a43 a44) 0 0
  refine am_aload_n (I := iX7_count) (pc := 0) dX7_count_0 rfl rfl ?_
  refine am_iload_n (I := iX7_count) (pc := 1) dX7_count_1 rfl rfl ?_
  refine am_bipush (I := iX7_count) (pc := 2) (x := 6) dX7_count_2 (by decide) ?_
  refine am_callS (I := iX7_count) (pc := 4) (st := [.ref 25]) lv_X7_83 rfl (q_below 3 6) dX7_count_4 rfl (Nat.le_of_ble_eq_true rfl) ⟨Nat.le_of_ble_eq_true rfl, Nat.le_of_ble_eq_true rfl⟩ (Nat.le_of_ble_eq_true rfl) (Nat.le_of_ble_eq_true rfl) rfl (fun v9 T9 z9 _ => ?_) (fun _ _ h9 => h9.elim)
  obtain ⟨rfl, rfl⟩ := z9
  show am_W _ _ _ _ _ _ _ _ _ _ _ _ _ _ _ 7 [some (.ref 25), some (.int 3), none, none] [.int (bI (blw 3 6)), .ref 25] (mdS S th pd wd ln sq st ct cl ft zn a26 a27 a28 a29 a30 a31 a32 a33 a34 a35 a36 a37 a38 a39 a40 a41 a42 a43 a44) 0 0
  rw [bI_t (show blw 3 6 = true by decide)]
  refine am_iconst (I := iX7_count) (pc := 7) (x := 1) dX7_count_7 (by decide) ?_
  refine am_callV (I := iX7_count) (pc := 8) (st := []) lv_X7_79 (q_goes0) dX7_count_8 md_25 rfl (Nat.le_of_ble_eq_true rfl) ⟨Nat.le_of_ble_eq_true rfl, Nat.le_of_ble_eq_true rfl⟩ (Nat.le_of_ble_eq_true rfl) (Nat.le_of_ble_eq_true rfl) rfl (fun v9 T9 z9 _ => ?_) (fun _ _ h9 => h9.elim)
  obtain ⟨rfl, rfl⟩ := z9
  show am_W _ _ _ _ _ _ _ _ _ _ _ _ _ _ _ 11 [some (.ref 25), some (.int 3), none, none] [.int 1] (mdS S 0 pd wd ln sq st ct cl ft zn a26 a27 a28 a29 a30 a31 a32 a33 a34 a35 a36 a37 a38 a39 a40 a41 a42 a43 a44) 0 0
  refine am_if_ne (I := iX7_count) (pc := 11) (tgt := 16) dX7_count_11 (by decide) (fun c11 => ?_) (fun c11 => ?_)
  · refine am_iconst (I := iX7_count) (pc := 16) (x := 0) dX7_count_16 (by decide) ?_
    refine am_istore_n (I := iX7_count) (pc := 17) (L' := [some (.ref 25), some (.int 3), some (.int 0), none]) dX7_count_17 rfl (by decide) rfl ?_
    refine am_iload_n (I := iX7_count) (pc := 18) dX7_count_18 rfl rfl ?_
    refine am_iconst (I := iX7_count) (pc := 19) (x := 1) dX7_count_19 (by decide) ?_
    refine am_icmp_ne (I := iX7_count) (pc := 20) (tgt := 49) dX7_count_20 (by decide) (fun c20 => ?_) (fun c20 => ?_)
    · refine am_iload_n (I := iX7_count) (pc := 49) dX7_count_49 rfl rfl ?_
      refine am_iconst (I := iX7_count) (pc := 50) (x := 4) dX7_count_50 (by decide) ?_
      refine am_icmp_ne (I := iX7_count) (pc := 51) (tgt := 97) dX7_count_51 (by decide) (fun c51 => ?_) (fun c51 => ?_)
      · refine am_iload_n (I := iX7_count) (pc := 97) dX7_count_97 rfl rfl ?_
        refine am_if_ne (I := iX7_count) (pc := 98) (tgt := 108) dX7_count_98 (by decide) (fun c98 => ?_) (fun c98 => ?_)
        · refine am_iload_n (I := iX7_count) (pc := 108) dX7_count_108 rfl rfl ?_
          refine am_iconst (I := iX7_count) (pc := 109) (x := 2) dX7_count_109 (by decide) ?_
          refine am_icmp_ne (I := iX7_count) (pc := 110) (tgt := 120) dX7_count_110 (by decide) (fun c110 => ?_) (fun c110 => ?_)
          · refine am_iload_n (I := iX7_count) (pc := 120) dX7_count_120 rfl rfl ?_
            refine am_iconst (I := iX7_count) (pc := 121) (x := 3) dX7_count_121 (by decide) ?_
            refine am_icmp_ne (I := iX7_count) (pc := 122) (tgt := 132) dX7_count_122 (by decide) (fun c122 => ?_) (fun c122 => ?_)
            · exact absurd c122 (by decide)
            · refine am_aload_n (I := iX7_count) (pc := 125) dX7_count_125 rfl rfl ?_
              refine am_getf (I := iX7_count) (pc := 126) lf_X7_138 dX7_count_126 md_25 rfl ?_
              refine am_goto (I := iX7_count) (pc := 129) (tgt := 145) dX7_count_129 (by decide) ?_
              exact am_iret (I := iX7_count) (pc := 145) dX7_count_145 rfl (Nat.le_refl _) (Nat.le_refl _) (⟨rfl, rfl⟩)
          · exact absurd c110 (by decide)
        · exact absurd c98 (by decide)
      · exact absurd c51 (by decide)
    · exact absurd c20 (by decide)
  · exact absurd c11 (by decide)
set_option maxRecDepth 100000 in
set_option maxHeartbeats 4000000 in
theorem q_count5 {K : am_K} {l : Launch} {S : am_S} {th pd wd ln sq st ct cl ft zn : Int32} {a26 a27 a28 a29 a30 a31 a32 a33 a34 a35 a36 a37 a38 a39 a40 a41 a42 a43 a44 : Nat → Int32}   : am_M K l iX7_count 1 0 0 [.ref 25, .int 5] (mdS S th pd wd ln sq st ct cl ft zn a26 a27 a28 a29 a30 a31 a32 a33 a34 a35 a36 a37 a38 a39 a40 a41 a42 a43 a44) (fun v S' => v = some (.int (cl)) ∧ mdS S 0 pd wd ln sq st ct cl ft zn a26 a27 a28 a29 a30 a31 a32 a33 a34 a35 a36 a37 a38 a39 a40 a41 a42 a43 a44 = S') (fun _ _ => False) := by
  refine am_body (by decide) rfl (by simp [Value.category]) (Nat.le_of_ble_eq_true rfl) (fun xp xe xs xm xa xb xt xc ad0 => ?_)
  show am_W _ _ _ _ _ _ _ _ _ _ _ _ _ _ _ 0 [some (.ref 25), some (.int 5), none, none] [] (mdS S th pd wd ln sq st ct cl ft zn a26 a27 a28 a29 a30 a31 a32 a33 a34 a35 a36 a37 a38 a39 a40 a41 a42 a43 a44) 0 0
  refine am_aload_n (I := iX7_count) (pc := 0) dX7_count_0 rfl rfl ?_
  refine am_iload_n (I := iX7_count) (pc := 1) dX7_count_1 rfl rfl ?_
  refine am_bipush (I := iX7_count) (pc := 2) (x := 6) dX7_count_2 (by decide) ?_
  refine am_callS (I := iX7_count) (pc := 4) (st := [.ref 25]) lv_X7_83 rfl (q_below 5 6) dX7_count_4 rfl (Nat.le_of_ble_eq_true rfl) ⟨Nat.le_of_ble_eq_true rfl, Nat.le_of_ble_eq_true rfl⟩ (Nat.le_of_ble_eq_true rfl) (Nat.le_of_ble_eq_true rfl) rfl (fun v9 T9 z9 _ => ?_) (fun _ _ h9 => h9.elim)
  obtain ⟨rfl, rfl⟩ := z9
  show am_W _ _ _ _ _ _ _ _ _ _ _ _ _ _ _ 7 [some (.ref 25), some (.int 5), none, none] [.int (bI (blw 5 6)), .ref 25] (mdS S th pd wd ln sq st ct cl ft zn a26 a27 a28 a29 a30 a31 a32 a33 a34 a35 a36 a37 a38 a39 a40 a41 a42 a43 a44) 0 0
  rw [bI_t (show blw 5 6 = true by decide)]
  refine am_iconst (I := iX7_count) (pc := 7) (x := 1) dX7_count_7 (by decide) ?_
  refine am_callV (I := iX7_count) (pc := 8) (st := []) lv_X7_79 (q_goes0) dX7_count_8 md_25 rfl (Nat.le_of_ble_eq_true rfl) ⟨Nat.le_of_ble_eq_true rfl, Nat.le_of_ble_eq_true rfl⟩ (Nat.le_of_ble_eq_true rfl) (Nat.le_of_ble_eq_true rfl) rfl (fun v9 T9 z9 _ => ?_) (fun _ _ h9 => h9.elim)
  obtain ⟨rfl, rfl⟩ := z9
  show am_W _ _ _ _ _ _ _ _ _ _ _ _ _ _ _ 11 [some (.ref 25), some (.int 5), none, none] [.int 1] (mdS S 0 pd wd ln sq st ct cl ft zn a26 a27 a28 a29 a30 a31 a32 a33 a34 a35 a36 a37 a38 a39 a40 a41 a42 a43 a44) 0 0
  refine am_if_ne (I := iX7_count) (pc := 11) (tgt := 16) dX7_count_11 (by decide) (fun c11 => ?_) (fun c11 => ?_)
  · refine am_iconst (I := iX7_count) (pc := 16) (x := 0) dX7_count_16 (by decide) ?_
    refine am_istore_n (I := iX7_count) (pc := 17) (L' := [some (.ref 25), some (.int 5), some (.int 0), none]) dX7_count_17 rfl (by decide) rfl ?_
    refine am_iload_n (I := iX7_count) (pc := 18) dX7_count_18 rfl rfl ?_
    refine am_iconst (I := iX7_count) (pc := 19) (x := 1) dX7_count_19 (by decide) ?_
    refine am_icmp_ne (I := iX7_count) (pc := 20) (tgt := 49) dX7_count_20 (by decide) (fun c20 => ?_) (fun c20 => ?_)
    · refine am_iload_n (I := iX7_count) (pc := 49) dX7_count_49 rfl rfl ?_
      refine am_iconst (I := iX7_count) (pc := 50) (x := 4) dX7_count_50 (by decide) ?_
      refine am_icmp_ne (I := iX7_count) (pc := 51) (tgt := 97) dX7_count_51 (by decide) (fun c51 => ?_) (fun c51 => ?_)
      · refine am_iload_n (I := iX7_count) (pc := 97) dX7_count_97 rfl rfl ?_
        refine am_if_ne (I := iX7_count) (pc := 98) (tgt := 108) dX7_count_98 (by decide) (fun c98 => ?_) (fun c98 => ?_)
        · refine am_iload_n (I := iX7_count) (pc := 108) dX7_count_108 rfl rfl ?_
          refine am_iconst (I := iX7_count) (pc := 109) (x := 2) dX7_count_109 (by decide) ?_
          refine am_icmp_ne (I := iX7_count) (pc := 110) (tgt := 120) dX7_count_110 (by decide) (fun c110 => ?_) (fun c110 => ?_)
          · refine am_iload_n (I := iX7_count) (pc := 120) dX7_count_120 rfl rfl ?_
            refine am_iconst (I := iX7_count) (pc := 121) (x := 3) dX7_count_121 (by decide) ?_
            refine am_icmp_ne (I := iX7_count) (pc := 122) (tgt := 132) dX7_count_122 (by decide) (fun c122 => ?_) (fun c122 => ?_)
            · refine am_iload_n (I := iX7_count) (pc := 132) dX7_count_132 rfl rfl ?_
              refine am_iconst (I := iX7_count) (pc := 133) (x := 5) dX7_count_133 (by decide) ?_
              refine am_icmp_ne (I := iX7_count) (pc := 134) (tgt := 144) dX7_count_134 (by decide) (fun c134 => ?_) (fun c134 => ?_)
              · exact absurd c134 (by decide)
              · refine am_aload_n (I := iX7_count) (pc := 137) dX7_count_137 rfl rfl ?_
                refine am_getf (I := iX7_count) (pc := 138) lf_X7_128 dX7_count_138 md_25 rfl ?_
                refine am_goto (I := iX7_count) (pc := 141) (tgt := 145) dX7_count_141 (by decide) ?_
                exact am_iret (I := iX7_count) (pc := 145) dX7_count_145 rfl (Nat.le_refl _) (Nat.le_refl _) (⟨rfl, rfl⟩)
            · exact absurd c122 (by decide)
          · exact absurd c110 (by decide)
        · exact absurd c98 (by decide)
      · exact absurd c51 (by decide)
    · exact absurd c20 (by decide)
  · exact absurd c11 (by decide)
set_option maxRecDepth 100000 in
set_option maxHeartbeats 4000000 in
theorem q_count1 {K : am_K} {l : Launch} {S : am_S} {th pd wd ln sq st ct cl ft zn : Int32} {a26 a28 a29 a30 a31 a32 a33 a34 a35 a36 a37 a38 a39 a40 a41 a42 a43 a44 : Nat → Int32} (cn : Nat → Nat)  : am_M K l iX7_count 1 0 0 [.ref 25, .int 1] (mdS S th pd wd ln sq st ct cl ft zn a26 (fun k => nI (cn k)) a28 a29 a30 a31 a32 a33 a34 a35 a36 a37 a38 a39 a40 a41 a42 a43 a44) (fun v S' => v = some (.int (nI (sumN cn 50))) ∧ mdS S 0 pd wd ln sq st ct cl ft zn a26 (fun k => nI (cn k)) a28 a29 a30 a31 a32 a33 a34 a35 a36 a37 a38 a39 a40 a41 a42 a43 a44 = S') (fun _ _ => False) := by
  refine am_body (by decide) rfl (by simp [Value.category]) (Nat.le_of_ble_eq_true rfl) (fun xp xe xs xm xa xb xt xc ad0 => ?_)
  show am_W _ _ _ _ _ _ _ _ _ _ _ _ _ _ _ 0 [some (.ref 25), some (.int 1), none, none] [] (mdS S th pd wd ln sq st ct cl ft zn a26 (fun k => nI (cn k)) a28 a29 a30 a31 a32 a33 a34 a35 a36 a37 a38 a39 a40 a41 a42 a43 a44) 0 0
  refine am_aload_n (I := iX7_count) (pc := 0) dX7_count_0 rfl rfl ?_
  refine am_iload_n (I := iX7_count) (pc := 1) dX7_count_1 rfl rfl ?_
  refine am_bipush (I := iX7_count) (pc := 2) (x := 6) dX7_count_2 (by decide) ?_
  refine am_callS (I := iX7_count) (pc := 4) (st := [.ref 25]) lv_X7_83 rfl (q_below 1 6) dX7_count_4 rfl (Nat.le_of_ble_eq_true rfl) ⟨Nat.le_of_ble_eq_true rfl, Nat.le_of_ble_eq_true rfl⟩ (Nat.le_of_ble_eq_true rfl) (Nat.le_of_ble_eq_true rfl) rfl (fun v9 T9 z9 _ => ?_) (fun _ _ h9 => h9.elim)
  obtain ⟨rfl, rfl⟩ := z9
  show am_W _ _ _ _ _ _ _ _ _ _ _ _ _ _ _ 7 [some (.ref 25), some (.int 1), none, none] [.int (bI (blw 1 6)), .ref 25] (mdS S th pd wd ln sq st ct cl ft zn a26 (fun k => nI (cn k)) a28 a29 a30 a31 a32 a33 a34 a35 a36 a37 a38 a39 a40 a41 a42 a43 a44) 0 0
  rw [bI_t (show blw 1 6 = true by decide)]
  refine am_iconst (I := iX7_count) (pc := 7) (x := 1) dX7_count_7 (by decide) ?_
  refine am_callV (I := iX7_count) (pc := 8) (st := []) lv_X7_79 (q_goes0) dX7_count_8 md_25 rfl (Nat.le_of_ble_eq_true rfl) ⟨Nat.le_of_ble_eq_true rfl, Nat.le_of_ble_eq_true rfl⟩ (Nat.le_of_ble_eq_true rfl) (Nat.le_of_ble_eq_true rfl) rfl (fun v9 T9 z9 _ => ?_) (fun _ _ h9 => h9.elim)
  obtain ⟨rfl, rfl⟩ := z9
  show am_W _ _ _ _ _ _ _ _ _ _ _ _ _ _ _ 11 [some (.ref 25), some (.int 1), none, none] [.int 1] (mdS S 0 pd wd ln sq st ct cl ft zn a26 (fun k => nI (cn k)) a28 a29 a30 a31 a32 a33 a34 a35 a36 a37 a38 a39 a40 a41 a42 a43 a44) 0 0
  refine am_if_ne (I := iX7_count) (pc := 11) (tgt := 16) dX7_count_11 (by decide) (fun c11 => ?_) (fun c11 => ?_)
  · refine am_iconst (I := iX7_count) (pc := 16) (x := 0) dX7_count_16 (by decide) ?_
    refine am_istore_n (I := iX7_count) (pc := 17) (L' := [some (.ref 25), some (.int 1), some (.int 0), none]) dX7_count_17 rfl (by decide) rfl ?_
    refine am_iload_n (I := iX7_count) (pc := 18) dX7_count_18 rfl rfl ?_
    refine am_iconst (I := iX7_count) (pc := 19) (x := 1) dX7_count_19 (by decide) ?_
    refine am_icmp_ne (I := iX7_count) (pc := 20) (tgt := 49) dX7_count_20 (by decide) (fun c20 => ?_) (fun c20 => ?_)
    · exact absurd c20 (by decide)
    · refine am_iconst (I := iX7_count) (pc := 23) (x := 0) dX7_count_23 (by decide) ?_
      refine am_istore_n (I := iX7_count) (pc := 24) (L' := [some (.ref 25), some (.int 1), some (.int 0), some (.int 0)]) dX7_count_24 rfl (by decide) rfl ?_
      have loop25 : ∀ (k25 : Nat) (i : Nat), 50 - i < k25 → (i ≤ 50) → am_W K iX7_count xp l xe (am_room 1 0 0) xs xm xa xb xt xc (mdS S th pd wd ln sq st ct cl ft zn a26 (fun k => nI (cn k)) a28 a29 a30 a31 a32 a33 a34 a35 a36 a37 a38 a39 a40 a41 a42 a43 a44) ad0 (am_E K ad0 (mdS S th pd wd ln sq st ct cl ft zn a26 (fun k => nI (cn k)) a28 a29 a30 a31 a32 a33 a34 a35 a36 a37 a38 a39 a40 a41 a42 a43 a44) (fun v S' => v = some (.int (nI (sumN cn 50))) ∧ mdS S 0 pd wd ln sq st ct cl ft zn a26 (fun k => nI (cn k)) a28 a29 a30 a31 a32 a33 a34 a35 a36 a37 a38 a39 a40 a41 a42 a43 a44 = S') (fun _ _ => False) xb xa xs 0 0) 25 [some (.ref 25), some (.int 1), some (.int (nI (sumN cn i))), some (.int (nI i))] [] (mdS S 0 pd wd ln sq st ct cl ft zn a26 (fun k => nI (cn k)) a28 a29 a30 a31 a32 a33 a34 a35 a36 a37 a38 a39 a40 a41 a42 a43 a44) 0 0 := by
        intro k25
        induction k25 with
        | zero => intro i h9; exact absurd h9 (Nat.not_lt_zero _)
        | succ k25 ih25 =>
          intro i hm25 hi
          refine am_iload_n (I := iX7_count) (pc := 25) dX7_count_25 rfl rfl ?_
          refine am_bipush (I := iX7_count) (pc := 26) (x := 50) dX7_count_26 (by decide) ?_
          refine am_icmp_ge (I := iX7_count) (pc := 28) (tgt := 46) dX7_count_28 (by decide) (fun c28 => ?_) (fun c28 => ?_)
          · have g28 : 50 ≤ i := by
              rcases Nat.lt_or_ge i 50 with q9 | q9
              · exact absurd c28 (nI_ge (a := i) (b := 50) q9 (by omega))
              · exact q9
            refine am_goto (I := iX7_count) (pc := 46) (tgt := 97) dX7_count_46 (by decide) ?_
            refine am_iload_n (I := iX7_count) (pc := 97) dX7_count_97 rfl rfl ?_
            refine am_if_ne (I := iX7_count) (pc := 98) (tgt := 108) dX7_count_98 (by decide) (fun c98 => ?_) (fun c98 => ?_)
            · refine am_iload_n (I := iX7_count) (pc := 108) dX7_count_108 rfl rfl ?_
              refine am_iconst (I := iX7_count) (pc := 109) (x := 2) dX7_count_109 (by decide) ?_
              refine am_icmp_ne (I := iX7_count) (pc := 110) (tgt := 120) dX7_count_110 (by decide) (fun c110 => ?_) (fun c110 => ?_)
              · refine am_iload_n (I := iX7_count) (pc := 120) dX7_count_120 rfl rfl ?_
                refine am_iconst (I := iX7_count) (pc := 121) (x := 3) dX7_count_121 (by decide) ?_
                refine am_icmp_ne (I := iX7_count) (pc := 122) (tgt := 132) dX7_count_122 (by decide) (fun c122 => ?_) (fun c122 => ?_)
                · refine am_iload_n (I := iX7_count) (pc := 132) dX7_count_132 rfl rfl ?_
                  refine am_iconst (I := iX7_count) (pc := 133) (x := 5) dX7_count_133 (by decide) ?_
                  refine am_icmp_ne (I := iX7_count) (pc := 134) (tgt := 144) dX7_count_134 (by decide) (fun c134 => ?_) (fun c134 => ?_)
                  · refine am_iload_n (I := iX7_count) (pc := 144) dX7_count_144 rfl rfl ?_
                    exact am_iret (I := iX7_count) (pc := 145) dX7_count_145 rfl (Nat.le_refl _) (Nat.le_refl _) (⟨by rw [show i = 50 by omega], rfl⟩)
                  · exact absurd c134 (by decide)
                · exact absurd c122 (by decide)
              · exact absurd c110 (by decide)
            · exact absurd c98 (by decide)
          · have l28 : i < 50 := by
              rcases Nat.lt_or_ge i 50 with q9 | q9
              · exact q9
              · exact absurd (nI_le (a := 50) (b := i) q9 (by omega)) c28
            refine am_iload_n (I := iX7_count) (pc := 31) dX7_count_31 rfl rfl ?_
            refine am_aload_n (I := iX7_count) (pc := 32) dX7_count_32 rfl rfl ?_
            refine am_getf (I := iX7_count) (pc := 33) lf_X7_13 dX7_count_33 md_25 rfl ?_
            refine am_iload_n (I := iX7_count) (pc := 36) dX7_count_36 rfl rfl ?_
            refine am_iaload (I := iX7_count) (pc := 37) dX7_count_37 md_27 rfl (vp_in_nI (show i < 50 by omega) (by decide)) ?_
            rw [nI_clamp (show i < 2 ^ 31 by omega)]
            refine am_iadd (I := iX7_count) (pc := 38) dX7_count_38 ?_
            refine am_istore_n (I := iX7_count) (pc := 39) (L' := [some (.ref 25), some (.int 1), some (.int ((nI (sumN cn i)) + (nI (cn i)))), some (.int (nI i))]) dX7_count_39 rfl (by decide) rfl ?_
            refine am_iinc (I := iX7_count) (pc := 40) (y := ((nI i) + 1)) (L' := [some (.ref 25), some (.int 1), some (.int ((nI (sumN cn i)) + (nI (cn i)))), some (.int ((nI i) + 1))]) dX7_count_40 rfl rfl rfl ?_
            refine am_goto (I := iX7_count) (pc := 43) (tgt := 25) dX7_count_43 (by decide) ?_
            exact am_same rfl (by rw [nI_1, nI_add]; rfl) rfl rfl rfl rfl (ih25 (i + 1) (by omega) (by omega))
      exact am_same rfl (by rfl) rfl rfl rfl rfl (loop25 _ 0 (Nat.lt_succ_self _) (Nat.zero_le _))
  · exact absurd c11 (by decide)
set_option maxRecDepth 100000 in
set_option maxHeartbeats 4000000 in
theorem q_count4 {K : am_K} {l : Launch} {S : am_S} {th pd wd ln sq st ct cl ft zn : Int32} {a26 a27 a28 a29 a30 a31 a32 a33 a34 a35 a36 a37 a38 a39 a40 a41 a42 a43 a44 : Nat → Int32}   : am_M K l iX7_count 1 0 0 [.ref 25, .int 4] (mdS S th pd wd ln sq st ct cl ft zn a26 a27 a28 a29 a30 a31 a32 a33 a34 a35 a36 a37 a38 a39 a40 a41 a42 a43 a44) (fun v S' => v = some (.int (nI (cnt (wyp a43) 576))) ∧ mdS S 0 pd wd ln sq st ct cl ft zn a26 a27 a28 a29 a30 a31 a32 a33 a34 a35 a36 a37 a38 a39 a40 a41 a42 a43 a44 = S') (fun _ _ => False) := by
  refine am_body (by decide) rfl (by simp [Value.category]) (Nat.le_of_ble_eq_true rfl) (fun xp xe xs xm xa xb xt xc ad0 => ?_)
  show am_W _ _ _ _ _ _ _ _ _ _ _ _ _ _ _ 0 [some (.ref 25), some (.int 4), none, none] [] (mdS S th pd wd ln sq st ct cl ft zn a26 a27 a28 a29 a30 a31 a32 a33 a34 a35 a36 a37 a38 a39 a40 a41 a42 a43 a44) 0 0
  refine am_aload_n (I := iX7_count) (pc := 0) dX7_count_0 rfl rfl ?_
  refine am_iload_n (I := iX7_count) (pc := 1) dX7_count_1 rfl rfl ?_
  refine am_bipush (I := iX7_count) (pc := 2) (x := 6) dX7_count_2 (by decide) ?_
  refine am_callS (I := iX7_count) (pc := 4) (st := [.ref 25]) lv_X7_83 rfl (q_below 4 6) dX7_count_4 rfl (Nat.le_of_ble_eq_true rfl) ⟨Nat.le_of_ble_eq_true rfl, Nat.le_of_ble_eq_true rfl⟩ (Nat.le_of_ble_eq_true rfl) (Nat.le_of_ble_eq_true rfl) rfl (fun v9 T9 z9 _ => ?_) (fun _ _ h9 => h9.elim)
  obtain ⟨rfl, rfl⟩ := z9
  show am_W _ _ _ _ _ _ _ _ _ _ _ _ _ _ _ 7 [some (.ref 25), some (.int 4), none, none] [.int (bI (blw 4 6)), .ref 25] (mdS S th pd wd ln sq st ct cl ft zn a26 a27 a28 a29 a30 a31 a32 a33 a34 a35 a36 a37 a38 a39 a40 a41 a42 a43 a44) 0 0
  rw [bI_t (show blw 4 6 = true by decide)]
  refine am_iconst (I := iX7_count) (pc := 7) (x := 1) dX7_count_7 (by decide) ?_
  refine am_callV (I := iX7_count) (pc := 8) (st := []) lv_X7_79 (q_goes0) dX7_count_8 md_25 rfl (Nat.le_of_ble_eq_true rfl) ⟨Nat.le_of_ble_eq_true rfl, Nat.le_of_ble_eq_true rfl⟩ (Nat.le_of_ble_eq_true rfl) (Nat.le_of_ble_eq_true rfl) rfl (fun v9 T9 z9 _ => ?_) (fun _ _ h9 => h9.elim)
  obtain ⟨rfl, rfl⟩ := z9
  show am_W _ _ _ _ _ _ _ _ _ _ _ _ _ _ _ 11 [some (.ref 25), some (.int 4), none, none] [.int 1] (mdS S 0 pd wd ln sq st ct cl ft zn a26 a27 a28 a29 a30 a31 a32 a33 a34 a35 a36 a37 a38 a39 a40 a41 a42 a43 a44) 0 0
  refine am_if_ne (I := iX7_count) (pc := 11) (tgt := 16) dX7_count_11 (by decide) (fun c11 => ?_) (fun c11 => ?_)
  · refine am_iconst (I := iX7_count) (pc := 16) (x := 0) dX7_count_16 (by decide) ?_
    refine am_istore_n (I := iX7_count) (pc := 17) (L' := [some (.ref 25), some (.int 4), some (.int 0), none]) dX7_count_17 rfl (by decide) rfl ?_
    refine am_iload_n (I := iX7_count) (pc := 18) dX7_count_18 rfl rfl ?_
    refine am_iconst (I := iX7_count) (pc := 19) (x := 1) dX7_count_19 (by decide) ?_
    refine am_icmp_ne (I := iX7_count) (pc := 20) (tgt := 49) dX7_count_20 (by decide) (fun c20 => ?_) (fun c20 => ?_)
    · refine am_iload_n (I := iX7_count) (pc := 49) dX7_count_49 rfl rfl ?_
      refine am_iconst (I := iX7_count) (pc := 50) (x := 4) dX7_count_50 (by decide) ?_
      refine am_icmp_ne (I := iX7_count) (pc := 51) (tgt := 97) dX7_count_51 (by decide) (fun c51 => ?_) (fun c51 => ?_)
      · exact absurd c51 (by decide)
      · refine am_iconst (I := iX7_count) (pc := 54) (x := 0) dX7_count_54 (by decide) ?_
        refine am_istore_n (I := iX7_count) (pc := 55) (L' := [some (.ref 25), some (.int 4), some (.int 0), some (.int 0)]) dX7_count_55 rfl (by decide) rfl ?_
        have loop56 : ∀ (k56 : Nat) (i : Nat), 576 - i < k56 → (i ≤ 576) → am_W K iX7_count xp l xe (am_room 1 0 0) xs xm xa xb xt xc (mdS S th pd wd ln sq st ct cl ft zn a26 a27 a28 a29 a30 a31 a32 a33 a34 a35 a36 a37 a38 a39 a40 a41 a42 a43 a44) ad0 (am_E K ad0 (mdS S th pd wd ln sq st ct cl ft zn a26 a27 a28 a29 a30 a31 a32 a33 a34 a35 a36 a37 a38 a39 a40 a41 a42 a43 a44) (fun v S' => v = some (.int (nI (cnt (wyp a43) 576))) ∧ mdS S 0 pd wd ln sq st ct cl ft zn a26 a27 a28 a29 a30 a31 a32 a33 a34 a35 a36 a37 a38 a39 a40 a41 a42 a43 a44 = S') (fun _ _ => False) xb xa xs 0 0) 56 [some (.ref 25), some (.int 4), some (.int (nI (cnt (wyp a43) i))), some (.int (nI i))] [] (mdS S 0 pd wd ln sq st ct cl ft zn a26 a27 a28 a29 a30 a31 a32 a33 a34 a35 a36 a37 a38 a39 a40 a41 a42 a43 a44) 0 0 := by
          intro k56
          induction k56 with
          | zero => intro i h9; exact absurd h9 (Nat.not_lt_zero _)
          | succ k56 ih56 =>
            intro i hm56 hi
            refine am_iload_n (I := iX7_count) (pc := 56) dX7_count_56 rfl rfl ?_
            refine am_sipush (I := iX7_count) (pc := 57) (x := 576) dX7_count_57 (by decide) ?_
            refine am_icmp_ge (I := iX7_count) (pc := 60) (tgt := 97) dX7_count_60 (by decide) (fun c60 => ?_) (fun c60 => ?_)
            · have g60 : 576 ≤ i := by
                rcases Nat.lt_or_ge i 576 with q9 | q9
                · exact absurd c60 (nI_ge (a := i) (b := 576) q9 (by omega))
                · exact q9
              refine am_iload_n (I := iX7_count) (pc := 97) dX7_count_97 rfl rfl ?_
              refine am_if_ne (I := iX7_count) (pc := 98) (tgt := 108) dX7_count_98 (by decide) (fun c98 => ?_) (fun c98 => ?_)
              · refine am_iload_n (I := iX7_count) (pc := 108) dX7_count_108 rfl rfl ?_
                refine am_iconst (I := iX7_count) (pc := 109) (x := 2) dX7_count_109 (by decide) ?_
                refine am_icmp_ne (I := iX7_count) (pc := 110) (tgt := 120) dX7_count_110 (by decide) (fun c110 => ?_) (fun c110 => ?_)
                · refine am_iload_n (I := iX7_count) (pc := 120) dX7_count_120 rfl rfl ?_
                  refine am_iconst (I := iX7_count) (pc := 121) (x := 3) dX7_count_121 (by decide) ?_
                  refine am_icmp_ne (I := iX7_count) (pc := 122) (tgt := 132) dX7_count_122 (by decide) (fun c122 => ?_) (fun c122 => ?_)
                  · refine am_iload_n (I := iX7_count) (pc := 132) dX7_count_132 rfl rfl ?_
                    refine am_iconst (I := iX7_count) (pc := 133) (x := 5) dX7_count_133 (by decide) ?_
                    refine am_icmp_ne (I := iX7_count) (pc := 134) (tgt := 144) dX7_count_134 (by decide) (fun c134 => ?_) (fun c134 => ?_)
                    · refine am_iload_n (I := iX7_count) (pc := 144) dX7_count_144 rfl rfl ?_
                      exact am_iret (I := iX7_count) (pc := 145) dX7_count_145 rfl (Nat.le_refl _) (Nat.le_refl _) (⟨by rw [show i = 576 by omega], rfl⟩)
                    · exact absurd c134 (by decide)
                  · exact absurd c122 (by decide)
                · exact absurd c110 (by decide)
              · exact absurd c98 (by decide)
            · have l60 : i < 576 := by
                rcases Nat.lt_or_ge i 576 with q9 | q9
                · exact q9
                · exact absurd (nI_le (a := 576) (b := i) q9 (by omega)) c60
              refine am_aload_n (I := iX7_count) (pc := 63) dX7_count_63 rfl rfl ?_
              refine am_getf (I := iX7_count) (pc := 64) lf_X7_61 dX7_count_64 md_25 rfl ?_
              refine am_iload_n (I := iX7_count) (pc := 67) dX7_count_67 rfl rfl ?_
              refine am_baload (I := iX7_count) (pc := 68) dX7_count_68 md_43 rfl (vp_in_nI (show i < 576 by omega) (by decide)) ?_
              rw [nI_clamp (show i < 2 ^ 31 by omega)]
              refine am_if_eq (I := iX7_count) (pc := 69) (tgt := 89) dX7_count_69 (by decide) (fun c69 => ?_) (fun c69 => ?_)
              · refine am_iload_n (I := iX7_count) (pc := 89) dX7_count_89 rfl rfl ?_
                refine am_istore_n (I := iX7_count) (pc := 90) (L' := [some (.ref 25), some (.int 4), some (.int (nI (cnt (wyp a43) i))), some (.int (nI i))]) dX7_count_90 rfl (by decide) rfl ?_
                refine am_iinc (I := iX7_count) (pc := 91) (y := ((nI i) + 1)) (L' := [some (.ref 25), some (.int 4), some (.int (nI (cnt (wyp a43) i))), some (.int ((nI i) + 1))]) dX7_count_91 rfl rfl rfl ?_
                refine am_goto (I := iX7_count) (pc := 94) (tgt := 56) dX7_count_94 (by decide) ?_
                exact am_same rfl (by rw [cnt_n (show wyp a43 i = false by unfold wyp; rw [decide_eq_true c69]; rfl), nI_1]) rfl rfl rfl rfl (ih56 (i + 1) (by omega) (by omega))
              · refine am_iload_n (I := iX7_count) (pc := 72) dX7_count_72 rfl rfl ?_
                refine am_bipush (I := iX7_count) (pc := 73) (x := 24) dX7_count_73 (by decide) ?_
                refine am_idiv (I := iX7_count) (pc := 75) dX7_count_75 (by decide) ?_
                rw [ixd l60]
                refine am_iload_n (I := iX7_count) (pc := 76) dX7_count_76 rfl rfl ?_
                refine am_bipush (I := iX7_count) (pc := 77) (x := 24) dX7_count_77 (by decide) ?_
                refine am_irem (I := iX7_count) (pc := 79) dX7_count_79 (by decide) ?_
                rw [show nI i - nI i / 24 * 24 = nI (i % 24) from ixm l60]
                refine am_icmp_ge (I := iX7_count) (pc := 80) (tgt := 89) dX7_count_80 (by decide) (fun c80 => ?_) (fun c80 => ?_)
                · refine am_iload_n (I := iX7_count) (pc := 89) dX7_count_89 rfl rfl ?_
                  refine am_istore_n (I := iX7_count) (pc := 90) (L' := [some (.ref 25), some (.int 4), some (.int (nI (cnt (wyp a43) i))), some (.int (nI i))]) dX7_count_90 rfl (by decide) rfl ?_
                  refine am_iinc (I := iX7_count) (pc := 91) (y := ((nI i) + 1)) (L' := [some (.ref 25), some (.int 4), some (.int (nI (cnt (wyp a43) i))), some (.int ((nI i) + 1))]) dX7_count_91 rfl rfl rfl ?_
                  refine am_goto (I := iX7_count) (pc := 94) (tgt := 56) dX7_count_94 (by decide) ?_
                  exact am_same rfl (by rw [cnt_n (show wyp a43 i = false by unfold wyp; rw [decide_eq_false (fun q9 => nI_ge q9 (by omega) c80), Bool.and_false]), nI_1]) rfl rfl rfl rfl (ih56 (i + 1) (by omega) (by omega))
                · refine am_iload_n (I := iX7_count) (pc := 83) dX7_count_83 rfl rfl ?_
                  refine am_iconst (I := iX7_count) (pc := 84) (x := 1) dX7_count_84 (by decide) ?_
                  refine am_iadd (I := iX7_count) (pc := 85) dX7_count_85 ?_
                  refine am_goto (I := iX7_count) (pc := 86) (tgt := 90) dX7_count_86 (by decide) ?_
                  refine am_istore_n (I := iX7_count) (pc := 90) (L' := [some (.ref 25), some (.int 4), some (.int ((nI (cnt (wyp a43) i)) + 1)), some (.int (nI i))]) dX7_count_90 rfl (by decide) rfl ?_
                  refine am_iinc (I := iX7_count) (pc := 91) (y := ((nI i) + 1)) (L' := [some (.ref 25), some (.int 4), some (.int ((nI (cnt (wyp a43) i)) + 1)), some (.int ((nI i) + 1))]) dX7_count_91 rfl rfl rfl ?_
                  refine am_goto (I := iX7_count) (pc := 94) (tgt := 56) dX7_count_94 (by decide) ?_
                  exact am_same rfl (by rw [cnt_s (show wyp a43 i = true by unfold wyp; rw [decide_eq_false c69, decide_eq_true (show i / 24 < i % 24 by rcases Nat.lt_or_ge (i / 24) (i % 24) with q9 | q9; exact q9; exact absurd (nI_le q9 (by omega)) c80)]; rfl), nI_1, nI_1]) rfl rfl rfl rfl (ih56 (i + 1) (by omega) (by omega))
        exact am_same rfl (by rfl) rfl rfl rfl rfl (loop56 _ 0 (Nat.lt_succ_self _) (Nat.zero_le _))
    · exact absurd c20 (by decide)
  · exact absurd c11 (by decide)
