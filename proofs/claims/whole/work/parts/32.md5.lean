def mlP (w : Int32) (B E : Nat → Int32) (W : Nat) (C T : Nat → Int32) : Nat → (Nat → Int32) × (Nat → Int32)
  | 0 => (C, T)
  | k + 1 => (upd (mlP w B E W C T k).1 (W - (k + 1)) (sres w B E (mlP w B E W C T k).1 (mlP w B E W C T k).2 W (W - (k + 1))).1, upd (mlP w B E W C T k).2 (W - (k + 1)) (sres w B E (mlP w B E W C T k).1 (mlP w B E W C T k).2 W (W - (k + 1))).2)
set_option maxRecDepth 100000 in
set_option maxHeartbeats 4000000 in
theorem q_lines_x0 {K : am_K} {l : Launch} {S : am_S} {th pd wd ln sq st ct cl ft zn : Int32} {a26 a27 a28 a29 a30 a31 a32 a33 a34 a35 a36 a37 a38 a39 a40 a41 a42 a43 a44 : Nat → Int32} (x y w : Int32) (hb : (x < 0 ∨ 10 ≤ x) ∨ (y < 0 ∨ 5 ≤ y)) : am_M K l iX7_lines 2 0 0 [.ref 25, .int x, .int y, .int w] (mdS S th pd wd ln sq st ct cl ft zn a26 a27 a28 a29 a30 a31 a32 a33 a34 a35 a36 a37 a38 a39 a40 a41 a42 a43 a44) (fun v S' => v = some (.int (0)) ∧ mdS S 1 pd wd ln sq st ct cl ft zn a26 a27 a28 a29 a30 a31 a32 a33 a34 a35 a36 a37 a38 a39 a40 a41 a42 a43 a44 = S') (fun _ _ => False) := by
  refine am_body (by decide) rfl (by simp [Value.category]) (Nat.le_of_ble_eq_true rfl) (fun xp xe xs xm xa xb xt xc ad0 => ?_)
  show am_W _ _ _ _ _ _ _ _ _ _ _ _ _ _ _ 0 [some (.ref 25), some (.int x), some (.int y), some (.int w), none, none] [] (mdS S th pd wd ln sq st ct cl ft zn a26 a27 a28 a29 a30 a31 a32 a33 a34 a35 a36 a37 a38 a39 a40 a41 a42 a43 a44) 0 0
  refine am_aload_n (I := iX7_lines) (pc := 0) dX7_lines_0 rfl rfl ?_
  refine am_iload_n (I := iX7_lines) (pc := 1) dX7_lines_1 rfl rfl ?_
  refine am_iload_n (I := iX7_lines) (pc := 2) dX7_lines_2 rfl rfl ?_
  refine am_callS (I := iX7_lines) (pc := 3) (st := [.ref 25]) lv_X7_87 rfl (q_isPair x y) dX7_lines_3 rfl (Nat.le_of_ble_eq_true rfl) ⟨Nat.le_of_ble_eq_true rfl, Nat.le_of_ble_eq_true rfl⟩ (Nat.le_of_ble_eq_true rfl) (Nat.le_of_ble_eq_true rfl) rfl (fun v9 T9 z9 _ => ?_) (fun _ _ h9 => h9.elim)
  obtain ⟨rfl, rfl⟩ := z9
  show am_W _ _ _ _ _ _ _ _ _ _ _ _ _ _ _ 6 [some (.ref 25), some (.int x), some (.int y), some (.int w), none, none] [.int (bI (ipr x y)), .ref 25] (mdS S th pd wd ln sq st ct cl ft zn a26 a27 a28 a29 a30 a31 a32 a33 a34 a35 a36 a37 a38 a39 a40 a41 a42 a43 a44) 0 0
  rw [bI_f (ipr_f hb)]
  refine am_iload_n (I := iX7_lines) (pc := 6) dX7_lines_6 rfl rfl ?_
  refine am_iconst (I := iX7_lines) (pc := 7) (x := 1) dX7_lines_7 (by decide) ?_
  refine am_icmp_lt (I := iX7_lines) (pc := 8) (tgt := 21) dX7_lines_8 (by decide) (fun c8 => ?_) (fun c8 => ?_)
  · refine am_iconst (I := iX7_lines) (pc := 21) (x := 0) dX7_lines_21 (by decide) ?_
    refine am_callV (I := iX7_lines) (pc := 22) (st := []) lv_X7_79 (q_goes1 _) dX7_lines_22 md_25 rfl (Nat.le_of_ble_eq_true rfl) ⟨Nat.le_of_ble_eq_true rfl, Nat.le_of_ble_eq_true rfl⟩ (Nat.le_of_ble_eq_true rfl) (Nat.le_of_ble_eq_true rfl) rfl (fun v9 T9 z9 _ => ?_) (fun _ _ h9 => h9.elim)
    obtain ⟨rfl, rfl⟩ := z9
    show am_W _ _ _ _ _ _ _ _ _ _ _ _ _ _ _ 25 [some (.ref 25), some (.int x), some (.int y), some (.int w), none, none] [.int 0] (mdS S 1 pd wd ln sq st ct cl ft zn a26 a27 a28 a29 a30 a31 a32 a33 a34 a35 a36 a37 a38 a39 a40 a41 a42 a43 a44) 0 0
    refine am_if_ne (I := iX7_lines) (pc := 25) (tgt := 30) dX7_lines_25 (by decide) (fun c25 => ?_) (fun c25 => ?_)
    · exact absurd rfl c25
    · refine am_iconst (I := iX7_lines) (pc := 28) (x := 0) dX7_lines_28 (by decide) ?_
      exact am_iret (I := iX7_lines) (pc := 29) dX7_lines_29 rfl (Nat.le_refl _) (Nat.le_refl _) (⟨rfl, rfl⟩)
  · refine am_iload_n (I := iX7_lines) (pc := 11) dX7_lines_11 rfl rfl ?_
    refine am_bipush (I := iX7_lines) (pc := 12) (x := 60) dX7_lines_12 (by decide) ?_
    refine am_icmp_gt (I := iX7_lines) (pc := 14) (tgt := 21) dX7_lines_14 (by decide) (fun c14 => ?_) (fun c14 => ?_)
    · refine am_iconst (I := iX7_lines) (pc := 21) (x := 0) dX7_lines_21 (by decide) ?_
      refine am_callV (I := iX7_lines) (pc := 22) (st := []) lv_X7_79 (q_goes1 _) dX7_lines_22 md_25 rfl (Nat.le_of_ble_eq_true rfl) ⟨Nat.le_of_ble_eq_true rfl, Nat.le_of_ble_eq_true rfl⟩ (Nat.le_of_ble_eq_true rfl) (Nat.le_of_ble_eq_true rfl) rfl (fun v9 T9 z9 _ => ?_) (fun _ _ h9 => h9.elim)
      obtain ⟨rfl, rfl⟩ := z9
      show am_W _ _ _ _ _ _ _ _ _ _ _ _ _ _ _ 25 [some (.ref 25), some (.int x), some (.int y), some (.int w), none, none] [.int 0] (mdS S 1 pd wd ln sq st ct cl ft zn a26 a27 a28 a29 a30 a31 a32 a33 a34 a35 a36 a37 a38 a39 a40 a41 a42 a43 a44) 0 0
      refine am_if_ne (I := iX7_lines) (pc := 25) (tgt := 30) dX7_lines_25 (by decide) (fun c25 => ?_) (fun c25 => ?_)
      · exact absurd rfl c25
      · refine am_iconst (I := iX7_lines) (pc := 28) (x := 0) dX7_lines_28 (by decide) ?_
        exact am_iret (I := iX7_lines) (pc := 29) dX7_lines_29 rfl (Nat.le_refl _) (Nat.le_refl _) (⟨rfl, rfl⟩)
    · refine am_iconst (I := iX7_lines) (pc := 17) (x := 1) dX7_lines_17 (by decide) ?_
      refine am_goto (I := iX7_lines) (pc := 18) (tgt := 22) dX7_lines_18 (by decide) ?_
      refine am_callV (I := iX7_lines) (pc := 22) (st := []) lv_X7_79 (q_goes1 _) dX7_lines_22 md_25 rfl (Nat.le_of_ble_eq_true rfl) ⟨Nat.le_of_ble_eq_true rfl, Nat.le_of_ble_eq_true rfl⟩ (Nat.le_of_ble_eq_true rfl) (Nat.le_of_ble_eq_true rfl) rfl (fun v9 T9 z9 _ => ?_) (fun _ _ h9 => h9.elim)
      obtain ⟨rfl, rfl⟩ := z9
      show am_W _ _ _ _ _ _ _ _ _ _ _ _ _ _ _ 25 [some (.ref 25), some (.int x), some (.int y), some (.int w), none, none] [.int 0] (mdS S 1 pd wd ln sq st ct cl ft zn a26 a27 a28 a29 a30 a31 a32 a33 a34 a35 a36 a37 a38 a39 a40 a41 a42 a43 a44) 0 0
      refine am_if_ne (I := iX7_lines) (pc := 25) (tgt := 30) dX7_lines_25 (by decide) (fun c25 => ?_) (fun c25 => ?_)
      · exact absurd rfl c25
      · refine am_iconst (I := iX7_lines) (pc := 28) (x := 0) dX7_lines_28 (by decide) ?_
        exact am_iret (I := iX7_lines) (pc := 29) dX7_lines_29 rfl (Nat.le_refl _) (Nat.le_refl _) (⟨rfl, rfl⟩)
set_option maxRecDepth 100000 in
set_option maxHeartbeats 4000000 in
theorem q_lines_x2 {K : am_K} {l : Launch} {S : am_S} {th pd wd ln sq st ct cl ft zn : Int32} {a26 a27 a28 a29 a30 a31 a32 a33 a34 a35 a36 a37 a38 a39 a40 a41 a42 a43 a44 : Nat → Int32} (p q : Nat) (w : Int32) (hp : p < 10) (hq : q < 5) (hw : w < 1 ∨ 60 < w) : am_M K l iX7_lines 2 0 0 [.ref 25, .int (nI p), .int (nI q), .int w] (mdS S th pd wd ln sq st ct cl ft zn a26 a27 a28 a29 a30 a31 a32 a33 a34 a35 a36 a37 a38 a39 a40 a41 a42 a43 a44) (fun v S' => v = some (.int (0)) ∧ mdS S 2 pd wd ln sq st ct cl ft zn a26 a27 a28 a29 a30 a31 a32 a33 a34 a35 a36 a37 a38 a39 a40 a41 a42 a43 a44 = S') (fun _ _ => False) := by
  refine am_body (by decide) rfl (by simp [Value.category]) (Nat.le_of_ble_eq_true rfl) (fun xp xe xs xm xa xb xt xc ad0 => ?_)
  show am_W _ _ _ _ _ _ _ _ _ _ _ _ _ _ _ 0 [some (.ref 25), some (.int (nI p)), some (.int (nI q)), some (.int w), none, none] [] (mdS S th pd wd ln sq st ct cl ft zn a26 a27 a28 a29 a30 a31 a32 a33 a34 a35 a36 a37 a38 a39 a40 a41 a42 a43 a44) 0 0
  refine am_aload_n (I := iX7_lines) (pc := 0) dX7_lines_0 rfl rfl ?_
  refine am_iload_n (I := iX7_lines) (pc := 1) dX7_lines_1 rfl rfl ?_
  refine am_iload_n (I := iX7_lines) (pc := 2) dX7_lines_2 rfl rfl ?_
  refine am_callS (I := iX7_lines) (pc := 3) (st := [.ref 25]) lv_X7_87 rfl (q_isPair (nI p) (nI q)) dX7_lines_3 rfl (Nat.le_of_ble_eq_true rfl) ⟨Nat.le_of_ble_eq_true rfl, Nat.le_of_ble_eq_true rfl⟩ (Nat.le_of_ble_eq_true rfl) (Nat.le_of_ble_eq_true rfl) rfl (fun v9 T9 z9 _ => ?_) (fun _ _ h9 => h9.elim)
  obtain ⟨rfl, rfl⟩ := z9
  show am_W _ _ _ _ _ _ _ _ _ _ _ _ _ _ _ 6 [some (.ref 25), some (.int (nI p)), some (.int (nI q)), some (.int w), none, none] [.int (bI (ipr (nI p) (nI q))), .ref 25] (mdS S th pd wd ln sq st ct cl ft zn a26 a27 a28 a29 a30 a31 a32 a33 a34 a35 a36 a37 a38 a39 a40 a41 a42 a43 a44) 0 0
  rw [bI_t (ipr_t hp hq)]
  refine am_iload_n (I := iX7_lines) (pc := 6) dX7_lines_6 rfl rfl ?_
  refine am_iconst (I := iX7_lines) (pc := 7) (x := 1) dX7_lines_7 (by decide) ?_
  refine am_icmp_lt (I := iX7_lines) (pc := 8) (tgt := 21) dX7_lines_8 (by decide) (fun c8 => ?_) (fun c8 => ?_)
  · refine am_iconst (I := iX7_lines) (pc := 21) (x := 0) dX7_lines_21 (by decide) ?_
    refine am_callV (I := iX7_lines) (pc := 22) (st := []) lv_X7_79 (q_goes2) dX7_lines_22 md_25 rfl (Nat.le_of_ble_eq_true rfl) ⟨Nat.le_of_ble_eq_true rfl, Nat.le_of_ble_eq_true rfl⟩ (Nat.le_of_ble_eq_true rfl) (Nat.le_of_ble_eq_true rfl) rfl (fun v9 T9 z9 _ => ?_) (fun _ _ h9 => h9.elim)
    obtain ⟨rfl, rfl⟩ := z9
    show am_W _ _ _ _ _ _ _ _ _ _ _ _ _ _ _ 25 [some (.ref 25), some (.int (nI p)), some (.int (nI q)), some (.int w), none, none] [.int 0] (mdS S 2 pd wd ln sq st ct cl ft zn a26 a27 a28 a29 a30 a31 a32 a33 a34 a35 a36 a37 a38 a39 a40 a41 a42 a43 a44) 0 0
    refine am_if_ne (I := iX7_lines) (pc := 25) (tgt := 30) dX7_lines_25 (by decide) (fun c25 => ?_) (fun c25 => ?_)
    · exact absurd rfl c25
    · refine am_iconst (I := iX7_lines) (pc := 28) (x := 0) dX7_lines_28 (by decide) ?_
      exact am_iret (I := iX7_lines) (pc := 29) dX7_lines_29 rfl (Nat.le_refl _) (Nat.le_refl _) (⟨rfl, rfl⟩)
  · refine am_iload_n (I := iX7_lines) (pc := 11) dX7_lines_11 rfl rfl ?_
    refine am_bipush (I := iX7_lines) (pc := 12) (x := 60) dX7_lines_12 (by decide) ?_
    refine am_icmp_gt (I := iX7_lines) (pc := 14) (tgt := 21) dX7_lines_14 (by decide) (fun c14 => ?_) (fun c14 => ?_)
    · refine am_iconst (I := iX7_lines) (pc := 21) (x := 0) dX7_lines_21 (by decide) ?_
      refine am_callV (I := iX7_lines) (pc := 22) (st := []) lv_X7_79 (q_goes2) dX7_lines_22 md_25 rfl (Nat.le_of_ble_eq_true rfl) ⟨Nat.le_of_ble_eq_true rfl, Nat.le_of_ble_eq_true rfl⟩ (Nat.le_of_ble_eq_true rfl) (Nat.le_of_ble_eq_true rfl) rfl (fun v9 T9 z9 _ => ?_) (fun _ _ h9 => h9.elim)
      obtain ⟨rfl, rfl⟩ := z9
      show am_W _ _ _ _ _ _ _ _ _ _ _ _ _ _ _ 25 [some (.ref 25), some (.int (nI p)), some (.int (nI q)), some (.int w), none, none] [.int 0] (mdS S 2 pd wd ln sq st ct cl ft zn a26 a27 a28 a29 a30 a31 a32 a33 a34 a35 a36 a37 a38 a39 a40 a41 a42 a43 a44) 0 0
      refine am_if_ne (I := iX7_lines) (pc := 25) (tgt := 30) dX7_lines_25 (by decide) (fun c25 => ?_) (fun c25 => ?_)
      · exact absurd rfl c25
      · refine am_iconst (I := iX7_lines) (pc := 28) (x := 0) dX7_lines_28 (by decide) ?_
        exact am_iret (I := iX7_lines) (pc := 29) dX7_lines_29 rfl (Nat.le_refl _) (Nat.le_refl _) (⟨rfl, rfl⟩)
    · exact absurd hw (fun q => q.elim c8 c14)
set_option maxRecDepth 100000 in
set_option maxHeartbeats 4000000 in
theorem q_lines_n {K : am_K} {l : Launch} {S : am_S} {th pd wd ln sq st ct cl ft zn : Int32} {a26 a28 a29 a31 a32 a33 a34 a35 a36 a37 a38 a39 a40 a41 a42 a43 a44 : Nat → Int32} (cn : Nat → Nat) (fb : Nat → Option Nat) (p q : Nat) (w : Int32) (h4 : ∀ k, cn k ≤ 4) (hf : ∀ l k, fb l = some k → k < 5) (hp : p < 10) (hq : q < 5) (hen : ends fb 5 (some q)) (hs : sh cn fb p 5 (some q) = none) (hw : ¬ w < 1 ∧ w ≤ 60) : am_M K l iX7_lines 2 0 0 [.ref 25, .int (nI p), .int (nI q), .int w] (mdS S th pd wd ln sq st ct cl ft zn a26 (fun k => nI (cn k)) a28 a29 (fun l => fo (fb l)) a31 a32 a33 a34 a35 a36 a37 a38 a39 a40 a41 a42 a43 a44) (fun v S' => v = some (.int (-1)) ∧ mdS S 0 pd wd ln sq st ct cl ft zn a26 (fun k => nI (cn k)) a28 a29 (fun l => fo (fb l)) a31 a32 a33 a34 a35 a36 a37 a38 a39 a40 a41 a42 a43 a44 = S') (fun _ _ => False) := by
  refine am_body (by decide) rfl (by simp [Value.category]) (Nat.le_of_ble_eq_true rfl) (fun xp xe xs xm xa xb xt xc ad0 => ?_)
  show am_W _ _ _ _ _ _ _ _ _ _ _ _ _ _ _ 0 [some (.ref 25), some (.int (nI p)), some (.int (nI q)), some (.int w), none, none] [] (mdS S th pd wd ln sq st ct cl ft zn a26 (fun k => nI (cn k)) a28 a29 (fun l => fo (fb l)) a31 a32 a33 a34 a35 a36 a37 a38 a39 a40 a41 a42 a43 a44) 0 0
  refine am_aload_n (I := iX7_lines) (pc := 0) dX7_lines_0 rfl rfl ?_
  refine am_iload_n (I := iX7_lines) (pc := 1) dX7_lines_1 rfl rfl ?_
  refine am_iload_n (I := iX7_lines) (pc := 2) dX7_lines_2 rfl rfl ?_
  refine am_callS (I := iX7_lines) (pc := 3) (st := [.ref 25]) lv_X7_87 rfl (q_isPair (nI p) (nI q)) dX7_lines_3 rfl (Nat.le_of_ble_eq_true rfl) ⟨Nat.le_of_ble_eq_true rfl, Nat.le_of_ble_eq_true rfl⟩ (Nat.le_of_ble_eq_true rfl) (Nat.le_of_ble_eq_true rfl) rfl (fun v9 T9 z9 _ => ?_) (fun _ _ h9 => h9.elim)
  obtain ⟨rfl, rfl⟩ := z9
  show am_W _ _ _ _ _ _ _ _ _ _ _ _ _ _ _ 6 [some (.ref 25), some (.int (nI p)), some (.int (nI q)), some (.int w), none, none] [.int (bI (ipr (nI p) (nI q))), .ref 25] (mdS S th pd wd ln sq st ct cl ft zn a26 (fun k => nI (cn k)) a28 a29 (fun l => fo (fb l)) a31 a32 a33 a34 a35 a36 a37 a38 a39 a40 a41 a42 a43 a44) 0 0
  rw [bI_t (ipr_t hp hq)]
  refine am_iload_n (I := iX7_lines) (pc := 6) dX7_lines_6 rfl rfl ?_
  refine am_iconst (I := iX7_lines) (pc := 7) (x := 1) dX7_lines_7 (by decide) ?_
  refine am_icmp_lt (I := iX7_lines) (pc := 8) (tgt := 21) dX7_lines_8 (by decide) (fun c8 => ?_) (fun c8 => ?_)
  · exact absurd c8 hw.1
  · refine am_iload_n (I := iX7_lines) (pc := 11) dX7_lines_11 rfl rfl ?_
    refine am_bipush (I := iX7_lines) (pc := 12) (x := 60) dX7_lines_12 (by decide) ?_
    refine am_icmp_gt (I := iX7_lines) (pc := 14) (tgt := 21) dX7_lines_14 (by decide) (fun c14 => ?_) (fun c14 => ?_)
    · exact absurd c14 (Int32.not_lt.mpr hw.2)
    · refine am_iconst (I := iX7_lines) (pc := 17) (x := 1) dX7_lines_17 (by decide) ?_
      refine am_goto (I := iX7_lines) (pc := 18) (tgt := 22) dX7_lines_18 (by decide) ?_
      refine am_callV (I := iX7_lines) (pc := 22) (st := []) lv_X7_79 (q_goes0) dX7_lines_22 md_25 rfl (Nat.le_of_ble_eq_true rfl) ⟨Nat.le_of_ble_eq_true rfl, Nat.le_of_ble_eq_true rfl⟩ (Nat.le_of_ble_eq_true rfl) (Nat.le_of_ble_eq_true rfl) rfl (fun v9 T9 z9 _ => ?_) (fun _ _ h9 => h9.elim)
      obtain ⟨rfl, rfl⟩ := z9
      show am_W _ _ _ _ _ _ _ _ _ _ _ _ _ _ _ 25 [some (.ref 25), some (.int (nI p)), some (.int (nI q)), some (.int w), none, none] [.int 1] (mdS S 0 pd wd ln sq st ct cl ft zn a26 (fun k => nI (cn k)) a28 a29 (fun l => fo (fb l)) a31 a32 a33 a34 a35 a36 a37 a38 a39 a40 a41 a42 a43 a44) 0 0
      refine am_if_ne (I := iX7_lines) (pc := 25) (tgt := 30) dX7_lines_25 (by decide) (fun c25 => ?_) (fun c25 => ?_)
      · refine am_aload_n (I := iX7_lines) (pc := 30) dX7_lines_30 rfl rfl ?_
        refine am_iload_n (I := iX7_lines) (pc := 31) dX7_lines_31 rfl rfl ?_
        refine am_iload_n (I := iX7_lines) (pc := 32) dX7_lines_32 rfl rfl ?_
        refine am_callV (I := iX7_lines) (pc := 33) (st := []) lv_X7_101 (q_latest0 cn fb p q h4 hf hp hq hen hs) dX7_lines_33 md_25 rfl (Nat.le_of_ble_eq_true rfl) ⟨Nat.le_of_ble_eq_true rfl, Nat.le_of_ble_eq_true rfl⟩ (Nat.le_of_ble_eq_true rfl) (Nat.le_of_ble_eq_true rfl) rfl (fun v9 T9 z9 _ => ?_) (fun _ _ h9 => h9.elim)
        obtain ⟨rfl, rfl⟩ := z9
        show am_W _ _ _ _ _ _ _ _ _ _ _ _ _ _ _ 36 [some (.ref 25), some (.int (nI p)), some (.int (nI q)), some (.int w), none, none] [.int (-1)] (mdS S 0 pd wd ln sq st ct cl ft zn a26 (fun k => nI (cn k)) a28 a29 (fun l => fo (fb l)) a31 a32 a33 a34 a35 a36 a37 a38 a39 a40 a41 a42 a43 a44) 0 0
        refine am_istore (I := iX7_lines) (pc := 36) (L' := [some (.ref 25), some (.int (nI p)), some (.int (nI q)), some (.int w), some (.int (-1)), none]) dX7_lines_36 (by decide) rfl ?_
        refine am_iload (I := iX7_lines) (pc := 38) dX7_lines_38 rfl ?_
        refine am_iconst (I := iX7_lines) (pc := 40) (x := (-1)) dX7_lines_40 (by decide) ?_
        refine am_icmp_ne (I := iX7_lines) (pc := 41) (tgt := 46) dX7_lines_41 (by decide) (fun c41 => ?_) (fun c41 => ?_)
        · exact absurd c41 (by decide)
        · refine am_iconst (I := iX7_lines) (pc := 44) (x := (-1)) dX7_lines_44 (by decide) ?_
          exact am_iret (I := iX7_lines) (pc := 45) dX7_lines_45 rfl (Nat.le_refl _) (Nat.le_refl _) (⟨rfl, rfl⟩)
      · exact absurd c25 (by decide)

set_option maxRecDepth 100000 in
set_option maxHeartbeats 4000000 in
theorem q_lines0 {K : am_K} {l : Launch} {S : am_S} {th pd wd ln sq st ct cl ft zn : Int32} {a26 a28 a29 a31 a32 a33 a34 a35 a36 a37 a38 a39 a40 a41 a42 a43 a44 : Nat → Int32} (cn : Nat → Nat) (fb : Nat → Option Nat) (p q : Nat) (r : Nat) (iv m : Nat) (g : Nat → Int32) (w : Int32) (h4 : ∀ k, cn k ≤ 4) (hf : ∀ l k, fb l = some k → k < 5) (hp : p < 10) (hq : q < 5) (hen : ends fb 5 (some q)) (hs : sh cn fb p 5 (some q) = some r) (eiv : iv = ((p * 5 + r) * 4 + (cn (p * 5 + r) - 1))) (hiv : iv < 200) (hm : a28 iv = nI m) (hm8 : m ≤ 80) (hg : ∀ t, t < m → a29 (80 * iv + t) = g t) (hw : ¬ w < 1 ∧ w ≤ 60) (hW : (cnt (sep g m) (m + 1)) ≤ 40) (hC : (mlP w (wB g m a31 (m + 1)) (wE g m a32 (m + 1)) (cnt (sep g m) (m + 1)) a33 a34 (cnt (sep g m) (m + 1))).1 0 = -1) : am_M K l iX7_lines 2 0 0 [.ref 25, .int (nI p), .int (nI q), .int w] (mdS S th pd wd ln sq st ct cl ft zn a26 (fun k => nI (cn k)) a28 a29 (fun l => fo (fb l)) a31 a32 a33 a34 a35 a36 a37 a38 a39 a40 a41 a42 a43 a44) (fun v S' => v = some (.int (-1)) ∧ mdS S 0 pd (nI (cnt (sep g m) (m + 1))) ln sq st ct cl ft zn a26 (fun k => nI (cn k)) a28 a29 (fun l => fo (fb l)) (wB g m a31 (m + 1)) (wE g m a32 (m + 1)) ((mlP w (wB g m a31 (m + 1)) (wE g m a32 (m + 1)) (cnt (sep g m) (m + 1)) a33 a34 (cnt (sep g m) (m + 1))).1) ((mlP w (wB g m a31 (m + 1)) (wE g m a32 (m + 1)) (cnt (sep g m) (m + 1)) a33 a34 (cnt (sep g m) (m + 1))).2) a35 a36 a37 a38 a39 a40 a41 a42 a43 a44 = S') (fun _ _ => False) := by
  refine am_body (by decide) rfl (by simp [Value.category]) (Nat.le_of_ble_eq_true rfl) (fun xp xe xs xm xa xb xt xc ad0 => ?_)
  show am_W _ _ _ _ _ _ _ _ _ _ _ _ _ _ _ 0 [some (.ref 25), some (.int (nI p)), some (.int (nI q)), some (.int w), none, none] [] (mdS S th pd wd ln sq st ct cl ft zn a26 (fun k => nI (cn k)) a28 a29 (fun l => fo (fb l)) a31 a32 a33 a34 a35 a36 a37 a38 a39 a40 a41 a42 a43 a44) 0 0
  refine am_aload_n (I := iX7_lines) (pc := 0) dX7_lines_0 rfl rfl ?_
  refine am_iload_n (I := iX7_lines) (pc := 1) dX7_lines_1 rfl rfl ?_
  refine am_iload_n (I := iX7_lines) (pc := 2) dX7_lines_2 rfl rfl ?_
  refine am_callS (I := iX7_lines) (pc := 3) (st := [.ref 25]) lv_X7_87 rfl (q_isPair (nI p) (nI q)) dX7_lines_3 rfl (Nat.le_of_ble_eq_true rfl) ⟨Nat.le_of_ble_eq_true rfl, Nat.le_of_ble_eq_true rfl⟩ (Nat.le_of_ble_eq_true rfl) (Nat.le_of_ble_eq_true rfl) rfl (fun v9 T9 z9 _ => ?_) (fun _ _ h9 => h9.elim)
  obtain ⟨rfl, rfl⟩ := z9
  show am_W _ _ _ _ _ _ _ _ _ _ _ _ _ _ _ 6 [some (.ref 25), some (.int (nI p)), some (.int (nI q)), some (.int w), none, none] [.int (bI (ipr (nI p) (nI q))), .ref 25] (mdS S th pd wd ln sq st ct cl ft zn a26 (fun k => nI (cn k)) a28 a29 (fun l => fo (fb l)) a31 a32 a33 a34 a35 a36 a37 a38 a39 a40 a41 a42 a43 a44) 0 0
  rw [bI_t (ipr_t hp hq)]
  refine am_iload_n (I := iX7_lines) (pc := 6) dX7_lines_6 rfl rfl ?_
  refine am_iconst (I := iX7_lines) (pc := 7) (x := 1) dX7_lines_7 (by decide) ?_
  refine am_icmp_lt (I := iX7_lines) (pc := 8) (tgt := 21) dX7_lines_8 (by decide) (fun c8 => ?_) (fun c8 => ?_)
  · exact absurd c8 hw.1
  · refine am_iload_n (I := iX7_lines) (pc := 11) dX7_lines_11 rfl rfl ?_
    refine am_bipush (I := iX7_lines) (pc := 12) (x := 60) dX7_lines_12 (by decide) ?_
    refine am_icmp_gt (I := iX7_lines) (pc := 14) (tgt := 21) dX7_lines_14 (by decide) (fun c14 => ?_) (fun c14 => ?_)
    · exact absurd c14 (Int32.not_lt.mpr hw.2)
    · refine am_iconst (I := iX7_lines) (pc := 17) (x := 1) dX7_lines_17 (by decide) ?_
      refine am_goto (I := iX7_lines) (pc := 18) (tgt := 22) dX7_lines_18 (by decide) ?_
      refine am_callV (I := iX7_lines) (pc := 22) (st := []) lv_X7_79 (q_goes0) dX7_lines_22 md_25 rfl (Nat.le_of_ble_eq_true rfl) ⟨Nat.le_of_ble_eq_true rfl, Nat.le_of_ble_eq_true rfl⟩ (Nat.le_of_ble_eq_true rfl) (Nat.le_of_ble_eq_true rfl) rfl (fun v9 T9 z9 _ => ?_) (fun _ _ h9 => h9.elim)
      obtain ⟨rfl, rfl⟩ := z9
      show am_W _ _ _ _ _ _ _ _ _ _ _ _ _ _ _ 25 [some (.ref 25), some (.int (nI p)), some (.int (nI q)), some (.int w), none, none] [.int 1] (mdS S 0 pd wd ln sq st ct cl ft zn a26 (fun k => nI (cn k)) a28 a29 (fun l => fo (fb l)) a31 a32 a33 a34 a35 a36 a37 a38 a39 a40 a41 a42 a43 a44) 0 0
      refine am_if_ne (I := iX7_lines) (pc := 25) (tgt := 30) dX7_lines_25 (by decide) (fun c25 => ?_) (fun c25 => ?_)
      · refine am_aload_n (I := iX7_lines) (pc := 30) dX7_lines_30 rfl rfl ?_
        refine am_iload_n (I := iX7_lines) (pc := 31) dX7_lines_31 rfl rfl ?_
        refine am_iload_n (I := iX7_lines) (pc := 32) dX7_lines_32 rfl rfl ?_
        refine am_callV (I := iX7_lines) (pc := 33) (st := []) lv_X7_101 (q_latest1 cn fb p q r h4 hf hp hq hen hs) dX7_lines_33 md_25 rfl (Nat.le_of_ble_eq_true rfl) ⟨Nat.le_of_ble_eq_true rfl, Nat.le_of_ble_eq_true rfl⟩ (Nat.le_of_ble_eq_true rfl) (Nat.le_of_ble_eq_true rfl) rfl (fun v9 T9 z9 _ => ?_) (fun _ _ h9 => h9.elim)
        obtain ⟨rfl, rfl⟩ := z9
        show am_W _ _ _ _ _ _ _ _ _ _ _ _ _ _ _ 36 [some (.ref 25), some (.int (nI p)), some (.int (nI q)), some (.int w), none, none] [.int (nI ((p * 5 + r) * 4 + (cn (p * 5 + r) - 1)))] (mdS S 0 pd wd ln sq st ct cl ft zn a26 (fun k => nI (cn k)) a28 a29 (fun l => fo (fb l)) a31 a32 a33 a34 a35 a36 a37 a38 a39 a40 a41 a42 a43 a44) 0 0
        obtain ⟨hr, h0⟩ := sh_lt (cn := cn) (fb := fb) (p := p) hf 5 (some q) (fun j h9 => by cases h9; exact hq) r hs
        rw [← eiv]
        refine am_istore (I := iX7_lines) (pc := 36) (L' := [some (.ref 25), some (.int (nI p)), some (.int (nI q)), some (.int w), some (.int (nI iv)), none]) dX7_lines_36 (by decide) rfl ?_
        refine am_iload (I := iX7_lines) (pc := 38) dX7_lines_38 rfl ?_
        refine am_iconst (I := iX7_lines) (pc := 40) (x := (-1)) dX7_lines_40 (by decide) ?_
        refine am_icmp_ne (I := iX7_lines) (pc := 41) (tgt := 46) dX7_lines_41 (by decide) (fun c41 => ?_) (fun c41 => ?_)
        · refine am_aload_n (I := iX7_lines) (pc := 46) dX7_lines_46 rfl rfl ?_
          refine am_iload (I := iX7_lines) (pc := 47) dX7_lines_47 rfl ?_
          refine am_callV (I := iX7_lines) (pc := 49) (st := []) lv_X7_104 (q_part iv m g hiv hm hm8 hg hW) dX7_lines_49 md_25 rfl (Nat.le_of_ble_eq_true rfl) ⟨Nat.le_of_ble_eq_true rfl, Nat.le_of_ble_eq_true rfl⟩ (Nat.le_of_ble_eq_true rfl) (Nat.le_of_ble_eq_true rfl) rfl (fun v9 T9 z9 _ => ?_) (fun _ _ h9 => h9.elim)
          obtain ⟨rfl, rfl⟩ := z9
          show am_W _ _ _ _ _ _ _ _ _ _ _ _ _ _ _ 52 [some (.ref 25), some (.int (nI p)), some (.int (nI q)), some (.int w), some (.int (nI iv)), none] [] (mdS S 0 pd (nI (cnt (sep g m) (m + 1))) ln sq st ct cl ft zn a26 (fun k => nI (cn k)) a28 a29 (fun l => fo (fb l)) (wB g m a31 (m + 1)) (wE g m a32 (m + 1)) a33 a34 a35 a36 a37 a38 a39 a40 a41 a42 a43 a44) 0 0
          refine am_aload_n (I := iX7_lines) (pc := 52) dX7_lines_52 rfl rfl ?_
          refine am_getf (I := iX7_lines) (pc := 53) lf_X7_98 dX7_lines_53 md_25 rfl ?_
          refine am_iconst (I := iX7_lines) (pc := 56) (x := 1) dX7_lines_56 (by decide) ?_
          refine am_isub (I := iX7_lines) (pc := 57) dX7_lines_57 ?_
          refine am_istore (I := iX7_lines) (pc := 58) (L' := [some (.ref 25), some (.int (nI p)), some (.int (nI q)), some (.int w), some (.int (nI iv)), some (.int ((nI (cnt (sep g m) (m + 1))) - 1))]) dX7_lines_58 (by decide) rfl ?_
          have loop60 : ∀ (k60 : Nat) (j : Nat), (cnt (sep g m) (m + 1)) - j < k60 → (j ≤ (cnt (sep g m) (m + 1))) → am_W K iX7_lines xp l xe (am_room 2 0 0) xs xm xa xb xt xc (mdS S th pd wd ln sq st ct cl ft zn a26 (fun k => nI (cn k)) a28 a29 (fun l => fo (fb l)) a31 a32 a33 a34 a35 a36 a37 a38 a39 a40 a41 a42 a43 a44) ad0 (am_E K ad0 (mdS S th pd wd ln sq st ct cl ft zn a26 (fun k => nI (cn k)) a28 a29 (fun l => fo (fb l)) a31 a32 a33 a34 a35 a36 a37 a38 a39 a40 a41 a42 a43 a44) (fun v S' => v = some (.int (-1)) ∧ mdS S 0 pd (nI (cnt (sep g m) (m + 1))) ln sq st ct cl ft zn a26 (fun k => nI (cn k)) a28 a29 (fun l => fo (fb l)) (wB g m a31 (m + 1)) (wE g m a32 (m + 1)) ((mlP w (wB g m a31 (m + 1)) (wE g m a32 (m + 1)) (cnt (sep g m) (m + 1)) a33 a34 (cnt (sep g m) (m + 1))).1) ((mlP w (wB g m a31 (m + 1)) (wE g m a32 (m + 1)) (cnt (sep g m) (m + 1)) a33 a34 (cnt (sep g m) (m + 1))).2) a35 a36 a37 a38 a39 a40 a41 a42 a43 a44 = S') (fun _ _ => False) xb xa xs 0 0) 60 [some (.ref 25), some (.int (nI p)), some (.int (nI q)), some (.int w), some (.int (nI iv)), some (.int (nI ((cnt (sep g m) (m + 1)) - j) - 1))] [] (mdS S 0 pd (nI (cnt (sep g m) (m + 1))) ln sq st ct cl ft zn a26 (fun k => nI (cn k)) a28 a29 (fun l => fo (fb l)) (wB g m a31 (m + 1)) (wE g m a32 (m + 1)) ((mlP w (wB g m a31 (m + 1)) (wE g m a32 (m + 1)) (cnt (sep g m) (m + 1)) a33 a34 j).1) ((mlP w (wB g m a31 (m + 1)) (wE g m a32 (m + 1)) (cnt (sep g m) (m + 1)) a33 a34 j).2) a35 a36 a37 a38 a39 a40 a41 a42 a43 a44) 0 0 := by
            intro k60
            induction k60 with
            | zero => intro j h9; exact absurd h9 (Nat.not_lt_zero _)
            | succ k60 ih60 =>
              intro j hm60 hj
              refine am_iload (I := iX7_lines) (pc := 60) dX7_lines_60 rfl ?_
              refine am_if_lt (I := iX7_lines) (pc := 62) (tgt := 78) dX7_lines_62 (by decide) (fun c62 => ?_) (fun c62 => ?_)
              · have gj : j = (cnt (sep g m) (m + 1)) := by
                  rcases Nat.lt_or_ge j (cnt (sep g m) (m + 1)) with q9 | q9
                  · exfalso
                    rw [show (cnt (sep g m) (m + 1)) - j = ((cnt (sep g m) (m + 1)) - (j + 1)) + 1 by omega, nI_pred] at c62
                    exact nI_pos (by omega) c62
                  · omega
                rw [gj]
                refine am_aload_n (I := iX7_lines) (pc := 78) dX7_lines_78 rfl rfl ?_
                refine am_getf (I := iX7_lines) (pc := 79) lf_X7_31 dX7_lines_79 md_25 rfl ?_
                refine am_iconst (I := iX7_lines) (pc := 82) (x := 0) dX7_lines_82 (by decide) ?_
                refine am_iaload (I := iX7_lines) (pc := 83) dX7_lines_83 md_33 rfl (vp_in_nI (show 0 < 42 by decide) (by decide)) ?_
                refine am_iconst (I := iX7_lines) (pc := 84) (x := (-1)) dX7_lines_84 (by decide) ?_
                refine am_icmp_ne (I := iX7_lines) (pc := 85) (tgt := 90) dX7_lines_85 (by decide) (fun c85 => ?_) (fun c85 => ?_)
                · exact absurd hC c85
                · refine am_iconst (I := iX7_lines) (pc := 88) (x := (-1)) dX7_lines_88 (by decide) ?_
                  exact am_iret (I := iX7_lines) (pc := 89) dX7_lines_89 rfl (Nat.le_refl _) (Nat.le_refl _) (⟨rfl, rfl⟩)
              · have lj : j < (cnt (sep g m) (m + 1)) := by
                  rcases Nat.lt_or_ge j (cnt (sep g m) (m + 1)) with q9 | q9
                  · exact q9
                  · exact absurd (show nI ((cnt (sep g m) (m + 1)) - j) - 1 < 0 by rw [show (cnt (sep g m) (m + 1)) - j = 0 by omega]; decide) c62
                have e62 : nI ((cnt (sep g m) (m + 1)) - j) - 1 = nI ((cnt (sep g m) (m + 1)) - (j + 1)) := by rw [show (cnt (sep g m) (m + 1)) - j = ((cnt (sep g m) (m + 1)) - (j + 1)) + 1 by omega]; exact nI_pred _
                rw [e62]
                refine am_aload_n (I := iX7_lines) (pc := 65) dX7_lines_65 rfl rfl ?_
                refine am_iload (I := iX7_lines) (pc := 66) dX7_lines_66 rfl ?_
                refine am_iload_n (I := iX7_lines) (pc := 68) dX7_lines_68 rfl rfl ?_
                refine am_callV (I := iX7_lines) (pc := 69) (st := []) lv_X7_108 (q_solve (cnt (sep g m) (m + 1)) ((cnt (sep g m) (m + 1)) - (j + 1)) w hW (by omega)) dX7_lines_69 md_25 rfl (Nat.le_of_ble_eq_true rfl) ⟨Nat.le_of_ble_eq_true rfl, Nat.le_of_ble_eq_true rfl⟩ (Nat.le_of_ble_eq_true rfl) (Nat.le_of_ble_eq_true rfl) rfl (fun v9 T9 z9 _ => ?_) (fun _ _ h9 => h9.elim)
                obtain ⟨rfl, rfl⟩ := z9
                show am_W _ _ _ _ _ _ _ _ _ _ _ _ _ _ _ 72 [some (.ref 25), some (.int (nI p)), some (.int (nI q)), some (.int w), some (.int (nI iv)), some (.int (nI ((cnt (sep g m) (m + 1)) - (j + 1))))] [] (mdS S 0 pd (nI (cnt (sep g m) (m + 1))) ln sq st ct cl ft zn a26 (fun k => nI (cn k)) a28 a29 (fun l => fo (fb l)) (wB g m a31 (m + 1)) (wE g m a32 (m + 1)) ((mlP w (wB g m a31 (m + 1)) (wE g m a32 (m + 1)) (cnt (sep g m) (m + 1)) a33 a34 (j + 1)).1) ((mlP w (wB g m a31 (m + 1)) (wE g m a32 (m + 1)) (cnt (sep g m) (m + 1)) a33 a34 (j + 1)).2) a35 a36 a37 a38 a39 a40 a41 a42 a43 a44) 0 0
                refine am_iinc (I := iX7_lines) (pc := 72) (y := ((nI ((cnt (sep g m) (m + 1)) - (j + 1))) + (-1))) (L' := [some (.ref 25), some (.int (nI p)), some (.int (nI q)), some (.int w), some (.int (nI iv)), some (.int ((nI ((cnt (sep g m) (m + 1)) - (j + 1))) + (-1)))]) dX7_lines_72 rfl rfl rfl ?_
                refine am_goto (I := iX7_lines) (pc := 75) (tgt := 60) dX7_lines_75 (by decide) ?_
                exact am_same rfl (by rw [add_m1, show (cnt (sep g m) (m + 1)) - (j + 1) = (cnt (sep g m) (m + 1)) - j - 1 by omega]) rfl rfl rfl rfl (ih60 (j + 1) (by omega) (by omega))
          exact am_same rfl (by rfl) rfl (by rfl) rfl rfl (loop60 _ 0 (Nat.lt_succ_self _) (Nat.zero_le _))
        · exact absurd c41 (fun e9 => by have h9 := nI_pos (n := iv) (by omega); rw [e9] at h9; exact h9 (by decide))
      · exact absurd c25 (by decide)
set_option maxRecDepth 100000 in
set_option maxHeartbeats 4000000 in
theorem q_lines1 {K : am_K} {l : Launch} {S : am_S} {th pd wd ln sq st ct cl ft zn : Int32} {a26 a28 a29 a31 a32 a33 a34 a35 a36 a37 a38 a39 a40 a41 a42 a43 a44 : Nat → Int32} (cn : Nat → Nat) (fb : Nat → Option Nat) (p q : Nat) (r : Nat) (iv m : Nat) (g : Nat → Int32) (w : Int32) (tk : Nat → Nat) (h4 : ∀ k, cn k ≤ 4) (hf : ∀ l k, fb l = some k → k < 5) (hp : p < 10) (hq : q < 5) (hen : ends fb 5 (some q)) (hs : sh cn fb p 5 (some q) = some r) (eiv : iv = ((p * 5 + r) * 4 + (cn (p * 5 + r) - 1))) (hiv : iv < 200) (hm : a28 iv = nI m) (hm8 : m ≤ 80) (hg : ∀ t, t < m → a29 (80 * iv + t) = g t) (hw : ¬ w < 1 ∧ w ≤ 60) (hW : (cnt (sep g m) (m + 1)) ≤ 40) (hC : ¬ (mlP w (wB g m a31 (m + 1)) (wE g m a32 (m + 1)) (cnt (sep g m) (m + 1)) a33 a34 (cnt (sep g m) (m + 1))).1 0 = -1) (hT : ∀ j, j < (cnt (sep g m) (m + 1)) → (mlP w (wB g m a31 (m + 1)) (wE g m a32 (m + 1)) (cnt (sep g m) (m + 1)) a33 a34 (cnt (sep g m) (m + 1))).2 j = nI (tk j) ∧ 0 < tk j ∧ j + tk j ≤ (cnt (sep g m) (m + 1))) : am_M K l iX7_lines 2 0 0 [.ref 25, .int (nI p), .int (nI q), .int w] (mdS S th pd wd ln sq st ct cl ft zn a26 (fun k => nI (cn k)) a28 a29 (fun l => fo (fb l)) a31 a32 a33 a34 a35 a36 a37 a38 a39 a40 a41 a42 a43 a44) (fun v S' => v = some (.int (nI (nct (fun j => j + tk j) (cnt (sep g m) (m + 1)) (cnt (sep g m) (m + 1)) 0))) ∧ mdS S 0 pd (nI (cnt (sep g m) (m + 1))) (nI (nct (fun j => j + tk j) (cnt (sep g m) (m + 1)) (cnt (sep g m) (m + 1)) 0)) ((mlP w (wB g m a31 (m + 1)) (wE g m a32 (m + 1)) (cnt (sep g m) (m + 1)) a33 a34 (cnt (sep g m) (m + 1))).1 0) 1 ct cl ft zn a26 (fun k => nI (cn k)) a28 a29 (fun l => fo (fb l)) (wB g m a31 (m + 1)) (wE g m a32 (m + 1)) ((mlP w (wB g m a31 (m + 1)) (wE g m a32 (m + 1)) (cnt (sep g m) (m + 1)) a33 a34 (cnt (sep g m) (m + 1))).1) ((mlP w (wB g m a31 (m + 1)) (wE g m a32 (m + 1)) (cnt (sep g m) (m + 1)) a33 a34 (cnt (sep g m) (m + 1))).2) (rcat a35 0 (fun j => (wB g m a31 (m + 1)) (tfi (fun j => j + tk j) j)) (nct (fun j => j + tk j) (cnt (sep g m) (m + 1)) (cnt (sep g m) (m + 1)) 0)) (rcat a36 0 (fun j => (wE g m a32 (m + 1)) ((fun j => j + tk j) (tfi (fun j => j + tk j) j) - 1) - (wB g m a31 (m + 1)) (tfi (fun j => j + tk j) j)) (nct (fun j => j + tk j) (cnt (sep g m) (m + 1)) (cnt (sep g m) (m + 1)) 0)) a37 a38 a39 a40 a41 a42 a43 a44 = S') (fun _ _ => False) := by
  refine am_body (by decide) rfl (by simp [Value.category]) (Nat.le_of_ble_eq_true rfl) (fun xp xe xs xm xa xb xt xc ad0 => ?_)
  show am_W _ _ _ _ _ _ _ _ _ _ _ _ _ _ _ 0 [some (.ref 25), some (.int (nI p)), some (.int (nI q)), some (.int w), none, none] [] (mdS S th pd wd ln sq st ct cl ft zn a26 (fun k => nI (cn k)) a28 a29 (fun l => fo (fb l)) a31 a32 a33 a34 a35 a36 a37 a38 a39 a40 a41 a42 a43 a44) 0 0
  refine am_aload_n (I := iX7_lines) (pc := 0) dX7_lines_0 rfl rfl ?_
  refine am_iload_n (I := iX7_lines) (pc := 1) dX7_lines_1 rfl rfl ?_
  refine am_iload_n (I := iX7_lines) (pc := 2) dX7_lines_2 rfl rfl ?_
  refine am_callS (I := iX7_lines) (pc := 3) (st := [.ref 25]) lv_X7_87 rfl (q_isPair (nI p) (nI q)) dX7_lines_3 rfl (Nat.le_of_ble_eq_true rfl) ⟨Nat.le_of_ble_eq_true rfl, Nat.le_of_ble_eq_true rfl⟩ (Nat.le_of_ble_eq_true rfl) (Nat.le_of_ble_eq_true rfl) rfl (fun v9 T9 z9 _ => ?_) (fun _ _ h9 => h9.elim)
  obtain ⟨rfl, rfl⟩ := z9
  show am_W _ _ _ _ _ _ _ _ _ _ _ _ _ _ _ 6 [some (.ref 25), some (.int (nI p)), some (.int (nI q)), some (.int w), none, none] [.int (bI (ipr (nI p) (nI q))), .ref 25] (mdS S th pd wd ln sq st ct cl ft zn a26 (fun k => nI (cn k)) a28 a29 (fun l => fo (fb l)) a31 a32 a33 a34 a35 a36 a37 a38 a39 a40 a41 a42 a43 a44) 0 0
  rw [bI_t (ipr_t hp hq)]
  refine am_iload_n (I := iX7_lines) (pc := 6) dX7_lines_6 rfl rfl ?_
  refine am_iconst (I := iX7_lines) (pc := 7) (x := 1) dX7_lines_7 (by decide) ?_
  refine am_icmp_lt (I := iX7_lines) (pc := 8) (tgt := 21) dX7_lines_8 (by decide) (fun c8 => ?_) (fun c8 => ?_)
  · exact absurd c8 hw.1
  · refine am_iload_n (I := iX7_lines) (pc := 11) dX7_lines_11 rfl rfl ?_
    refine am_bipush (I := iX7_lines) (pc := 12) (x := 60) dX7_lines_12 (by decide) ?_
    refine am_icmp_gt (I := iX7_lines) (pc := 14) (tgt := 21) dX7_lines_14 (by decide) (fun c14 => ?_) (fun c14 => ?_)
    · exact absurd c14 (Int32.not_lt.mpr hw.2)
    · refine am_iconst (I := iX7_lines) (pc := 17) (x := 1) dX7_lines_17 (by decide) ?_
      refine am_goto (I := iX7_lines) (pc := 18) (tgt := 22) dX7_lines_18 (by decide) ?_
      refine am_callV (I := iX7_lines) (pc := 22) (st := []) lv_X7_79 (q_goes0) dX7_lines_22 md_25 rfl (Nat.le_of_ble_eq_true rfl) ⟨Nat.le_of_ble_eq_true rfl, Nat.le_of_ble_eq_true rfl⟩ (Nat.le_of_ble_eq_true rfl) (Nat.le_of_ble_eq_true rfl) rfl (fun v9 T9 z9 _ => ?_) (fun _ _ h9 => h9.elim)
      obtain ⟨rfl, rfl⟩ := z9
      show am_W _ _ _ _ _ _ _ _ _ _ _ _ _ _ _ 25 [some (.ref 25), some (.int (nI p)), some (.int (nI q)), some (.int w), none, none] [.int 1] (mdS S 0 pd wd ln sq st ct cl ft zn a26 (fun k => nI (cn k)) a28 a29 (fun l => fo (fb l)) a31 a32 a33 a34 a35 a36 a37 a38 a39 a40 a41 a42 a43 a44) 0 0
      refine am_if_ne (I := iX7_lines) (pc := 25) (tgt := 30) dX7_lines_25 (by decide) (fun c25 => ?_) (fun c25 => ?_)
      · refine am_aload_n (I := iX7_lines) (pc := 30) dX7_lines_30 rfl rfl ?_
        refine am_iload_n (I := iX7_lines) (pc := 31) dX7_lines_31 rfl rfl ?_
        refine am_iload_n (I := iX7_lines) (pc := 32) dX7_lines_32 rfl rfl ?_
        refine am_callV (I := iX7_lines) (pc := 33) (st := []) lv_X7_101 (q_latest1 cn fb p q r h4 hf hp hq hen hs) dX7_lines_33 md_25 rfl (Nat.le_of_ble_eq_true rfl) ⟨Nat.le_of_ble_eq_true rfl, Nat.le_of_ble_eq_true rfl⟩ (Nat.le_of_ble_eq_true rfl) (Nat.le_of_ble_eq_true rfl) rfl (fun v9 T9 z9 _ => ?_) (fun _ _ h9 => h9.elim)
        obtain ⟨rfl, rfl⟩ := z9
        show am_W _ _ _ _ _ _ _ _ _ _ _ _ _ _ _ 36 [some (.ref 25), some (.int (nI p)), some (.int (nI q)), some (.int w), none, none] [.int (nI ((p * 5 + r) * 4 + (cn (p * 5 + r) - 1)))] (mdS S 0 pd wd ln sq st ct cl ft zn a26 (fun k => nI (cn k)) a28 a29 (fun l => fo (fb l)) a31 a32 a33 a34 a35 a36 a37 a38 a39 a40 a41 a42 a43 a44) 0 0
        obtain ⟨hr, h0⟩ := sh_lt (cn := cn) (fb := fb) (p := p) hf 5 (some q) (fun j h9 => by cases h9; exact hq) r hs
        rw [← eiv]
        refine am_istore (I := iX7_lines) (pc := 36) (L' := [some (.ref 25), some (.int (nI p)), some (.int (nI q)), some (.int w), some (.int (nI iv)), none]) dX7_lines_36 (by decide) rfl ?_
        refine am_iload (I := iX7_lines) (pc := 38) dX7_lines_38 rfl ?_
        refine am_iconst (I := iX7_lines) (pc := 40) (x := (-1)) dX7_lines_40 (by decide) ?_
        refine am_icmp_ne (I := iX7_lines) (pc := 41) (tgt := 46) dX7_lines_41 (by decide) (fun c41 => ?_) (fun c41 => ?_)
        · refine am_aload_n (I := iX7_lines) (pc := 46) dX7_lines_46 rfl rfl ?_
          refine am_iload (I := iX7_lines) (pc := 47) dX7_lines_47 rfl ?_
          refine am_callV (I := iX7_lines) (pc := 49) (st := []) lv_X7_104 (q_part iv m g hiv hm hm8 hg hW) dX7_lines_49 md_25 rfl (Nat.le_of_ble_eq_true rfl) ⟨Nat.le_of_ble_eq_true rfl, Nat.le_of_ble_eq_true rfl⟩ (Nat.le_of_ble_eq_true rfl) (Nat.le_of_ble_eq_true rfl) rfl (fun v9 T9 z9 _ => ?_) (fun _ _ h9 => h9.elim)
          obtain ⟨rfl, rfl⟩ := z9
          show am_W _ _ _ _ _ _ _ _ _ _ _ _ _ _ _ 52 [some (.ref 25), some (.int (nI p)), some (.int (nI q)), some (.int w), some (.int (nI iv)), none] [] (mdS S 0 pd (nI (cnt (sep g m) (m + 1))) ln sq st ct cl ft zn a26 (fun k => nI (cn k)) a28 a29 (fun l => fo (fb l)) (wB g m a31 (m + 1)) (wE g m a32 (m + 1)) a33 a34 a35 a36 a37 a38 a39 a40 a41 a42 a43 a44) 0 0
          refine am_aload_n (I := iX7_lines) (pc := 52) dX7_lines_52 rfl rfl ?_
          refine am_getf (I := iX7_lines) (pc := 53) lf_X7_98 dX7_lines_53 md_25 rfl ?_
          refine am_iconst (I := iX7_lines) (pc := 56) (x := 1) dX7_lines_56 (by decide) ?_
          refine am_isub (I := iX7_lines) (pc := 57) dX7_lines_57 ?_
          refine am_istore (I := iX7_lines) (pc := 58) (L' := [some (.ref 25), some (.int (nI p)), some (.int (nI q)), some (.int w), some (.int (nI iv)), some (.int ((nI (cnt (sep g m) (m + 1))) - 1))]) dX7_lines_58 (by decide) rfl ?_
          have loop60 : ∀ (k60 : Nat) (j : Nat), (cnt (sep g m) (m + 1)) - j < k60 → (j ≤ (cnt (sep g m) (m + 1))) → am_W K iX7_lines xp l xe (am_room 2 0 0) xs xm xa xb xt xc (mdS S th pd wd ln sq st ct cl ft zn a26 (fun k => nI (cn k)) a28 a29 (fun l => fo (fb l)) a31 a32 a33 a34 a35 a36 a37 a38 a39 a40 a41 a42 a43 a44) ad0 (am_E K ad0 (mdS S th pd wd ln sq st ct cl ft zn a26 (fun k => nI (cn k)) a28 a29 (fun l => fo (fb l)) a31 a32 a33 a34 a35 a36 a37 a38 a39 a40 a41 a42 a43 a44) (fun v S' => v = some (.int (nI (nct (fun j => j + tk j) (cnt (sep g m) (m + 1)) (cnt (sep g m) (m + 1)) 0))) ∧ mdS S 0 pd (nI (cnt (sep g m) (m + 1))) (nI (nct (fun j => j + tk j) (cnt (sep g m) (m + 1)) (cnt (sep g m) (m + 1)) 0)) ((mlP w (wB g m a31 (m + 1)) (wE g m a32 (m + 1)) (cnt (sep g m) (m + 1)) a33 a34 (cnt (sep g m) (m + 1))).1 0) 1 ct cl ft zn a26 (fun k => nI (cn k)) a28 a29 (fun l => fo (fb l)) (wB g m a31 (m + 1)) (wE g m a32 (m + 1)) ((mlP w (wB g m a31 (m + 1)) (wE g m a32 (m + 1)) (cnt (sep g m) (m + 1)) a33 a34 (cnt (sep g m) (m + 1))).1) ((mlP w (wB g m a31 (m + 1)) (wE g m a32 (m + 1)) (cnt (sep g m) (m + 1)) a33 a34 (cnt (sep g m) (m + 1))).2) (rcat a35 0 (fun j => (wB g m a31 (m + 1)) (tfi (fun j => j + tk j) j)) (nct (fun j => j + tk j) (cnt (sep g m) (m + 1)) (cnt (sep g m) (m + 1)) 0)) (rcat a36 0 (fun j => (wE g m a32 (m + 1)) ((fun j => j + tk j) (tfi (fun j => j + tk j) j) - 1) - (wB g m a31 (m + 1)) (tfi (fun j => j + tk j) j)) (nct (fun j => j + tk j) (cnt (sep g m) (m + 1)) (cnt (sep g m) (m + 1)) 0)) a37 a38 a39 a40 a41 a42 a43 a44 = S') (fun _ _ => False) xb xa xs 0 0) 60 [some (.ref 25), some (.int (nI p)), some (.int (nI q)), some (.int w), some (.int (nI iv)), some (.int (nI ((cnt (sep g m) (m + 1)) - j) - 1))] [] (mdS S 0 pd (nI (cnt (sep g m) (m + 1))) ln sq st ct cl ft zn a26 (fun k => nI (cn k)) a28 a29 (fun l => fo (fb l)) (wB g m a31 (m + 1)) (wE g m a32 (m + 1)) ((mlP w (wB g m a31 (m + 1)) (wE g m a32 (m + 1)) (cnt (sep g m) (m + 1)) a33 a34 j).1) ((mlP w (wB g m a31 (m + 1)) (wE g m a32 (m + 1)) (cnt (sep g m) (m + 1)) a33 a34 j).2) a35 a36 a37 a38 a39 a40 a41 a42 a43 a44) 0 0 := by
            intro k60
            induction k60 with
            | zero => intro j h9; exact absurd h9 (Nat.not_lt_zero _)
            | succ k60 ih60 =>
              intro j hm60 hj
              refine am_iload (I := iX7_lines) (pc := 60) dX7_lines_60 rfl ?_
              refine am_if_lt (I := iX7_lines) (pc := 62) (tgt := 78) dX7_lines_62 (by decide) (fun c62 => ?_) (fun c62 => ?_)
              · have gj : j = (cnt (sep g m) (m + 1)) := by
                  rcases Nat.lt_or_ge j (cnt (sep g m) (m + 1)) with q9 | q9
                  · exfalso
                    rw [show (cnt (sep g m) (m + 1)) - j = ((cnt (sep g m) (m + 1)) - (j + 1)) + 1 by omega, nI_pred] at c62
                    exact nI_pos (by omega) c62
                  · omega
                rw [gj]
                refine am_aload_n (I := iX7_lines) (pc := 78) dX7_lines_78 rfl rfl ?_
                refine am_getf (I := iX7_lines) (pc := 79) lf_X7_31 dX7_lines_79 md_25 rfl ?_
                refine am_iconst (I := iX7_lines) (pc := 82) (x := 0) dX7_lines_82 (by decide) ?_
                refine am_iaload (I := iX7_lines) (pc := 83) dX7_lines_83 md_33 rfl (vp_in_nI (show 0 < 42 by decide) (by decide)) ?_
                refine am_iconst (I := iX7_lines) (pc := 84) (x := (-1)) dX7_lines_84 (by decide) ?_
                refine am_icmp_ne (I := iX7_lines) (pc := 85) (tgt := 90) dX7_lines_85 (by decide) (fun c85 => ?_) (fun c85 => ?_)
                · refine am_aload_n (I := iX7_lines) (pc := 90) dX7_lines_90 rfl rfl ?_
                  refine am_iconst (I := iX7_lines) (pc := 91) (x := 0) dX7_lines_91 (by decide) ?_
                  refine am_putf (I := iX7_lines) (pc := 92) (fs' := [.int 0, .int pd, .ref 26, .ref 27, .ref 28, .ref 29, .ref 30, .int (nI (cnt (sep g m) (m + 1))), .ref 31, .ref 32, .ref 33, .ref 34, .int 0, .int sq, .int st, .ref 35, .ref 36, .ref 37, .ref 38, .int ct, .int cl, .int ft, .ref 39, .int zn, .ref 40, .ref 41, .ref 42, .ref 43, .ref 44]) lf_X7_112 dX7_lines_92 md_25 (fun _ => ⟨rfl, rfl⟩) (Nat.le_of_ble_eq_true rfl) rfl ?_
                  refine am_same (S' := mdS S 0 pd (nI (cnt (sep g m) (m + 1))) 0 sq st ct cl ft zn a26 (fun k => nI (cn k)) a28 a29 (fun l => fo (fb l)) (wB g m a31 (m + 1)) (wE g m a32 (m + 1)) ((mlP w (wB g m a31 (m + 1)) (wE g m a32 (m + 1)) (cnt (sep g m) (m + 1)) a33 a34 (cnt (sep g m) (m + 1))).1) ((mlP w (wB g m a31 (m + 1)) (wE g m a32 (m + 1)) (cnt (sep g m) (m + 1)) a33 a34 (cnt (sep g m) (m + 1))).2) a35 a36 a37 a38 a39 a40 a41 a42 a43 a44) rfl rfl rfl mdS_25 rfl rfl ?_
                  refine am_aload_n (I := iX7_lines) (pc := 95) dX7_lines_95 rfl rfl ?_
                  refine am_aload_n (I := iX7_lines) (pc := 96) dX7_lines_96 rfl rfl ?_
                  refine am_getf (I := iX7_lines) (pc := 97) lf_X7_31 dX7_lines_97 md_25 rfl ?_
                  refine am_iconst (I := iX7_lines) (pc := 100) (x := 0) dX7_lines_100 (by decide) ?_
                  refine am_iaload (I := iX7_lines) (pc := 101) dX7_lines_101 md_33 rfl (vp_in_nI (show 0 < 42 by decide) (by decide)) ?_
                  refine am_putf (I := iX7_lines) (pc := 102) (fs' := [.int 0, .int pd, .ref 26, .ref 27, .ref 28, .ref 29, .ref 30, .int (nI (cnt (sep g m) (m + 1))), .ref 31, .ref 32, .ref 33, .ref 34, .int 0, .int (((mlP w (wB g m a31 (m + 1)) (wE g m a32 (m + 1)) (cnt (sep g m) (m + 1)) a33 a34 (cnt (sep g m) (m + 1))).1) (0 : Int32).toNatClampNeg), .int st, .ref 35, .ref 36, .ref 37, .ref 38, .int ct, .int cl, .int ft, .ref 39, .int zn, .ref 40, .ref 41, .ref 42, .ref 43, .ref 44]) lf_X7_115 dX7_lines_102 md_25 (fun _ => ⟨rfl, rfl⟩) (Nat.le_of_ble_eq_true rfl) rfl ?_
                  refine am_same (S' := mdS S 0 pd (nI (cnt (sep g m) (m + 1))) 0 (((mlP w (wB g m a31 (m + 1)) (wE g m a32 (m + 1)) (cnt (sep g m) (m + 1)) a33 a34 (cnt (sep g m) (m + 1))).1) (0 : Int32).toNatClampNeg) st ct cl ft zn a26 (fun k => nI (cn k)) a28 a29 (fun l => fo (fb l)) (wB g m a31 (m + 1)) (wE g m a32 (m + 1)) ((mlP w (wB g m a31 (m + 1)) (wE g m a32 (m + 1)) (cnt (sep g m) (m + 1)) a33 a34 (cnt (sep g m) (m + 1))).1) ((mlP w (wB g m a31 (m + 1)) (wE g m a32 (m + 1)) (cnt (sep g m) (m + 1)) a33 a34 (cnt (sep g m) (m + 1))).2) a35 a36 a37 a38 a39 a40 a41 a42 a43 a44) rfl rfl rfl mdS_25 rfl rfl ?_
                  refine am_aload_n (I := iX7_lines) (pc := 105) dX7_lines_105 rfl rfl ?_
                  refine am_iconst (I := iX7_lines) (pc := 106) (x := 1) dX7_lines_106 (by decide) ?_
                  refine am_putf (I := iX7_lines) (pc := 107) (fs' := [.int 0, .int pd, .ref 26, .ref 27, .ref 28, .ref 29, .ref 30, .int (nI (cnt (sep g m) (m + 1))), .ref 31, .ref 32, .ref 33, .ref 34, .int 0, .int (((mlP w (wB g m a31 (m + 1)) (wE g m a32 (m + 1)) (cnt (sep g m) (m + 1)) a33 a34 (cnt (sep g m) (m + 1))).1) (0 : Int32).toNatClampNeg), .int 1, .ref 35, .ref 36, .ref 37, .ref 38, .int ct, .int cl, .int ft, .ref 39, .int zn, .ref 40, .ref 41, .ref 42, .ref 43, .ref 44]) lf_X7_118 dX7_lines_107 md_25 (fun _ => ⟨rfl, rfl⟩) (Nat.le_of_ble_eq_true rfl) rfl ?_
                  refine am_same (S' := mdS S 0 pd (nI (cnt (sep g m) (m + 1))) 0 (((mlP w (wB g m a31 (m + 1)) (wE g m a32 (m + 1)) (cnt (sep g m) (m + 1)) a33 a34 (cnt (sep g m) (m + 1))).1) (0 : Int32).toNatClampNeg) 1 ct cl ft zn a26 (fun k => nI (cn k)) a28 a29 (fun l => fo (fb l)) (wB g m a31 (m + 1)) (wE g m a32 (m + 1)) ((mlP w (wB g m a31 (m + 1)) (wE g m a32 (m + 1)) (cnt (sep g m) (m + 1)) a33 a34 (cnt (sep g m) (m + 1))).1) ((mlP w (wB g m a31 (m + 1)) (wE g m a32 (m + 1)) (cnt (sep g m) (m + 1)) a33 a34 (cnt (sep g m) (m + 1))).2) a35 a36 a37 a38 a39 a40 a41 a42 a43 a44) rfl rfl rfl mdS_25 rfl rfl ?_
                  refine am_iconst (I := iX7_lines) (pc := 110) (x := 0) dX7_lines_110 (by decide) ?_
                  refine am_istore (I := iX7_lines) (pc := 111) (L' := [some (.ref 25), some (.int (nI p)), some (.int (nI q)), some (.int w), some (.int (nI iv)), some (.int 0)]) dX7_lines_111 (by decide) rfl ?_
                  have loop113 : ∀ (k113 : Nat) (k : Nat), (cnt (sep g m) (m + 1)) - (tfi (fun j => j + tk j) k) < k113 → (k ≤ (cnt (sep g m) (m + 1))) → (k ≤ (tfi (fun j => j + tk j) k)) → ((tfi (fun j => j + tk j) k) ≤ (cnt (sep g m) (m + 1))) → (k + nct (fun j => j + tk j) (cnt (sep g m) (m + 1)) ((cnt (sep g m) (m + 1)) - k) (tfi (fun j => j + tk j) k) = nct (fun j => j + tk j) (cnt (sep g m) (m + 1)) (cnt (sep g m) (m + 1)) 0) → am_W K iX7_lines xp l xe (am_room 2 0 0) xs xm xa xb xt xc (mdS S th pd wd ln sq st ct cl ft zn a26 (fun k => nI (cn k)) a28 a29 (fun l => fo (fb l)) a31 a32 a33 a34 a35 a36 a37 a38 a39 a40 a41 a42 a43 a44) ad0 (am_E K ad0 (mdS S th pd wd ln sq st ct cl ft zn a26 (fun k => nI (cn k)) a28 a29 (fun l => fo (fb l)) a31 a32 a33 a34 a35 a36 a37 a38 a39 a40 a41 a42 a43 a44) (fun v S' => v = some (.int (nI (nct (fun j => j + tk j) (cnt (sep g m) (m + 1)) (cnt (sep g m) (m + 1)) 0))) ∧ mdS S 0 pd (nI (cnt (sep g m) (m + 1))) (nI (nct (fun j => j + tk j) (cnt (sep g m) (m + 1)) (cnt (sep g m) (m + 1)) 0)) ((mlP w (wB g m a31 (m + 1)) (wE g m a32 (m + 1)) (cnt (sep g m) (m + 1)) a33 a34 (cnt (sep g m) (m + 1))).1 0) 1 ct cl ft zn a26 (fun k => nI (cn k)) a28 a29 (fun l => fo (fb l)) (wB g m a31 (m + 1)) (wE g m a32 (m + 1)) ((mlP w (wB g m a31 (m + 1)) (wE g m a32 (m + 1)) (cnt (sep g m) (m + 1)) a33 a34 (cnt (sep g m) (m + 1))).1) ((mlP w (wB g m a31 (m + 1)) (wE g m a32 (m + 1)) (cnt (sep g m) (m + 1)) a33 a34 (cnt (sep g m) (m + 1))).2) (rcat a35 0 (fun j => (wB g m a31 (m + 1)) (tfi (fun j => j + tk j) j)) (nct (fun j => j + tk j) (cnt (sep g m) (m + 1)) (cnt (sep g m) (m + 1)) 0)) (rcat a36 0 (fun j => (wE g m a32 (m + 1)) ((fun j => j + tk j) (tfi (fun j => j + tk j) j) - 1) - (wB g m a31 (m + 1)) (tfi (fun j => j + tk j) j)) (nct (fun j => j + tk j) (cnt (sep g m) (m + 1)) (cnt (sep g m) (m + 1)) 0)) a37 a38 a39 a40 a41 a42 a43 a44 = S') (fun _ _ => False) xb xa xs 0 0) 113 [some (.ref 25), some (.int (nI p)), some (.int (nI q)), some (.int w), some (.int (nI iv)), some (.int (nI (tfi (fun j => j + tk j) k)))] [] (mdS S 0 pd (nI (cnt (sep g m) (m + 1))) (nI k) ((mlP w (wB g m a31 (m + 1)) (wE g m a32 (m + 1)) (cnt (sep g m) (m + 1)) a33 a34 (cnt (sep g m) (m + 1))).1 0) 1 ct cl ft zn a26 (fun k => nI (cn k)) a28 a29 (fun l => fo (fb l)) (wB g m a31 (m + 1)) (wE g m a32 (m + 1)) ((mlP w (wB g m a31 (m + 1)) (wE g m a32 (m + 1)) (cnt (sep g m) (m + 1)) a33 a34 (cnt (sep g m) (m + 1))).1) ((mlP w (wB g m a31 (m + 1)) (wE g m a32 (m + 1)) (cnt (sep g m) (m + 1)) a33 a34 (cnt (sep g m) (m + 1))).2) (rcat a35 0 (fun j => (wB g m a31 (m + 1)) (tfi (fun j => j + tk j) j)) k) (rcat a36 0 (fun j => (wE g m a32 (m + 1)) ((fun j => j + tk j) (tfi (fun j => j + tk j) j) - 1) - (wB g m a31 (m + 1)) (tfi (fun j => j + tk j) j)) k) a37 a38 a39 a40 a41 a42 a43 a44) 0 0 := by
                    intro k113
                    induction k113 with
                    | zero => intro k h9; exact absurd h9 (Nat.not_lt_zero _)
                    | succ k113 ih113 =>
                      intro k hm113 hk hk2 hk3 hN
                      refine am_iload (I := iX7_lines) (pc := 113) dX7_lines_113 rfl ?_
                      refine am_aload_n (I := iX7_lines) (pc := 115) dX7_lines_115 rfl rfl ?_
                      refine am_getf (I := iX7_lines) (pc := 116) lf_X7_98 dX7_lines_116 md_25 rfl ?_
                      refine am_icmp_ge (I := iX7_lines) (pc := 119) (tgt := 197) dX7_lines_119 (by decide) (fun c119 => ?_) (fun c119 => ?_)
                      · have g119 : (tfi (fun j => j + tk j) k) = (cnt (sep g m) (m + 1)) := by
                          rcases Nat.lt_or_ge (tfi (fun j => j + tk j) k) (cnt (sep g m) (m + 1)) with q9 | q9
                          · exact absurd c119 (nI_ge q9 (by omega))
                          · omega
                        refine am_aload_n (I := iX7_lines) (pc := 197) dX7_lines_197 rfl rfl ?_
                        refine am_getf (I := iX7_lines) (pc := 198) lf_X7_112 dX7_lines_198 md_25 rfl ?_
                        exact am_iret (I := iX7_lines) (pc := 201) dX7_lines_201 rfl (Nat.le_refl _) (Nat.le_refl _) (⟨by rw [← hN, g119, nct_out (Nat.le_refl _)]; rfl, by rw [← hN, g119, nct_out (Nat.le_refl _)]; rfl⟩)
                      · have l119 : (tfi (fun j => j + tk j) k) < (cnt (sep g m) (m + 1)) := by
                          rcases Nat.lt_or_ge (tfi (fun j => j + tk j) k) (cnt (sep g m) (m + 1)) with q9 | q9
                          · exact q9
                          · exact absurd (nI_le q9 (by omega)) c119
                        have htk := hT _ l119
                        refine am_aload_n (I := iX7_lines) (pc := 122) dX7_lines_122 rfl rfl ?_
                        refine am_getf (I := iX7_lines) (pc := 123) lf_X7_37 dX7_lines_123 md_25 rfl ?_
                        refine am_aload_n (I := iX7_lines) (pc := 126) dX7_lines_126 rfl rfl ?_
                        refine am_getf (I := iX7_lines) (pc := 127) lf_X7_112 dX7_lines_127 md_25 rfl ?_
                        refine am_aload_n (I := iX7_lines) (pc := 130) dX7_lines_130 rfl rfl ?_
                        refine am_getf (I := iX7_lines) (pc := 131) lf_X7_25 dX7_lines_131 md_25 rfl ?_
                        refine am_iload (I := iX7_lines) (pc := 134) dX7_lines_134 rfl ?_
                        refine am_iaload (I := iX7_lines) (pc := 136) dX7_lines_136 md_31 rfl (vp_in_nI (show (tfi (fun j => j + tk j) k) < 41 by omega) (by decide)) ?_
                        rw [nI_clamp (show (tfi (fun j => j + tk j) k) < 2 ^ 31 by omega)]
                        refine am_iastore (I := iX7_lines) (pc := 137) dX7_lines_137 md_35 rfl (vp_in_nI (show k < 41 by omega) (by decide)) ?_
                        rw [nI_clamp (show k < 2 ^ 31 by omega)]
                        refine am_same (S' := mdS S 0 pd (nI (cnt (sep g m) (m + 1))) (nI k) ((mlP w (wB g m a31 (m + 1)) (wE g m a32 (m + 1)) (cnt (sep g m) (m + 1)) a33 a34 (cnt (sep g m) (m + 1))).1 0) 1 ct cl ft zn a26 (fun k => nI (cn k)) a28 a29 (fun l => fo (fb l)) (wB g m a31 (m + 1)) (wE g m a32 (m + 1)) ((mlP w (wB g m a31 (m + 1)) (wE g m a32 (m + 1)) (cnt (sep g m) (m + 1)) a33 a34 (cnt (sep g m) (m + 1))).1) ((mlP w (wB g m a31 (m + 1)) (wE g m a32 (m + 1)) (cnt (sep g m) (m + 1)) a33 a34 (cnt (sep g m) (m + 1))).2) (upd (rcat a35 0 (fun j => (wB g m a31 (m + 1)) (tfi (fun j => j + tk j) j)) k) k ((wB g m a31 (m + 1)) (tfi (fun j => j + tk j) k))) (rcat a36 0 (fun j => (wE g m a32 (m + 1)) ((fun j => j + tk j) (tfi (fun j => j + tk j) j) - 1) - (wB g m a31 (m + 1)) (tfi (fun j => j + tk j) j)) k) a37 a38 a39 a40 a41 a42 a43 a44) rfl rfl rfl mdS_35 rfl rfl ?_
                        refine am_aload_n (I := iX7_lines) (pc := 138) dX7_lines_138 rfl rfl ?_
                        refine am_getf (I := iX7_lines) (pc := 139) lf_X7_40 dX7_lines_139 md_25 rfl ?_
                        refine am_aload_n (I := iX7_lines) (pc := 142) dX7_lines_142 rfl rfl ?_
                        refine am_getf (I := iX7_lines) (pc := 143) lf_X7_112 dX7_lines_143 md_25 rfl ?_
                        refine am_aload_n (I := iX7_lines) (pc := 146) dX7_lines_146 rfl rfl ?_
                        refine am_getf (I := iX7_lines) (pc := 147) lf_X7_28 dX7_lines_147 md_25 rfl ?_
                        refine am_iload (I := iX7_lines) (pc := 150) dX7_lines_150 rfl ?_
                        refine am_aload_n (I := iX7_lines) (pc := 152) dX7_lines_152 rfl rfl ?_
                        refine am_getf (I := iX7_lines) (pc := 153) lf_X7_34 dX7_lines_153 md_25 rfl ?_
                        refine am_iload (I := iX7_lines) (pc := 156) dX7_lines_156 rfl ?_
                        refine am_iaload (I := iX7_lines) (pc := 158) dX7_lines_158 md_34 rfl (vp_in_nI (show (tfi (fun j => j + tk j) k) < 42 by omega) (by decide)) ?_
                        refine am_same (st' := [.int (nI (tk (tfi (fun j => j + tk j) k))), .int (nI (tfi (fun j => j + tk j) k)), .ref 32, .int (nI k), .ref 36]) rfl rfl (by rw [nI_clamp (show (tfi (fun j => j + tk j) k) < 2 ^ 31 by omega), htk.1]) rfl rfl rfl ?_
                        refine am_iadd (I := iX7_lines) (pc := 159) dX7_lines_159 ?_
                        refine am_iconst (I := iX7_lines) (pc := 160) (x := 1) dX7_lines_160 (by decide) ?_
                        refine am_isub (I := iX7_lines) (pc := 161) dX7_lines_161 ?_
                        rw [nI_add, show (tfi (fun j => j + tk j) k) + (tk (tfi (fun j => j + tk j) k)) = ((tfi (fun j => j + tk j) k) + (tk (tfi (fun j => j + tk j) k)) - 1) + 1 by omega, nI_pred]
                        refine am_iaload (I := iX7_lines) (pc := 162) dX7_lines_162 md_32 rfl (vp_in_nI (show (tfi (fun j => j + tk j) k) + (tk (tfi (fun j => j + tk j) k)) - 1 < 41 by omega) (by decide)) ?_
                        rw [nI_clamp (show (tfi (fun j => j + tk j) k) + (tk (tfi (fun j => j + tk j) k)) - 1 < 2 ^ 31 by omega)]
                        refine am_aload_n (I := iX7_lines) (pc := 163) dX7_lines_163 rfl rfl ?_
                        refine am_getf (I := iX7_lines) (pc := 164) lf_X7_25 dX7_lines_164 md_25 rfl ?_
                        refine am_iload (I := iX7_lines) (pc := 167) dX7_lines_167 rfl ?_
                        refine am_iaload (I := iX7_lines) (pc := 169) dX7_lines_169 md_31 rfl (vp_in_nI (show (tfi (fun j => j + tk j) k) < 41 by omega) (by decide)) ?_
                        rw [nI_clamp (show (tfi (fun j => j + tk j) k) < 2 ^ 31 by omega)]
                        refine am_isub (I := iX7_lines) (pc := 170) dX7_lines_170 ?_
                        refine am_iastore (I := iX7_lines) (pc := 171) dX7_lines_171 md_36 rfl (vp_in_nI (show k < 41 by omega) (by decide)) ?_
                        rw [nI_clamp (show k < 2 ^ 31 by omega)]
                        refine am_same (S' := mdS S 0 pd (nI (cnt (sep g m) (m + 1))) (nI k) ((mlP w (wB g m a31 (m + 1)) (wE g m a32 (m + 1)) (cnt (sep g m) (m + 1)) a33 a34 (cnt (sep g m) (m + 1))).1 0) 1 ct cl ft zn a26 (fun k => nI (cn k)) a28 a29 (fun l => fo (fb l)) (wB g m a31 (m + 1)) (wE g m a32 (m + 1)) ((mlP w (wB g m a31 (m + 1)) (wE g m a32 (m + 1)) (cnt (sep g m) (m + 1)) a33 a34 (cnt (sep g m) (m + 1))).1) ((mlP w (wB g m a31 (m + 1)) (wE g m a32 (m + 1)) (cnt (sep g m) (m + 1)) a33 a34 (cnt (sep g m) (m + 1))).2) (upd (rcat a35 0 (fun j => (wB g m a31 (m + 1)) (tfi (fun j => j + tk j) j)) k) k ((wB g m a31 (m + 1)) (tfi (fun j => j + tk j) k))) (upd (rcat a36 0 (fun j => (wE g m a32 (m + 1)) ((fun j => j + tk j) (tfi (fun j => j + tk j) j) - 1) - (wB g m a31 (m + 1)) (tfi (fun j => j + tk j) j)) k) k (((wE g m a32 (m + 1)) ((tfi (fun j => j + tk j) k) + (tk (tfi (fun j => j + tk j) k)) - 1)) - ((wB g m a31 (m + 1)) (tfi (fun j => j + tk j) k)))) a37 a38 a39 a40 a41 a42 a43 a44) rfl rfl rfl mdS_36 rfl rfl ?_
                        refine am_aload_n (I := iX7_lines) (pc := 172) dX7_lines_172 rfl rfl ?_
                        refine am_dup (I := iX7_lines) (pc := 173) dX7_lines_173 rfl ?_
                        refine am_getf (I := iX7_lines) (pc := 174) lf_X7_112 dX7_lines_174 md_25 rfl ?_
                        refine am_iconst (I := iX7_lines) (pc := 177) (x := 1) dX7_lines_177 (by decide) ?_
                        refine am_iadd (I := iX7_lines) (pc := 178) dX7_lines_178 ?_
                        rw [nI_1]
                        refine am_putf (I := iX7_lines) (pc := 179) (fs' := [.int 0, .int pd, .ref 26, .ref 27, .ref 28, .ref 29, .ref 30, .int (nI (cnt (sep g m) (m + 1))), .ref 31, .ref 32, .ref 33, .ref 34, .int (nI (k + 1)), .int ((mlP w (wB g m a31 (m + 1)) (wE g m a32 (m + 1)) (cnt (sep g m) (m + 1)) a33 a34 (cnt (sep g m) (m + 1))).1 0), .int 1, .ref 35, .ref 36, .ref 37, .ref 38, .int ct, .int cl, .int ft, .ref 39, .int zn, .ref 40, .ref 41, .ref 42, .ref 43, .ref 44]) lf_X7_112 dX7_lines_179 md_25 (fun _ => ⟨rfl, rfl⟩) (Nat.le_of_ble_eq_true rfl) rfl ?_
                        refine am_same (S' := mdS S 0 pd (nI (cnt (sep g m) (m + 1))) (nI (k + 1)) ((mlP w (wB g m a31 (m + 1)) (wE g m a32 (m + 1)) (cnt (sep g m) (m + 1)) a33 a34 (cnt (sep g m) (m + 1))).1 0) 1 ct cl ft zn a26 (fun k => nI (cn k)) a28 a29 (fun l => fo (fb l)) (wB g m a31 (m + 1)) (wE g m a32 (m + 1)) ((mlP w (wB g m a31 (m + 1)) (wE g m a32 (m + 1)) (cnt (sep g m) (m + 1)) a33 a34 (cnt (sep g m) (m + 1))).1) ((mlP w (wB g m a31 (m + 1)) (wE g m a32 (m + 1)) (cnt (sep g m) (m + 1)) a33 a34 (cnt (sep g m) (m + 1))).2) (upd (rcat a35 0 (fun j => (wB g m a31 (m + 1)) (tfi (fun j => j + tk j) j)) k) k ((wB g m a31 (m + 1)) (tfi (fun j => j + tk j) k))) (upd (rcat a36 0 (fun j => (wE g m a32 (m + 1)) ((fun j => j + tk j) (tfi (fun j => j + tk j) j) - 1) - (wB g m a31 (m + 1)) (tfi (fun j => j + tk j) j)) k) k (((wE g m a32 (m + 1)) ((tfi (fun j => j + tk j) k) + (tk (tfi (fun j => j + tk j) k)) - 1)) - ((wB g m a31 (m + 1)) (tfi (fun j => j + tk j) k)))) a37 a38 a39 a40 a41 a42 a43 a44) rfl rfl rfl mdS_25 rfl rfl ?_
                        refine am_iload (I := iX7_lines) (pc := 182) dX7_lines_182 rfl ?_
                        refine am_aload_n (I := iX7_lines) (pc := 184) dX7_lines_184 rfl rfl ?_
                        refine am_getf (I := iX7_lines) (pc := 185) lf_X7_34 dX7_lines_185 md_25 rfl ?_
                        refine am_iload (I := iX7_lines) (pc := 188) dX7_lines_188 rfl ?_
                        refine am_iaload (I := iX7_lines) (pc := 190) dX7_lines_190 md_34 rfl (vp_in_nI (show (tfi (fun j => j + tk j) k) < 42 by omega) (by decide)) ?_
                        refine am_same (st' := [.int (nI (tk (tfi (fun j => j + tk j) k))), .int (nI (tfi (fun j => j + tk j) k))]) rfl rfl (by rw [nI_clamp (show (tfi (fun j => j + tk j) k) < 2 ^ 31 by omega), htk.1]) rfl rfl rfl ?_
                        refine am_iadd (I := iX7_lines) (pc := 191) dX7_lines_191 ?_
                        rw [nI_add]
                        refine am_istore (I := iX7_lines) (pc := 192) (L' := [some (.ref 25), some (.int (nI p)), some (.int (nI q)), some (.int w), some (.int (nI iv)), some (.int (nI ((tfi (fun j => j + tk j) k) + (tk (tfi (fun j => j + tk j) k)))))]) dX7_lines_192 (by decide) rfl ?_
                        refine am_goto (I := iX7_lines) (pc := 194) (tgt := 113) dX7_lines_194 (by decide) ?_
                        exact am_same rfl (by rfl) rfl (by rw [← rcat_s (f := a35), ← rcat_s (f := a36), Nat.zero_add]) rfl rfl (ih113 (k + 1) (by show (cnt (sep g m) (m + 1)) - ((tfi (fun j => j + tk j) k) + tk (tfi (fun j => j + tk j) k)) < k113; omega) (by omega) (by show k + 1 ≤ (tfi (fun j => j + tk j) k) + tk (tfi (fun j => j + tk j) k); omega) (by show (tfi (fun j => j + tk j) k) + tk (tfi (fun j => j + tk j) k) ≤ _; exact htk.2.2) (by rw [← hN, show (cnt (sep g m) (m + 1)) - k = ((cnt (sep g m) (m + 1)) - (k + 1)) + 1 by omega, nct, if_pos l119]; show k + 1 + nct _ _ _ ((tfi (fun j => j + tk j) k) + tk (tfi (fun j => j + tk j) k)) = _; omega))
                  exact am_same rfl (by rfl) rfl (by rw [rcat_0, rcat_0]; rfl) rfl rfl (loop113 _ 0 (Nat.lt_succ_self _) (Nat.zero_le _) (Nat.zero_le _) (Nat.zero_le _) (by rw [Nat.zero_add, Nat.sub_zero]; rfl))
                · exact absurd c85 hC
              · have lj : j < (cnt (sep g m) (m + 1)) := by
                  rcases Nat.lt_or_ge j (cnt (sep g m) (m + 1)) with q9 | q9
                  · exact q9
                  · exact absurd (show nI ((cnt (sep g m) (m + 1)) - j) - 1 < 0 by rw [show (cnt (sep g m) (m + 1)) - j = 0 by omega]; decide) c62
                have e62 : nI ((cnt (sep g m) (m + 1)) - j) - 1 = nI ((cnt (sep g m) (m + 1)) - (j + 1)) := by rw [show (cnt (sep g m) (m + 1)) - j = ((cnt (sep g m) (m + 1)) - (j + 1)) + 1 by omega]; exact nI_pred _
                rw [e62]
                refine am_aload_n (I := iX7_lines) (pc := 65) dX7_lines_65 rfl rfl ?_
                refine am_iload (I := iX7_lines) (pc := 66) dX7_lines_66 rfl ?_
                refine am_iload_n (I := iX7_lines) (pc := 68) dX7_lines_68 rfl rfl ?_
                refine am_callV (I := iX7_lines) (pc := 69) (st := []) lv_X7_108 (q_solve (cnt (sep g m) (m + 1)) ((cnt (sep g m) (m + 1)) - (j + 1)) w hW (by omega)) dX7_lines_69 md_25 rfl (Nat.le_of_ble_eq_true rfl) ⟨Nat.le_of_ble_eq_true rfl, Nat.le_of_ble_eq_true rfl⟩ (Nat.le_of_ble_eq_true rfl) (Nat.le_of_ble_eq_true rfl) rfl (fun v9 T9 z9 _ => ?_) (fun _ _ h9 => h9.elim)
                obtain ⟨rfl, rfl⟩ := z9
                show am_W _ _ _ _ _ _ _ _ _ _ _ _ _ _ _ 72 [some (.ref 25), some (.int (nI p)), some (.int (nI q)), some (.int w), some (.int (nI iv)), some (.int (nI ((cnt (sep g m) (m + 1)) - (j + 1))))] [] (mdS S 0 pd (nI (cnt (sep g m) (m + 1))) ln sq st ct cl ft zn a26 (fun k => nI (cn k)) a28 a29 (fun l => fo (fb l)) (wB g m a31 (m + 1)) (wE g m a32 (m + 1)) ((mlP w (wB g m a31 (m + 1)) (wE g m a32 (m + 1)) (cnt (sep g m) (m + 1)) a33 a34 (j + 1)).1) ((mlP w (wB g m a31 (m + 1)) (wE g m a32 (m + 1)) (cnt (sep g m) (m + 1)) a33 a34 (j + 1)).2) a35 a36 a37 a38 a39 a40 a41 a42 a43 a44) 0 0
                refine am_iinc (I := iX7_lines) (pc := 72) (y := ((nI ((cnt (sep g m) (m + 1)) - (j + 1))) + (-1))) (L' := [some (.ref 25), some (.int (nI p)), some (.int (nI q)), some (.int w), some (.int (nI iv)), some (.int ((nI ((cnt (sep g m) (m + 1)) - (j + 1))) + (-1)))]) dX7_lines_72 rfl rfl rfl ?_
                refine am_goto (I := iX7_lines) (pc := 75) (tgt := 60) dX7_lines_75 (by decide) ?_
                exact am_same rfl (by rw [add_m1, show (cnt (sep g m) (m + 1)) - (j + 1) = (cnt (sep g m) (m + 1)) - j - 1 by omega]) rfl rfl rfl rfl (ih60 (j + 1) (by omega) (by omega))
          exact am_same rfl (by rfl) rfl (by rfl) rfl rfl (loop60 _ 0 (Nat.lt_succ_self _) (Nat.zero_le _))
        · exact absurd c41 (fun e9 => by have h9 := nI_pos (n := iv) (by omega); rw [e9] at h9; exact h9 (by decide))
      · exact absurd c25 (by decide)
