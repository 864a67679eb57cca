set_option maxRecDepth 100000 in
set_option maxHeartbeats 4000000 in
theorem m_needLang (K : am_K) (l : Launch) (S : am_S) (q : Nat) (hq : q < 5) : am_M K l iX6_needLanguage 0 0 0 [.int (nI q)] S (fun v S' => v = none ∧ S = S') (fun _ _ => False) := by
  refine am_body (by decide) rfl (by simp [Value.category]) (Nat.le_of_ble_eq_true rfl) (fun xp xe xs xm xa xb xt xc ad0 => ?_)
  show am_W _ _ _ _ _ _ _ _ _ _ _ _ _ _ _ 0 [some (.int (nI q))] [] S 0 0
  refine am_iload_n (I := iX6_needLanguage) (pc := 0) dX6_needLanguage_0 rfl rfl ?_
  refine am_if_lt (I := iX6_needLanguage) (pc := 1) (tgt := 9) dX6_needLanguage_1 (by decide) (fun c1 => ?_) (fun c1 => ?_)
  · exact absurd c1 (nI_pos (by omega))
  · refine am_iload_n (I := iX6_needLanguage) (pc := 4) dX6_needLanguage_4 rfl rfl ?_
    refine am_iconst (I := iX6_needLanguage) (pc := 5) (x := 5) dX6_needLanguage_5 (by decide) ?_
    refine am_icmp_lt (I := iX6_needLanguage) (pc := 6) (tgt := 19) dX6_needLanguage_6 (by decide) (fun c6 => ?_) (fun c6 => ?_)
    · exact am_vret (I := iX6_needLanguage) (pc := 19) dX6_needLanguage_19 rfl (Nat.le_refl _) (Nat.le_refl _) (⟨rfl, rfl⟩)
    · exact absurd (nI_lt (b := 5) hq (by decide)) c6
set_option maxRecDepth 100000 in
set_option maxHeartbeats 4000000 in
theorem m_needLangX (K : am_K) (l : Launch) (S : am_S) (x : Int32) (hx : x < 0 ∨ 5 ≤ x) : am_M K l iX6_needLanguage 6 1 6 [.int x] S (fun v S' => False) (fun j S' => j = 0 ∧ S = S') := by
  refine am_body (by decide) rfl (by simp [Value.category]) (Nat.le_of_ble_eq_true rfl) (fun xp xe xs xm xa xb xt xc ad0 => ?_)
  show am_W _ _ _ _ _ _ _ _ _ _ _ _ _ _ _ 0 [some (.int x)] [] S 0 0
  refine am_iload_n (I := iX6_needLanguage) (pc := 0) dX6_needLanguage_0 rfl rfl ?_
  refine am_if_lt (I := iX6_needLanguage) (pc := 1) (tgt := 9) dX6_needLanguage_1 (by decide) (fun c1 => ?_) (fun c1 => ?_)
  · exact am_throw (I := iX6_needLanguage) (pc := 9) lt_X6_118_230_122 rfl dX6_needLanguage_9 dX6_needLanguage_12 dX6_needLanguage_13 dX6_needLanguage_15 dX6_needLanguage_18 (Nat.le_of_ble_eq_true rfl) (Nat.le_of_ble_eq_true rfl) (Nat.le_of_ble_eq_true rfl) (Nat.le_of_ble_eq_true rfl) (Nat.le_of_ble_eq_true rfl) (Nat.le_of_ble_eq_true rfl) (⟨rfl, rfl⟩)
  · refine am_iload_n (I := iX6_needLanguage) (pc := 4) dX6_needLanguage_4 rfl rfl ?_
    refine am_iconst (I := iX6_needLanguage) (pc := 5) (x := 5) dX6_needLanguage_5 (by decide) ?_
    refine am_icmp_lt (I := iX6_needLanguage) (pc := 6) (tgt := 19) dX6_needLanguage_6 (by decide) (fun c6 => ?_) (fun c6 => ?_)
    · exact absurd c6 (hx.elim (fun h => absurd h c1) (fun h => Int32.not_lt.mpr h))
    · exact am_throw (I := iX6_needLanguage) (pc := 9) lt_X6_118_230_122 rfl dX6_needLanguage_9 dX6_needLanguage_12 dX6_needLanguage_13 dX6_needLanguage_15 dX6_needLanguage_18 (Nat.le_of_ble_eq_true rfl) (Nat.le_of_ble_eq_true rfl) (Nat.le_of_ble_eq_true rfl) (Nat.le_of_ble_eq_true rfl) (Nat.le_of_ble_eq_true rfl) (Nat.le_of_ble_eq_true rfl) (⟨rfl, rfl⟩)
set_option maxRecDepth 100000 in
set_option maxHeartbeats 4000000 in
theorem m_needRoom (K : am_K) (l : Launch) (S : am_S) (q : Nat) (hq : q < 24) : am_M K l iX6_needRoom 0 0 0 [.int (nI q)] S (fun v S' => v = none ∧ S = S') (fun _ _ => False) := by
  refine am_body (by decide) rfl (by simp [Value.category]) (Nat.le_of_ble_eq_true rfl) (fun xp xe xs xm xa xb xt xc ad0 => ?_)
  show am_W _ _ _ _ _ _ _ _ _ _ _ _ _ _ _ 0 [some (.int (nI q))] [] S 0 0
  refine am_iload_n (I := iX6_needRoom) (pc := 0) dX6_needRoom_0 rfl rfl ?_
  refine am_if_lt (I := iX6_needRoom) (pc := 1) (tgt := 10) dX6_needRoom_1 (by decide) (fun c1 => ?_) (fun c1 => ?_)
  · exact absurd c1 (nI_pos (by omega))
  · refine am_iload_n (I := iX6_needRoom) (pc := 4) dX6_needRoom_4 rfl rfl ?_
    refine am_bipush (I := iX6_needRoom) (pc := 5) (x := 24) dX6_needRoom_5 (by decide) ?_
    refine am_icmp_lt (I := iX6_needRoom) (pc := 7) (tgt := 20) dX6_needRoom_7 (by decide) (fun c7 => ?_) (fun c7 => ?_)
    · exact am_vret (I := iX6_needRoom) (pc := 20) dX6_needRoom_20 rfl (Nat.le_refl _) (Nat.le_refl _) (⟨rfl, rfl⟩)
    · exact absurd (nI_lt (b := 24) hq (by decide)) c7
set_option maxRecDepth 100000 in
set_option maxHeartbeats 4000000 in
theorem m_needRoomX (K : am_K) (l : Launch) (S : am_S) (x : Int32) (hx : x < 0 ∨ 24 ≤ x) : am_M K l iX6_needRoom 6 1 6 [.int x] S (fun v S' => False) (fun j S' => j = 0 ∧ S = S') := by
  refine am_body (by decide) rfl (by simp [Value.category]) (Nat.le_of_ble_eq_true rfl) (fun xp xe xs xm xa xb xt xc ad0 => ?_)
  show am_W _ _ _ _ _ _ _ _ _ _ _ _ _ _ _ 0 [some (.int x)] [] S 0 0
  refine am_iload_n (I := iX6_needRoom) (pc := 0) dX6_needRoom_0 rfl rfl ?_
  refine am_if_lt (I := iX6_needRoom) (pc := 1) (tgt := 10) dX6_needRoom_1 (by decide) (fun c1 => ?_) (fun c1 => ?_)
  · exact am_throw (I := iX6_needRoom) (pc := 10) lt_X6_118_232_122 rfl dX6_needRoom_10 dX6_needRoom_13 dX6_needRoom_14 dX6_needRoom_16 dX6_needRoom_19 (Nat.le_of_ble_eq_true rfl) (Nat.le_of_ble_eq_true rfl) (Nat.le_of_ble_eq_true rfl) (Nat.le_of_ble_eq_true rfl) (Nat.le_of_ble_eq_true rfl) (Nat.le_of_ble_eq_true rfl) (⟨rfl, rfl⟩)
  · refine am_iload_n (I := iX6_needRoom) (pc := 4) dX6_needRoom_4 rfl rfl ?_
    refine am_bipush (I := iX6_needRoom) (pc := 5) (x := 24) dX6_needRoom_5 (by decide) ?_
    refine am_icmp_lt (I := iX6_needRoom) (pc := 7) (tgt := 20) dX6_needRoom_7 (by decide) (fun c7 => ?_) (fun c7 => ?_)
    · exact absurd c7 (hx.elim (fun h => absurd h c1) (fun h => Int32.not_lt.mpr h))
    · exact am_throw (I := iX6_needRoom) (pc := 10) lt_X6_118_232_122 rfl dX6_needRoom_10 dX6_needRoom_13 dX6_needRoom_14 dX6_needRoom_16 dX6_needRoom_19 (Nat.le_of_ble_eq_true rfl) (Nat.le_of_ble_eq_true rfl) (Nat.le_of_ble_eq_true rfl) (Nat.le_of_ble_eq_true rfl) (Nat.le_of_ble_eq_true rfl) (Nat.le_of_ble_eq_true rfl) (⟨rfl, rfl⟩)
set_option maxRecDepth 100000 in
set_option maxHeartbeats 4000000 in
theorem m_needCL (K : am_K) (l : Launch) (S : am_S) (p q : Nat) (hp : p < 10) (hq : q < 5) : am_M K l iX6_needCaptionAndLanguage 1 0 0 [.int (nI p), .int (nI q)] S (fun v S' => v = none ∧ S = S') (fun _ _ => False) := by
  refine am_body (by decide) rfl (by simp [Value.category]) (Nat.le_of_ble_eq_true rfl) (fun xp xe xs xm xa xb xt xc ad0 => ?_)
  show am_W _ _ _ _ _ _ _ _ _ _ _ _ _ _ _ 0 [some (.int (nI p)), some (.int (nI q))] [] S 0 0
  refine am_iload_n (I := iX6_needCaptionAndLanguage) (pc := 0) dX6_needCaptionAndLanguage_0 rfl rfl ?_
  refine am_if_lt (I := iX6_needCaptionAndLanguage) (pc := 1) (tgt := 10) dX6_needCaptionAndLanguage_1 (by decide) (fun c1 => ?_) (fun c1 => ?_)
  · exact absurd c1 (nI_pos (by omega))
  · refine am_iload_n (I := iX6_needCaptionAndLanguage) (pc := 4) dX6_needCaptionAndLanguage_4 rfl rfl ?_
    refine am_bipush (I := iX6_needCaptionAndLanguage) (pc := 5) (x := 10) dX6_needCaptionAndLanguage_5 (by decide) ?_
    refine am_icmp_lt (I := iX6_needCaptionAndLanguage) (pc := 7) (tgt := 20) dX6_needCaptionAndLanguage_7 (by decide) (fun c7 => ?_) (fun c7 => ?_)
    · refine am_iload_n (I := iX6_needCaptionAndLanguage) (pc := 20) dX6_needCaptionAndLanguage_20 rfl rfl ?_
      refine am_callS (I := iX6_needCaptionAndLanguage) (pc := 21) (st := []) lv_X6_104 rfl (m_needLang K l _ q hq) dX6_needCaptionAndLanguage_21 rfl (Nat.le_of_ble_eq_true rfl) ⟨Nat.le_of_ble_eq_true rfl, Nat.le_of_ble_eq_true rfl⟩ (Nat.le_of_ble_eq_true rfl) (Nat.le_of_ble_eq_true rfl) rfl (fun v9 T9 z9 _ => ?_) (fun _ _ h9 => h9.elim)
      obtain ⟨rfl, rfl⟩ := z9
      show am_W _ _ _ _ _ _ _ _ _ _ _ _ _ _ _ 24 [some (.int (nI p)), some (.int (nI q))] [] S 0 0
      exact am_vret (I := iX6_needCaptionAndLanguage) (pc := 24) dX6_needCaptionAndLanguage_24 rfl (Nat.le_refl _) (Nat.le_refl _) (⟨rfl, rfl⟩)
    · exact absurd (nI_lt (b := 10) hp (by decide)) c7
set_option maxRecDepth 100000 in
set_option maxHeartbeats 4000000 in
theorem m_needCLX (K : am_K) (l : Launch) (S : am_S) (x y : Int32) (hx : (x < 0 ∨ 10 ≤ x) ∨ (y < 0 ∨ 5 ≤ y)) : am_M K l iX6_needCaptionAndLanguage 7 1 6 [.int x, .int y] S (fun v S' => False) (fun j S' => j = 0 ∧ S = S') := by
  refine am_body (by decide) rfl (by simp [Value.category]) (Nat.le_of_ble_eq_true rfl) (fun xp xe xs xm xa xb xt xc ad0 => ?_)
  show am_W _ _ _ _ _ _ _ _ _ _ _ _ _ _ _ 0 [some (.int x), some (.int y)] [] S 0 0
  refine am_iload_n (I := iX6_needCaptionAndLanguage) (pc := 0) dX6_needCaptionAndLanguage_0 rfl rfl ?_
  refine am_if_lt (I := iX6_needCaptionAndLanguage) (pc := 1) (tgt := 10) dX6_needCaptionAndLanguage_1 (by decide) (fun c1 => ?_) (fun c1 => ?_)
  · exact am_throw (I := iX6_needCaptionAndLanguage) (pc := 10) lt_X6_118_228_122 rfl dX6_needCaptionAndLanguage_10 dX6_needCaptionAndLanguage_13 dX6_needCaptionAndLanguage_14 dX6_needCaptionAndLanguage_16 dX6_needCaptionAndLanguage_19 (Nat.le_of_ble_eq_true rfl) (Nat.le_of_ble_eq_true rfl) (Nat.le_of_ble_eq_true rfl) (Nat.le_of_ble_eq_true rfl) (Nat.le_of_ble_eq_true rfl) (Nat.le_of_ble_eq_true rfl) (⟨rfl, rfl⟩)
  · refine am_iload_n (I := iX6_needCaptionAndLanguage) (pc := 4) dX6_needCaptionAndLanguage_4 rfl rfl ?_
    refine am_bipush (I := iX6_needCaptionAndLanguage) (pc := 5) (x := 10) dX6_needCaptionAndLanguage_5 (by decide) ?_
    refine am_icmp_lt (I := iX6_needCaptionAndLanguage) (pc := 7) (tgt := 20) dX6_needCaptionAndLanguage_7 (by decide) (fun c7 => ?_) (fun c7 => ?_)
    · have hy : y < 0 ∨ 5 ≤ y := hx.resolve_left (fun h => h.elim c1 (fun h => Int32.not_le.mpr c7 h))
      refine am_iload_n (I := iX6_needCaptionAndLanguage) (pc := 20) dX6_needCaptionAndLanguage_20 rfl rfl ?_
      refine am_callS (I := iX6_needCaptionAndLanguage) (pc := 21) (st := []) lv_X6_104 rfl (m_needLangX K l _ y hy) dX6_needCaptionAndLanguage_21 rfl (Nat.le_of_ble_eq_true rfl) ⟨Nat.le_of_ble_eq_true rfl, Nat.le_of_ble_eq_true rfl⟩ (Nat.le_of_ble_eq_true rfl) (Nat.le_of_ble_eq_true rfl) rfl (fun v9 T9 z9 _ => z9.elim) (fun j9 T9 x9 _ => ?_)
      obtain ⟨rfl, rfl⟩ := x9
      exact am_out rfl (Nat.le_of_ble_eq_true rfl) (Nat.le_of_ble_eq_true rfl) ⟨rfl, rfl⟩
    · exact am_throw (I := iX6_needCaptionAndLanguage) (pc := 10) lt_X6_118_228_122 rfl dX6_needCaptionAndLanguage_10 dX6_needCaptionAndLanguage_13 dX6_needCaptionAndLanguage_14 dX6_needCaptionAndLanguage_16 dX6_needCaptionAndLanguage_19 (Nat.le_of_ble_eq_true rfl) (Nat.le_of_ble_eq_true rfl) (Nat.le_of_ble_eq_true rfl) (Nat.le_of_ble_eq_true rfl) (Nat.le_of_ble_eq_true rfl) (Nat.le_of_ble_eq_true rfl) (⟨rfl, rfl⟩)
set_option maxRecDepth 100000 in
set_option maxHeartbeats 4000000 in
theorem m_needPoint (K : am_K) (l : Launch) (S : am_S) (x y : Int32) (h : (-10000 ≤ x ∧ x ≤ 10000 ∧ -10000 ≤ y ∧ y ≤ 10000)) : am_M K l iX6_needPoint 0 0 0 [.int x, .int y] S (fun v S' => v = none ∧ S = S') (fun _ _ => False) := by
  refine am_body (by decide) rfl (by simp [Value.category]) (Nat.le_of_ble_eq_true rfl) (fun xp xe xs xm xa xb xt xc ad0 => ?_)
  show am_W _ _ _ _ _ _ _ _ _ _ _ _ _ _ _ 0 [some (.int x), some (.int y)] [] S 0 0
  refine am_iload_n (I := iX6_needPoint) (pc := 0) dX6_needPoint_0 rfl rfl ?_
  refine am_sipush (I := iX6_needPoint) (pc := 1) (x := (-10000)) dX6_needPoint_1 (by decide) ?_
  refine am_icmp_lt (I := iX6_needPoint) (pc := 4) (tgt := 28) dX6_needPoint_4 (by decide) (fun c4 => ?_) (fun c4 => ?_)
  · exact absurd h.1 (Int32.not_le.mpr c4)
  · refine am_iload_n (I := iX6_needPoint) (pc := 7) dX6_needPoint_7 rfl rfl ?_
    refine am_sipush (I := iX6_needPoint) (pc := 8) (x := 10000) dX6_needPoint_8 (by decide) ?_
    refine am_icmp_gt (I := iX6_needPoint) (pc := 11) (tgt := 28) dX6_needPoint_11 (by decide) (fun c11 => ?_) (fun c11 => ?_)
    · exact absurd h.2.1 (Int32.not_le.mpr c11)
    · refine am_iload_n (I := iX6_needPoint) (pc := 14) dX6_needPoint_14 rfl rfl ?_
      refine am_sipush (I := iX6_needPoint) (pc := 15) (x := (-10000)) dX6_needPoint_15 (by decide) ?_
      refine am_icmp_lt (I := iX6_needPoint) (pc := 18) (tgt := 28) dX6_needPoint_18 (by decide) (fun c18 => ?_) (fun c18 => ?_)
      · exact absurd h.2.2.1 (Int32.not_le.mpr c18)
      · refine am_iload_n (I := iX6_needPoint) (pc := 21) dX6_needPoint_21 rfl rfl ?_
        refine am_sipush (I := iX6_needPoint) (pc := 22) (x := 10000) dX6_needPoint_22 (by decide) ?_
        refine am_icmp_le (I := iX6_needPoint) (pc := 25) (tgt := 38) dX6_needPoint_25 (by decide) (fun c25 => ?_) (fun c25 => ?_)
        · exact am_vret (I := iX6_needPoint) (pc := 38) dX6_needPoint_38 rfl (Nat.le_refl _) (Nat.le_refl _) (⟨rfl, rfl⟩)
        · exact absurd h.2.2.2 c25
set_option maxRecDepth 100000 in
set_option maxHeartbeats 4000000 in
theorem m_needPointX (K : am_K) (l : Launch) (S : am_S) (x y : Int32) (h : ¬ (-10000 ≤ x ∧ x ≤ 10000 ∧ -10000 ≤ y ∧ y ≤ 10000)) : am_M K l iX6_needPoint 6 1 6 [.int x, .int y] S (fun v S' => False) (fun j S' => j = 2 ∧ S = S') := by
  refine am_body (by decide) rfl (by simp [Value.category]) (Nat.le_of_ble_eq_true rfl) (fun xp xe xs xm xa xb xt xc ad0 => ?_)
  show am_W _ _ _ _ _ _ _ _ _ _ _ _ _ _ _ 0 [some (.int x), some (.int y)] [] S 0 0
  refine am_iload_n (I := iX6_needPoint) (pc := 0) dX6_needPoint_0 rfl rfl ?_
  refine am_sipush (I := iX6_needPoint) (pc := 1) (x := (-10000)) dX6_needPoint_1 (by decide) ?_
  refine am_icmp_lt (I := iX6_needPoint) (pc := 4) (tgt := 28) dX6_needPoint_4 (by decide) (fun c4 => ?_) (fun c4 => ?_)
  · exact am_throw (I := iX6_needPoint) (pc := 28) lt_X6_71_234_75 rfl dX6_needPoint_28 dX6_needPoint_31 dX6_needPoint_32 dX6_needPoint_34 dX6_needPoint_37 (Nat.le_of_ble_eq_true rfl) (Nat.le_of_ble_eq_true rfl) (Nat.le_of_ble_eq_true rfl) (Nat.le_of_ble_eq_true rfl) (Nat.le_of_ble_eq_true rfl) (Nat.le_of_ble_eq_true rfl) (⟨rfl, rfl⟩)
  · refine am_iload_n (I := iX6_needPoint) (pc := 7) dX6_needPoint_7 rfl rfl ?_
    refine am_sipush (I := iX6_needPoint) (pc := 8) (x := 10000) dX6_needPoint_8 (by decide) ?_
    refine am_icmp_gt (I := iX6_needPoint) (pc := 11) (tgt := 28) dX6_needPoint_11 (by decide) (fun c11 => ?_) (fun c11 => ?_)
    · exact am_throw (I := iX6_needPoint) (pc := 28) lt_X6_71_234_75 rfl dX6_needPoint_28 dX6_needPoint_31 dX6_needPoint_32 dX6_needPoint_34 dX6_needPoint_37 (Nat.le_of_ble_eq_true rfl) (Nat.le_of_ble_eq_true rfl) (Nat.le_of_ble_eq_true rfl) (Nat.le_of_ble_eq_true rfl) (Nat.le_of_ble_eq_true rfl) (Nat.le_of_ble_eq_true rfl) (⟨rfl, rfl⟩)
    · refine am_iload_n (I := iX6_needPoint) (pc := 14) dX6_needPoint_14 rfl rfl ?_
      refine am_sipush (I := iX6_needPoint) (pc := 15) (x := (-10000)) dX6_needPoint_15 (by decide) ?_
      refine am_icmp_lt (I := iX6_needPoint) (pc := 18) (tgt := 28) dX6_needPoint_18 (by decide) (fun c18 => ?_) (fun c18 => ?_)
      · exact am_throw (I := iX6_needPoint) (pc := 28) lt_X6_71_234_75 rfl dX6_needPoint_28 dX6_needPoint_31 dX6_needPoint_32 dX6_needPoint_34 dX6_needPoint_37 (Nat.le_of_ble_eq_true rfl) (Nat.le_of_ble_eq_true rfl) (Nat.le_of_ble_eq_true rfl) (Nat.le_of_ble_eq_true rfl) (Nat.le_of_ble_eq_true rfl) (Nat.le_of_ble_eq_true rfl) (⟨rfl, rfl⟩)
      · refine am_iload_n (I := iX6_needPoint) (pc := 21) dX6_needPoint_21 rfl rfl ?_
        refine am_sipush (I := iX6_needPoint) (pc := 22) (x := 10000) dX6_needPoint_22 (by decide) ?_
        refine am_icmp_le (I := iX6_needPoint) (pc := 25) (tgt := 38) dX6_needPoint_25 (by decide) (fun c25 => ?_) (fun c25 => ?_)
        · exact absurd ⟨Int32.not_lt.mp c4, Int32.not_lt.mp c11, Int32.not_lt.mp c18, c25⟩ h
        · exact am_throw (I := iX6_needPoint) (pc := 28) lt_X6_71_234_75 rfl dX6_needPoint_28 dX6_needPoint_31 dX6_needPoint_32 dX6_needPoint_34 dX6_needPoint_37 (Nat.le_of_ble_eq_true rfl) (Nat.le_of_ble_eq_true rfl) (Nat.le_of_ble_eq_true rfl) (Nat.le_of_ble_eq_true rfl) (Nat.le_of_ble_eq_true rfl) (Nat.le_of_ble_eq_true rfl) (⟨rfl, rfl⟩)
def bI (b : Bool) : Int32 := if b then 1 else 0
theorem bI01 (b : Bool) : bI b = 0 ∨ bI b = 1 := by cases b <;> simp [bI]
theorem bI_t {b : Bool} (h : b = true) : bI b = 1 := by rw [h]; rfl
theorem bI_f {b : Bool} (h : b = false) : bI b = 0 := by rw [h]; rfl
theorem bI_0 {b : Bool} (h : bI b = 0) : b = false := by cases b with
  | true => exact absurd h (by decide)
  | false => rfl
theorem bI_1 {b : Bool} (h : ¬ bI b = 0) : b = true := by cases b with
  | true => rfl
  | false => exact absurd rfl h
def isl (x : Int32) : Bool := decide (97 ≤ x) && decide (x ≤ 122)
def mf (ah sg : Int32) : Bool := if isl ah then true else if ah = 46 then decide (sg = 32) else isl sg
def fwp (f : Nat → Int32) (n : Nat) : Nat → Nat → Int32 → Int32
  | 0, _, ah => if ah = 32 then nI n else -1
  | k + 1, i, ah => if mf ah (f i) then fwp f n k (i + 1) (f i) else nI i
def cnt (p : Nat → Bool) : Nat → Nat
  | 0 => 0
  | k + 1 => if p k then cnt p k + 1 else cnt p k
theorem cnt_le (p : Nat → Bool) : ∀ k, cnt p k ≤ k
  | 0 => Nat.le_refl 0
  | k + 1 => by
    unfold cnt
    have := cnt_le p k
    split <;> omega
def oc (x : Int32) : Int32 := if x = 32 then 0 else if x = 46 then 27 else x - 97 + 1
def os (x : Int32) : Int32 := if x = 0 then 32 else if x = 27 then 46 else 97 + x - 1
set_option maxRecDepth 100000 in
set_option maxHeartbeats 4000000 in
theorem m_isLetter (K : am_K) (l : Launch) (S : am_S) (x : Int32)  : am_M K l iX6_isLetter 0 0 0 [.int x] S (fun v S' => v = some (.int (bI (isl x))) ∧ S = S') (fun _ _ => False) := by
  refine am_body (by decide) rfl (by simp [Value.category]) (Nat.le_of_ble_eq_true rfl) (fun xp xe xs xm xa xb xt xc ad0 => ?_)
  show am_W _ _ _ _ _ _ _ _ _ _ _ _ _ _ _ 0 [some (.int x)] [] S 0 0
  refine am_iload_n (I := iX6_isLetter) (pc := 0) dX6_isLetter_0 rfl rfl ?_
  refine am_bipush (I := iX6_isLetter) (pc := 1) (x := 97) dX6_isLetter_1 (by decide) ?_
  refine am_icmp_lt (I := iX6_isLetter) (pc := 3) (tgt := 16) dX6_isLetter_3 (by decide) (fun c3 => ?_) (fun c3 => ?_)
  · refine am_iconst (I := iX6_isLetter) (pc := 16) (x := 0) dX6_isLetter_16 (by decide) ?_
    exact am_zret (I := iX6_isLetter) (pc := 17) dX6_isLetter_17 rfl (by decide) (Nat.le_refl _) (Nat.le_refl _) (⟨by rw [bI_f (by unfold isl; rw [decide_eq_false (Int32.not_le.mpr c3)]; rfl)], rfl⟩)
  · refine am_iload_n (I := iX6_isLetter) (pc := 6) dX6_isLetter_6 rfl rfl ?_
    refine am_bipush (I := iX6_isLetter) (pc := 7) (x := 122) dX6_isLetter_7 (by decide) ?_
    refine am_icmp_gt (I := iX6_isLetter) (pc := 9) (tgt := 16) dX6_isLetter_9 (by decide) (fun c9 => ?_) (fun c9 => ?_)
    · refine am_iconst (I := iX6_isLetter) (pc := 16) (x := 0) dX6_isLetter_16 (by decide) ?_
      exact am_zret (I := iX6_isLetter) (pc := 17) dX6_isLetter_17 rfl (by decide) (Nat.le_refl _) (Nat.le_refl _) (⟨by rw [bI_f (by unfold isl; rw [decide_eq_false (Int32.not_le.mpr c9), Bool.and_false])], rfl⟩)
    · refine am_iconst (I := iX6_isLetter) (pc := 12) (x := 1) dX6_isLetter_12 (by decide) ?_
      refine am_goto (I := iX6_isLetter) (pc := 13) (tgt := 17) dX6_isLetter_13 (by decide) ?_
      exact am_zret (I := iX6_isLetter) (pc := 17) dX6_isLetter_17 rfl (by decide) (Nat.le_refl _) (Nat.le_refl _) (⟨by rw [bI_t (by unfold isl; rw [decide_eq_true (Int32.not_lt.mp c3), decide_eq_true (Int32.not_lt.mp c9)]; rfl)], rfl⟩)
set_option maxRecDepth 100000 in
set_option maxHeartbeats 4000000 in
theorem m_mayFollow (K : am_K) (l : Launch) (S : am_S) (x y : Int32)  : am_M K l iX6_mayFollow 1 0 0 [.int x, .int y] S (fun v S' => v = some (.int (bI (mf x y))) ∧ S = S') (fun _ _ => False) := by
  refine am_body (by decide) rfl (by simp [Value.category]) (Nat.le_of_ble_eq_true rfl) (fun xp xe xs xm xa xb xt xc ad0 => ?_)
  show am_W _ _ _ _ _ _ _ _ _ _ _ _ _ _ _ 0 [some (.int x), some (.int y)] [] S 0 0
  refine am_iload_n (I := iX6_mayFollow) (pc := 0) dX6_mayFollow_0 rfl rfl ?_
  refine am_callS (I := iX6_mayFollow) (pc := 1) (st := []) lv_X6_67 rfl (m_isLetter K l _ x) dX6_mayFollow_1 rfl (Nat.le_of_ble_eq_true rfl) ⟨Nat.le_of_ble_eq_true rfl, Nat.le_of_ble_eq_true rfl⟩ (Nat.le_of_ble_eq_true rfl) (Nat.le_of_ble_eq_true rfl) rfl (fun v9 T9 z9 _ => ?_) (fun _ _ h9 => h9.elim)
  obtain ⟨rfl, rfl⟩ := z9
  show am_W _ _ _ _ _ _ _ _ _ _ _ _ _ _ _ 4 [some (.int x), some (.int y)] [.int (bI (isl x))] S 0 0
  refine am_if_eq (I := iX6_mayFollow) (pc := 4) (tgt := 9) dX6_mayFollow_4 (by decide) (fun c4 => ?_) (fun c4 => ?_)
  · refine am_iload_n (I := iX6_mayFollow) (pc := 9) dX6_mayFollow_9 rfl rfl ?_
    refine am_bipush (I := iX6_mayFollow) (pc := 10) (x := 46) dX6_mayFollow_10 (by decide) ?_
    refine am_icmp_ne (I := iX6_mayFollow) (pc := 12) (tgt := 29) dX6_mayFollow_12 (by decide) (fun c12 => ?_) (fun c12 => ?_)
    · refine am_iload_n (I := iX6_mayFollow) (pc := 29) dX6_mayFollow_29 rfl rfl ?_
      refine am_callS (I := iX6_mayFollow) (pc := 30) (st := []) lv_X6_67 rfl (m_isLetter K l _ y) dX6_mayFollow_30 rfl (Nat.le_of_ble_eq_true rfl) ⟨Nat.le_of_ble_eq_true rfl, Nat.le_of_ble_eq_true rfl⟩ (Nat.le_of_ble_eq_true rfl) (Nat.le_of_ble_eq_true rfl) rfl (fun v9 T9 z9 _ => ?_) (fun _ _ h9 => h9.elim)
      obtain ⟨rfl, rfl⟩ := z9
      show am_W _ _ _ _ _ _ _ _ _ _ _ _ _ _ _ 33 [some (.int x), some (.int y)] [.int (bI (isl y))] S 0 0
      exact am_zret (I := iX6_mayFollow) (pc := 33) dX6_mayFollow_33 rfl (bI01 _) (Nat.le_refl _) (Nat.le_refl _) (⟨by unfold mf; rw [bI_0 c4, if_neg Bool.false_ne_true, if_neg c12], rfl⟩)
    · refine am_iload_n (I := iX6_mayFollow) (pc := 15) dX6_mayFollow_15 rfl rfl ?_
      refine am_bipush (I := iX6_mayFollow) (pc := 16) (x := 32) dX6_mayFollow_16 (by decide) ?_
      refine am_icmp_ne (I := iX6_mayFollow) (pc := 18) (tgt := 25) dX6_mayFollow_18 (by decide) (fun c18 => ?_) (fun c18 => ?_)
      · refine am_iconst (I := iX6_mayFollow) (pc := 25) (x := 0) dX6_mayFollow_25 (by decide) ?_
        refine am_goto (I := iX6_mayFollow) (pc := 26) (tgt := 33) dX6_mayFollow_26 (by decide) ?_
        exact am_zret (I := iX6_mayFollow) (pc := 33) dX6_mayFollow_33 rfl (by decide) (Nat.le_refl _) (Nat.le_refl _) (⟨by rw [bI_f (by unfold mf; rw [bI_0 c4, if_neg Bool.false_ne_true, if_pos c12, decide_eq_false c18])], rfl⟩)
      · refine am_iconst (I := iX6_mayFollow) (pc := 21) (x := 1) dX6_mayFollow_21 (by decide) ?_
        refine am_goto (I := iX6_mayFollow) (pc := 22) (tgt := 33) dX6_mayFollow_22 (by decide) ?_
        exact am_zret (I := iX6_mayFollow) (pc := 33) dX6_mayFollow_33 rfl (by decide) (Nat.le_refl _) (Nat.le_refl _) (⟨by rw [bI_t (by unfold mf; rw [bI_0 c4, if_neg Bool.false_ne_true, if_pos c12, decide_eq_true c18])], rfl⟩)
  · refine am_iconst (I := iX6_mayFollow) (pc := 7) (x := 1) dX6_mayFollow_7 (by decide) ?_
    exact am_zret (I := iX6_mayFollow) (pc := 8) dX6_mayFollow_8 rfl (by decide) (Nat.le_refl _) (Nat.le_refl _) (⟨by rw [bI_t (by unfold mf; rw [if_pos (bI_1 c4)])], rfl⟩)
set_option maxRecDepth 100000 in
set_option maxHeartbeats 4000000 in
theorem m_firstWrong (K : am_K) (l : Launch) (S : am_S) (a b cap : Nat) (f : Nat → Int32) (n : Nat) (hr : rw S.1 a b cap f n) : am_M K l iX6_firstWrongPlace 2 0 0 [.ref a] S (fun v S' => v = some (.int (fwp f n n 0 32)) ∧ S = S') (fun _ _ => False) := by
  refine am_body (by decide) rfl (by simp [Value.category]) (Nat.le_of_ble_eq_true rfl) (fun xp xe xs xm xa xb xt xc ad0 => ?_)
  show am_W _ _ _ _ _ _ _ _ _ _ _ _ _ _ _ 0 [some (.ref a), none, none, none] [] S 0 0
  refine am_bipush (I := iX6_firstWrongPlace) (pc := 0) (x := 32) dX6_firstWrongPlace_0 (by decide) ?_
  refine am_istore_n (I := iX6_firstWrongPlace) (pc := 2) (L' := [some (.ref a), some (.int 32), none, none]) dX6_firstWrongPlace_2 rfl (by decide) rfl ?_
  refine am_iconst (I := iX6_firstWrongPlace) (pc := 3) (x := 0) dX6_firstWrongPlace_3 (by decide) ?_
  refine am_istore_n (I := iX6_firstWrongPlace) (pc := 4) (L' := [some (.ref a), some (.int 32), some (.int 0), none]) dX6_firstWrongPlace_4 rfl (by decide) rfl ?_
  have loop5 : ∀ (k5 : Nat) (i : Nat) (ah : Int32), n - i < k5 → (i ≤ n) → (fwp f n (n - i) i ah = fwp f n n 0 32) → am_W K iX6_firstWrongPlace xp l xe (am_room 2 0 0) xs xm xa xb xt xc S ad0 (am_E K ad0 S (fun v S' => v = some (.int (fwp f n n 0 32)) ∧ S = S') (fun _ _ => False) xb xa xs 0 0) 5 [some (.ref a), some (.int ah), some (.int (nI i)), none] [] S 0 0 := by
    intro k5
    induction k5 with
    | zero => intro i ah h9; exact absurd h9 (Nat.not_lt_zero _)
    | succ k5 ih5 =>
      intro i ah hm5 hi he
      refine am_iload_n (I := iX6_firstWrongPlace) (pc := 5) dX6_firstWrongPlace_5 rfl rfl ?_
      refine am_aload_n (I := iX6_firstWrongPlace) (pc := 6) dX6_firstWrongPlace_6 rfl rfl ?_
      refine am_callV (I := iX6_firstWrongPlace) (pc := 7) (st := [.int (nI i)]) lv_X6_56 (m_Row_length K l _ a b cap f n hr) dX6_firstWrongPlace_7 hr.1 rfl (Nat.le_of_ble_eq_true rfl) ⟨Nat.le_of_ble_eq_true rfl, Nat.le_of_ble_eq_true rfl⟩ (Nat.le_of_ble_eq_true rfl) (Nat.le_of_ble_eq_true rfl) rfl (fun v9 T9 z9 _ => ?_) (fun _ _ h9 => h9.elim)
      obtain ⟨rfl, rfl⟩ := z9
      show am_W _ _ _ _ _ _ _ _ _ _ _ _ _ _ _ 10 [some (.ref a), some (.int ah), some (.int (nI i)), none] [.int (nI n), .int (nI i)] S 0 0
      refine am_icmp_ge (I := iX6_firstWrongPlace) (pc := 10) (tgt := 37) dX6_firstWrongPlace_10 (by decide) (fun c10 => ?_) (fun c10 => ?_)
      · have g10 : n ≤ i := by
          rcases Nat.lt_or_ge i n with q9 | q9
          · exact absurd c10 (nI_ge (a := i) (b := n) q9 (by have := hr.2.2.1; have := hr.2.2.2; omega))
          · exact q9
        refine am_iload_n (I := iX6_firstWrongPlace) (pc := 37) dX6_firstWrongPlace_37 rfl rfl ?_
        refine am_bipush (I := iX6_firstWrongPlace) (pc := 38) (x := 32) dX6_firstWrongPlace_38 (by decide) ?_
        refine am_icmp_ne (I := iX6_firstWrongPlace) (pc := 40) (tgt := 50) dX6_firstWrongPlace_40 (by decide) (fun c40 => ?_) (fun c40 => ?_)
        · refine am_iconst (I := iX6_firstWrongPlace) (pc := 50) (x := (-1)) dX6_firstWrongPlace_50 (by decide) ?_
          exact am_iret (I := iX6_firstWrongPlace) (pc := 51) dX6_firstWrongPlace_51 rfl (Nat.le_refl _) (Nat.le_refl _) (⟨by rw [← he, show n - i = 0 by omega, fwp, if_neg c40], rfl⟩)
        · refine am_aload_n (I := iX6_firstWrongPlace) (pc := 43) dX6_firstWrongPlace_43 rfl rfl ?_
          refine am_callV (I := iX6_firstWrongPlace) (pc := 44) (st := []) lv_X6_56 (m_Row_length K l _ a b cap f n hr) dX6_firstWrongPlace_44 hr.1 rfl (Nat.le_of_ble_eq_true rfl) ⟨Nat.le_of_ble_eq_true rfl, Nat.le_of_ble_eq_true rfl⟩ (Nat.le_of_ble_eq_true rfl) (Nat.le_of_ble_eq_true rfl) rfl (fun v9 T9 z9 _ => ?_) (fun _ _ h9 => h9.elim)
          obtain ⟨rfl, rfl⟩ := z9
          show am_W _ _ _ _ _ _ _ _ _ _ _ _ _ _ _ 47 [some (.ref a), some (.int ah), some (.int (nI i)), none] [.int (nI n)] S 0 0
          refine am_goto (I := iX6_firstWrongPlace) (pc := 47) (tgt := 51) dX6_firstWrongPlace_47 (by decide) ?_
          exact am_iret (I := iX6_firstWrongPlace) (pc := 51) dX6_firstWrongPlace_51 rfl (Nat.le_refl _) (Nat.le_refl _) (⟨by rw [← he, show n - i = 0 by omega, fwp, if_pos c40], rfl⟩)
      · have l10 : i < n := by
          rcases Nat.lt_or_ge i n with q9 | q9
          · exact q9
          · exact absurd (nI_le (a := n) (b := i) q9 (by have := hr.2.2.1; have := hr.2.2.2; omega)) c10
        refine am_aload_n (I := iX6_firstWrongPlace) (pc := 13) dX6_firstWrongPlace_13 rfl rfl ?_
        refine am_iload_n (I := iX6_firstWrongPlace) (pc := 14) dX6_firstWrongPlace_14 rfl rfl ?_
        refine am_callV (I := iX6_firstWrongPlace) (pc := 15) (st := []) lv_X6_125 (m_Row_at K l _ a b cap f n (nI i) hr) dX6_firstWrongPlace_15 hr.1 rfl (Nat.le_of_ble_eq_true rfl) ⟨Nat.le_of_ble_eq_true rfl, Nat.le_of_ble_eq_true rfl⟩ (Nat.le_of_ble_eq_true rfl) (Nat.le_of_ble_eq_true rfl) rfl (fun v9 T9 z9 _ => ?_) (fun _ _ h9 => h9.elim)
        obtain ⟨rfl, rfl⟩ := z9
        show am_W _ _ _ _ _ _ _ _ _ _ _ _ _ _ _ 18 [some (.ref a), some (.int ah), some (.int (nI i)), none] [.int (rv f n (nI i))] S 0 0
        rw [rv_nI l10 (by have := hr.2.2.1; have := hr.2.2.2; omega)]
        refine am_istore_n (I := iX6_firstWrongPlace) (pc := 18) (L' := [some (.ref a), some (.int ah), some (.int (nI i)), some (.int (f i))]) dX6_firstWrongPlace_18 rfl (by decide) rfl ?_
        refine am_iload_n (I := iX6_firstWrongPlace) (pc := 19) dX6_firstWrongPlace_19 rfl rfl ?_
        refine am_iload_n (I := iX6_firstWrongPlace) (pc := 20) dX6_firstWrongPlace_20 rfl rfl ?_
        refine am_callS (I := iX6_firstWrongPlace) (pc := 21) (st := []) lv_X6_236 rfl (m_mayFollow K l _ ah (f i)) dX6_firstWrongPlace_21 rfl (Nat.le_of_ble_eq_true rfl) ⟨Nat.le_of_ble_eq_true rfl, Nat.le_of_ble_eq_true rfl⟩ (Nat.le_of_ble_eq_true rfl) (Nat.le_of_ble_eq_true rfl) rfl (fun v9 T9 z9 _ => ?_) (fun _ _ h9 => h9.elim)
        obtain ⟨rfl, rfl⟩ := z9
        show am_W _ _ _ _ _ _ _ _ _ _ _ _ _ _ _ 24 [some (.ref a), some (.int ah), some (.int (nI i)), some (.int (f i))] [.int (bI (mf ah (f i)))] S 0 0
        refine am_if_ne (I := iX6_firstWrongPlace) (pc := 24) (tgt := 29) dX6_firstWrongPlace_24 (by decide) (fun c24 => ?_) (fun c24 => ?_)
        · refine am_iload_n (I := iX6_firstWrongPlace) (pc := 29) dX6_firstWrongPlace_29 rfl rfl ?_
          refine am_istore_n (I := iX6_firstWrongPlace) (pc := 30) (L' := [some (.ref a), some (.int (f i)), some (.int (nI i)), some (.int (f i))]) dX6_firstWrongPlace_30 rfl (by decide) rfl ?_
          refine am_forget 3 ?_
          refine am_iinc (I := iX6_firstWrongPlace) (pc := 31) (y := ((nI i) + 1)) (L' := [some (.ref a), some (.int (f i)), some (.int ((nI i) + 1)), none]) dX6_firstWrongPlace_31 rfl rfl rfl ?_
          refine am_goto (I := iX6_firstWrongPlace) (pc := 34) (tgt := 5) dX6_firstWrongPlace_34 (by decide) ?_
          exact am_same rfl (by rw [nI_1]) rfl rfl rfl rfl (ih5 (i + 1) (f i) (by omega) (by omega) (by rw [← he, show n - i = (n - (i + 1)) + 1 by omega, fwp, if_pos (bI_1 c24)]))
        · refine am_iload_n (I := iX6_firstWrongPlace) (pc := 27) dX6_firstWrongPlace_27 rfl rfl ?_
          exact am_iret (I := iX6_firstWrongPlace) (pc := 28) dX6_firstWrongPlace_28 rfl (Nat.le_refl _) (Nat.le_refl _) (⟨by rw [← he, show n - i = (n - (i + 1)) + 1 by omega, fwp, if_neg (by rw [bI_0 c24]; exact Bool.false_ne_true)], rfl⟩)
  exact am_same rfl (by rw [nI_0]) rfl rfl rfl rfl (loop5 _ 0 32 (Nat.lt_succ_self _) (Nat.zero_le _) rfl)
set_option maxRecDepth 100000 in
set_option maxHeartbeats 4000000 in
theorem m_ownCell (K : am_K) (l : Launch) (S : am_S) (x : Int32)  : am_M K l iX6_ownCell 0 0 0 [.int x] S (fun v S' => v = some (.int (oc x)) ∧ S = S') (fun _ _ => False) := by
  refine am_body (by decide) rfl (by simp [Value.category]) (Nat.le_of_ble_eq_true rfl) (fun xp xe xs xm xa xb xt xc ad0 => ?_)
  show am_W _ _ _ _ _ _ _ _ _ _ _ _ _ _ _ 0 [some (.int x)] [] S 0 0
  refine am_iload_n (I := iX6_ownCell) (pc := 0) dX6_ownCell_0 rfl rfl ?_
  refine am_bipush (I := iX6_ownCell) (pc := 1) (x := 32) dX6_ownCell_1 (by decide) ?_
  refine am_icmp_ne (I := iX6_ownCell) (pc := 3) (tgt := 8) dX6_ownCell_3 (by decide) (fun c3 => ?_) (fun c3 => ?_)
  · refine am_iload_n (I := iX6_ownCell) (pc := 8) dX6_ownCell_8 rfl rfl ?_
    refine am_bipush (I := iX6_ownCell) (pc := 9) (x := 46) dX6_ownCell_9 (by decide) ?_
    refine am_icmp_ne (I := iX6_ownCell) (pc := 11) (tgt := 19) dX6_ownCell_11 (by decide) (fun c11 => ?_) (fun c11 => ?_)
    · refine am_iload_n (I := iX6_ownCell) (pc := 19) dX6_ownCell_19 rfl rfl ?_
      refine am_bipush (I := iX6_ownCell) (pc := 20) (x := 97) dX6_ownCell_20 (by decide) ?_
      refine am_isub (I := iX6_ownCell) (pc := 22) dX6_ownCell_22 ?_
      refine am_iconst (I := iX6_ownCell) (pc := 23) (x := 1) dX6_ownCell_23 (by decide) ?_
      refine am_iadd (I := iX6_ownCell) (pc := 24) dX6_ownCell_24 ?_
      exact am_iret (I := iX6_ownCell) (pc := 25) dX6_ownCell_25 rfl (Nat.le_refl _) (Nat.le_refl _) (⟨by rw [oc, if_neg c3, if_neg c11], rfl⟩)
    · refine am_bipush (I := iX6_ownCell) (pc := 14) (x := 27) dX6_ownCell_14 (by decide) ?_
      refine am_goto (I := iX6_ownCell) (pc := 16) (tgt := 25) dX6_ownCell_16 (by decide) ?_
      exact am_iret (I := iX6_ownCell) (pc := 25) dX6_ownCell_25 rfl (Nat.le_refl _) (Nat.le_refl _) (⟨by rw [oc, if_neg c3, if_pos c11], rfl⟩)
  · refine am_iconst (I := iX6_ownCell) (pc := 6) (x := 0) dX6_ownCell_6 (by decide) ?_
    exact am_iret (I := iX6_ownCell) (pc := 7) dX6_ownCell_7 rfl (Nat.le_refl _) (Nat.le_refl _) (⟨by rw [oc, if_pos c3], rfl⟩)
set_option maxRecDepth 100000 in
set_option maxHeartbeats 4000000 in
theorem m_ownSign (K : am_K) (l : Launch) (S : am_S) (x : Int32)  : am_M K l iX6_ownSign 0 0 0 [.int x] S (fun v S' => v = some (.int (os x)) ∧ S = S') (fun _ _ => False) := by
  refine am_body (by decide) rfl (by simp [Value.category]) (Nat.le_of_ble_eq_true rfl) (fun xp xe xs xm xa xb xt xc ad0 => ?_)
  show am_W _ _ _ _ _ _ _ _ _ _ _ _ _ _ _ 0 [some (.int x)] [] S 0 0
  refine am_iload_n (I := iX6_ownSign) (pc := 0) dX6_ownSign_0 rfl rfl ?_
  refine am_if_ne (I := iX6_ownSign) (pc := 1) (tgt := 7) dX6_ownSign_1 (by decide) (fun c1 => ?_) (fun c1 => ?_)
  · refine am_iload_n (I := iX6_ownSign) (pc := 7) dX6_ownSign_7 rfl rfl ?_
    refine am_bipush (I := iX6_ownSign) (pc := 8) (x := 27) dX6_ownSign_8 (by decide) ?_
    refine am_icmp_ne (I := iX6_ownSign) (pc := 10) (tgt := 18) dX6_ownSign_10 (by decide) (fun c10 => ?_) (fun c10 => ?_)
    · refine am_bipush (I := iX6_ownSign) (pc := 18) (x := 97) dX6_ownSign_18 (by decide) ?_
      refine am_iload_n (I := iX6_ownSign) (pc := 20) dX6_ownSign_20 rfl rfl ?_
      refine am_iadd (I := iX6_ownSign) (pc := 21) dX6_ownSign_21 ?_
      refine am_iconst (I := iX6_ownSign) (pc := 22) (x := 1) dX6_ownSign_22 (by decide) ?_
      refine am_isub (I := iX6_ownSign) (pc := 23) dX6_ownSign_23 ?_
      exact am_iret (I := iX6_ownSign) (pc := 24) dX6_ownSign_24 rfl (Nat.le_refl _) (Nat.le_refl _) (⟨by rw [os, if_neg c1, if_neg c10], rfl⟩)
    · refine am_bipush (I := iX6_ownSign) (pc := 13) (x := 46) dX6_ownSign_13 (by decide) ?_
      refine am_goto (I := iX6_ownSign) (pc := 15) (tgt := 24) dX6_ownSign_15 (by decide) ?_
      exact am_iret (I := iX6_ownSign) (pc := 24) dX6_ownSign_24 rfl (Nat.le_refl _) (Nat.le_refl _) (⟨by rw [os, if_neg c1, if_pos c10], rfl⟩)
  · refine am_bipush (I := iX6_ownSign) (pc := 4) (x := 32) dX6_ownSign_4 (by decide) ?_
    exact am_iret (I := iX6_ownSign) (pc := 6) dX6_ownSign_6 rfl (Nat.le_refl _) (Nat.le_refl _) (⟨by rw [os, if_pos c1], rfl⟩)
def cbc (f : Nat → Int32) (n : Nat) : Bool := decide (2 ≤ n) && decide (n ≤ 5) && decide (∀ j, j < n → isl (f j) = true)
set_option maxRecDepth 100000 in
set_option maxHeartbeats 4000000 in
theorem m_canBe (K : am_K) (l : Launch) (S : am_S) (a b cap : Nat) (f : Nat → Int32) (n : Nat) (hr : rw S.1 a b cap f n) : am_M K l iX6_canBeContracted 1 0 0 [.ref a] S (fun v S' => v = some (.int (bI (cbc f n))) ∧ S = S') (fun _ _ => False) := by
  refine am_body (by decide) rfl (by simp [Value.category]) (Nat.le_of_ble_eq_true rfl) (fun xp xe xs xm xa xb xt xc ad0 => ?_)
  show am_W _ _ _ _ _ _ _ _ _ _ _ _ _ _ _ 0 [some (.ref a), none] [] S 0 0
  refine am_aload_n (I := iX6_canBeContracted) (pc := 0) dX6_canBeContracted_0 rfl rfl ?_
  refine am_callV (I := iX6_canBeContracted) (pc := 1) (st := []) lv_X6_56 (m_Row_length K l _ a b cap f n hr) dX6_canBeContracted_1 hr.1 rfl (Nat.le_of_ble_eq_true rfl) ⟨Nat.le_of_ble_eq_true rfl, Nat.le_of_ble_eq_true rfl⟩ (Nat.le_of_ble_eq_true rfl) (Nat.le_of_ble_eq_true rfl) rfl (fun v9 T9 z9 _ => ?_) (fun _ _ h9 => h9.elim)
  obtain ⟨rfl, rfl⟩ := z9
  show am_W _ _ _ _ _ _ _ _ _ _ _ _ _ _ _ 4 [some (.ref a), none] [.int (nI n)] S 0 0
  refine am_iconst (I := iX6_canBeContracted) (pc := 4) (x := 2) dX6_canBeContracted_4 (by decide) ?_
  refine am_icmp_lt (I := iX6_canBeContracted) (pc := 5) (tgt := 16) dX6_canBeContracted_5 (by decide) (fun c5 => ?_) (fun c5 => ?_)
  · have g5 : ¬ 2 ≤ n := fun q9 => absurd c5 (nI_nlt (b := 2) q9 (by have := hr.2.2.1; have := hr.2.2.2; omega))
    refine am_iconst (I := iX6_canBeContracted) (pc := 16) (x := 0) dX6_canBeContracted_16 (by decide) ?_
    exact am_zret (I := iX6_canBeContracted) (pc := 17) dX6_canBeContracted_17 rfl (by decide) (Nat.le_refl _) (Nat.le_refl _) (⟨by rw [bI_f (by unfold cbc; rw [decide_eq_false g5]; rfl)], rfl⟩)
  · have g5 : 2 ≤ n := by
      rcases Nat.lt_or_ge n 2 with q9 | q9
      · exact absurd (nI_lt (b := 2) q9 (by decide)) c5
      · exact q9
    refine am_aload_n (I := iX6_canBeContracted) (pc := 8) dX6_canBeContracted_8 rfl rfl ?_
    refine am_callV (I := iX6_canBeContracted) (pc := 9) (st := []) lv_X6_56 (m_Row_length K l _ a b cap f n hr) dX6_canBeContracted_9 hr.1 rfl (Nat.le_of_ble_eq_true rfl) ⟨Nat.le_of_ble_eq_true rfl, Nat.le_of_ble_eq_true rfl⟩ (Nat.le_of_ble_eq_true rfl) (Nat.le_of_ble_eq_true rfl) rfl (fun v9 T9 z9 _ => ?_) (fun _ _ h9 => h9.elim)
    obtain ⟨rfl, rfl⟩ := z9
    show am_W _ _ _ _ _ _ _ _ _ _ _ _ _ _ _ 12 [some (.ref a), none] [.int (nI n)] S 0 0
    refine am_iconst (I := iX6_canBeContracted) (pc := 12) (x := 5) dX6_canBeContracted_12 (by decide) ?_
    refine am_icmp_le (I := iX6_canBeContracted) (pc := 13) (tgt := 18) dX6_canBeContracted_13 (by decide) (fun c13 => ?_) (fun c13 => ?_)
    · have g13 : n ≤ 5 := by
        rcases Nat.lt_or_ge 5 n with q9 | q9
        · exact absurd c13 (nI_ge (a := 5) q9 (by have := hr.2.2.1; have := hr.2.2.2; omega))
        · exact q9
      refine am_iconst (I := iX6_canBeContracted) (pc := 18) (x := 0) dX6_canBeContracted_18 (by decide) ?_
      refine am_istore_n (I := iX6_canBeContracted) (pc := 19) (L' := [some (.ref a), some (.int 0)]) dX6_canBeContracted_19 rfl (by decide) rfl ?_
      have loop20 : ∀ (k20 : Nat) (i : Nat), n - i < k20 → (i ≤ n) → (∀ j, j < i → isl (f j) = true) → am_W K iX6_canBeContracted xp l xe (am_room 1 0 0) xs xm xa xb xt xc S ad0 (am_E K ad0 S (fun v S' => v = some (.int (bI (cbc f n))) ∧ S = S') (fun _ _ => False) xb xa xs 0 0) 20 [some (.ref a), some (.int (nI i))] [] S 0 0 := by
        intro k20
        induction k20 with
        | zero => intro i h9; exact absurd h9 (Nat.not_lt_zero _)
        | succ k20 ih20 =>
          intro i hm20 hi hq
          refine am_iload_n (I := iX6_canBeContracted) (pc := 20) dX6_canBeContracted_20 rfl rfl ?_
          refine am_aload_n (I := iX6_canBeContracted) (pc := 21) dX6_canBeContracted_21 rfl rfl ?_
          refine am_callV (I := iX6_canBeContracted) (pc := 22) (st := [.int (nI i)]) lv_X6_56 (m_Row_length K l _ a b cap f n hr) dX6_canBeContracted_22 hr.1 rfl (Nat.le_of_ble_eq_true rfl) ⟨Nat.le_of_ble_eq_true rfl, Nat.le_of_ble_eq_true rfl⟩ (Nat.le_of_ble_eq_true rfl) (Nat.le_of_ble_eq_true rfl) rfl (fun v9 T9 z9 _ => ?_) (fun _ _ h9 => h9.elim)
          obtain ⟨rfl, rfl⟩ := z9
          show am_W _ _ _ _ _ _ _ _ _ _ _ _ _ _ _ 25 [some (.ref a), some (.int (nI i))] [.int (nI n), .int (nI i)] S 0 0
          refine am_icmp_ge (I := iX6_canBeContracted) (pc := 25) (tgt := 47) dX6_canBeContracted_25 (by decide) (fun c25 => ?_) (fun c25 => ?_)
          · have g25 : n ≤ i := by
              rcases Nat.lt_or_ge i n with q9 | q9
              · exact absurd c25 (nI_ge (a := i) (b := n) q9 (by have := hr.2.2.1; have := hr.2.2.2; omega))
              · exact q9
            refine am_iconst (I := iX6_canBeContracted) (pc := 47) (x := 1) dX6_canBeContracted_47 (by decide) ?_
            exact am_zret (I := iX6_canBeContracted) (pc := 48) dX6_canBeContracted_48 rfl (by decide) (Nat.le_refl _) (Nat.le_refl _) (⟨by rw [bI_t (by unfold cbc; rw [decide_eq_true g5, decide_eq_true g13, decide_eq_true (p := ∀ j, j < n → isl (f j) = true) (fun j h9 => hq j (by omega))]; rfl)], rfl⟩)
          · have l25 : i < n := by
              rcases Nat.lt_or_ge i n with q9 | q9
              · exact q9
              · exact absurd (nI_le (a := n) (b := i) q9 (by have := hr.2.2.1; have := hr.2.2.2; omega)) c25
            refine am_aload_n (I := iX6_canBeContracted) (pc := 28) dX6_canBeContracted_28 rfl rfl ?_
            refine am_iload_n (I := iX6_canBeContracted) (pc := 29) dX6_canBeContracted_29 rfl rfl ?_
            refine am_callV (I := iX6_canBeContracted) (pc := 30) (st := []) lv_X6_125 (m_Row_at K l _ a b cap f n (nI i) hr) dX6_canBeContracted_30 hr.1 rfl (Nat.le_of_ble_eq_true rfl) ⟨Nat.le_of_ble_eq_true rfl, Nat.le_of_ble_eq_true rfl⟩ (Nat.le_of_ble_eq_true rfl) (Nat.le_of_ble_eq_true rfl) rfl (fun v9 T9 z9 _ => ?_) (fun _ _ h9 => h9.elim)
            obtain ⟨rfl, rfl⟩ := z9
            show am_W _ _ _ _ _ _ _ _ _ _ _ _ _ _ _ 33 [some (.ref a), some (.int (nI i))] [.int (rv f n (nI i))] S 0 0
            rw [rv_nI l25 (by have := hr.2.2.1; have := hr.2.2.2; omega)]
            refine am_callS (I := iX6_canBeContracted) (pc := 33) (st := []) lv_X6_67 rfl (m_isLetter K l _ (f i)) dX6_canBeContracted_33 rfl (Nat.le_of_ble_eq_true rfl) ⟨Nat.le_of_ble_eq_true rfl, Nat.le_of_ble_eq_true rfl⟩ (Nat.le_of_ble_eq_true rfl) (Nat.le_of_ble_eq_true rfl) rfl (fun v9 T9 z9 _ => ?_) (fun _ _ h9 => h9.elim)
            obtain ⟨rfl, rfl⟩ := z9
            show am_W _ _ _ _ _ _ _ _ _ _ _ _ _ _ _ 36 [some (.ref a), some (.int (nI i))] [.int (bI (isl (f i)))] S 0 0
            refine am_if_ne (I := iX6_canBeContracted) (pc := 36) (tgt := 41) dX6_canBeContracted_36 (by decide) (fun c36 => ?_) (fun c36 => ?_)
            · refine am_iinc (I := iX6_canBeContracted) (pc := 41) (y := ((nI i) + 1)) (L' := [some (.ref a), some (.int ((nI i) + 1))]) dX6_canBeContracted_41 rfl rfl rfl ?_
              refine am_goto (I := iX6_canBeContracted) (pc := 44) (tgt := 20) dX6_canBeContracted_44 (by decide) ?_
              refine am_same rfl (by rw [nI_1]) rfl rfl rfl rfl (ih20 (i + 1) (by omega) (by omega) (fun j h9 => by
                            rcases Nat.lt_or_ge j i with q9 | q9
                            · exact hq j q9
                            · have e9 : j = i := by omega
                              subst e9; exact bI_1 c36))
            · refine am_iconst (I := iX6_canBeContracted) (pc := 39) (x := 0) dX6_canBeContracted_39 (by decide) ?_
              exact am_zret (I := iX6_canBeContracted) (pc := 40) dX6_canBeContracted_40 rfl (by decide) (Nat.le_refl _) (Nat.le_refl _) (⟨by rw [bI_f (by unfold cbc; rw [decide_eq_false (p := ∀ j, j < n → isl (f j) = true) (fun q9 => by have := q9 i l25; rw [bI_0 c36] at this; cases this), Bool.and_false])], rfl⟩)
      exact am_same rfl (by rw [nI_0]) rfl rfl rfl rfl (loop20 _ 0 (Nat.lt_succ_self _) (Nat.zero_le _) (fun j h9 => absurd h9 (Nat.not_lt_zero _)))
    · have g13 : ¬ n ≤ 5 := fun q9 => c13 (nI_le (b := 5) q9 (by decide))
      refine am_iconst (I := iX6_canBeContracted) (pc := 16) (x := 0) dX6_canBeContracted_16 (by decide) ?_
      exact am_zret (I := iX6_canBeContracted) (pc := 17) dX6_canBeContracted_17 rfl (by decide) (Nat.le_refl _) (Nat.le_refl _) (⟨by rw [bI_f (by unfold cbc; rw [decide_eq_false g13, Bool.and_false]; rfl)], rfl⟩)
