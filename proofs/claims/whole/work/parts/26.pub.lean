/-! THE CLASS'S METHODS: the object at 1, all that it has at 2 to 24 -/
abbrev clx : am_C := .inr (6, [.ref 2, .ref 4, .ref 8, .ref 15, .ref 17, .ref 19, .ref 23])
set_option maxRecDepth 100000 in
set_option maxHeartbeats 4000000 in
theorem p_unit_x1 (K : am_K) (l : Launch) (S : am_S) (f : Nat → Int32) (n : Nat) (x : Int32) (hx : S.1 1 = clx) (hr : rw S.1 2 3 80 f n) (hn : 80 ≤ n) : am_M K l iX6_unit 8 2 82 [.ref 1, .int x] S (fun v S' => False) (fun j S' => j = 1 ∧ S = S') := by
  refine am_body (by decide) rfl (by simp [Value.category]) (Nat.le_of_ble_eq_true rfl) (fun xp xe xs xm xa xb xt xc ad0 => ?_)
  show am_W _ _ _ _ _ _ _ _ _ _ _ _ _ _ _ 0 [some (.ref 1), some (.int x)] [] S 0 0
  refine am_aload_n (I := iX6_unit) (pc := 0) dX6_unit_0 rfl rfl ?_
  refine am_getf (I := iX6_unit) (pc := 1) lf_X6_14 dX6_unit_1 hx rfl ?_
  refine am_callV (I := iX6_unit) (pc := 4) (st := []) lv_X6_56 (m_Row_length K l _ 2 3 80 f n hr) dX6_unit_4 hr.1 rfl (Nat.le_of_ble_eq_true rfl) ⟨Nat.le_of_ble_eq_true rfl, Nat.le_of_ble_eq_true rfl⟩ (Nat.le_of_ble_eq_true rfl) (Nat.le_of_ble_eq_true rfl) rfl (fun v9 T9 z9 _ => ?_) (fun _ _ h9 => h9.elim)
  obtain ⟨rfl, rfl⟩ := z9
  show am_W _ _ _ _ _ _ _ _ _ _ _ _ _ _ _ 7 [some (.ref 1), some (.int x)] [.int (nI n)] S 0 0
  refine am_bipush (I := iX6_unit) (pc := 7) (x := 80) dX6_unit_7 (by decide) ?_
  refine am_icmp_lt (I := iX6_unit) (pc := 9) (tgt := 22) dX6_unit_9 (by decide) (fun c9 => ?_) (fun c9 => ?_)
  · exact absurd c9 (nI_nlt (b := 80) hn (by have := hr.2.2.1; omega))
  · exact am_throw (I := iX6_unit) (pc := 12) lt_X6_60_62_64 rfl dX6_unit_12 dX6_unit_15 dX6_unit_16 dX6_unit_18 dX6_unit_21 (Nat.le_of_ble_eq_true rfl) (Nat.le_of_ble_eq_true rfl) (Nat.le_of_ble_eq_true rfl) (Nat.le_of_ble_eq_true rfl) (Nat.le_of_ble_eq_true rfl) (Nat.le_of_ble_eq_true rfl) (⟨rfl, rfl⟩)
set_option maxRecDepth 100000 in
set_option maxHeartbeats 4000000 in
theorem p_unit_x2 (K : am_K) (l : Launch) (S : am_S) (f : Nat → Int32) (n : Nat) (x : Int32) (hx : S.1 1 = clx) (hr : rw S.1 2 3 80 f n) (hn : n < 80) (hs : isl x = false ∧ ¬ x = 32 ∧ ¬ x = 46) : am_M K l iX6_unit 8 2 82 [.ref 1, .int x] S (fun v S' => False) (fun j S' => j = 2 ∧ S = S') := by
  refine am_body (by decide) rfl (by simp [Value.category]) (Nat.le_of_ble_eq_true rfl) (fun xp xe xs xm xa xb xt xc ad0 => ?_)
  show am_W _ _ _ _ _ _ _ _ _ _ _ _ _ _ _ 0 [some (.ref 1), some (.int x)] [] S 0 0
  refine am_aload_n (I := iX6_unit) (pc := 0) dX6_unit_0 rfl rfl ?_
  refine am_getf (I := iX6_unit) (pc := 1) lf_X6_14 dX6_unit_1 hx rfl ?_
  refine am_callV (I := iX6_unit) (pc := 4) (st := []) lv_X6_56 (m_Row_length K l _ 2 3 80 f n hr) dX6_unit_4 hr.1 rfl (Nat.le_of_ble_eq_true rfl) ⟨Nat.le_of_ble_eq_true rfl, Nat.le_of_ble_eq_true rfl⟩ (Nat.le_of_ble_eq_true rfl) (Nat.le_of_ble_eq_true rfl) rfl (fun v9 T9 z9 _ => ?_) (fun _ _ h9 => h9.elim)
  obtain ⟨rfl, rfl⟩ := z9
  show am_W _ _ _ _ _ _ _ _ _ _ _ _ _ _ _ 7 [some (.ref 1), some (.int x)] [.int (nI n)] S 0 0
  refine am_bipush (I := iX6_unit) (pc := 7) (x := 80) dX6_unit_7 (by decide) ?_
  refine am_icmp_lt (I := iX6_unit) (pc := 9) (tgt := 22) dX6_unit_9 (by decide) (fun c9 => ?_) (fun c9 => ?_)
  · refine am_iload_n (I := iX6_unit) (pc := 22) dX6_unit_22 rfl rfl ?_
    refine am_callS (I := iX6_unit) (pc := 23) (st := []) lv_X6_67 rfl (m_isLetter K l _ x) dX6_unit_23 rfl (Nat.le_of_ble_eq_true rfl) ⟨Nat.le_of_ble_eq_true rfl, Nat.le_of_ble_eq_true rfl⟩ (Nat.le_of_ble_eq_true rfl) (Nat.le_of_ble_eq_true rfl) rfl (fun v9 T9 z9 _ => ?_) (fun _ _ h9 => h9.elim)
    obtain ⟨rfl, rfl⟩ := z9
    show am_W _ _ _ _ _ _ _ _ _ _ _ _ _ _ _ 26 [some (.ref 1), some (.int x)] [.int (bI (isl x))] S 0 0
    refine am_if_ne (I := iX6_unit) (pc := 26) (tgt := 51) dX6_unit_26 (by decide) (fun c26 => ?_) (fun c26 => ?_)
    · exact absurd (bI_f hs.1) c26
    · refine am_iload_n (I := iX6_unit) (pc := 29) dX6_unit_29 rfl rfl ?_
      refine am_bipush (I := iX6_unit) (pc := 30) (x := 32) dX6_unit_30 (by decide) ?_
      refine am_icmp_eq (I := iX6_unit) (pc := 32) (tgt := 51) dX6_unit_32 (by decide) (fun c32 => ?_) (fun c32 => ?_)
      · exact absurd c32 hs.2.1
      · refine am_iload_n (I := iX6_unit) (pc := 35) dX6_unit_35 rfl rfl ?_
        refine am_bipush (I := iX6_unit) (pc := 36) (x := 46) dX6_unit_36 (by decide) ?_
        refine am_icmp_eq (I := iX6_unit) (pc := 38) (tgt := 51) dX6_unit_38 (by decide) (fun c38 => ?_) (fun c38 => ?_)
        · exact absurd c38 hs.2.2
        · exact am_throw (I := iX6_unit) (pc := 41) lt_X6_71_73_75 rfl dX6_unit_41 dX6_unit_44 dX6_unit_45 dX6_unit_47 dX6_unit_50 (Nat.le_of_ble_eq_true rfl) (Nat.le_of_ble_eq_true rfl) (Nat.le_of_ble_eq_true rfl) (Nat.le_of_ble_eq_true rfl) (Nat.le_of_ble_eq_true rfl) (Nat.le_of_ble_eq_true rfl) (⟨rfl, rfl⟩)
  · exact absurd (nI_lt (b := 80) hn (by decide)) c9
set_option maxRecDepth 100000 in
set_option maxHeartbeats 4000000 in
theorem p_unit (K : am_K) (l : Launch) (S : am_S) (f : Nat → Int32) (n : Nat) (x : Int32) (hx : S.1 1 = clx) (hr : rw S.1 2 3 80 f n) (hn : n < 80) (hs : isl x = true ∨ x = 32 ∨ x = 46) : am_M K l iX6_unit 8 2 82 [.ref 1, .int x] S (fun v S' => v = some (.int (nI (n + 1))) ∧ rwS S 2 3 80 (upd f n x) (n + 1) = S') (fun _ _ => False) := by
  refine am_body (by decide) rfl (by simp [Value.category]) (Nat.le_of_ble_eq_true rfl) (fun xp xe xs xm xa xb xt xc ad0 => ?_)
  show am_W _ _ _ _ _ _ _ _ _ _ _ _ _ _ _ 0 [some (.ref 1), some (.int x)] [] S 0 0
  refine am_aload_n (I := iX6_unit) (pc := 0) dX6_unit_0 rfl rfl ?_
  refine am_getf (I := iX6_unit) (pc := 1) lf_X6_14 dX6_unit_1 hx rfl ?_
  refine am_callV (I := iX6_unit) (pc := 4) (st := []) lv_X6_56 (m_Row_length K l _ 2 3 80 f n hr) dX6_unit_4 hr.1 rfl (Nat.le_of_ble_eq_true rfl) ⟨Nat.le_of_ble_eq_true rfl, Nat.le_of_ble_eq_true rfl⟩ (Nat.le_of_ble_eq_true rfl) (Nat.le_of_ble_eq_true rfl) rfl (fun v9 T9 z9 _ => ?_) (fun _ _ h9 => h9.elim)
  obtain ⟨rfl, rfl⟩ := z9
  show am_W _ _ _ _ _ _ _ _ _ _ _ _ _ _ _ 7 [some (.ref 1), some (.int x)] [.int (nI n)] S 0 0
  refine am_bipush (I := iX6_unit) (pc := 7) (x := 80) dX6_unit_7 (by decide) ?_
  refine am_icmp_lt (I := iX6_unit) (pc := 9) (tgt := 22) dX6_unit_9 (by decide) (fun c9 => ?_) (fun c9 => ?_)
  · refine am_iload_n (I := iX6_unit) (pc := 22) dX6_unit_22 rfl rfl ?_
    refine am_callS (I := iX6_unit) (pc := 23) (st := []) lv_X6_67 rfl (m_isLetter K l _ x) dX6_unit_23 rfl (Nat.le_of_ble_eq_true rfl) ⟨Nat.le_of_ble_eq_true rfl, Nat.le_of_ble_eq_true rfl⟩ (Nat.le_of_ble_eq_true rfl) (Nat.le_of_ble_eq_true rfl) rfl (fun v9 T9 z9 _ => ?_) (fun _ _ h9 => h9.elim)
    obtain ⟨rfl, rfl⟩ := z9
    show am_W _ _ _ _ _ _ _ _ _ _ _ _ _ _ _ 26 [some (.ref 1), some (.int x)] [.int (bI (isl x))] S 0 0
    refine am_if_ne (I := iX6_unit) (pc := 26) (tgt := 51) dX6_unit_26 (by decide) (fun c26 => ?_) (fun c26 => ?_)
    · refine am_aload_n (I := iX6_unit) (pc := 51) dX6_unit_51 rfl rfl ?_
      refine am_getf (I := iX6_unit) (pc := 52) lf_X6_14 dX6_unit_52 hx rfl ?_
      refine am_iload_n (I := iX6_unit) (pc := 55) dX6_unit_55 rfl rfl ?_
      refine am_callV (I := iX6_unit) (pc := 56) (st := []) lv_X6_76 (m_Row_add K l _ 2 3 80 f n x hr) dX6_unit_56 hr.1 rfl (Nat.le_of_ble_eq_true rfl) ⟨Nat.le_of_ble_eq_true rfl, Nat.le_of_ble_eq_true rfl⟩ (Nat.le_of_ble_eq_true rfl) (Nat.le_of_ble_eq_true rfl) rfl (fun v9 T9 z9 _ => ?_) (fun _ _ h9 => h9.elim)
      rw [rw_add_lt hn] at z9
      obtain ⟨rfl, eT9⟩ := z9
      have hr9 : rw T9.1 2 3 80 (upd f n x) (n + 1) := by rw [← eT9]; exact rwS_rw (by decide) (by omega) (by decide)
      have hx9 : T9.1 1 = clx := by rw [← eT9]; exact (rwS_at (by decide) (by decide)).trans hx
      show am_W _ _ _ _ _ _ _ _ _ _ _ _ _ _ _ 59 [some (.ref 1), some (.int x)] [] T9 0 0
      refine am_aload_n (I := iX6_unit) (pc := 59) dX6_unit_59 rfl rfl ?_
      refine am_getf (I := iX6_unit) (pc := 60) lf_X6_14 dX6_unit_60 hx9 rfl ?_
      refine am_callV (I := iX6_unit) (pc := 63) (st := []) lv_X6_56 (m_Row_length K l _ 2 3 80 (upd f n x) (n + 1) hr9) dX6_unit_63 hr9.1 rfl (Nat.le_of_ble_eq_true rfl) ⟨Nat.le_of_ble_eq_true rfl, Nat.le_of_ble_eq_true rfl⟩ (Nat.le_of_ble_eq_true rfl) (Nat.le_of_ble_eq_true rfl) rfl (fun v9 T9 z9 _ => ?_) (fun _ _ h9 => h9.elim)
      obtain ⟨rfl, rfl⟩ := z9
      show am_W _ _ _ _ _ _ _ _ _ _ _ _ _ _ _ 66 [some (.ref 1), some (.int x)] [.int (nI (n + 1))] T9 0 0
      exact am_iret (I := iX6_unit) (pc := 66) dX6_unit_66 rfl (Nat.zero_le _) (Nat.zero_le _) (⟨rfl, eT9⟩)
    · refine am_iload_n (I := iX6_unit) (pc := 29) dX6_unit_29 rfl rfl ?_
      refine am_bipush (I := iX6_unit) (pc := 30) (x := 32) dX6_unit_30 (by decide) ?_
      refine am_icmp_eq (I := iX6_unit) (pc := 32) (tgt := 51) dX6_unit_32 (by decide) (fun c32 => ?_) (fun c32 => ?_)
      · refine am_aload_n (I := iX6_unit) (pc := 51) dX6_unit_51 rfl rfl ?_
        refine am_getf (I := iX6_unit) (pc := 52) lf_X6_14 dX6_unit_52 hx rfl ?_
        refine am_iload_n (I := iX6_unit) (pc := 55) dX6_unit_55 rfl rfl ?_
        refine am_callV (I := iX6_unit) (pc := 56) (st := []) lv_X6_76 (m_Row_add K l _ 2 3 80 f n x hr) dX6_unit_56 hr.1 rfl (Nat.le_of_ble_eq_true rfl) ⟨Nat.le_of_ble_eq_true rfl, Nat.le_of_ble_eq_true rfl⟩ (Nat.le_of_ble_eq_true rfl) (Nat.le_of_ble_eq_true rfl) rfl (fun v9 T9 z9 _ => ?_) (fun _ _ h9 => h9.elim)
        rw [rw_add_lt hn] at z9
        obtain ⟨rfl, eT9⟩ := z9
        have hr9 : rw T9.1 2 3 80 (upd f n x) (n + 1) := by rw [← eT9]; exact rwS_rw (by decide) (by omega) (by decide)
        have hx9 : T9.1 1 = clx := by rw [← eT9]; exact (rwS_at (by decide) (by decide)).trans hx
        show am_W _ _ _ _ _ _ _ _ _ _ _ _ _ _ _ 59 [some (.ref 1), some (.int x)] [] T9 0 0
        refine am_aload_n (I := iX6_unit) (pc := 59) dX6_unit_59 rfl rfl ?_
        refine am_getf (I := iX6_unit) (pc := 60) lf_X6_14 dX6_unit_60 hx9 rfl ?_
        refine am_callV (I := iX6_unit) (pc := 63) (st := []) lv_X6_56 (m_Row_length K l _ 2 3 80 (upd f n x) (n + 1) hr9) dX6_unit_63 hr9.1 rfl (Nat.le_of_ble_eq_true rfl) ⟨Nat.le_of_ble_eq_true rfl, Nat.le_of_ble_eq_true rfl⟩ (Nat.le_of_ble_eq_true rfl) (Nat.le_of_ble_eq_true rfl) rfl (fun v9 T9 z9 _ => ?_) (fun _ _ h9 => h9.elim)
        obtain ⟨rfl, rfl⟩ := z9
        show am_W _ _ _ _ _ _ _ _ _ _ _ _ _ _ _ 66 [some (.ref 1), some (.int x)] [.int (nI (n + 1))] T9 0 0
        exact am_iret (I := iX6_unit) (pc := 66) dX6_unit_66 rfl (Nat.zero_le _) (Nat.zero_le _) (⟨rfl, eT9⟩)
      · refine am_iload_n (I := iX6_unit) (pc := 35) dX6_unit_35 rfl rfl ?_
        refine am_bipush (I := iX6_unit) (pc := 36) (x := 46) dX6_unit_36 (by decide) ?_
        refine am_icmp_eq (I := iX6_unit) (pc := 38) (tgt := 51) dX6_unit_38 (by decide) (fun c38 => ?_) (fun c38 => ?_)
        · refine am_aload_n (I := iX6_unit) (pc := 51) dX6_unit_51 rfl rfl ?_
          refine am_getf (I := iX6_unit) (pc := 52) lf_X6_14 dX6_unit_52 hx rfl ?_
          refine am_iload_n (I := iX6_unit) (pc := 55) dX6_unit_55 rfl rfl ?_
          refine am_callV (I := iX6_unit) (pc := 56) (st := []) lv_X6_76 (m_Row_add K l _ 2 3 80 f n x hr) dX6_unit_56 hr.1 rfl (Nat.le_of_ble_eq_true rfl) ⟨Nat.le_of_ble_eq_true rfl, Nat.le_of_ble_eq_true rfl⟩ (Nat.le_of_ble_eq_true rfl) (Nat.le_of_ble_eq_true rfl) rfl (fun v9 T9 z9 _ => ?_) (fun _ _ h9 => h9.elim)
          rw [rw_add_lt hn] at z9
          obtain ⟨rfl, eT9⟩ := z9
          have hr9 : rw T9.1 2 3 80 (upd f n x) (n + 1) := by rw [← eT9]; exact rwS_rw (by decide) (by omega) (by decide)
          have hx9 : T9.1 1 = clx := by rw [← eT9]; exact (rwS_at (by decide) (by decide)).trans hx
          show am_W _ _ _ _ _ _ _ _ _ _ _ _ _ _ _ 59 [some (.ref 1), some (.int x)] [] T9 0 0
          refine am_aload_n (I := iX6_unit) (pc := 59) dX6_unit_59 rfl rfl ?_
          refine am_getf (I := iX6_unit) (pc := 60) lf_X6_14 dX6_unit_60 hx9 rfl ?_
          refine am_callV (I := iX6_unit) (pc := 63) (st := []) lv_X6_56 (m_Row_length K l _ 2 3 80 (upd f n x) (n + 1) hr9) dX6_unit_63 hr9.1 rfl (Nat.le_of_ble_eq_true rfl) ⟨Nat.le_of_ble_eq_true rfl, Nat.le_of_ble_eq_true rfl⟩ (Nat.le_of_ble_eq_true rfl) (Nat.le_of_ble_eq_true rfl) rfl (fun v9 T9 z9 _ => ?_) (fun _ _ h9 => h9.elim)
          obtain ⟨rfl, rfl⟩ := z9
          show am_W _ _ _ _ _ _ _ _ _ _ _ _ _ _ _ 66 [some (.ref 1), some (.int x)] [.int (nI (n + 1))] T9 0 0
          exact am_iret (I := iX6_unit) (pc := 66) dX6_unit_66 rfl (Nat.zero_le _) (Nat.zero_le _) (⟨rfl, eT9⟩)
        · exact absurd hs (fun q => q.elim (fun q => absurd c26 (by rw [q]; decide)) (fun q => q.elim c32 c38))
  · exact absurd (nI_lt (b := 80) hn (by decide)) c9
set_option maxRecDepth 100000 in
set_option maxHeartbeats 4000000 in
theorem p_clear (K : am_K) (l : Launch) (S : am_S) (f : Nat → Int32) (n : Nat) (hx : S.1 1 = clx) (hr : rw S.1 2 3 80 f n) : am_M K l iX6_clear 8 2 82 [.ref 1] S (fun v S' => v = some (.int (nI n)) ∧ (am_up S.1 2 (.inr (3, [.ref 3, .int 0])), S.2) = S') (fun _ _ => False) := by
  refine am_body (by decide) rfl (by simp [Value.category]) (Nat.le_of_ble_eq_true rfl) (fun xp xe xs xm xa xb xt xc ad0 => ?_)
  show am_W _ _ _ _ _ _ _ _ _ _ _ _ _ _ _ 0 [some (.ref 1), none] [] S 0 0
  refine am_aload_n (I := iX6_clear) (pc := 0) dX6_clear_0 rfl rfl ?_
  refine am_getf (I := iX6_clear) (pc := 1) lf_X6_14 dX6_clear_1 hx rfl ?_
  refine am_callV (I := iX6_clear) (pc := 4) (st := []) lv_X6_56 (m_Row_length K l _ 2 3 80 f n hr) dX6_clear_4 hr.1 rfl (Nat.le_of_ble_eq_true rfl) ⟨Nat.le_of_ble_eq_true rfl, Nat.le_of_ble_eq_true rfl⟩ (Nat.le_of_ble_eq_true rfl) (Nat.le_of_ble_eq_true rfl) rfl (fun v9 T9 z9 _ => ?_) (fun _ _ h9 => h9.elim)
  obtain ⟨rfl, rfl⟩ := z9
  show am_W _ _ _ _ _ _ _ _ _ _ _ _ _ _ _ 7 [some (.ref 1), none] [.int (nI n)] S 0 0
  refine am_istore_n (I := iX6_clear) (pc := 7) (L' := [some (.ref 1), some (.int (nI n))]) dX6_clear_7 rfl (by decide) rfl ?_
  refine am_aload_n (I := iX6_clear) (pc := 8) dX6_clear_8 rfl rfl ?_
  refine am_getf (I := iX6_clear) (pc := 9) lf_X6_14 dX6_clear_9 hx rfl ?_
  refine am_callV (I := iX6_clear) (pc := 12) (st := []) lv_X6_79 (m_Row_empty K l _ 2 3 80 f n hr) dX6_clear_12 hr.1 rfl (Nat.le_of_ble_eq_true rfl) ⟨Nat.le_of_ble_eq_true rfl, Nat.le_of_ble_eq_true rfl⟩ (Nat.le_of_ble_eq_true rfl) (Nat.le_of_ble_eq_true rfl) rfl (fun v9 T9 z9 _ => ?_) (fun _ _ h9 => h9.elim)
  obtain ⟨rfl, eT9⟩ := z9
  show am_W _ _ _ _ _ _ _ _ _ _ _ _ _ _ _ 15 [some (.ref 1), some (.int (nI n))] [] T9 0 0
  refine am_iload_n (I := iX6_clear) (pc := 15) dX6_clear_15 rfl rfl ?_
  exact am_iret (I := iX6_clear) (pc := 16) dX6_clear_16 rfl (Nat.zero_le _) (Nat.zero_le _) (⟨rfl, eT9⟩)
set_option maxRecDepth 100000 in
set_option maxHeartbeats 4000000 in
theorem p_text_x0 (K : am_K) (l : Launch) (S : am_S) (x y : Int32) (hx : S.1 1 = clx) (hb : (x < 0 ∨ 10 ≤ x) ∨ (y < 0 ∨ 5 ≤ y)) : am_M K l iX6_text 8 2 82 [.ref 1, .int x, .int y] S (fun v S' => False) (fun j S' => j = 0 ∧ S = S') := by
  refine am_body (by decide) rfl (by simp [Value.category]) (Nat.le_of_ble_eq_true rfl) (fun xp xe xs xm xa xb xt xc ad0 => ?_)
  show am_W _ _ _ _ _ _ _ _ _ _ _ _ _ _ _ 0 [some (.ref 1), some (.int x), some (.int y), none, none] [] S 0 0
  refine am_iload_n (I := iX6_text) (pc := 0) dX6_text_0 rfl rfl ?_
  refine am_iload_n (I := iX6_text) (pc := 1) dX6_text_1 rfl rfl ?_
  refine am_callS (I := iX6_text) (pc := 2) (st := []) lv_X6_82 rfl (m_needCLX K l _ x y hb) dX6_text_2 rfl (Nat.le_of_ble_eq_true rfl) ⟨Nat.le_of_ble_eq_true rfl, Nat.le_of_ble_eq_true rfl⟩ (Nat.le_of_ble_eq_true rfl) (Nat.le_of_ble_eq_true rfl) rfl (fun v9 T9 z9 _ => z9.elim) (fun j9 T9 x9 _ => ?_)
  obtain ⟨rfl, rfl⟩ := x9
  exact am_out rfl (Nat.le_of_ble_eq_true rfl) (Nat.le_of_ble_eq_true rfl) ⟨rfl, rfl⟩
set_option maxRecDepth 100000 in
set_option maxHeartbeats 4000000 in
theorem p_shown_x0 (K : am_K) (l : Launch) (S : am_S) (x y : Int32) (hx : S.1 1 = clx) (hb : (x < 0 ∨ 10 ≤ x) ∨ (y < 0 ∨ 5 ≤ y)) : am_M K l iX6_shown 8 2 82 [.ref 1, .int x, .int y] S (fun v S' => False) (fun j S' => j = 0 ∧ S = S') := by
  refine am_body (by decide) rfl (by simp [Value.category]) (Nat.le_of_ble_eq_true rfl) (fun xp xe xs xm xa xb xt xc ad0 => ?_)
  show am_W _ _ _ _ _ _ _ _ _ _ _ _ _ _ _ 0 [some (.ref 1), some (.int x), some (.int y)] [] S 0 0
  refine am_iload_n (I := iX6_shown) (pc := 0) dX6_shown_0 rfl rfl ?_
  refine am_iload_n (I := iX6_shown) (pc := 1) dX6_shown_1 rfl rfl ?_
  refine am_callS (I := iX6_shown) (pc := 2) (st := []) lv_X6_82 rfl (m_needCLX K l _ x y hb) dX6_shown_2 rfl (Nat.le_of_ble_eq_true rfl) ⟨Nat.le_of_ble_eq_true rfl, Nat.le_of_ble_eq_true rfl⟩ (Nat.le_of_ble_eq_true rfl) (Nat.le_of_ble_eq_true rfl) rfl (fun v9 T9 z9 _ => z9.elim) (fun j9 T9 x9 _ => ?_)
  obtain ⟨rfl, rfl⟩ := x9
  exact am_out rfl (Nat.le_of_ble_eq_true rfl) (Nat.le_of_ble_eq_true rfl) ⟨rfl, rfl⟩
set_option maxRecDepth 100000 in
set_option maxHeartbeats 4000000 in
theorem p_sign_x0 (K : am_K) (l : Launch) (S : am_S) (x y u w : Int32) (hx : S.1 1 = clx) (hb : (x < 0 ∨ 10 ≤ x) ∨ (y < 0 ∨ 5 ≤ y)) : am_M K l iX6_sign 8 2 82 [.ref 1, .int x, .int y, .int u, .int w] S (fun v S' => False) (fun j S' => j = 0 ∧ S = S') := by
  refine am_body (by decide) rfl (by simp [Value.category]) (Nat.le_of_ble_eq_true rfl) (fun xp xe xs xm xa xb xt xc ad0 => ?_)
  show am_W _ _ _ _ _ _ _ _ _ _ _ _ _ _ _ 0 [some (.ref 1), some (.int x), some (.int y), some (.int u), some (.int w), none] [] S 0 0
  refine am_iload_n (I := iX6_sign) (pc := 0) dX6_sign_0 rfl rfl ?_
  refine am_iload_n (I := iX6_sign) (pc := 1) dX6_sign_1 rfl rfl ?_
  refine am_callS (I := iX6_sign) (pc := 2) (st := []) lv_X6_82 rfl (m_needCLX K l _ x y hb) dX6_sign_2 rfl (Nat.le_of_ble_eq_true rfl) ⟨Nat.le_of_ble_eq_true rfl, Nat.le_of_ble_eq_true rfl⟩ (Nat.le_of_ble_eq_true rfl) (Nat.le_of_ble_eq_true rfl) rfl (fun v9 T9 z9 _ => z9.elim) (fun j9 T9 x9 _ => ?_)
  obtain ⟨rfl, rfl⟩ := x9
  exact am_out rfl (Nat.le_of_ble_eq_true rfl) (Nat.le_of_ble_eq_true rfl) ⟨rfl, rfl⟩
set_option maxRecDepth 100000 in
set_option maxHeartbeats 4000000 in
theorem p_lines_x0 (K : am_K) (l : Launch) (S : am_S) (x y u : Int32) (hx : S.1 1 = clx) (hb : (x < 0 ∨ 10 ≤ x) ∨ (y < 0 ∨ 5 ≤ y)) : am_M K l iX6_lines 8 2 82 [.ref 1, .int x, .int y, .int u] S (fun v S' => False) (fun j S' => j = 0 ∧ S = S') := by
  refine am_body (by decide) rfl (by simp [Value.category]) (Nat.le_of_ble_eq_true rfl) (fun xp xe xs xm xa xb xt xc ad0 => ?_)
  show am_W _ _ _ _ _ _ _ _ _ _ _ _ _ _ _ 0 [some (.ref 1), some (.int x), some (.int y), some (.int u), none] [] S 0 0
  refine am_iload_n (I := iX6_lines) (pc := 0) dX6_lines_0 rfl rfl ?_
  refine am_iload_n (I := iX6_lines) (pc := 1) dX6_lines_1 rfl rfl ?_
  refine am_callS (I := iX6_lines) (pc := 2) (st := []) lv_X6_82 rfl (m_needCLX K l _ x y hb) dX6_lines_2 rfl (Nat.le_of_ble_eq_true rfl) ⟨Nat.le_of_ble_eq_true rfl, Nat.le_of_ble_eq_true rfl⟩ (Nat.le_of_ble_eq_true rfl) (Nat.le_of_ble_eq_true rfl) rfl (fun v9 T9 z9 _ => z9.elim) (fun j9 T9 x9 _ => ?_)
  obtain ⟨rfl, rfl⟩ := x9
  exact am_out rfl (Nat.le_of_ble_eq_true rfl) (Nat.le_of_ble_eq_true rfl) ⟨rfl, rfl⟩
set_option maxRecDepth 100000 in
set_option maxHeartbeats 4000000 in
theorem p_level_x0 (K : am_K) (l : Launch) (S : am_S) (x y : Int32) (hx : S.1 1 = clx) (hb : (x < 0 ∨ 10 ≤ x) ∨ (y < 0 ∨ 5 ≤ y)) : am_M K l iX6_level 8 2 82 [.ref 1, .int x, .int y] S (fun v S' => False) (fun j S' => j = 0 ∧ S = S') := by
  refine am_body (by decide) rfl (by simp [Value.category]) (Nat.le_of_ble_eq_true rfl) (fun xp xe xs xm xa xb xt xc ad0 => ?_)
  show am_W _ _ _ _ _ _ _ _ _ _ _ _ _ _ _ 0 [some (.ref 1), some (.int x), some (.int y), none] [] S 0 0
  refine am_iload_n (I := iX6_level) (pc := 0) dX6_level_0 rfl rfl ?_
  refine am_iload_n (I := iX6_level) (pc := 1) dX6_level_1 rfl rfl ?_
  refine am_callS (I := iX6_level) (pc := 2) (st := []) lv_X6_82 rfl (m_needCLX K l _ x y hb) dX6_level_2 rfl (Nat.le_of_ble_eq_true rfl) ⟨Nat.le_of_ble_eq_true rfl, Nat.le_of_ble_eq_true rfl⟩ (Nat.le_of_ble_eq_true rfl) (Nat.le_of_ble_eq_true rfl) rfl (fun v9 T9 z9 _ => z9.elim) (fun j9 T9 x9 _ => ?_)
  obtain ⟨rfl, rfl⟩ := x9
  exact am_out rfl (Nat.le_of_ble_eq_true rfl) (Nat.le_of_ble_eq_true rfl) ⟨rfl, rfl⟩
set_option maxRecDepth 100000 in
set_option maxHeartbeats 4000000 in
theorem p_fingers_x0 (K : am_K) (l : Launch) (S : am_S) (x y : Int32) (hx : S.1 1 = clx) (hb : (x < 0 ∨ 10 ≤ x) ∨ (y < 0 ∨ 5 ≤ y)) : am_M K l iX6_fingers 8 2 82 [.ref 1, .int x, .int y] S (fun v S' => False) (fun j S' => j = 0 ∧ S = S') := by
  refine am_body (by decide) rfl (by simp [Value.category]) (Nat.le_of_ble_eq_true rfl) (fun xp xe xs xm xa xb xt xc ad0 => ?_)
  show am_W _ _ _ _ _ _ _ _ _ _ _ _ _ _ _ 0 [some (.ref 1), some (.int x), some (.int y), none] [] S 0 0
  refine am_iload_n (I := iX6_fingers) (pc := 0) dX6_fingers_0 rfl rfl ?_
  refine am_iload_n (I := iX6_fingers) (pc := 1) dX6_fingers_1 rfl rfl ?_
  refine am_callS (I := iX6_fingers) (pc := 2) (st := []) lv_X6_82 rfl (m_needCLX K l _ x y hb) dX6_fingers_2 rfl (Nat.le_of_ble_eq_true rfl) ⟨Nat.le_of_ble_eq_true rfl, Nat.le_of_ble_eq_true rfl⟩ (Nat.le_of_ble_eq_true rfl) (Nat.le_of_ble_eq_true rfl) rfl (fun v9 T9 z9 _ => z9.elim) (fun j9 T9 x9 _ => ?_)
  obtain ⟨rfl, rfl⟩ := x9
  exact am_out rfl (Nat.le_of_ble_eq_true rfl) (Nat.le_of_ble_eq_true rfl) ⟨rfl, rfl⟩
set_option maxRecDepth 100000 in
set_option maxHeartbeats 4000000 in
theorem p_text_x1 (K : am_K) (l : Launch) (S : am_S) (VR : Nat → Option Nat) (cn : Nat → Nat) (fb : Nat → Option Nat) (tot : Int32) (p q : Nat) (hx : S.1 1 = clx) (hc : cp S.1 4 5 6 7 VR cn fb tot) (hp : p < 10) (hq : q < 5) (h4 : 4 ≤ cn (p * 5 + q)) : am_M K l iX6_text 8 2 82 [.ref 1, .int (nI p), .int (nI q)] S (fun v S' => False) (fun j S' => j = 1 ∧ S = S') := by
  refine am_body (by decide) rfl (by simp [Value.category]) (Nat.le_of_ble_eq_true rfl) (fun xp xe xs xm xa xb xt xc ad0 => ?_)
  show am_W _ _ _ _ _ _ _ _ _ _ _ _ _ _ _ 0 [some (.ref 1), some (.int (nI p)), some (.int (nI q)), none, none] [] S 0 0
  refine am_iload_n (I := iX6_text) (pc := 0) dX6_text_0 rfl rfl ?_
  refine am_iload_n (I := iX6_text) (pc := 1) dX6_text_1 rfl rfl ?_
  refine am_callS (I := iX6_text) (pc := 2) (st := []) lv_X6_82 rfl (m_needCL K l _ p q hp hq) dX6_text_2 rfl (Nat.le_of_ble_eq_true rfl) ⟨Nat.le_of_ble_eq_true rfl, Nat.le_of_ble_eq_true rfl⟩ (Nat.le_of_ble_eq_true rfl) (Nat.le_of_ble_eq_true rfl) rfl (fun v9 T9 z9 _ => ?_) (fun _ _ h9 => h9.elim)
  obtain ⟨rfl, rfl⟩ := z9
  show am_W _ _ _ _ _ _ _ _ _ _ _ _ _ _ _ 5 [some (.ref 1), some (.int (nI p)), some (.int (nI q)), none, none] [] S 0 0
  refine am_aload_n (I := iX6_text) (pc := 5) dX6_text_5 rfl rfl ?_
  refine am_getf (I := iX6_text) (pc := 6) lf_X6_21 dX6_text_6 hx rfl ?_
  refine am_iload_n (I := iX6_text) (pc := 9) dX6_text_9 rfl rfl ?_
  refine am_iload_n (I := iX6_text) (pc := 10) dX6_text_10 rfl rfl ?_
  refine am_callV (I := iX6_text) (pc := 11) (st := []) lv_X6_86 (m_Capt_versionsOf K l _ 4 5 6 7 VR cn fb tot p q hc hp hq) dX6_text_11 hc.1 rfl (Nat.le_of_ble_eq_true rfl) ⟨Nat.le_of_ble_eq_true rfl, Nat.le_of_ble_eq_true rfl⟩ (Nat.le_of_ble_eq_true rfl) (Nat.le_of_ble_eq_true rfl) rfl (fun v9 T9 z9 _ => ?_) (fun _ _ h9 => h9.elim)
  obtain ⟨rfl, rfl⟩ := z9
  show am_W _ _ _ _ _ _ _ _ _ _ _ _ _ _ _ 14 [some (.ref 1), some (.int (nI p)), some (.int (nI q)), none, none] [.int (nI (cn (p * 5 + q)))] S 0 0
  refine am_iconst (I := iX6_text) (pc := 14) (x := 4) dX6_text_14 (by decide) ?_
  refine am_icmp_lt (I := iX6_text) (pc := 15) (tgt := 28) dX6_text_15 (by decide) (fun c15 => ?_) (fun c15 => ?_)
  · exact absurd c15 (nI_nlt (b := 4) h4 (by have := hc.2.2.2.2.2.1 (p * 5 + q); omega))
  · exact am_throw (I := iX6_text) (pc := 18) lt_X6_60_90_64 rfl dX6_text_18 dX6_text_21 dX6_text_22 dX6_text_24 dX6_text_27 (Nat.le_of_ble_eq_true rfl) (Nat.le_of_ble_eq_true rfl) (Nat.le_of_ble_eq_true rfl) (Nat.le_of_ble_eq_true rfl) (Nat.le_of_ble_eq_true rfl) (Nat.le_of_ble_eq_true rfl) (⟨rfl, rfl⟩)
set_option maxRecDepth 100000 in
set_option maxHeartbeats 4000000 in
theorem p_text_w (K : am_K) (l : Launch) (S : am_S) (f : Nat → Int32) (n : Nat) (VR : Nat → Option Nat) (cn : Nat → Nat) (fb : Nat → Option Nat) (tot : Int32) (p q : Nat) (hx : S.1 1 = clx) (hr : rw S.1 2 3 80 f n) (hc : cp S.1 4 5 6 7 VR cn fb tot) (hp : p < 10) (hq : q < 5) (h4 : cn (p * 5 + q) < 4) (hw : ¬ fwp f n n 0 32 = -1) : am_M K l iX6_text 8 2 82 [.ref 1, .int (nI p), .int (nI q)] S (fun v S' => v = some (.int (-1 - fwp f n n 0 32)) ∧ S = S') (fun _ _ => False) := by
  refine am_body (by decide) rfl (by simp [Value.category]) (Nat.le_of_ble_eq_true rfl) (fun xp xe xs xm xa xb xt xc ad0 => ?_)
  show am_W _ _ _ _ _ _ _ _ _ _ _ _ _ _ _ 0 [some (.ref 1), some (.int (nI p)), some (.int (nI q)), none, none] [] S 0 0
  refine am_iload_n (I := iX6_text) (pc := 0) dX6_text_0 rfl rfl ?_
  refine am_iload_n (I := iX6_text) (pc := 1) dX6_text_1 rfl rfl ?_
  refine am_callS (I := iX6_text) (pc := 2) (st := []) lv_X6_82 rfl (m_needCL K l _ p q hp hq) dX6_text_2 rfl (Nat.le_of_ble_eq_true rfl) ⟨Nat.le_of_ble_eq_true rfl, Nat.le_of_ble_eq_true rfl⟩ (Nat.le_of_ble_eq_true rfl) (Nat.le_of_ble_eq_true rfl) rfl (fun v9 T9 z9 _ => ?_) (fun _ _ h9 => h9.elim)
  obtain ⟨rfl, rfl⟩ := z9
  show am_W _ _ _ _ _ _ _ _ _ _ _ _ _ _ _ 5 [some (.ref 1), some (.int (nI p)), some (.int (nI q)), none, none] [] S 0 0
  refine am_aload_n (I := iX6_text) (pc := 5) dX6_text_5 rfl rfl ?_
  refine am_getf (I := iX6_text) (pc := 6) lf_X6_21 dX6_text_6 hx rfl ?_
  refine am_iload_n (I := iX6_text) (pc := 9) dX6_text_9 rfl rfl ?_
  refine am_iload_n (I := iX6_text) (pc := 10) dX6_text_10 rfl rfl ?_
  refine am_callV (I := iX6_text) (pc := 11) (st := []) lv_X6_86 (m_Capt_versionsOf K l _ 4 5 6 7 VR cn fb tot p q hc hp hq) dX6_text_11 hc.1 rfl (Nat.le_of_ble_eq_true rfl) ⟨Nat.le_of_ble_eq_true rfl, Nat.le_of_ble_eq_true rfl⟩ (Nat.le_of_ble_eq_true rfl) (Nat.le_of_ble_eq_true rfl) rfl (fun v9 T9 z9 _ => ?_) (fun _ _ h9 => h9.elim)
  obtain ⟨rfl, rfl⟩ := z9
  show am_W _ _ _ _ _ _ _ _ _ _ _ _ _ _ _ 14 [some (.ref 1), some (.int (nI p)), some (.int (nI q)), none, none] [.int (nI (cn (p * 5 + q)))] S 0 0
  refine am_iconst (I := iX6_text) (pc := 14) (x := 4) dX6_text_14 (by decide) ?_
  refine am_icmp_lt (I := iX6_text) (pc := 15) (tgt := 28) dX6_text_15 (by decide) (fun c15 => ?_) (fun c15 => ?_)
  · refine am_aload_n (I := iX6_text) (pc := 28) dX6_text_28 rfl rfl ?_
    refine am_getf (I := iX6_text) (pc := 29) lf_X6_14 dX6_text_29 hx rfl ?_
    refine am_callS (I := iX6_text) (pc := 32) (st := []) lv_X6_92 rfl (m_firstWrong K l _ 2 3 80 f n hr) dX6_text_32 rfl (Nat.le_of_ble_eq_true rfl) ⟨Nat.le_of_ble_eq_true rfl, Nat.le_of_ble_eq_true rfl⟩ (Nat.le_of_ble_eq_true rfl) (Nat.le_of_ble_eq_true rfl) rfl (fun v9 T9 z9 _ => ?_) (fun _ _ h9 => h9.elim)
    obtain ⟨rfl, rfl⟩ := z9
    show am_W _ _ _ _ _ _ _ _ _ _ _ _ _ _ _ 35 [some (.ref 1), some (.int (nI p)), some (.int (nI q)), none, none] [.int (fwp f n n 0 32)] S 0 0
    refine am_istore_n (I := iX6_text) (pc := 35) (L' := [some (.ref 1), some (.int (nI p)), some (.int (nI q)), some (.int (fwp f n n 0 32)), none]) dX6_text_35 rfl (by decide) rfl ?_
    refine am_iload_n (I := iX6_text) (pc := 36) dX6_text_36 rfl rfl ?_
    refine am_iconst (I := iX6_text) (pc := 37) (x := (-1)) dX6_text_37 (by decide) ?_
    refine am_icmp_eq (I := iX6_text) (pc := 38) (tgt := 45) dX6_text_38 (by decide) (fun c38 => ?_) (fun c38 => ?_)
    · exact absurd c38 hw
    · refine am_iconst (I := iX6_text) (pc := 41) (x := (-1)) dX6_text_41 (by decide) ?_
      refine am_iload_n (I := iX6_text) (pc := 42) dX6_text_42 rfl rfl ?_
      refine am_isub (I := iX6_text) (pc := 43) dX6_text_43 ?_
      exact am_iret (I := iX6_text) (pc := 44) dX6_text_44 rfl (Nat.zero_le _) (Nat.zero_le _) (⟨rfl, rfl⟩)
  · exact absurd (nI_lt (b := 4) h4 (by decide)) c15
/-- the heap behind a version's coming -/
def txS (S : am_S) (VR : Nat → Option Nat) (cn : Nat → Nat) (tot : Int32) (k : Nat) (f : Nat → Int32) (n : Nat) : am_S := (am_up (cpA (rwC S f n) 4 5 6 7 VR cn tot k S.2).1 2 (.inr (3, [.ref 3, .int 0])), (cpA (rwC S f n) 4 5 6 7 VR cn tot k S.2).2)
set_option maxRecDepth 100000 in
set_option maxHeartbeats 4000000 in
theorem p_text (K : am_K) (l : Launch) (S : am_S) (f : Nat → Int32) (n : Nat) (VR : Nat → Option Nat) (cn : Nat → Nat) (fb : Nat → Option Nat) (tot : Int32) (p q : Nat) (hx : S.1 1 = clx) (hr : rw S.1 2 3 80 f n) (hc : cp S.1 4 5 6 7 VR cn fb tot) (hp : p < 10) (hq : q < 5) (h4 : cn (p * 5 + q) < 4) (hw : fwp f n n 0 32 = -1) : am_M K l iX6_text 8 2 82 [.ref 1, .int (nI p), .int (nI q)] S (fun v S' => v = some (.int (nI (cn (p * 5 + q)))) ∧ txS S VR cn tot (p * 5 + q) f n = S') (fun _ _ => False) := by
  refine am_body (by decide) rfl (by simp [Value.category]) (Nat.le_of_ble_eq_true rfl) (fun xp xe xs xm xa xb xt xc ad0 => ?_)
  show am_W _ _ _ _ _ _ _ _ _ _ _ _ _ _ _ 0 [some (.ref 1), some (.int (nI p)), some (.int (nI q)), none, none] [] S 0 0
  refine am_iload_n (I := iX6_text) (pc := 0) dX6_text_0 rfl rfl ?_
  refine am_iload_n (I := iX6_text) (pc := 1) dX6_text_1 rfl rfl ?_
  refine am_callS (I := iX6_text) (pc := 2) (st := []) lv_X6_82 rfl (m_needCL K l _ p q hp hq) dX6_text_2 rfl (Nat.le_of_ble_eq_true rfl) ⟨Nat.le_of_ble_eq_true rfl, Nat.le_of_ble_eq_true rfl⟩ (Nat.le_of_ble_eq_true rfl) (Nat.le_of_ble_eq_true rfl) rfl (fun v9 T9 z9 _ => ?_) (fun _ _ h9 => h9.elim)
  obtain ⟨rfl, rfl⟩ := z9
  show am_W _ _ _ _ _ _ _ _ _ _ _ _ _ _ _ 5 [some (.ref 1), some (.int (nI p)), some (.int (nI q)), none, none] [] S 0 0
  refine am_aload_n (I := iX6_text) (pc := 5) dX6_text_5 rfl rfl ?_
  refine am_getf (I := iX6_text) (pc := 6) lf_X6_21 dX6_text_6 hx rfl ?_
  refine am_iload_n (I := iX6_text) (pc := 9) dX6_text_9 rfl rfl ?_
  refine am_iload_n (I := iX6_text) (pc := 10) dX6_text_10 rfl rfl ?_
  refine am_callV (I := iX6_text) (pc := 11) (st := []) lv_X6_86 (m_Capt_versionsOf K l _ 4 5 6 7 VR cn fb tot p q hc hp hq) dX6_text_11 hc.1 rfl (Nat.le_of_ble_eq_true rfl) ⟨Nat.le_of_ble_eq_true rfl, Nat.le_of_ble_eq_true rfl⟩ (Nat.le_of_ble_eq_true rfl) (Nat.le_of_ble_eq_true rfl) rfl (fun v9 T9 z9 _ => ?_) (fun _ _ h9 => h9.elim)
  obtain ⟨rfl, rfl⟩ := z9
  show am_W _ _ _ _ _ _ _ _ _ _ _ _ _ _ _ 14 [some (.ref 1), some (.int (nI p)), some (.int (nI q)), none, none] [.int (nI (cn (p * 5 + q)))] S 0 0
  refine am_iconst (I := iX6_text) (pc := 14) (x := 4) dX6_text_14 (by decide) ?_
  refine am_icmp_lt (I := iX6_text) (pc := 15) (tgt := 28) dX6_text_15 (by decide) (fun c15 => ?_) (fun c15 => ?_)
  · refine am_aload_n (I := iX6_text) (pc := 28) dX6_text_28 rfl rfl ?_
    refine am_getf (I := iX6_text) (pc := 29) lf_X6_14 dX6_text_29 hx rfl ?_
    refine am_callS (I := iX6_text) (pc := 32) (st := []) lv_X6_92 rfl (m_firstWrong K l _ 2 3 80 f n hr) dX6_text_32 rfl (Nat.le_of_ble_eq_true rfl) ⟨Nat.le_of_ble_eq_true rfl, Nat.le_of_ble_eq_true rfl⟩ (Nat.le_of_ble_eq_true rfl) (Nat.le_of_ble_eq_true rfl) rfl (fun v9 T9 z9 _ => ?_) (fun _ _ h9 => h9.elim)
    obtain ⟨rfl, rfl⟩ := z9
    show am_W _ _ _ _ _ _ _ _ _ _ _ _ _ _ _ 35 [some (.ref 1), some (.int (nI p)), some (.int (nI q)), none, none] [.int (fwp f n n 0 32)] S 0 0
    refine am_istore_n (I := iX6_text) (pc := 35) (L' := [some (.ref 1), some (.int (nI p)), some (.int (nI q)), some (.int (fwp f n n 0 32)), none]) dX6_text_35 rfl (by decide) rfl ?_
    refine am_iload_n (I := iX6_text) (pc := 36) dX6_text_36 rfl rfl ?_
    refine am_iconst (I := iX6_text) (pc := 37) (x := (-1)) dX6_text_37 (by decide) ?_
    refine am_icmp_eq (I := iX6_text) (pc := 38) (tgt := 45) dX6_text_38 (by decide) (fun c38 => ?_) (fun c38 => ?_)
    · refine am_aload_n (I := iX6_text) (pc := 45) dX6_text_45 rfl rfl ?_
      refine am_getf (I := iX6_text) (pc := 46) lf_X6_21 dX6_text_46 hx rfl ?_
      refine am_iload_n (I := iX6_text) (pc := 49) dX6_text_49 rfl rfl ?_
      refine am_iload_n (I := iX6_text) (pc := 50) dX6_text_50 rfl rfl ?_
      refine am_aload_n (I := iX6_text) (pc := 51) dX6_text_51 rfl rfl ?_
      refine am_getf (I := iX6_text) (pc := 52) lf_X6_14 dX6_text_52 hx rfl ?_
      refine am_free (fun hf => ?_)
      refine am_callV (I := iX6_text) (pc := 55) (st := [.int (nI q), .int (nI p), .ref 4]) lv_X6_96 (m_Row_copy K l _ 2 3 80 f n hr) dX6_text_55 hr.1 rfl (Nat.le_of_ble_eq_true rfl) ⟨Nat.le_of_ble_eq_true rfl, Nat.le_of_ble_eq_true rfl⟩ (Nat.le_of_ble_eq_true rfl) (show 0 + (2 + n) ≤ 82 by have := hr.2.2.1; omega) rfl (fun v9 T1 z9 _ => ?_) (fun _ _ h9 => h9.elim)
      obtain ⟨rfl, eT1⟩ := z9
      have hlt : ∀ (a : Nat) (c : am_C), S.1 a = c → c ≠ .inr (1000, []) → a < S.2 := fun a c h1 h2 => by
        rcases Nat.lt_or_ge a S.2 with q9 | q9
        · exact q9
        · exact absurd (h1.symm.trans (hf a (Or.inr q9))) h2
      have hk : ∀ (a : Nat) (c : am_C), S.1 a = c → c ≠ .inr (1000, []) → T1.1 a = c := fun a c h1 h2 => by rw [← eT1]; exact (rwC_at (hlt a c h1 h2)).trans h1
      show am_W _ _ _ _ _ _ _ _ _ _ _ _ _ _ _ 58 [some (.ref 1), some (.int (nI p)), some (.int (nI q)), some (.int (fwp f n n 0 32)), none] [.ref S.2, .int (nI q), .int (nI p), .ref 4] T1 2 (0 + (2 + n))
      have hc1 : cp T1.1 4 5 6 7 VR cn fb tot := ⟨hk _ _ hc.1 (fun e9 => by cases e9), hk _ _ hc.2.1 (fun e9 => by cases e9), hk _ _ hc.2.2.1 (fun e9 => by cases e9), hk _ _ hc.2.2.2.1 (fun e9 => by cases e9), hc.2.2.2.2⟩
      have hr1 : T1.1 S.2 = .inr (3, [.ref (S.2 + 1), .int (nI n)]) := by rw [← eT1]; exact (rwC_rw (by have := hr.2.2.1; omega)).1
      refine am_callV (I := iX6_text) (pc := 58) (st := []) lv_X6_100 (m_Capt_addVersion K l _ 4 5 6 7 VR cn fb tot p q S.2 (S.2 + 1) (nI n) hc1 hp hq h4 hr1) dX6_text_58 hc1.1 rfl (Nat.le_of_ble_eq_true rfl) ⟨Nat.le_of_ble_eq_true rfl, Nat.le_of_ble_eq_true rfl⟩ (Nat.le_of_ble_eq_true rfl) (show 0 + (2 + n) + 0 ≤ 82 by have := hr.2.2.1; omega) rfl (fun v9 T2 z9 _ => ?_) (fun _ _ h9 => h9.elim)
      obtain ⟨rfl, eT2⟩ := z9
      have hx2 : T2.1 1 = clx := by rw [← eT2]; exact (cpA_at (by decide) (by decide) (by decide)).trans (hk _ _ hx (fun e9 => by cases e9))
      have hr2 : rw T2.1 2 3 80 f n := by rw [← eT2]; exact ⟨(cpA_at (by decide) (by decide) (by decide)).trans (hk _ _ hr.1 (fun e9 => by cases e9)), (cpA_at (by decide) (by decide) (by decide)).trans (hk _ _ hr.2.1 (fun e9 => by cases e9)), hr.2.2⟩
      show am_W _ _ _ _ _ _ _ _ _ _ _ _ _ _ _ 61 [some (.ref 1), some (.int (nI p)), some (.int (nI q)), some (.int (fwp f n n 0 32)), none] [.int (nI (cn (p * 5 + q)))] T2 2 (0 + (2 + n) + 0)
      refine am_istore (I := iX6_text) (pc := 61) (L' := [some (.ref 1), some (.int (nI p)), some (.int (nI q)), some (.int (fwp f n n 0 32)), some (.int (nI (cn (p * 5 + q))))]) dX6_text_61 (by decide) rfl ?_
      refine am_aload_n (I := iX6_text) (pc := 63) dX6_text_63 rfl rfl ?_
      refine am_getf (I := iX6_text) (pc := 64) lf_X6_14 dX6_text_64 hx2 rfl ?_
      refine am_callV (I := iX6_text) (pc := 67) (st := []) lv_X6_79 (m_Row_empty K l _ 2 3 80 f n hr2) dX6_text_67 hr2.1 rfl (Nat.le_of_ble_eq_true rfl) ⟨Nat.le_of_ble_eq_true rfl, Nat.le_of_ble_eq_true rfl⟩ (Nat.le_of_ble_eq_true rfl) (show 0 + (2 + n) + 0 + 0 ≤ 82 by have := hr.2.2.1; omega) rfl (fun v9 T3 z9 _ => ?_) (fun _ _ h9 => h9.elim)
      obtain ⟨rfl, eT3⟩ := z9
      show am_W _ _ _ _ _ _ _ _ _ _ _ _ _ _ _ 70 [some (.ref 1), some (.int (nI p)), some (.int (nI q)), some (.int (fwp f n n 0 32)), some (.int (nI (cn (p * 5 + q))))] [] T3 2 (0 + (2 + n) + 0)
      refine am_iload (I := iX6_text) (pc := 70) dX6_text_70 rfl ?_
      exact am_iret (I := iX6_text) (pc := 72) dX6_text_72 rfl (Nat.le_of_ble_eq_true rfl) (show 0 + (2 + n) + 0 + 0 ≤ 82 by have := hr.2.2.1; omega) (⟨rfl, by rw [← eT3, ← eT2, ← eT1]; rfl⟩)
    · exact absurd hw c38
  · exact absurd (nI_lt (b := 4) h4 (by decide)) c15
set_option maxRecDepth 100000 in
set_option maxHeartbeats 4000000 in
theorem p_falls_x0 (K : am_K) (l : Launch) (S : am_S) (x y : Int32) (hx : S.1 1 = clx) (hb : x < 0 ∨ 5 ≤ x) : am_M K l iX6_falls 8 2 82 [.ref 1, .int x, .int y] S (fun v S' => False) (fun j S' => j = 0 ∧ S = S') := by
  refine am_body (by decide) rfl (by simp [Value.category]) (Nat.le_of_ble_eq_true rfl) (fun xp xe xs xm xa xb xt xc ad0 => ?_)
  show am_W _ _ _ _ _ _ _ _ _ _ _ _ _ _ _ 0 [some (.ref 1), some (.int x), some (.int y)] [] S 0 0
  refine am_iload_n (I := iX6_falls) (pc := 0) dX6_falls_0 rfl rfl ?_
  refine am_callS (I := iX6_falls) (pc := 1) (st := []) lv_X6_104 rfl (m_needLangX K l _ x hb) dX6_falls_1 rfl (Nat.le_of_ble_eq_true rfl) ⟨Nat.le_of_ble_eq_true rfl, Nat.le_of_ble_eq_true rfl⟩ (Nat.le_of_ble_eq_true rfl) (Nat.le_of_ble_eq_true rfl) rfl (fun v9 T9 z9 _ => z9.elim) (fun j9 T9 x9 _ => ?_)
  obtain ⟨rfl, rfl⟩ := x9
  exact am_out rfl (Nat.le_of_ble_eq_true rfl) (Nat.le_of_ble_eq_true rfl) ⟨rfl, rfl⟩
set_option maxRecDepth 100000 in
set_option maxHeartbeats 4000000 in
theorem p_falls_y0 (K : am_K) (l : Launch) (S : am_S) (q : Nat) (y : Int32) (hx : S.1 1 = clx) (hq : q < 5) (hb : ¬ y = -1 ∧ (y < 0 ∨ 5 ≤ y)) : am_M K l iX6_falls 8 2 82 [.ref 1, .int (nI q), .int y] S (fun v S' => False) (fun j S' => j = 0 ∧ S = S') := by
  refine am_body (by decide) rfl (by simp [Value.category]) (Nat.le_of_ble_eq_true rfl) (fun xp xe xs xm xa xb xt xc ad0 => ?_)
  show am_W _ _ _ _ _ _ _ _ _ _ _ _ _ _ _ 0 [some (.ref 1), some (.int (nI q)), some (.int y)] [] S 0 0
  refine am_iload_n (I := iX6_falls) (pc := 0) dX6_falls_0 rfl rfl ?_
  refine am_callS (I := iX6_falls) (pc := 1) (st := []) lv_X6_104 rfl (m_needLang K l _ q hq) dX6_falls_1 rfl (Nat.le_of_ble_eq_true rfl) ⟨Nat.le_of_ble_eq_true rfl, Nat.le_of_ble_eq_true rfl⟩ (Nat.le_of_ble_eq_true rfl) (Nat.le_of_ble_eq_true rfl) rfl (fun v9 T9 z9 _ => ?_) (fun _ _ h9 => h9.elim)
  obtain ⟨rfl, rfl⟩ := z9
  show am_W _ _ _ _ _ _ _ _ _ _ _ _ _ _ _ 4 [some (.ref 1), some (.int (nI q)), some (.int y)] [] S 0 0
  refine am_iload_n (I := iX6_falls) (pc := 4) dX6_falls_4 rfl rfl ?_
  refine am_iconst (I := iX6_falls) (pc := 5) (x := (-1)) dX6_falls_5 (by decide) ?_
  refine am_icmp_eq (I := iX6_falls) (pc := 6) (tgt := 13) dX6_falls_6 (by decide) (fun c6 => ?_) (fun c6 => ?_)
  · exact absurd c6 hb.1
  · refine am_iload_n (I := iX6_falls) (pc := 9) dX6_falls_9 rfl rfl ?_
    refine am_callS (I := iX6_falls) (pc := 10) (st := []) lv_X6_104 rfl (m_needLangX K l _ y hb.2) dX6_falls_10 rfl (Nat.le_of_ble_eq_true rfl) ⟨Nat.le_of_ble_eq_true rfl, Nat.le_of_ble_eq_true rfl⟩ (Nat.le_of_ble_eq_true rfl) (Nat.le_of_ble_eq_true rfl) rfl (fun v9 T9 z9 _ => z9.elim) (fun j9 T9 x9 _ => ?_)
    obtain ⟨rfl, rfl⟩ := x9
    exact am_out rfl (Nat.le_of_ble_eq_true rfl) (Nat.le_of_ble_eq_true rfl) ⟨rfl, rfl⟩
set_option maxRecDepth 100000 in
set_option maxHeartbeats 4000000 in
theorem p_falls0 (K : am_K) (l : Launch) (S : am_S) (VR : Nat → Option Nat) (cn : Nat → Nat) (fb : Nat → Option Nat) (tot : Int32) (q : Nat) (t : Option Nat) (hx : S.1 1 = clx) (hc : cp S.1 4 5 6 7 VR cn fb tot) (hq : q < 5) (ht : ∀ k, t = some k → k < 5) (hr9 : rch fb q 5 t = true) : am_M K l iX6_falls 8 2 82 [.ref 1, .int (nI q), .int (fo t)] S (fun v S' => v = some (.int (0)) ∧ S = S') (fun _ _ => False) := by
  refine am_body (by decide) rfl (by simp [Value.category]) (Nat.le_of_ble_eq_true rfl) (fun xp xe xs xm xa xb xt xc ad0 => ?_)
  show am_W _ _ _ _ _ _ _ _ _ _ _ _ _ _ _ 0 [some (.ref 1), some (.int (nI q)), some (.int (fo t))] [] S 0 0
  refine am_iload_n (I := iX6_falls) (pc := 0) dX6_falls_0 rfl rfl ?_
  refine am_callS (I := iX6_falls) (pc := 1) (st := []) lv_X6_104 rfl (m_needLang K l _ q hq) dX6_falls_1 rfl (Nat.le_of_ble_eq_true rfl) ⟨Nat.le_of_ble_eq_true rfl, Nat.le_of_ble_eq_true rfl⟩ (Nat.le_of_ble_eq_true rfl) (Nat.le_of_ble_eq_true rfl) rfl (fun v9 T9 z9 _ => ?_) (fun _ _ h9 => h9.elim)
  obtain ⟨rfl, rfl⟩ := z9
  show am_W _ _ _ _ _ _ _ _ _ _ _ _ _ _ _ 4 [some (.ref 1), some (.int (nI q)), some (.int (fo t))] [] S 0 0
  refine am_iload_n (I := iX6_falls) (pc := 4) dX6_falls_4 rfl rfl ?_
  refine am_iconst (I := iX6_falls) (pc := 5) (x := (-1)) dX6_falls_5 (by decide) ?_
  refine am_icmp_eq (I := iX6_falls) (pc := 6) (tgt := 13) dX6_falls_6 (by decide) (fun c6 => ?_) (fun c6 => ?_)
  · refine am_aload_n (I := iX6_falls) (pc := 13) dX6_falls_13 rfl rfl ?_
    refine am_getf (I := iX6_falls) (pc := 14) lf_X6_21 dX6_falls_14 hx rfl ?_
    refine am_iload_n (I := iX6_falls) (pc := 17) dX6_falls_17 rfl rfl ?_
    refine am_iload_n (I := iX6_falls) (pc := 18) dX6_falls_18 rfl rfl ?_
    refine am_callV (I := iX6_falls) (pc := 19) (st := []) lv_X6_107 (m_Capt_fallBack0 K l _ 4 5 6 7 VR cn fb tot q t hc hq ht hr9) dX6_falls_19 hc.1 rfl (Nat.le_of_ble_eq_true rfl) ⟨Nat.le_of_ble_eq_true rfl, Nat.le_of_ble_eq_true rfl⟩ (Nat.le_of_ble_eq_true rfl) (Nat.le_of_ble_eq_true rfl) rfl (fun v9 T9 z9 _ => ?_) (fun _ _ h9 => h9.elim)
    obtain ⟨rfl, eT9⟩ := z9
    show am_W _ _ _ _ _ _ _ _ _ _ _ _ _ _ _ 22 [some (.ref 1), some (.int (nI q)), some (.int (fo t))] [.int 0] T9 0 0
    exact am_zret (I := iX6_falls) (pc := 22) dX6_falls_22 rfl (by decide) (Nat.zero_le _) (Nat.zero_le _) (⟨rfl, eT9⟩)
  · refine am_iload_n (I := iX6_falls) (pc := 9) dX6_falls_9 rfl rfl ?_
    obtain ⟨k9, rfl, hk9⟩ := fo_some ht c6
    show am_W _ _ _ _ _ _ _ _ _ _ _ _ _ _ _ 10 [some (.ref 1), some (.int (nI q)), some (.int (fo (some k9)))] [.int (nI k9)] S 0 0
    refine am_callS (I := iX6_falls) (pc := 10) (st := []) lv_X6_104 rfl (m_needLang K l _ k9 hk9) dX6_falls_10 rfl (Nat.le_of_ble_eq_true rfl) ⟨Nat.le_of_ble_eq_true rfl, Nat.le_of_ble_eq_true rfl⟩ (Nat.le_of_ble_eq_true rfl) (Nat.le_of_ble_eq_true rfl) rfl (fun v9 T9 z9 _ => ?_) (fun _ _ h9 => h9.elim)
    obtain ⟨rfl, rfl⟩ := z9
    show am_W _ _ _ _ _ _ _ _ _ _ _ _ _ _ _ 13 [some (.ref 1), some (.int (nI q)), some (.int (fo (some k9)))] [] S 0 0
    refine am_aload_n (I := iX6_falls) (pc := 13) dX6_falls_13 rfl rfl ?_
    refine am_getf (I := iX6_falls) (pc := 14) lf_X6_21 dX6_falls_14 hx rfl ?_
    refine am_iload_n (I := iX6_falls) (pc := 17) dX6_falls_17 rfl rfl ?_
    refine am_iload_n (I := iX6_falls) (pc := 18) dX6_falls_18 rfl rfl ?_
    refine am_callV (I := iX6_falls) (pc := 19) (st := []) lv_X6_107 (m_Capt_fallBack0 K l _ 4 5 6 7 VR cn fb tot q (some k9) hc hq ht hr9) dX6_falls_19 hc.1 rfl (Nat.le_of_ble_eq_true rfl) ⟨Nat.le_of_ble_eq_true rfl, Nat.le_of_ble_eq_true rfl⟩ (Nat.le_of_ble_eq_true rfl) (Nat.le_of_ble_eq_true rfl) rfl (fun v9 T9 z9 _ => ?_) (fun _ _ h9 => h9.elim)
    obtain ⟨rfl, eT9⟩ := z9
    show am_W _ _ _ _ _ _ _ _ _ _ _ _ _ _ _ 22 [some (.ref 1), some (.int (nI q)), some (.int (fo (some k9)))] [.int 0] T9 0 0
    exact am_zret (I := iX6_falls) (pc := 22) dX6_falls_22 rfl (by decide) (Nat.zero_le _) (Nat.zero_le _) (⟨rfl, eT9⟩)
set_option maxRecDepth 100000 in
set_option maxHeartbeats 4000000 in
theorem p_falls1 (K : am_K) (l : Launch) (S : am_S) (VR : Nat → Option Nat) (cn : Nat → Nat) (fb : Nat → Option Nat) (tot : Int32) (q : Nat) (t : Option Nat) (hx : S.1 1 = clx) (hc : cp S.1 4 5 6 7 VR cn fb tot) (hq : q < 5) (ht : ∀ k, t = some k → k < 5) (hr9 : rch fb q 5 t = false) : am_M K l iX6_falls 8 2 82 [.ref 1, .int (nI q), .int (fo t)] S (fun v S' => v = some (.int (1)) ∧ (am_up S.1 7 (.inl (0, 5, .inl (fun j => fo (va_up fb q t j)))), S.2) = S') (fun _ _ => False) := by
  refine am_body (by decide) rfl (by simp [Value.category]) (Nat.le_of_ble_eq_true rfl) (fun xp xe xs xm xa xb xt xc ad0 => ?_)
  show am_W _ _ _ _ _ _ _ _ _ _ _ _ _ _ _ 0 [some (.ref 1), some (.int (nI q)), some (.int (fo t))] [] S 0 0
  refine am_iload_n (I := iX6_falls) (pc := 0) dX6_falls_0 rfl rfl ?_
  refine am_callS (I := iX6_falls) (pc := 1) (st := []) lv_X6_104 rfl (m_needLang K l _ q hq) dX6_falls_1 rfl (Nat.le_of_ble_eq_true rfl) ⟨Nat.le_of_ble_eq_true rfl, Nat.le_of_ble_eq_true rfl⟩ (Nat.le_of_ble_eq_true rfl) (Nat.le_of_ble_eq_true rfl) rfl (fun v9 T9 z9 _ => ?_) (fun _ _ h9 => h9.elim)
  obtain ⟨rfl, rfl⟩ := z9
  show am_W _ _ _ _ _ _ _ _ _ _ _ _ _ _ _ 4 [some (.ref 1), some (.int (nI q)), some (.int (fo t))] [] S 0 0
  refine am_iload_n (I := iX6_falls) (pc := 4) dX6_falls_4 rfl rfl ?_
  refine am_iconst (I := iX6_falls) (pc := 5) (x := (-1)) dX6_falls_5 (by decide) ?_
  refine am_icmp_eq (I := iX6_falls) (pc := 6) (tgt := 13) dX6_falls_6 (by decide) (fun c6 => ?_) (fun c6 => ?_)
  · refine am_aload_n (I := iX6_falls) (pc := 13) dX6_falls_13 rfl rfl ?_
    refine am_getf (I := iX6_falls) (pc := 14) lf_X6_21 dX6_falls_14 hx rfl ?_
    refine am_iload_n (I := iX6_falls) (pc := 17) dX6_falls_17 rfl rfl ?_
    refine am_iload_n (I := iX6_falls) (pc := 18) dX6_falls_18 rfl rfl ?_
    refine am_callV (I := iX6_falls) (pc := 19) (st := []) lv_X6_107 (m_Capt_fallBack1 K l _ 4 5 6 7 VR cn fb tot q t hc hq ht hr9) dX6_falls_19 hc.1 rfl (Nat.le_of_ble_eq_true rfl) ⟨Nat.le_of_ble_eq_true rfl, Nat.le_of_ble_eq_true rfl⟩ (Nat.le_of_ble_eq_true rfl) (Nat.le_of_ble_eq_true rfl) rfl (fun v9 T9 z9 _ => ?_) (fun _ _ h9 => h9.elim)
    obtain ⟨rfl, eT9⟩ := z9
    show am_W _ _ _ _ _ _ _ _ _ _ _ _ _ _ _ 22 [some (.ref 1), some (.int (nI q)), some (.int (fo t))] [.int 1] T9 0 0
    exact am_zret (I := iX6_falls) (pc := 22) dX6_falls_22 rfl (by decide) (Nat.zero_le _) (Nat.zero_le _) (⟨rfl, eT9⟩)
  · refine am_iload_n (I := iX6_falls) (pc := 9) dX6_falls_9 rfl rfl ?_
    obtain ⟨k9, rfl, hk9⟩ := fo_some ht c6
    show am_W _ _ _ _ _ _ _ _ _ _ _ _ _ _ _ 10 [some (.ref 1), some (.int (nI q)), some (.int (fo (some k9)))] [.int (nI k9)] S 0 0
    refine am_callS (I := iX6_falls) (pc := 10) (st := []) lv_X6_104 rfl (m_needLang K l _ k9 hk9) dX6_falls_10 rfl (Nat.le_of_ble_eq_true rfl) ⟨Nat.le_of_ble_eq_true rfl, Nat.le_of_ble_eq_true rfl⟩ (Nat.le_of_ble_eq_true rfl) (Nat.le_of_ble_eq_true rfl) rfl (fun v9 T9 z9 _ => ?_) (fun _ _ h9 => h9.elim)
    obtain ⟨rfl, rfl⟩ := z9
    show am_W _ _ _ _ _ _ _ _ _ _ _ _ _ _ _ 13 [some (.ref 1), some (.int (nI q)), some (.int (fo (some k9)))] [] S 0 0
    refine am_aload_n (I := iX6_falls) (pc := 13) dX6_falls_13 rfl rfl ?_
    refine am_getf (I := iX6_falls) (pc := 14) lf_X6_21 dX6_falls_14 hx rfl ?_
    refine am_iload_n (I := iX6_falls) (pc := 17) dX6_falls_17 rfl rfl ?_
    refine am_iload_n (I := iX6_falls) (pc := 18) dX6_falls_18 rfl rfl ?_
    refine am_callV (I := iX6_falls) (pc := 19) (st := []) lv_X6_107 (m_Capt_fallBack1 K l _ 4 5 6 7 VR cn fb tot q (some k9) hc hq ht hr9) dX6_falls_19 hc.1 rfl (Nat.le_of_ble_eq_true rfl) ⟨Nat.le_of_ble_eq_true rfl, Nat.le_of_ble_eq_true rfl⟩ (Nat.le_of_ble_eq_true rfl) (Nat.le_of_ble_eq_true rfl) rfl (fun v9 T9 z9 _ => ?_) (fun _ _ h9 => h9.elim)
    obtain ⟨rfl, eT9⟩ := z9
    show am_W _ _ _ _ _ _ _ _ _ _ _ _ _ _ _ 22 [some (.ref 1), some (.int (nI q)), some (.int (fo (some k9)))] [.int 1] T9 0 0
    exact am_zret (I := iX6_falls) (pc := 22) dX6_falls_22 rfl (by decide) (Nat.zero_le _) (Nat.zero_le _) (⟨rfl, eT9⟩)
set_option maxRecDepth 100000 in
set_option maxHeartbeats 4000000 in
theorem p_shown (K : am_K) (l : Launch) (S : am_S) (VR : Nat → Option Nat) (cn : Nat → Nat) (fb : Nat → Option Nat) (tot : Int32) (p q : Nat) (hx : S.1 1 = clx) (hc : cp S.1 4 5 6 7 VR cn fb tot) (hp : p < 10) (hq : q < 5) : am_M K l iX6_shown 8 2 82 [.ref 1, .int (nI p), .int (nI q)] S (fun v S' => v = some (.int (fo (sh cn fb p 5 (some q)))) ∧ S = S') (fun _ _ => False) := by
  refine am_body (by decide) rfl (by simp [Value.category]) (Nat.le_of_ble_eq_true rfl) (fun xp xe xs xm xa xb xt xc ad0 => ?_)
  show am_W _ _ _ _ _ _ _ _ _ _ _ _ _ _ _ 0 [some (.ref 1), some (.int (nI p)), some (.int (nI q))] [] S 0 0
  refine am_iload_n (I := iX6_shown) (pc := 0) dX6_shown_0 rfl rfl ?_
  refine am_iload_n (I := iX6_shown) (pc := 1) dX6_shown_1 rfl rfl ?_
  refine am_callS (I := iX6_shown) (pc := 2) (st := []) lv_X6_82 rfl (m_needCL K l _ p q hp hq) dX6_shown_2 rfl (Nat.le_of_ble_eq_true rfl) ⟨Nat.le_of_ble_eq_true rfl, Nat.le_of_ble_eq_true rfl⟩ (Nat.le_of_ble_eq_true rfl) (Nat.le_of_ble_eq_true rfl) rfl (fun v9 T9 z9 _ => ?_) (fun _ _ h9 => h9.elim)
  obtain ⟨rfl, rfl⟩ := z9
  show am_W _ _ _ _ _ _ _ _ _ _ _ _ _ _ _ 5 [some (.ref 1), some (.int (nI p)), some (.int (nI q))] [] S 0 0
  refine am_aload_n (I := iX6_shown) (pc := 5) dX6_shown_5 rfl rfl ?_
  refine am_getf (I := iX6_shown) (pc := 6) lf_X6_21 dX6_shown_6 hx rfl ?_
  refine am_iload_n (I := iX6_shown) (pc := 9) dX6_shown_9 rfl rfl ?_
  refine am_iload_n (I := iX6_shown) (pc := 10) dX6_shown_10 rfl rfl ?_
  refine am_callV (I := iX6_shown) (pc := 11) (st := []) lv_X6_111 (m_Capt_languageShown K l _ 4 5 6 7 VR cn fb tot p q hc hp hq) dX6_shown_11 hc.1 rfl (Nat.le_of_ble_eq_true rfl) ⟨Nat.le_of_ble_eq_true rfl, Nat.le_of_ble_eq_true rfl⟩ (Nat.le_of_ble_eq_true rfl) (Nat.le_of_ble_eq_true rfl) rfl (fun v9 T9 z9 _ => ?_) (fun _ _ h9 => h9.elim)
  obtain ⟨rfl, rfl⟩ := z9
  show am_W _ _ _ _ _ _ _ _ _ _ _ _ _ _ _ 14 [some (.ref 1), some (.int (nI p)), some (.int (nI q))] [.int (fo (sh cn fb p 5 (some q)))] S 0 0
  exact am_iret (I := iX6_shown) (pc := 14) dX6_shown_14 rfl (Nat.zero_le _) (Nat.zero_le _) (⟨rfl, rfl⟩)
set_option maxRecDepth 100000 in
set_option maxHeartbeats 4000000 in
theorem p_sign_v0 (K : am_K) (l : Launch) (S : am_S) (VR : Nat → Option Nat) (cn : Nat → Nat) (fb : Nat → Option Nat) (tot : Int32) (p q : Nat) (u w : Int32) (hx : S.1 1 = clx) (hc : cp S.1 4 5 6 7 VR cn fb tot) (hp : p < 10) (hq : q < 5) (hu : u < 0 ∨ nI (cn (p * 5 + q)) ≤ u) : am_M K l iX6_sign 8 2 82 [.ref 1, .int (nI p), .int (nI q), .int u, .int w] S (fun v S' => False) (fun j S' => j = 0 ∧ S = S') := by
  refine am_body (by decide) rfl (by simp [Value.category]) (Nat.le_of_ble_eq_true rfl) (fun xp xe xs xm xa xb xt xc ad0 => ?_)
  show am_W _ _ _ _ _ _ _ _ _ _ _ _ _ _ _ 0 [some (.ref 1), some (.int (nI p)), some (.int (nI q)), some (.int u), some (.int w), none] [] S 0 0
  refine am_iload_n (I := iX6_sign) (pc := 0) dX6_sign_0 rfl rfl ?_
  refine am_iload_n (I := iX6_sign) (pc := 1) dX6_sign_1 rfl rfl ?_
  refine am_callS (I := iX6_sign) (pc := 2) (st := []) lv_X6_82 rfl (m_needCL K l _ p q hp hq) dX6_sign_2 rfl (Nat.le_of_ble_eq_true rfl) ⟨Nat.le_of_ble_eq_true rfl, Nat.le_of_ble_eq_true rfl⟩ (Nat.le_of_ble_eq_true rfl) (Nat.le_of_ble_eq_true rfl) rfl (fun v9 T9 z9 _ => ?_) (fun _ _ h9 => h9.elim)
  obtain ⟨rfl, rfl⟩ := z9
  show am_W _ _ _ _ _ _ _ _ _ _ _ _ _ _ _ 5 [some (.ref 1), some (.int (nI p)), some (.int (nI q)), some (.int u), some (.int w), none] [] S 0 0
  refine am_aload_n (I := iX6_sign) (pc := 5) dX6_sign_5 rfl rfl ?_
  refine am_getf (I := iX6_sign) (pc := 6) lf_X6_21 dX6_sign_6 hx rfl ?_
  refine am_iload_n (I := iX6_sign) (pc := 9) dX6_sign_9 rfl rfl ?_
  refine am_iload_n (I := iX6_sign) (pc := 10) dX6_sign_10 rfl rfl ?_
  refine am_iload_n (I := iX6_sign) (pc := 11) dX6_sign_11 rfl rfl ?_
  refine am_callV (I := iX6_sign) (pc := 12) (st := []) lv_X6_114 (m_Capt_version0 K l _ 4 5 6 7 VR cn fb tot p q u hc hp hq hu) dX6_sign_12 hc.1 rfl (Nat.le_of_ble_eq_true rfl) ⟨Nat.le_of_ble_eq_true rfl, Nat.le_of_ble_eq_true rfl⟩ (Nat.le_of_ble_eq_true rfl) (Nat.le_of_ble_eq_true rfl) rfl (fun v9 T9 z9 _ => ?_) (fun _ _ h9 => h9.elim)
  obtain ⟨rfl, rfl⟩ := z9
  show am_W _ _ _ _ _ _ _ _ _ _ _ _ _ _ _ 15 [some (.ref 1), some (.int (nI p)), some (.int (nI q)), some (.int u), some (.int w), none] [.null] S 0 0
  refine am_astoreN (I := iX6_sign) (pc := 15) (L' := [some (.ref 1), some (.int (nI p)), some (.int (nI q)), some (.int u), some (.int w), some (.null)]) dX6_sign_15 (by decide) rfl ?_
  refine am_aloadN (I := iX6_sign) (pc := 17) dX6_sign_17 rfl ?_
  refine am_ifnonnullN (I := iX6_sign) (pc := 19) dX6_sign_19 ?_
  exact am_throw (I := iX6_sign) (pc := 22) lt_X6_118_120_122 rfl dX6_sign_22 dX6_sign_25 dX6_sign_26 dX6_sign_28 dX6_sign_31 (Nat.le_of_ble_eq_true rfl) (Nat.le_of_ble_eq_true rfl) (Nat.le_of_ble_eq_true rfl) (Nat.le_of_ble_eq_true rfl) (Nat.le_of_ble_eq_true rfl) (Nat.le_of_ble_eq_true rfl) (⟨rfl, rfl⟩)
set_option maxRecDepth 100000 in
set_option maxHeartbeats 4000000 in
theorem p_sign_i0 (K : am_K) (l : Launch) (S : am_S) (VR : Nat → Option Nat) (cn : Nat → Nat) (fb : Nat → Option Nat) (tot : Int32) (vr : Nat → Nat) (p q : Nat) (j : Nat) (tb tc : Nat) (g : Nat → Int32) (m : Nat) (w : Int32) (hx : S.1 1 = clx) (hc : cp S.1 4 5 6 7 VR cn fb tot) (hv : ∀ k j, k < 50 → j < cn k → VR (k * 4 + j) = some (vr (k * 4 + j))) (hp : p < 10) (hq : q < 5) (hj : j < cn (p * 5 + q)) (ht : rw S.1 (vr ((p * 5 + q) * 4 + j)) tb tc g m) (hw : ¬ w = -1 ∧ (w < 0 ∨ nI m ≤ w)) : am_M K l iX6_sign 8 2 82 [.ref 1, .int (nI p), .int (nI q), .int (nI j), .int w] S (fun v S' => False) (fun j S' => j = 0 ∧ S = S') := by
  refine am_body (by decide) rfl (by simp [Value.category]) (Nat.le_of_ble_eq_true rfl) (fun xp xe xs xm xa xb xt xc ad0 => ?_)
  show am_W _ _ _ _ _ _ _ _ _ _ _ _ _ _ _ 0 [some (.ref 1), some (.int (nI p)), some (.int (nI q)), some (.int (nI j)), some (.int w), none] [] S 0 0
  refine am_iload_n (I := iX6_sign) (pc := 0) dX6_sign_0 rfl rfl ?_
  refine am_iload_n (I := iX6_sign) (pc := 1) dX6_sign_1 rfl rfl ?_
  refine am_callS (I := iX6_sign) (pc := 2) (st := []) lv_X6_82 rfl (m_needCL K l _ p q hp hq) dX6_sign_2 rfl (Nat.le_of_ble_eq_true rfl) ⟨Nat.le_of_ble_eq_true rfl, Nat.le_of_ble_eq_true rfl⟩ (Nat.le_of_ble_eq_true rfl) (Nat.le_of_ble_eq_true rfl) rfl (fun v9 T9 z9 _ => ?_) (fun _ _ h9 => h9.elim)
  obtain ⟨rfl, rfl⟩ := z9
  show am_W _ _ _ _ _ _ _ _ _ _ _ _ _ _ _ 5 [some (.ref 1), some (.int (nI p)), some (.int (nI q)), some (.int (nI j)), some (.int w), none] [] S 0 0
  refine am_aload_n (I := iX6_sign) (pc := 5) dX6_sign_5 rfl rfl ?_
  refine am_getf (I := iX6_sign) (pc := 6) lf_X6_21 dX6_sign_6 hx rfl ?_
  refine am_iload_n (I := iX6_sign) (pc := 9) dX6_sign_9 rfl rfl ?_
  refine am_iload_n (I := iX6_sign) (pc := 10) dX6_sign_10 rfl rfl ?_
  refine am_iload_n (I := iX6_sign) (pc := 11) dX6_sign_11 rfl rfl ?_
  refine am_callV (I := iX6_sign) (pc := 12) (st := []) lv_X6_114 (m_Capt_version1 K l _ 4 5 6 7 VR cn fb tot vr p q j hc hv hp hq hj) dX6_sign_12 hc.1 rfl (Nat.le_of_ble_eq_true rfl) ⟨Nat.le_of_ble_eq_true rfl, Nat.le_of_ble_eq_true rfl⟩ (Nat.le_of_ble_eq_true rfl) (Nat.le_of_ble_eq_true rfl) rfl (fun v9 T9 z9 _ => ?_) (fun _ _ h9 => h9.elim)
  obtain ⟨rfl, rfl⟩ := z9
  show am_W _ _ _ _ _ _ _ _ _ _ _ _ _ _ _ 15 [some (.ref 1), some (.int (nI p)), some (.int (nI q)), some (.int (nI j)), some (.int w), none] [.ref (vr ((p * 5 + q) * 4 + j))] S 0 0
  refine am_astore (I := iX6_sign) (pc := 15) (L' := [some (.ref 1), some (.int (nI p)), some (.int (nI q)), some (.int (nI j)), some (.int w), some (.ref (vr ((p * 5 + q) * 4 + j)))]) dX6_sign_15 (by decide) rfl ?_
  refine am_aload (I := iX6_sign) (pc := 17) dX6_sign_17 rfl ?_
  refine am_ifnonnull (I := iX6_sign) (pc := 19) (tgt := 32) dX6_sign_19 (by decide) ?_
  refine am_iload (I := iX6_sign) (pc := 32) dX6_sign_32 rfl ?_
  refine am_iconst (I := iX6_sign) (pc := 34) (x := (-1)) dX6_sign_34 (by decide) ?_
  refine am_icmp_ne (I := iX6_sign) (pc := 35) (tgt := 44) dX6_sign_35 (by decide) (fun c35 => ?_) (fun c35 => ?_)
  · refine am_iload (I := iX6_sign) (pc := 44) dX6_sign_44 rfl ?_
    refine am_if_lt (I := iX6_sign) (pc := 46) (tgt := 59) dX6_sign_46 (by decide) (fun c46 => ?_) (fun c46 => ?_)
    · exact am_throw (I := iX6_sign) (pc := 59) lt_X6_118_123_122 rfl dX6_sign_59 dX6_sign_62 dX6_sign_63 dX6_sign_65 dX6_sign_68 (Nat.le_of_ble_eq_true rfl) (Nat.le_of_ble_eq_true rfl) (Nat.le_of_ble_eq_true rfl) (Nat.le_of_ble_eq_true rfl) (Nat.le_of_ble_eq_true rfl) (Nat.le_of_ble_eq_true rfl) (⟨rfl, rfl⟩)
    · refine am_iload (I := iX6_sign) (pc := 49) dX6_sign_49 rfl ?_
      refine am_aload (I := iX6_sign) (pc := 51) dX6_sign_51 rfl ?_
      refine am_callV (I := iX6_sign) (pc := 53) (st := [.int w]) lv_X6_56 (m_Row_length K l _ (vr ((p * 5 + q) * 4 + j)) tb tc g m ht) dX6_sign_53 ht.1 rfl (Nat.le_of_ble_eq_true rfl) ⟨Nat.le_of_ble_eq_true rfl, Nat.le_of_ble_eq_true rfl⟩ (Nat.le_of_ble_eq_true rfl) (Nat.le_of_ble_eq_true rfl) rfl (fun v9 T9 z9 _ => ?_) (fun _ _ h9 => h9.elim)
      obtain ⟨rfl, rfl⟩ := z9
      show am_W _ _ _ _ _ _ _ _ _ _ _ _ _ _ _ 56 [some (.ref 1), some (.int (nI p)), some (.int (nI q)), some (.int (nI j)), some (.int w), some (.ref (vr ((p * 5 + q) * 4 + j)))] [.int (nI m), .int w] S 0 0
      refine am_icmp_lt (I := iX6_sign) (pc := 56) (tgt := 69) dX6_sign_56 (by decide) (fun c56 => ?_) (fun c56 => ?_)
      · exact absurd c56 (Int32.not_lt.mpr (hw.2.resolve_left c46))
      · exact am_throw (I := iX6_sign) (pc := 59) lt_X6_118_123_122 rfl dX6_sign_59 dX6_sign_62 dX6_sign_63 dX6_sign_65 dX6_sign_68 (Nat.le_of_ble_eq_true rfl) (Nat.le_of_ble_eq_true rfl) (Nat.le_of_ble_eq_true rfl) (Nat.le_of_ble_eq_true rfl) (Nat.le_of_ble_eq_true rfl) (Nat.le_of_ble_eq_true rfl) (⟨rfl, rfl⟩)
  · exact absurd c35 hw.1
set_option maxRecDepth 100000 in
set_option maxHeartbeats 4000000 in
theorem p_sign_n (K : am_K) (l : Launch) (S : am_S) (VR : Nat → Option Nat) (cn : Nat → Nat) (fb : Nat → Option Nat) (tot : Int32) (vr : Nat → Nat) (p q : Nat) (j : Nat) (tb tc : Nat) (g : Nat → Int32) (m : Nat) (hx : S.1 1 = clx) (hc : cp S.1 4 5 6 7 VR cn fb tot) (hv : ∀ k j, k < 50 → j < cn k → VR (k * 4 + j) = some (vr (k * 4 + j))) (hp : p < 10) (hq : q < 5) (hj : j < cn (p * 5 + q)) (ht : rw S.1 (vr ((p * 5 + q) * 4 + j)) tb tc g m) : am_M K l iX6_sign 8 2 82 [.ref 1, .int (nI p), .int (nI q), .int (nI j), .int (-1)] S (fun v S' => v = some (.int (nI m)) ∧ S = S') (fun _ _ => False) := by
  refine am_body (by decide) rfl (by simp [Value.category]) (Nat.le_of_ble_eq_true rfl) (fun xp xe xs xm xa xb xt xc ad0 => ?_)
  show am_W _ _ _ _ _ _ _ _ _ _ _ _ _ _ _ 0 [some (.ref 1), some (.int (nI p)), some (.int (nI q)), some (.int (nI j)), some (.int (-1)), none] [] S 0 0
  refine am_iload_n (I := iX6_sign) (pc := 0) dX6_sign_0 rfl rfl ?_
  refine am_iload_n (I := iX6_sign) (pc := 1) dX6_sign_1 rfl rfl ?_
  refine am_callS (I := iX6_sign) (pc := 2) (st := []) lv_X6_82 rfl (m_needCL K l _ p q hp hq) dX6_sign_2 rfl (Nat.le_of_ble_eq_true rfl) ⟨Nat.le_of_ble_eq_true rfl, Nat.le_of_ble_eq_true rfl⟩ (Nat.le_of_ble_eq_true rfl) (Nat.le_of_ble_eq_true rfl) rfl (fun v9 T9 z9 _ => ?_) (fun _ _ h9 => h9.elim)
  obtain ⟨rfl, rfl⟩ := z9
  show am_W _ _ _ _ _ _ _ _ _ _ _ _ _ _ _ 5 [some (.ref 1), some (.int (nI p)), some (.int (nI q)), some (.int (nI j)), some (.int (-1)), none] [] S 0 0
  refine am_aload_n (I := iX6_sign) (pc := 5) dX6_sign_5 rfl rfl ?_
  refine am_getf (I := iX6_sign) (pc := 6) lf_X6_21 dX6_sign_6 hx rfl ?_
  refine am_iload_n (I := iX6_sign) (pc := 9) dX6_sign_9 rfl rfl ?_
  refine am_iload_n (I := iX6_sign) (pc := 10) dX6_sign_10 rfl rfl ?_
  refine am_iload_n (I := iX6_sign) (pc := 11) dX6_sign_11 rfl rfl ?_
  refine am_callV (I := iX6_sign) (pc := 12) (st := []) lv_X6_114 (m_Capt_version1 K l _ 4 5 6 7 VR cn fb tot vr p q j hc hv hp hq hj) dX6_sign_12 hc.1 rfl (Nat.le_of_ble_eq_true rfl) ⟨Nat.le_of_ble_eq_true rfl, Nat.le_of_ble_eq_true rfl⟩ (Nat.le_of_ble_eq_true rfl) (Nat.le_of_ble_eq_true rfl) rfl (fun v9 T9 z9 _ => ?_) (fun _ _ h9 => h9.elim)
  obtain ⟨rfl, rfl⟩ := z9
  show am_W _ _ _ _ _ _ _ _ _ _ _ _ _ _ _ 15 [some (.ref 1), some (.int (nI p)), some (.int (nI q)), some (.int (nI j)), some (.int (-1)), none] [.ref (vr ((p * 5 + q) * 4 + j))] S 0 0
  refine am_astore (I := iX6_sign) (pc := 15) (L' := [some (.ref 1), some (.int (nI p)), some (.int (nI q)), some (.int (nI j)), some (.int (-1)), some (.ref (vr ((p * 5 + q) * 4 + j)))]) dX6_sign_15 (by decide) rfl ?_
  refine am_aload (I := iX6_sign) (pc := 17) dX6_sign_17 rfl ?_
  refine am_ifnonnull (I := iX6_sign) (pc := 19) (tgt := 32) dX6_sign_19 (by decide) ?_
  refine am_iload (I := iX6_sign) (pc := 32) dX6_sign_32 rfl ?_
  refine am_iconst (I := iX6_sign) (pc := 34) (x := (-1)) dX6_sign_34 (by decide) ?_
  refine am_icmp_ne (I := iX6_sign) (pc := 35) (tgt := 44) dX6_sign_35 (by decide) (fun c35 => ?_) (fun c35 => ?_)
  · exact absurd c35 (by decide)
  · refine am_aload (I := iX6_sign) (pc := 38) dX6_sign_38 rfl ?_
    refine am_callV (I := iX6_sign) (pc := 40) (st := []) lv_X6_56 (m_Row_length K l _ (vr ((p * 5 + q) * 4 + j)) tb tc g m ht) dX6_sign_40 ht.1 rfl (Nat.le_of_ble_eq_true rfl) ⟨Nat.le_of_ble_eq_true rfl, Nat.le_of_ble_eq_true rfl⟩ (Nat.le_of_ble_eq_true rfl) (Nat.le_of_ble_eq_true rfl) rfl (fun v9 T9 z9 _ => ?_) (fun _ _ h9 => h9.elim)
    obtain ⟨rfl, rfl⟩ := z9
    show am_W _ _ _ _ _ _ _ _ _ _ _ _ _ _ _ 43 [some (.ref 1), some (.int (nI p)), some (.int (nI q)), some (.int (nI j)), some (.int (-1)), some (.ref (vr ((p * 5 + q) * 4 + j)))] [.int (nI m)] S 0 0
    exact am_iret (I := iX6_sign) (pc := 43) dX6_sign_43 rfl (Nat.zero_le _) (Nat.zero_le _) (⟨rfl, rfl⟩)
set_option maxRecDepth 100000 in
set_option maxHeartbeats 4000000 in
theorem p_sign (K : am_K) (l : Launch) (S : am_S) (VR : Nat → Option Nat) (cn : Nat → Nat) (fb : Nat → Option Nat) (tot : Int32) (vr : Nat → Nat) (p q : Nat) (j : Nat) (tb tc : Nat) (g : Nat → Int32) (m : Nat) (i : Nat) (hx : S.1 1 = clx) (hc : cp S.1 4 5 6 7 VR cn fb tot) (hv : ∀ k j, k < 50 → j < cn k → VR (k * 4 + j) = some (vr (k * 4 + j))) (hp : p < 10) (hq : q < 5) (hj : j < cn (p * 5 + q)) (ht : rw S.1 (vr ((p * 5 + q) * 4 + j)) tb tc g m) (hi : i < m) : am_M K l iX6_sign 8 2 82 [.ref 1, .int (nI p), .int (nI q), .int (nI j), .int (nI i)] S (fun v S' => v = some (.int (g i)) ∧ S = S') (fun _ _ => False) := by
  refine am_body (by decide) rfl (by simp [Value.category]) (Nat.le_of_ble_eq_true rfl) (fun xp xe xs xm xa xb xt xc ad0 => ?_)
  show am_W _ _ _ _ _ _ _ _ _ _ _ _ _ _ _ 0 [some (.ref 1), some (.int (nI p)), some (.int (nI q)), some (.int (nI j)), some (.int (nI i)), none] [] S 0 0
  refine am_iload_n (I := iX6_sign) (pc := 0) dX6_sign_0 rfl rfl ?_
  refine am_iload_n (I := iX6_sign) (pc := 1) dX6_sign_1 rfl rfl ?_
  refine am_callS (I := iX6_sign) (pc := 2) (st := []) lv_X6_82 rfl (m_needCL K l _ p q hp hq) dX6_sign_2 rfl (Nat.le_of_ble_eq_true rfl) ⟨Nat.le_of_ble_eq_true rfl, Nat.le_of_ble_eq_true rfl⟩ (Nat.le_of_ble_eq_true rfl) (Nat.le_of_ble_eq_true rfl) rfl (fun v9 T9 z9 _ => ?_) (fun _ _ h9 => h9.elim)
  obtain ⟨rfl, rfl⟩ := z9
  show am_W _ _ _ _ _ _ _ _ _ _ _ _ _ _ _ 5 [some (.ref 1), some (.int (nI p)), some (.int (nI q)), some (.int (nI j)), some (.int (nI i)), none] [] S 0 0
  refine am_aload_n (I := iX6_sign) (pc := 5) dX6_sign_5 rfl rfl ?_
  refine am_getf (I := iX6_sign) (pc := 6) lf_X6_21 dX6_sign_6 hx rfl ?_
  refine am_iload_n (I := iX6_sign) (pc := 9) dX6_sign_9 rfl rfl ?_
  refine am_iload_n (I := iX6_sign) (pc := 10) dX6_sign_10 rfl rfl ?_
  refine am_iload_n (I := iX6_sign) (pc := 11) dX6_sign_11 rfl rfl ?_
  refine am_callV (I := iX6_sign) (pc := 12) (st := []) lv_X6_114 (m_Capt_version1 K l _ 4 5 6 7 VR cn fb tot vr p q j hc hv hp hq hj) dX6_sign_12 hc.1 rfl (Nat.le_of_ble_eq_true rfl) ⟨Nat.le_of_ble_eq_true rfl, Nat.le_of_ble_eq_true rfl⟩ (Nat.le_of_ble_eq_true rfl) (Nat.le_of_ble_eq_true rfl) rfl (fun v9 T9 z9 _ => ?_) (fun _ _ h9 => h9.elim)
  obtain ⟨rfl, rfl⟩ := z9
  show am_W _ _ _ _ _ _ _ _ _ _ _ _ _ _ _ 15 [some (.ref 1), some (.int (nI p)), some (.int (nI q)), some (.int (nI j)), some (.int (nI i)), none] [.ref (vr ((p * 5 + q) * 4 + j))] S 0 0
  refine am_astore (I := iX6_sign) (pc := 15) (L' := [some (.ref 1), some (.int (nI p)), some (.int (nI q)), some (.int (nI j)), some (.int (nI i)), some (.ref (vr ((p * 5 + q) * 4 + j)))]) dX6_sign_15 (by decide) rfl ?_
  refine am_aload (I := iX6_sign) (pc := 17) dX6_sign_17 rfl ?_
  refine am_ifnonnull (I := iX6_sign) (pc := 19) (tgt := 32) dX6_sign_19 (by decide) ?_
  refine am_iload (I := iX6_sign) (pc := 32) dX6_sign_32 rfl ?_
  refine am_iconst (I := iX6_sign) (pc := 34) (x := (-1)) dX6_sign_34 (by decide) ?_
  refine am_icmp_ne (I := iX6_sign) (pc := 35) (tgt := 44) dX6_sign_35 (by decide) (fun c35 => ?_) (fun c35 => ?_)
  · refine am_iload (I := iX6_sign) (pc := 44) dX6_sign_44 rfl ?_
    refine am_if_lt (I := iX6_sign) (pc := 46) (tgt := 59) dX6_sign_46 (by decide) (fun c46 => ?_) (fun c46 => ?_)
    · exact absurd c46 (nI_pos (by have := ht.2.2.1; have := ht.2.2.2; omega))
    · refine am_iload (I := iX6_sign) (pc := 49) dX6_sign_49 rfl ?_
      refine am_aload (I := iX6_sign) (pc := 51) dX6_sign_51 rfl ?_
      refine am_callV (I := iX6_sign) (pc := 53) (st := [.int (nI i)]) lv_X6_56 (m_Row_length K l _ (vr ((p * 5 + q) * 4 + j)) tb tc g m ht) dX6_sign_53 ht.1 rfl (Nat.le_of_ble_eq_true rfl) ⟨Nat.le_of_ble_eq_true rfl, Nat.le_of_ble_eq_true rfl⟩ (Nat.le_of_ble_eq_true rfl) (Nat.le_of_ble_eq_true rfl) rfl (fun v9 T9 z9 _ => ?_) (fun _ _ h9 => h9.elim)
      obtain ⟨rfl, rfl⟩ := z9
      show am_W _ _ _ _ _ _ _ _ _ _ _ _ _ _ _ 56 [some (.ref 1), some (.int (nI p)), some (.int (nI q)), some (.int (nI j)), some (.int (nI i)), some (.ref (vr ((p * 5 + q) * 4 + j)))] [.int (nI m), .int (nI i)] S 0 0
      refine am_icmp_lt (I := iX6_sign) (pc := 56) (tgt := 69) dX6_sign_56 (by decide) (fun c56 => ?_) (fun c56 => ?_)
      · refine am_aload (I := iX6_sign) (pc := 69) dX6_sign_69 rfl ?_
        refine am_iload (I := iX6_sign) (pc := 71) dX6_sign_71 rfl ?_
        refine am_callV (I := iX6_sign) (pc := 73) (st := []) lv_X6_125 (m_Row_at K l _ (vr ((p * 5 + q) * 4 + j)) tb tc g m (nI i) ht) dX6_sign_73 ht.1 rfl (Nat.le_of_ble_eq_true rfl) ⟨Nat.le_of_ble_eq_true rfl, Nat.le_of_ble_eq_true rfl⟩ (Nat.le_of_ble_eq_true rfl) (Nat.le_of_ble_eq_true rfl) rfl (fun v9 T9 z9 _ => ?_) (fun _ _ h9 => h9.elim)
        obtain ⟨rfl, rfl⟩ := z9
        show am_W _ _ _ _ _ _ _ _ _ _ _ _ _ _ _ 76 [some (.ref 1), some (.int (nI p)), some (.int (nI q)), some (.int (nI j)), some (.int (nI i)), some (.ref (vr ((p * 5 + q) * 4 + j)))] [.int (rv g m (nI i))] S 0 0
        exact am_iret (I := iX6_sign) (pc := 76) dX6_sign_76 rfl (Nat.zero_le _) (Nat.zero_le _) (⟨by rw [rv_nI hi (by have := ht.2.2.1; have := ht.2.2.2; omega)], rfl⟩)
      · exact absurd (nI_lt hi (by have := ht.2.2.1; have := ht.2.2.2; omega)) c56
  · exact absurd c35 (fun e9 => by have h9 := nI_pos (n := i) (by have := ht.2.2.1; have := ht.2.2.2; omega); rw [e9] at h9; exact h9 (by decide))
