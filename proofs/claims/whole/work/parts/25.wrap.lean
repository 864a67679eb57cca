/-! THE LAW'S WRAPPERS -/
abbrev lo1 (o : Nat → Int64) : am_C := .inl (1, 1, .inr (.inl o))
set_option maxRecDepth 100000 in
set_option maxHeartbeats 4000000 in
theorem w_unit (K : am_K) (l : Launch) (S : am_S) (o : Nat → Int64) (p0 : Int32) (rr : Int32) (P : am_S → Prop) (fs : List Value) (h1 : S.1 1 = .inr (6, fs)) (hC : am_M K l iX6_unit 8 2 82 [.ref 1, .int p0] S (fun v S' => v = some (.int (rr)) ∧ P S') (fun _ _ => False)) (h45 : ∀ S', P S' → S'.1 45 = lo1 o) : am_M K l iL_unit 9 2 82 [.ref 1, .int p0, .ref 45] S (fun v S' => v = some (.int 0) ∧ ∃ S1, P S1 ∧ (am_up S1.1 45 (lo1 (vp_updL o 0 (rr).toInt64)), S1.2) = S') (fun _ _ => False) := by
  refine am_bodyH (by decide) rfl (by simp [Value.category]) (Nat.le_of_ble_eq_true rfl) (fun xp xe xs xm xa xb xt xc ad0 => ?_)
  show am_W _ _ _ _ _ _ _ _ _ _ _ _ _ _ _ 0 [some (.ref 1), some (.int p0), some (.ref 45), none] [] S 0 0
  refine am_aload_n (I := iL_unit) (pc := 0) dL_unit_0 rfl rfl ?_
  refine am_iconst (I := iL_unit) (pc := 1) (x := 0) dL_unit_1 (by decide) ?_
  refine am_aload_n (I := iL_unit) (pc := 2) dL_unit_2 rfl rfl ?_
  refine am_iload_n (I := iL_unit) (pc := 3) dL_unit_3 rfl rfl ?_
  refine am_callV (I := iL_unit) (pc := 4) (st := [.int 0, .ref 45]) lv_L_7 hC dL_unit_4 h1 rfl (Nat.le_of_ble_eq_true rfl) ⟨Nat.le_of_ble_eq_true rfl, Nat.le_of_ble_eq_true rfl⟩ (Nat.le_of_ble_eq_true rfl) (Nat.le_of_ble_eq_true rfl) rfl (fun v9 T1 z9 _ => ?_) (fun _ _ h9 => h9.elim)
  obtain ⟨rfl, hP⟩ := z9
  have h5 := h45 T1 hP
  show am_W _ _ _ _ _ _ _ _ _ _ _ _ _ _ _ 7 [some (.ref 1), some (.int p0), some (.ref 45), none] [.int (rr), .int 0, .ref 45] T1 2 82
  refine am_i2l (I := iL_unit) (pc := 7) dL_unit_7 ?_
  refine am_lastore (I := iL_unit) (pc := 8) dL_unit_8 h5 rfl (vp_in_nI (show 0 < 1 by decide) (by decide)) ?_
  generalize eT2 : ((am_up T1.1 45 (.inl (1, 1, .inr (.inl (vp_updL o (0 : Int32).toNatClampNeg ((rr).toInt64))))), T1.2) : am_S) = T2
  have k1 : T2.1 45 = (.inl (1, 1, .inr (.inl (vp_updL o (0 : Int32).toNatClampNeg ((rr).toInt64))))) := by rw [← eT2]; exact am_up_s (h := T1.1) (a := 45)
  refine am_goto (I := iL_unit) (pc := 9) (tgt := 18) dL_unit_9 (by decide) ?_
  refine am_iconst (I := iL_unit) (pc := 18) (x := 0) dL_unit_18 (by decide) ?_
  exact am_iret (I := iL_unit) (pc := 19) dL_unit_19 rfl (Nat.le_refl _) (Nat.le_refl _) (⟨rfl, T1, hP, eT2⟩)
set_option maxRecDepth 100000 in
set_option maxHeartbeats 4000000 in
theorem w_unit_x1 (K : am_K) (l : Launch) (S : am_S) (p0 : Int32) (fs : List Value) (h1 : S.1 1 = .inr (6, fs)) (hC : am_M K l iX6_unit 8 2 82 [.ref 1, .int p0] S (fun _ _ => False) (fun j S' => j = 1 ∧ S = S')) : am_M K l iL_unit 9 2 82 [.ref 1, .int p0, .ref 45] S (fun v S' => v = some (.int 1) ∧ S = S') (fun _ _ => False) := by
  refine am_bodyH (by decide) rfl (by simp [Value.category]) (Nat.le_of_ble_eq_true rfl) (fun xp xe xs xm xa xb xt xc ad0 => ?_)
  show am_W _ _ _ _ _ _ _ _ _ _ _ _ _ _ _ 0 [some (.ref 1), some (.int p0), some (.ref 45), none] [] S 0 0
  refine am_aload_n (I := iL_unit) (pc := 0) dL_unit_0 rfl rfl ?_
  refine am_iconst (I := iL_unit) (pc := 1) (x := 0) dL_unit_1 (by decide) ?_
  refine am_aload_n (I := iL_unit) (pc := 2) dL_unit_2 rfl rfl ?_
  refine am_iload_n (I := iL_unit) (pc := 3) dL_unit_3 rfl rfl ?_
  refine am_callV (I := iL_unit) (pc := 4) (st := [.int 0, .ref 45]) lv_L_7 hC dL_unit_4 h1 rfl (Nat.le_of_ble_eq_true rfl) ⟨Nat.le_of_ble_eq_true rfl, Nat.le_of_ble_eq_true rfl⟩ (Nat.le_of_ble_eq_true rfl) (Nat.le_of_ble_eq_true rfl) rfl (fun v9 T9 z9 _ => z9.elim) (fun j9 T9 x9 _ => ?_)
  obtain ⟨rfl, rfl⟩ := x9
  refine am_catch (I := iL_unit) (E9 := "java/lang/IllegalStateException") (nm9 := "java/lang/IllegalStateException") (hp := 12) (i := 3) (k := 13) (L' := [some (.ref 1), some (.int p0), some (.ref 45), none]) [] [(0, 9, 15, 15)] (0, 9, 12, 13) rfl rfl (fun z hz => ?_) (by decide) (by decide) (by decide +kernel) (by decide +kernel) rfl (Or.inr ⟨3, dL_unit_12, rfl, rfl⟩) (by decide) rfl ?_
  · cases hz
  show am_W _ _ _ _ _ _ _ _ _ _ _ _ _ _ _ 13 [some (.ref 1), some (.int p0), some (.ref 45), none] [] S 2 82
  refine am_iconst (I := iL_unit) (pc := 13) (x := 1) dL_unit_13 (by decide) ?_
  exact am_iret (I := iL_unit) (pc := 14) dL_unit_14 rfl (Nat.le_refl _) (Nat.le_refl _) (⟨rfl, rfl⟩)
set_option maxRecDepth 100000 in
set_option maxHeartbeats 4000000 in
theorem w_unit_x2 (K : am_K) (l : Launch) (S : am_S) (p0 : Int32) (fs : List Value) (h1 : S.1 1 = .inr (6, fs)) (hC : am_M K l iX6_unit 8 2 82 [.ref 1, .int p0] S (fun _ _ => False) (fun j S' => j = 2 ∧ S = S')) : am_M K l iL_unit 9 2 82 [.ref 1, .int p0, .ref 45] S (fun v S' => v = some (.int 2) ∧ S = S') (fun _ _ => False) := by
  refine am_bodyH (by decide) rfl (by simp [Value.category]) (Nat.le_of_ble_eq_true rfl) (fun xp xe xs xm xa xb xt xc ad0 => ?_)
  show am_W _ _ _ _ _ _ _ _ _ _ _ _ _ _ _ 0 [some (.ref 1), some (.int p0), some (.ref 45), none] [] S 0 0
  refine am_aload_n (I := iL_unit) (pc := 0) dL_unit_0 rfl rfl ?_
  refine am_iconst (I := iL_unit) (pc := 1) (x := 0) dL_unit_1 (by decide) ?_
  refine am_aload_n (I := iL_unit) (pc := 2) dL_unit_2 rfl rfl ?_
  refine am_iload_n (I := iL_unit) (pc := 3) dL_unit_3 rfl rfl ?_
  refine am_callV (I := iL_unit) (pc := 4) (st := [.int 0, .ref 45]) lv_L_7 hC dL_unit_4 h1 rfl (Nat.le_of_ble_eq_true rfl) ⟨Nat.le_of_ble_eq_true rfl, Nat.le_of_ble_eq_true rfl⟩ (Nat.le_of_ble_eq_true rfl) (Nat.le_of_ble_eq_true rfl) rfl (fun v9 T9 z9 _ => z9.elim) (fun j9 T9 x9 _ => ?_)
  obtain ⟨rfl, rfl⟩ := x9
  refine am_catch (I := iL_unit) (E9 := "java/lang/IllegalArgumentException") (nm9 := "java/lang/IllegalArgumentException") (hp := 15) (i := 3) (k := 16) (L' := [some (.ref 1), some (.int p0), some (.ref 45), none]) [(0, 9, 12, 13)] [] (0, 9, 15, 15) rfl rfl (fun z hz => ?_) (by decide) (by decide) (by decide +kernel) (by decide +kernel) rfl (Or.inr ⟨3, dL_unit_15, rfl, rfl⟩) (by decide) rfl ?_
  · rcases List.mem_singleton.mp hz with rfl
    exact ⟨by decide, "java/lang/IllegalStateException", by decide +kernel, by decide +kernel⟩
  show am_W _ _ _ _ _ _ _ _ _ _ _ _ _ _ _ 16 [some (.ref 1), some (.int p0), some (.ref 45), none] [] S 2 82
  refine am_iconst (I := iL_unit) (pc := 16) (x := 2) dL_unit_16 (by decide) ?_
  exact am_iret (I := iL_unit) (pc := 17) dL_unit_17 rfl (Nat.le_refl _) (Nat.le_refl _) (⟨rfl, rfl⟩)
set_option maxRecDepth 100000 in
set_option maxHeartbeats 4000000 in
theorem w_text (K : am_K) (l : Launch) (S : am_S) (o : Nat → Int64) (p0 p1 : Int32) (rr : Int32) (P : am_S → Prop) (fs : List Value) (h1 : S.1 1 = .inr (6, fs)) (hC : am_M K l iX6_text 8 2 82 [.ref 1, .int p0, .int p1] S (fun v S' => v = some (.int (rr)) ∧ P S') (fun _ _ => False)) (h45 : ∀ S', P S' → S'.1 45 = lo1 o) : am_M K l iL_text 9 2 82 [.ref 1, .int p0, .int p1, .ref 45] S (fun v S' => v = some (.int 0) ∧ ∃ S1, P S1 ∧ (am_up S1.1 45 (lo1 (vp_updL o 0 (rr).toInt64)), S1.2) = S') (fun _ _ => False) := by
  refine am_bodyH (by decide) rfl (by simp [Value.category]) (Nat.le_of_ble_eq_true rfl) (fun xp xe xs xm xa xb xt xc ad0 => ?_)
  show am_W _ _ _ _ _ _ _ _ _ _ _ _ _ _ _ 0 [some (.ref 1), some (.int p0), some (.int p1), some (.ref 45), none] [] S 0 0
  refine am_aload_n (I := iL_text) (pc := 0) dL_text_0 rfl rfl ?_
  refine am_iconst (I := iL_text) (pc := 1) (x := 0) dL_text_1 (by decide) ?_
  refine am_aload_n (I := iL_text) (pc := 2) dL_text_2 rfl rfl ?_
  refine am_iload_n (I := iL_text) (pc := 3) dL_text_3 rfl rfl ?_
  refine am_iload_n (I := iL_text) (pc := 4) dL_text_4 rfl rfl ?_
  refine am_callV (I := iL_text) (pc := 5) (st := [.int 0, .ref 45]) lv_L_17 hC dL_text_5 h1 rfl (Nat.le_of_ble_eq_true rfl) ⟨Nat.le_of_ble_eq_true rfl, Nat.le_of_ble_eq_true rfl⟩ (Nat.le_of_ble_eq_true rfl) (Nat.le_of_ble_eq_true rfl) rfl (fun v9 T1 z9 _ => ?_) (fun _ _ h9 => h9.elim)
  obtain ⟨rfl, hP⟩ := z9
  have h5 := h45 T1 hP
  show am_W _ _ _ _ _ _ _ _ _ _ _ _ _ _ _ 8 [some (.ref 1), some (.int p0), some (.int p1), some (.ref 45), none] [.int (rr), .int 0, .ref 45] T1 2 82
  refine am_i2l (I := iL_text) (pc := 8) dL_text_8 ?_
  refine am_lastore (I := iL_text) (pc := 9) dL_text_9 h5 rfl (vp_in_nI (show 0 < 1 by decide) (by decide)) ?_
  generalize eT2 : ((am_up T1.1 45 (.inl (1, 1, .inr (.inl (vp_updL o (0 : Int32).toNatClampNeg ((rr).toInt64))))), T1.2) : am_S) = T2
  have k1 : T2.1 45 = (.inl (1, 1, .inr (.inl (vp_updL o (0 : Int32).toNatClampNeg ((rr).toInt64))))) := by rw [← eT2]; exact am_up_s (h := T1.1) (a := 45)
  refine am_goto (I := iL_text) (pc := 10) (tgt := 21) dL_text_10 (by decide) ?_
  refine am_iconst (I := iL_text) (pc := 21) (x := 0) dL_text_21 (by decide) ?_
  exact am_iret (I := iL_text) (pc := 22) dL_text_22 rfl (Nat.le_refl _) (Nat.le_refl _) (⟨rfl, T1, hP, eT2⟩)
set_option maxRecDepth 100000 in
set_option maxHeartbeats 4000000 in
theorem w_text_x0 (K : am_K) (l : Launch) (S : am_S) (p0 p1 : Int32) (fs : List Value) (h1 : S.1 1 = .inr (6, fs)) (hC : am_M K l iX6_text 8 2 82 [.ref 1, .int p0, .int p1] S (fun _ _ => False) (fun j S' => j = 0 ∧ S = S')) : am_M K l iL_text 9 2 82 [.ref 1, .int p0, .int p1, .ref 45] S (fun v S' => v = some (.int 1) ∧ S = S') (fun _ _ => False) := by
  refine am_bodyH (by decide) rfl (by simp [Value.category]) (Nat.le_of_ble_eq_true rfl) (fun xp xe xs xm xa xb xt xc ad0 => ?_)
  show am_W _ _ _ _ _ _ _ _ _ _ _ _ _ _ _ 0 [some (.ref 1), some (.int p0), some (.int p1), some (.ref 45), none] [] S 0 0
  refine am_aload_n (I := iL_text) (pc := 0) dL_text_0 rfl rfl ?_
  refine am_iconst (I := iL_text) (pc := 1) (x := 0) dL_text_1 (by decide) ?_
  refine am_aload_n (I := iL_text) (pc := 2) dL_text_2 rfl rfl ?_
  refine am_iload_n (I := iL_text) (pc := 3) dL_text_3 rfl rfl ?_
  refine am_iload_n (I := iL_text) (pc := 4) dL_text_4 rfl rfl ?_
  refine am_callV (I := iL_text) (pc := 5) (st := [.int 0, .ref 45]) lv_L_17 hC dL_text_5 h1 rfl (Nat.le_of_ble_eq_true rfl) ⟨Nat.le_of_ble_eq_true rfl, Nat.le_of_ble_eq_true rfl⟩ (Nat.le_of_ble_eq_true rfl) (Nat.le_of_ble_eq_true rfl) rfl (fun v9 T9 z9 _ => z9.elim) (fun j9 T9 x9 _ => ?_)
  obtain ⟨rfl, rfl⟩ := x9
  refine am_catch (I := iL_text) (E9 := "java/lang/IndexOutOfBoundsException") (nm9 := "java/lang/IndexOutOfBoundsException") (hp := 13) (i := 4) (k := 15) (L' := [some (.ref 1), some (.int p0), some (.int p1), some (.ref 45), none]) [] [(0, 10, 17, 13)] (0, 10, 13, 21) rfl rfl (fun z hz => ?_) (by decide) (by decide) (by decide +kernel) (by decide +kernel) rfl (Or.inl ⟨dL_text_13, rfl⟩) (by decide) rfl ?_
  · cases hz
  show am_W _ _ _ _ _ _ _ _ _ _ _ _ _ _ _ 15 [some (.ref 1), some (.int p0), some (.int p1), some (.ref 45), none] [] S 2 82
  refine am_iconst (I := iL_text) (pc := 15) (x := 1) dL_text_15 (by decide) ?_
  exact am_iret (I := iL_text) (pc := 16) dL_text_16 rfl (Nat.le_refl _) (Nat.le_refl _) (⟨rfl, rfl⟩)
set_option maxRecDepth 100000 in
set_option maxHeartbeats 4000000 in
theorem w_text_x1 (K : am_K) (l : Launch) (S : am_S) (p0 p1 : Int32) (fs : List Value) (h1 : S.1 1 = .inr (6, fs)) (hC : am_M K l iX6_text 8 2 82 [.ref 1, .int p0, .int p1] S (fun _ _ => False) (fun j S' => j = 1 ∧ S = S')) : am_M K l iL_text 9 2 82 [.ref 1, .int p0, .int p1, .ref 45] S (fun v S' => v = some (.int 2) ∧ S = S') (fun _ _ => False) := by
  refine am_bodyH (by decide) rfl (by simp [Value.category]) (Nat.le_of_ble_eq_true rfl) (fun xp xe xs xm xa xb xt xc ad0 => ?_)
  show am_W _ _ _ _ _ _ _ _ _ _ _ _ _ _ _ 0 [some (.ref 1), some (.int p0), some (.int p1), some (.ref 45), none] [] S 0 0
  refine am_aload_n (I := iL_text) (pc := 0) dL_text_0 rfl rfl ?_
  refine am_iconst (I := iL_text) (pc := 1) (x := 0) dL_text_1 (by decide) ?_
  refine am_aload_n (I := iL_text) (pc := 2) dL_text_2 rfl rfl ?_
  refine am_iload_n (I := iL_text) (pc := 3) dL_text_3 rfl rfl ?_
  refine am_iload_n (I := iL_text) (pc := 4) dL_text_4 rfl rfl ?_
  refine am_callV (I := iL_text) (pc := 5) (st := [.int 0, .ref 45]) lv_L_17 hC dL_text_5 h1 rfl (Nat.le_of_ble_eq_true rfl) ⟨Nat.le_of_ble_eq_true rfl, Nat.le_of_ble_eq_true rfl⟩ (Nat.le_of_ble_eq_true rfl) (Nat.le_of_ble_eq_true rfl) rfl (fun v9 T9 z9 _ => z9.elim) (fun j9 T9 x9 _ => ?_)
  obtain ⟨rfl, rfl⟩ := x9
  refine am_catch (I := iL_text) (E9 := "java/lang/IllegalStateException") (nm9 := "java/lang/IllegalStateException") (hp := 17) (i := 4) (k := 19) (L' := [some (.ref 1), some (.int p0), some (.int p1), some (.ref 45), none]) [(0, 10, 13, 21)] [] (0, 10, 17, 13) rfl rfl (fun z hz => ?_) (by decide) (by decide) (by decide +kernel) (by decide +kernel) rfl (Or.inl ⟨dL_text_17, rfl⟩) (by decide) rfl ?_
  · rcases List.mem_singleton.mp hz with rfl
    exact ⟨by decide, "java/lang/IndexOutOfBoundsException", by decide +kernel, by decide +kernel⟩
  show am_W _ _ _ _ _ _ _ _ _ _ _ _ _ _ _ 19 [some (.ref 1), some (.int p0), some (.int p1), some (.ref 45), none] [] S 2 82
  refine am_iconst (I := iL_text) (pc := 19) (x := 2) dL_text_19 (by decide) ?_
  exact am_iret (I := iL_text) (pc := 20) dL_text_20 rfl (Nat.le_refl _) (Nat.le_refl _) (⟨rfl, rfl⟩)
set_option maxRecDepth 100000 in
set_option maxHeartbeats 4000000 in
theorem w_falls (K : am_K) (l : Launch) (S : am_S) (o : Nat → Int64) (p0 p1 : Int32) (rr : Bool) (P : am_S → Prop) (fs : List Value) (h1 : S.1 1 = .inr (6, fs)) (hC : am_M K l iX6_falls 8 2 82 [.ref 1, .int p0, .int p1] S (fun v S' => v = some (.int (bI rr)) ∧ P S') (fun _ _ => False)) (h45 : ∀ S', P S' → S'.1 45 = lo1 o) : am_M K l iL_falls 9 2 82 [.ref 1, .int p0, .int p1, .ref 45] S (fun v S' => v = some (.int 0) ∧ ∃ S1, P S1 ∧ (am_up S1.1 45 (lo1 (vp_updL o 0 (bI rr).toInt64)), S1.2) = S') (fun _ _ => False) := by
  refine am_bodyH (by decide) rfl (by simp [Value.category]) (Nat.le_of_ble_eq_true rfl) (fun xp xe xs xm xa xb xt xc ad0 => ?_)
  show am_W _ _ _ _ _ _ _ _ _ _ _ _ _ _ _ 0 [some (.ref 1), some (.int p0), some (.int p1), some (.ref 45), none] [] S 0 0
  refine am_aload_n (I := iL_falls) (pc := 0) dL_falls_0 rfl rfl ?_
  refine am_iconst (I := iL_falls) (pc := 1) (x := 0) dL_falls_1 (by decide) ?_
  refine am_aload_n (I := iL_falls) (pc := 2) dL_falls_2 rfl rfl ?_
  refine am_iload_n (I := iL_falls) (pc := 3) dL_falls_3 rfl rfl ?_
  refine am_iload_n (I := iL_falls) (pc := 4) dL_falls_4 rfl rfl ?_
  refine am_callV (I := iL_falls) (pc := 5) (st := [.int 0, .ref 45]) lv_L_23 hC dL_falls_5 h1 rfl (Nat.le_of_ble_eq_true rfl) ⟨Nat.le_of_ble_eq_true rfl, Nat.le_of_ble_eq_true rfl⟩ (Nat.le_of_ble_eq_true rfl) (Nat.le_of_ble_eq_true rfl) rfl (fun v9 T1 z9 _ => ?_) (fun _ _ h9 => h9.elim)
  obtain ⟨rfl, hP⟩ := z9
  have h5 := h45 T1 hP
  show am_W _ _ _ _ _ _ _ _ _ _ _ _ _ _ _ 8 [some (.ref 1), some (.int p0), some (.int p1), some (.ref 45), none] [.int (bI rr), .int 0, .ref 45] T1 2 82
  refine am_if_eq (I := iL_falls) (pc := 8) (tgt := 15) dL_falls_8 (by decide) (fun c8 => ?_) (fun c8 => ?_)
  · refine am_lconst (I := iL_falls) (pc := 15) (x := 0) dL_falls_15 (by decide) ?_
    refine am_lastore (I := iL_falls) (pc := 16) dL_falls_16 h5 rfl (vp_in_nI (show 0 < 1 by decide) (by decide)) ?_
    generalize eT2 : ((am_up T1.1 45 (.inl (1, 1, .inr (.inl (vp_updL o (0 : Int32).toNatClampNeg 0)))), T1.2) : am_S) = T2
    have k1 : T2.1 45 = (.inl (1, 1, .inr (.inl (vp_updL o (0 : Int32).toNatClampNeg 0)))) := by rw [← eT2]; exact am_up_s (h := T1.1) (a := 45)
    refine am_goto (I := iL_falls) (pc := 17) (tgt := 24) dL_falls_17 (by decide) ?_
    refine am_iconst (I := iL_falls) (pc := 24) (x := 0) dL_falls_24 (by decide) ?_
    exact am_iret (I := iL_falls) (pc := 25) dL_falls_25 rfl (Nat.le_refl _) (Nat.le_refl _) (⟨rfl, T1, hP, by rw [c8]; exact eT2⟩)
  · refine am_lconst (I := iL_falls) (pc := 11) (x := 1) dL_falls_11 (by decide) ?_
    refine am_goto (I := iL_falls) (pc := 12) (tgt := 16) dL_falls_12 (by decide) ?_
    refine am_lastore (I := iL_falls) (pc := 16) dL_falls_16 h5 rfl (vp_in_nI (show 0 < 1 by decide) (by decide)) ?_
    generalize eT3 : ((am_up T1.1 45 (.inl (1, 1, .inr (.inl (vp_updL o (0 : Int32).toNatClampNeg 1)))), T1.2) : am_S) = T3
    have k2 : T3.1 45 = (.inl (1, 1, .inr (.inl (vp_updL o (0 : Int32).toNatClampNeg 1)))) := by rw [← eT3]; exact am_up_s (h := T1.1) (a := 45)
    refine am_goto (I := iL_falls) (pc := 17) (tgt := 24) dL_falls_17 (by decide) ?_
    refine am_iconst (I := iL_falls) (pc := 24) (x := 0) dL_falls_24 (by decide) ?_
    exact am_iret (I := iL_falls) (pc := 25) dL_falls_25 rfl (Nat.le_refl _) (Nat.le_refl _) (⟨rfl, T1, hP, by rw [bI_t (bI_1 c8)]; exact eT3⟩)
set_option maxRecDepth 100000 in
set_option maxHeartbeats 4000000 in
theorem w_falls_x0 (K : am_K) (l : Launch) (S : am_S) (p0 p1 : Int32) (fs : List Value) (h1 : S.1 1 = .inr (6, fs)) (hC : am_M K l iX6_falls 8 2 82 [.ref 1, .int p0, .int p1] S (fun _ _ => False) (fun j S' => j = 0 ∧ S = S')) : am_M K l iL_falls 9 2 82 [.ref 1, .int p0, .int p1, .ref 45] S (fun v S' => v = some (.int 1) ∧ S = S') (fun _ _ => False) := by
  refine am_bodyH (by decide) rfl (by simp [Value.category]) (Nat.le_of_ble_eq_true rfl) (fun xp xe xs xm xa xb xt xc ad0 => ?_)
  show am_W _ _ _ _ _ _ _ _ _ _ _ _ _ _ _ 0 [some (.ref 1), some (.int p0), some (.int p1), some (.ref 45), none] [] S 0 0
  refine am_aload_n (I := iL_falls) (pc := 0) dL_falls_0 rfl rfl ?_
  refine am_iconst (I := iL_falls) (pc := 1) (x := 0) dL_falls_1 (by decide) ?_
  refine am_aload_n (I := iL_falls) (pc := 2) dL_falls_2 rfl rfl ?_
  refine am_iload_n (I := iL_falls) (pc := 3) dL_falls_3 rfl rfl ?_
  refine am_iload_n (I := iL_falls) (pc := 4) dL_falls_4 rfl rfl ?_
  refine am_callV (I := iL_falls) (pc := 5) (st := [.int 0, .ref 45]) lv_L_23 hC dL_falls_5 h1 rfl (Nat.le_of_ble_eq_true rfl) ⟨Nat.le_of_ble_eq_true rfl, Nat.le_of_ble_eq_true rfl⟩ (Nat.le_of_ble_eq_true rfl) (Nat.le_of_ble_eq_true rfl) rfl (fun v9 T9 z9 _ => z9.elim) (fun j9 T9 x9 _ => ?_)
  obtain ⟨rfl, rfl⟩ := x9
  refine am_catch (I := iL_falls) (E9 := "java/lang/IndexOutOfBoundsException") (nm9 := "java/lang/IndexOutOfBoundsException") (hp := 20) (i := 4) (k := 22) (L' := [some (.ref 1), some (.int p0), some (.int p1), some (.ref 45), none]) [] [] (0, 17, 20, 21) rfl rfl (fun z hz => ?_) (by decide) (by decide) (by decide +kernel) (by decide +kernel) rfl (Or.inl ⟨dL_falls_20, rfl⟩) (by decide) rfl ?_
  · cases hz
  show am_W _ _ _ _ _ _ _ _ _ _ _ _ _ _ _ 22 [some (.ref 1), some (.int p0), some (.int p1), some (.ref 45), none] [] S 2 82
  refine am_iconst (I := iL_falls) (pc := 22) (x := 1) dL_falls_22 (by decide) ?_
  exact am_iret (I := iL_falls) (pc := 23) dL_falls_23 rfl (Nat.le_refl _) (Nat.le_refl _) (⟨rfl, rfl⟩)
set_option maxRecDepth 100000 in
set_option maxHeartbeats 4000000 in
theorem w_shown (K : am_K) (l : Launch) (S : am_S) (o : Nat → Int64) (p0 p1 : Int32) (rr : Int32) (P : am_S → Prop) (fs : List Value) (h1 : S.1 1 = .inr (6, fs)) (hC : am_M K l iX6_shown 8 2 82 [.ref 1, .int p0, .int p1] S (fun v S' => v = some (.int (rr)) ∧ P S') (fun _ _ => False)) (h45 : ∀ S', P S' → S'.1 45 = lo1 o) : am_M K l iL_shown 9 2 82 [.ref 1, .int p0, .int p1, .ref 45] S (fun v S' => v = some (.int 0) ∧ ∃ S1, P S1 ∧ (am_up S1.1 45 (lo1 (vp_updL o 0 (rr).toInt64)), S1.2) = S') (fun _ _ => False) := by
  refine am_bodyH (by decide) rfl (by simp [Value.category]) (Nat.le_of_ble_eq_true rfl) (fun xp xe xs xm xa xb xt xc ad0 => ?_)
  show am_W _ _ _ _ _ _ _ _ _ _ _ _ _ _ _ 0 [some (.ref 1), some (.int p0), some (.int p1), some (.ref 45), none] [] S 0 0
  refine am_aload_n (I := iL_shown) (pc := 0) dL_shown_0 rfl rfl ?_
  refine am_iconst (I := iL_shown) (pc := 1) (x := 0) dL_shown_1 (by decide) ?_
  refine am_aload_n (I := iL_shown) (pc := 2) dL_shown_2 rfl rfl ?_
  refine am_iload_n (I := iL_shown) (pc := 3) dL_shown_3 rfl rfl ?_
  refine am_iload_n (I := iL_shown) (pc := 4) dL_shown_4 rfl rfl ?_
  refine am_callV (I := iL_shown) (pc := 5) (st := [.int 0, .ref 45]) lv_L_27 hC dL_shown_5 h1 rfl (Nat.le_of_ble_eq_true rfl) ⟨Nat.le_of_ble_eq_true rfl, Nat.le_of_ble_eq_true rfl⟩ (Nat.le_of_ble_eq_true rfl) (Nat.le_of_ble_eq_true rfl) rfl (fun v9 T1 z9 _ => ?_) (fun _ _ h9 => h9.elim)
  obtain ⟨rfl, hP⟩ := z9
  have h5 := h45 T1 hP
  show am_W _ _ _ _ _ _ _ _ _ _ _ _ _ _ _ 8 [some (.ref 1), some (.int p0), some (.int p1), some (.ref 45), none] [.int (rr), .int 0, .ref 45] T1 2 82
  refine am_i2l (I := iL_shown) (pc := 8) dL_shown_8 ?_
  refine am_lastore (I := iL_shown) (pc := 9) dL_shown_9 h5 rfl (vp_in_nI (show 0 < 1 by decide) (by decide)) ?_
  generalize eT2 : ((am_up T1.1 45 (.inl (1, 1, .inr (.inl (vp_updL o (0 : Int32).toNatClampNeg ((rr).toInt64))))), T1.2) : am_S) = T2
  have k1 : T2.1 45 = (.inl (1, 1, .inr (.inl (vp_updL o (0 : Int32).toNatClampNeg ((rr).toInt64))))) := by rw [← eT2]; exact am_up_s (h := T1.1) (a := 45)
  refine am_goto (I := iL_shown) (pc := 10) (tgt := 17) dL_shown_10 (by decide) ?_
  refine am_iconst (I := iL_shown) (pc := 17) (x := 0) dL_shown_17 (by decide) ?_
  exact am_iret (I := iL_shown) (pc := 18) dL_shown_18 rfl (Nat.le_refl _) (Nat.le_refl _) (⟨rfl, T1, hP, eT2⟩)
set_option maxRecDepth 100000 in
set_option maxHeartbeats 4000000 in
theorem w_shown_x0 (K : am_K) (l : Launch) (S : am_S) (p0 p1 : Int32) (fs : List Value) (h1 : S.1 1 = .inr (6, fs)) (hC : am_M K l iX6_shown 8 2 82 [.ref 1, .int p0, .int p1] S (fun _ _ => False) (fun j S' => j = 0 ∧ S = S')) : am_M K l iL_shown 9 2 82 [.ref 1, .int p0, .int p1, .ref 45] S (fun v S' => v = some (.int 1) ∧ S = S') (fun _ _ => False) := by
  refine am_bodyH (by decide) rfl (by simp [Value.category]) (Nat.le_of_ble_eq_true rfl) (fun xp xe xs xm xa xb xt xc ad0 => ?_)
  show am_W _ _ _ _ _ _ _ _ _ _ _ _ _ _ _ 0 [some (.ref 1), some (.int p0), some (.int p1), some (.ref 45), none] [] S 0 0
  refine am_aload_n (I := iL_shown) (pc := 0) dL_shown_0 rfl rfl ?_
  refine am_iconst (I := iL_shown) (pc := 1) (x := 0) dL_shown_1 (by decide) ?_
  refine am_aload_n (I := iL_shown) (pc := 2) dL_shown_2 rfl rfl ?_
  refine am_iload_n (I := iL_shown) (pc := 3) dL_shown_3 rfl rfl ?_
  refine am_iload_n (I := iL_shown) (pc := 4) dL_shown_4 rfl rfl ?_
  refine am_callV (I := iL_shown) (pc := 5) (st := [.int 0, .ref 45]) lv_L_27 hC dL_shown_5 h1 rfl (Nat.le_of_ble_eq_true rfl) ⟨Nat.le_of_ble_eq_true rfl, Nat.le_of_ble_eq_true rfl⟩ (Nat.le_of_ble_eq_true rfl) (Nat.le_of_ble_eq_true rfl) rfl (fun v9 T9 z9 _ => z9.elim) (fun j9 T9 x9 _ => ?_)
  obtain ⟨rfl, rfl⟩ := x9
  refine am_catch (I := iL_shown) (E9 := "java/lang/IndexOutOfBoundsException") (nm9 := "java/lang/IndexOutOfBoundsException") (hp := 13) (i := 4) (k := 15) (L' := [some (.ref 1), some (.int p0), some (.int p1), some (.ref 45), none]) [] [] (0, 10, 13, 21) rfl rfl (fun z hz => ?_) (by decide) (by decide) (by decide +kernel) (by decide +kernel) rfl (Or.inl ⟨dL_shown_13, rfl⟩) (by decide) rfl ?_
  · cases hz
  show am_W _ _ _ _ _ _ _ _ _ _ _ _ _ _ _ 15 [some (.ref 1), some (.int p0), some (.int p1), some (.ref 45), none] [] S 2 82
  refine am_iconst (I := iL_shown) (pc := 15) (x := 1) dL_shown_15 (by decide) ?_
  exact am_iret (I := iL_shown) (pc := 16) dL_shown_16 rfl (Nat.le_refl _) (Nat.le_refl _) (⟨rfl, rfl⟩)
set_option maxRecDepth 100000 in
set_option maxHeartbeats 4000000 in
theorem w_sign (K : am_K) (l : Launch) (S : am_S) (o : Nat → Int64) (p0 p1 p2 p3 : Int32) (rr : Int32) (P : am_S → Prop) (fs : List Value) (h1 : S.1 1 = .inr (6, fs)) (hC : am_M K l iX6_sign 8 2 82 [.ref 1, .int p0, .int p1, .int p2, .int p3] S (fun v S' => v = some (.int (rr)) ∧ P S') (fun _ _ => False)) (h45 : ∀ S', P S' → S'.1 45 = lo1 o) : am_M K l iL_sign 9 2 82 [.ref 1, .int p0, .int p1, .int p2, .int p3, .ref 45] S (fun v S' => v = some (.int 0) ∧ ∃ S1, P S1 ∧ (am_up S1.1 45 (lo1 (vp_updL o 0 (rr).toInt64)), S1.2) = S') (fun _ _ => False) := by
  refine am_bodyH (by decide) rfl (by simp [Value.category]) (Nat.le_of_ble_eq_true rfl) (fun xp xe xs xm xa xb xt xc ad0 => ?_)
  show am_W _ _ _ _ _ _ _ _ _ _ _ _ _ _ _ 0 [some (.ref 1), some (.int p0), some (.int p1), some (.int p2), some (.int p3), some (.ref 45), none] [] S 0 0
  refine am_aload (I := iL_sign) (pc := 0) dL_sign_0 rfl ?_
  refine am_iconst (I := iL_sign) (pc := 2) (x := 0) dL_sign_2 (by decide) ?_
  refine am_aload_n (I := iL_sign) (pc := 3) dL_sign_3 rfl rfl ?_
  refine am_iload_n (I := iL_sign) (pc := 4) dL_sign_4 rfl rfl ?_
  refine am_iload_n (I := iL_sign) (pc := 5) dL_sign_5 rfl rfl ?_
  refine am_iload_n (I := iL_sign) (pc := 6) dL_sign_6 rfl rfl ?_
  refine am_iload (I := iL_sign) (pc := 7) dL_sign_7 rfl ?_
  refine am_callV (I := iL_sign) (pc := 9) (st := [.int 0, .ref 45]) lv_L_30 hC dL_sign_9 h1 rfl (Nat.le_of_ble_eq_true rfl) ⟨Nat.le_of_ble_eq_true rfl, Nat.le_of_ble_eq_true rfl⟩ (Nat.le_of_ble_eq_true rfl) (Nat.le_of_ble_eq_true rfl) rfl (fun v9 T1 z9 _ => ?_) (fun _ _ h9 => h9.elim)
  obtain ⟨rfl, hP⟩ := z9
  have h5 := h45 T1 hP
  show am_W _ _ _ _ _ _ _ _ _ _ _ _ _ _ _ 12 [some (.ref 1), some (.int p0), some (.int p1), some (.int p2), some (.int p3), some (.ref 45), none] [.int (rr), .int 0, .ref 45] T1 2 82
  refine am_i2l (I := iL_sign) (pc := 12) dL_sign_12 ?_
  refine am_lastore (I := iL_sign) (pc := 13) dL_sign_13 h5 rfl (vp_in_nI (show 0 < 1 by decide) (by decide)) ?_
  generalize eT2 : ((am_up T1.1 45 (.inl (1, 1, .inr (.inl (vp_updL o (0 : Int32).toNatClampNeg ((rr).toInt64))))), T1.2) : am_S) = T2
  have k1 : T2.1 45 = (.inl (1, 1, .inr (.inl (vp_updL o (0 : Int32).toNatClampNeg ((rr).toInt64))))) := by rw [← eT2]; exact am_up_s (h := T1.1) (a := 45)
  refine am_goto (I := iL_sign) (pc := 14) (tgt := 21) dL_sign_14 (by decide) ?_
  refine am_iconst (I := iL_sign) (pc := 21) (x := 0) dL_sign_21 (by decide) ?_
  exact am_iret (I := iL_sign) (pc := 22) dL_sign_22 rfl (Nat.le_refl _) (Nat.le_refl _) (⟨rfl, T1, hP, eT2⟩)
set_option maxRecDepth 100000 in
set_option maxHeartbeats 4000000 in
theorem w_sign_x0 (K : am_K) (l : Launch) (S : am_S) (p0 p1 p2 p3 : Int32) (fs : List Value) (h1 : S.1 1 = .inr (6, fs)) (hC : am_M K l iX6_sign 8 2 82 [.ref 1, .int p0, .int p1, .int p2, .int p3] S (fun _ _ => False) (fun j S' => j = 0 ∧ S = S')) : am_M K l iL_sign 9 2 82 [.ref 1, .int p0, .int p1, .int p2, .int p3, .ref 45] S (fun v S' => v = some (.int 1) ∧ S = S') (fun _ _ => False) := by
  refine am_bodyH (by decide) rfl (by simp [Value.category]) (Nat.le_of_ble_eq_true rfl) (fun xp xe xs xm xa xb xt xc ad0 => ?_)
  show am_W _ _ _ _ _ _ _ _ _ _ _ _ _ _ _ 0 [some (.ref 1), some (.int p0), some (.int p1), some (.int p2), some (.int p3), some (.ref 45), none] [] S 0 0
  refine am_aload (I := iL_sign) (pc := 0) dL_sign_0 rfl ?_
  refine am_iconst (I := iL_sign) (pc := 2) (x := 0) dL_sign_2 (by decide) ?_
  refine am_aload_n (I := iL_sign) (pc := 3) dL_sign_3 rfl rfl ?_
  refine am_iload_n (I := iL_sign) (pc := 4) dL_sign_4 rfl rfl ?_
  refine am_iload_n (I := iL_sign) (pc := 5) dL_sign_5 rfl rfl ?_
  refine am_iload_n (I := iL_sign) (pc := 6) dL_sign_6 rfl rfl ?_
  refine am_iload (I := iL_sign) (pc := 7) dL_sign_7 rfl ?_
  refine am_callV (I := iL_sign) (pc := 9) (st := [.int 0, .ref 45]) lv_L_30 hC dL_sign_9 h1 rfl (Nat.le_of_ble_eq_true rfl) ⟨Nat.le_of_ble_eq_true rfl, Nat.le_of_ble_eq_true rfl⟩ (Nat.le_of_ble_eq_true rfl) (Nat.le_of_ble_eq_true rfl) rfl (fun v9 T9 z9 _ => z9.elim) (fun j9 T9 x9 _ => ?_)
  obtain ⟨rfl, rfl⟩ := x9
  refine am_catch (I := iL_sign) (E9 := "java/lang/IndexOutOfBoundsException") (nm9 := "java/lang/IndexOutOfBoundsException") (hp := 17) (i := 6) (k := 19) (L' := [some (.ref 1), some (.int p0), some (.int p1), some (.int p2), some (.int p3), some (.ref 45), none]) [] [] (0, 14, 17, 21) rfl rfl (fun z hz => ?_) (by decide) (by decide) (by decide +kernel) (by decide +kernel) rfl (Or.inl ⟨dL_sign_17, rfl⟩) (by decide) rfl ?_
  · cases hz
  show am_W _ _ _ _ _ _ _ _ _ _ _ _ _ _ _ 19 [some (.ref 1), some (.int p0), some (.int p1), some (.int p2), some (.int p3), some (.ref 45), none] [] S 2 82
  refine am_iconst (I := iL_sign) (pc := 19) (x := 1) dL_sign_19 (by decide) ?_
  exact am_iret (I := iL_sign) (pc := 20) dL_sign_20 rfl (Nat.le_refl _) (Nat.le_refl _) (⟨rfl, rfl⟩)
set_option maxRecDepth 100000 in
set_option maxHeartbeats 4000000 in
theorem w_lines (K : am_K) (l : Launch) (S : am_S) (o : Nat → Int64) (p0 p1 p2 : Int32) (rr : Int32) (P : am_S → Prop) (fs : List Value) (h1 : S.1 1 = .inr (6, fs)) (hC : am_M K l iX6_lines 8 2 82 [.ref 1, .int p0, .int p1, .int p2] S (fun v S' => v = some (.int (rr)) ∧ P S') (fun _ _ => False)) (h45 : ∀ S', P S' → S'.1 45 = lo1 o) : am_M K l iL_lines 9 2 82 [.ref 1, .int p0, .int p1, .int p2, .ref 45] S (fun v S' => v = some (.int 0) ∧ ∃ S1, P S1 ∧ (am_up S1.1 45 (lo1 (vp_updL o 0 (rr).toInt64)), S1.2) = S') (fun _ _ => False) := by
  refine am_bodyH (by decide) rfl (by simp [Value.category]) (Nat.le_of_ble_eq_true rfl) (fun xp xe xs xm xa xb xt xc ad0 => ?_)
  show am_W _ _ _ _ _ _ _ _ _ _ _ _ _ _ _ 0 [some (.ref 1), some (.int p0), some (.int p1), some (.int p2), some (.ref 45), none] [] S 0 0
  refine am_aload (I := iL_lines) (pc := 0) dL_lines_0 rfl ?_
  refine am_iconst (I := iL_lines) (pc := 2) (x := 0) dL_lines_2 (by decide) ?_
  refine am_aload_n (I := iL_lines) (pc := 3) dL_lines_3 rfl rfl ?_
  refine am_iload_n (I := iL_lines) (pc := 4) dL_lines_4 rfl rfl ?_
  refine am_iload_n (I := iL_lines) (pc := 5) dL_lines_5 rfl rfl ?_
  refine am_iload_n (I := iL_lines) (pc := 6) dL_lines_6 rfl rfl ?_
  refine am_callV (I := iL_lines) (pc := 7) (st := [.int 0, .ref 45]) lv_L_34 hC dL_lines_7 h1 rfl (Nat.le_of_ble_eq_true rfl) ⟨Nat.le_of_ble_eq_true rfl, Nat.le_of_ble_eq_true rfl⟩ (Nat.le_of_ble_eq_true rfl) (Nat.le_of_ble_eq_true rfl) rfl (fun v9 T1 z9 _ => ?_) (fun _ _ h9 => h9.elim)
  obtain ⟨rfl, hP⟩ := z9
  have h5 := h45 T1 hP
  show am_W _ _ _ _ _ _ _ _ _ _ _ _ _ _ _ 10 [some (.ref 1), some (.int p0), some (.int p1), some (.int p2), some (.ref 45), none] [.int (rr), .int 0, .ref 45] T1 2 82
  refine am_i2l (I := iL_lines) (pc := 10) dL_lines_10 ?_
  refine am_lastore (I := iL_lines) (pc := 11) dL_lines_11 h5 rfl (vp_in_nI (show 0 < 1 by decide) (by decide)) ?_
  generalize eT2 : ((am_up T1.1 45 (.inl (1, 1, .inr (.inl (vp_updL o (0 : Int32).toNatClampNeg ((rr).toInt64))))), T1.2) : am_S) = T2
  have k1 : T2.1 45 = (.inl (1, 1, .inr (.inl (vp_updL o (0 : Int32).toNatClampNeg ((rr).toInt64))))) := by rw [← eT2]; exact am_up_s (h := T1.1) (a := 45)
  refine am_goto (I := iL_lines) (pc := 12) (tgt := 23) dL_lines_12 (by decide) ?_
  refine am_iconst (I := iL_lines) (pc := 23) (x := 0) dL_lines_23 (by decide) ?_
  exact am_iret (I := iL_lines) (pc := 24) dL_lines_24 rfl (Nat.le_refl _) (Nat.le_refl _) (⟨rfl, T1, hP, eT2⟩)
set_option maxRecDepth 100000 in
set_option maxHeartbeats 4000000 in
theorem w_lines_x0 (K : am_K) (l : Launch) (S : am_S) (p0 p1 p2 : Int32) (fs : List Value) (h1 : S.1 1 = .inr (6, fs)) (hC : am_M K l iX6_lines 8 2 82 [.ref 1, .int p0, .int p1, .int p2] S (fun _ _ => False) (fun j S' => j = 0 ∧ S = S')) : am_M K l iL_lines 9 2 82 [.ref 1, .int p0, .int p1, .int p2, .ref 45] S (fun v S' => v = some (.int 1) ∧ S = S') (fun _ _ => False) := by
  refine am_bodyH (by decide) rfl (by simp [Value.category]) (Nat.le_of_ble_eq_true rfl) (fun xp xe xs xm xa xb xt xc ad0 => ?_)
  show am_W _ _ _ _ _ _ _ _ _ _ _ _ _ _ _ 0 [some (.ref 1), some (.int p0), some (.int p1), some (.int p2), some (.ref 45), none] [] S 0 0
  refine am_aload (I := iL_lines) (pc := 0) dL_lines_0 rfl ?_
  refine am_iconst (I := iL_lines) (pc := 2) (x := 0) dL_lines_2 (by decide) ?_
  refine am_aload_n (I := iL_lines) (pc := 3) dL_lines_3 rfl rfl ?_
  refine am_iload_n (I := iL_lines) (pc := 4) dL_lines_4 rfl rfl ?_
  refine am_iload_n (I := iL_lines) (pc := 5) dL_lines_5 rfl rfl ?_
  refine am_iload_n (I := iL_lines) (pc := 6) dL_lines_6 rfl rfl ?_
  refine am_callV (I := iL_lines) (pc := 7) (st := [.int 0, .ref 45]) lv_L_34 hC dL_lines_7 h1 rfl (Nat.le_of_ble_eq_true rfl) ⟨Nat.le_of_ble_eq_true rfl, Nat.le_of_ble_eq_true rfl⟩ (Nat.le_of_ble_eq_true rfl) (Nat.le_of_ble_eq_true rfl) rfl (fun v9 T9 z9 _ => z9.elim) (fun j9 T9 x9 _ => ?_)
  obtain ⟨rfl, rfl⟩ := x9
  refine am_catch (I := iL_lines) (E9 := "java/lang/IndexOutOfBoundsException") (nm9 := "java/lang/IndexOutOfBoundsException") (hp := 15) (i := 5) (k := 17) (L' := [some (.ref 1), some (.int p0), some (.int p1), some (.int p2), some (.ref 45), none]) [] [(0, 12, 19, 15)] (0, 12, 15, 21) rfl rfl (fun z hz => ?_) (by decide) (by decide) (by decide +kernel) (by decide +kernel) rfl (Or.inl ⟨dL_lines_15, rfl⟩) (by decide) rfl ?_
  · cases hz
  show am_W _ _ _ _ _ _ _ _ _ _ _ _ _ _ _ 17 [some (.ref 1), some (.int p0), some (.int p1), some (.int p2), some (.ref 45), none] [] S 2 82
  refine am_iconst (I := iL_lines) (pc := 17) (x := 1) dL_lines_17 (by decide) ?_
  exact am_iret (I := iL_lines) (pc := 18) dL_lines_18 rfl (Nat.le_refl _) (Nat.le_refl _) (⟨rfl, rfl⟩)
set_option maxRecDepth 100000 in
set_option maxHeartbeats 4000000 in
theorem w_lines_x2 (K : am_K) (l : Launch) (S : am_S) (p0 p1 p2 : Int32) (fs : List Value) (h1 : S.1 1 = .inr (6, fs)) (hC : am_M K l iX6_lines 8 2 82 [.ref 1, .int p0, .int p1, .int p2] S (fun _ _ => False) (fun j S' => j = 2 ∧ S = S')) : am_M K l iL_lines 9 2 82 [.ref 1, .int p0, .int p1, .int p2, .ref 45] S (fun v S' => v = some (.int 2) ∧ S = S') (fun _ _ => False) := by
  refine am_bodyH (by decide) rfl (by simp [Value.category]) (Nat.le_of_ble_eq_true rfl) (fun xp xe xs xm xa xb xt xc ad0 => ?_)
  show am_W _ _ _ _ _ _ _ _ _ _ _ _ _ _ _ 0 [some (.ref 1), some (.int p0), some (.int p1), some (.int p2), some (.ref 45), none] [] S 0 0
  refine am_aload (I := iL_lines) (pc := 0) dL_lines_0 rfl ?_
  refine am_iconst (I := iL_lines) (pc := 2) (x := 0) dL_lines_2 (by decide) ?_
  refine am_aload_n (I := iL_lines) (pc := 3) dL_lines_3 rfl rfl ?_
  refine am_iload_n (I := iL_lines) (pc := 4) dL_lines_4 rfl rfl ?_
  refine am_iload_n (I := iL_lines) (pc := 5) dL_lines_5 rfl rfl ?_
  refine am_iload_n (I := iL_lines) (pc := 6) dL_lines_6 rfl rfl ?_
  refine am_callV (I := iL_lines) (pc := 7) (st := [.int 0, .ref 45]) lv_L_34 hC dL_lines_7 h1 rfl (Nat.le_of_ble_eq_true rfl) ⟨Nat.le_of_ble_eq_true rfl, Nat.le_of_ble_eq_true rfl⟩ (Nat.le_of_ble_eq_true rfl) (Nat.le_of_ble_eq_true rfl) rfl (fun v9 T9 z9 _ => z9.elim) (fun j9 T9 x9 _ => ?_)
  obtain ⟨rfl, rfl⟩ := x9
  refine am_catch (I := iL_lines) (E9 := "java/lang/IllegalArgumentException") (nm9 := "java/lang/IllegalArgumentException") (hp := 19) (i := 5) (k := 21) (L' := [some (.ref 1), some (.int p0), some (.int p1), some (.int p2), some (.ref 45), none]) [(0, 12, 15, 21)] [] (0, 12, 19, 15) rfl rfl (fun z hz => ?_) (by decide) (by decide) (by decide +kernel) (by decide +kernel) rfl (Or.inl ⟨dL_lines_19, rfl⟩) (by decide) rfl ?_
  · rcases List.mem_singleton.mp hz with rfl
    exact ⟨by decide, "java/lang/IndexOutOfBoundsException", by decide +kernel, by decide +kernel⟩
  show am_W _ _ _ _ _ _ _ _ _ _ _ _ _ _ _ 21 [some (.ref 1), some (.int p0), some (.int p1), some (.int p2), some (.ref 45), none] [] S 2 82
  refine am_iconst (I := iL_lines) (pc := 21) (x := 2) dL_lines_21 (by decide) ?_
  exact am_iret (I := iL_lines) (pc := 22) dL_lines_22 rfl (Nat.le_refl _) (Nat.le_refl _) (⟨rfl, rfl⟩)
set_option maxRecDepth 100000 in
set_option maxHeartbeats 4000000 in
theorem w_line (K : am_K) (l : Launch) (S : am_S) (o : Nat → Int64) (p0 p1 : Int32) (rr : Int32) (P : am_S → Prop) (fs : List Value) (h1 : S.1 1 = .inr (6, fs)) (hC : am_M K l iX6_line 8 2 82 [.ref 1, .int p0, .int p1] S (fun v S' => v = some (.int (rr)) ∧ P S') (fun _ _ => False)) (h45 : ∀ S', P S' → S'.1 45 = lo1 o) : am_M K l iL_line 9 2 82 [.ref 1, .int p0, .int p1, .ref 45] S (fun v S' => v = some (.int 0) ∧ ∃ S1, P S1 ∧ (am_up S1.1 45 (lo1 (vp_updL o 0 (rr).toInt64)), S1.2) = S') (fun _ _ => False) := by
  refine am_bodyH (by decide) rfl (by simp [Value.category]) (Nat.le_of_ble_eq_true rfl) (fun xp xe xs xm xa xb xt xc ad0 => ?_)
  show am_W _ _ _ _ _ _ _ _ _ _ _ _ _ _ _ 0 [some (.ref 1), some (.int p0), some (.int p1), some (.ref 45), none] [] S 0 0
  refine am_aload_n (I := iL_line) (pc := 0) dL_line_0 rfl rfl ?_
  refine am_iconst (I := iL_line) (pc := 1) (x := 0) dL_line_1 (by decide) ?_
  refine am_aload_n (I := iL_line) (pc := 2) dL_line_2 rfl rfl ?_
  refine am_iload_n (I := iL_line) (pc := 3) dL_line_3 rfl rfl ?_
  refine am_iload_n (I := iL_line) (pc := 4) dL_line_4 rfl rfl ?_
  refine am_callV (I := iL_line) (pc := 5) (st := [.int 0, .ref 45]) lv_L_38 hC dL_line_5 h1 rfl (Nat.le_of_ble_eq_true rfl) ⟨Nat.le_of_ble_eq_true rfl, Nat.le_of_ble_eq_true rfl⟩ (Nat.le_of_ble_eq_true rfl) (Nat.le_of_ble_eq_true rfl) rfl (fun v9 T1 z9 _ => ?_) (fun _ _ h9 => h9.elim)
  obtain ⟨rfl, hP⟩ := z9
  have h5 := h45 T1 hP
  show am_W _ _ _ _ _ _ _ _ _ _ _ _ _ _ _ 8 [some (.ref 1), some (.int p0), some (.int p1), some (.ref 45), none] [.int (rr), .int 0, .ref 45] T1 2 82
  refine am_i2l (I := iL_line) (pc := 8) dL_line_8 ?_
  refine am_lastore (I := iL_line) (pc := 9) dL_line_9 h5 rfl (vp_in_nI (show 0 < 1 by decide) (by decide)) ?_
  generalize eT2 : ((am_up T1.1 45 (.inl (1, 1, .inr (.inl (vp_updL o (0 : Int32).toNatClampNeg ((rr).toInt64))))), T1.2) : am_S) = T2
  have k1 : T2.1 45 = (.inl (1, 1, .inr (.inl (vp_updL o (0 : Int32).toNatClampNeg ((rr).toInt64))))) := by rw [← eT2]; exact am_up_s (h := T1.1) (a := 45)
  refine am_goto (I := iL_line) (pc := 10) (tgt := 17) dL_line_10 (by decide) ?_
  refine am_iconst (I := iL_line) (pc := 17) (x := 0) dL_line_17 (by decide) ?_
  exact am_iret (I := iL_line) (pc := 18) dL_line_18 rfl (Nat.le_refl _) (Nat.le_refl _) (⟨rfl, T1, hP, eT2⟩)
set_option maxRecDepth 100000 in
set_option maxHeartbeats 4000000 in
theorem w_line_x0 (K : am_K) (l : Launch) (S : am_S) (p0 p1 : Int32) (fs : List Value) (h1 : S.1 1 = .inr (6, fs)) (hC : am_M K l iX6_line 8 2 82 [.ref 1, .int p0, .int p1] S (fun _ _ => False) (fun j S' => j = 0 ∧ S = S')) : am_M K l iL_line 9 2 82 [.ref 1, .int p0, .int p1, .ref 45] S (fun v S' => v = some (.int 1) ∧ S = S') (fun _ _ => False) := by
  refine am_bodyH (by decide) rfl (by simp [Value.category]) (Nat.le_of_ble_eq_true rfl) (fun xp xe xs xm xa xb xt xc ad0 => ?_)
  show am_W _ _ _ _ _ _ _ _ _ _ _ _ _ _ _ 0 [some (.ref 1), some (.int p0), some (.int p1), some (.ref 45), none] [] S 0 0
  refine am_aload_n (I := iL_line) (pc := 0) dL_line_0 rfl rfl ?_
  refine am_iconst (I := iL_line) (pc := 1) (x := 0) dL_line_1 (by decide) ?_
  refine am_aload_n (I := iL_line) (pc := 2) dL_line_2 rfl rfl ?_
  refine am_iload_n (I := iL_line) (pc := 3) dL_line_3 rfl rfl ?_
  refine am_iload_n (I := iL_line) (pc := 4) dL_line_4 rfl rfl ?_
  refine am_callV (I := iL_line) (pc := 5) (st := [.int 0, .ref 45]) lv_L_38 hC dL_line_5 h1 rfl (Nat.le_of_ble_eq_true rfl) ⟨Nat.le_of_ble_eq_true rfl, Nat.le_of_ble_eq_true rfl⟩ (Nat.le_of_ble_eq_true rfl) (Nat.le_of_ble_eq_true rfl) rfl (fun v9 T9 z9 _ => z9.elim) (fun j9 T9 x9 _ => ?_)
  obtain ⟨rfl, rfl⟩ := x9
  refine am_catch (I := iL_line) (E9 := "java/lang/IndexOutOfBoundsException") (nm9 := "java/lang/IndexOutOfBoundsException") (hp := 13) (i := 4) (k := 15) (L' := [some (.ref 1), some (.int p0), some (.int p1), some (.ref 45), none]) [] [] (0, 10, 13, 21) rfl rfl (fun z hz => ?_) (by decide) (by decide) (by decide +kernel) (by decide +kernel) rfl (Or.inl ⟨dL_line_13, rfl⟩) (by decide) rfl ?_
  · cases hz
  show am_W _ _ _ _ _ _ _ _ _ _ _ _ _ _ _ 15 [some (.ref 1), some (.int p0), some (.int p1), some (.ref 45), none] [] S 2 82
  refine am_iconst (I := iL_line) (pc := 15) (x := 1) dL_line_15 (by decide) ?_
  exact am_iret (I := iL_line) (pc := 16) dL_line_16 rfl (Nat.le_refl _) (Nat.le_refl _) (⟨rfl, rfl⟩)
set_option maxRecDepth 100000 in
set_option maxHeartbeats 4000000 in
theorem w_level (K : am_K) (l : Launch) (S : am_S) (o : Nat → Int64) (p0 p1 : Int32) (rr : Int32) (P : am_S → Prop) (fs : List Value) (h1 : S.1 1 = .inr (6, fs)) (hC : am_M K l iX6_level 8 2 82 [.ref 1, .int p0, .int p1] S (fun v S' => v = some (.int (rr)) ∧ P S') (fun _ _ => False)) (h45 : ∀ S', P S' → S'.1 45 = lo1 o) : am_M K l iL_level 9 2 82 [.ref 1, .int p0, .int p1, .ref 45] S (fun v S' => v = some (.int 0) ∧ ∃ S1, P S1 ∧ (am_up S1.1 45 (lo1 (vp_updL o 0 (rr).toInt64)), S1.2) = S') (fun _ _ => False) := by
  refine am_bodyH (by decide) rfl (by simp [Value.category]) (Nat.le_of_ble_eq_true rfl) (fun xp xe xs xm xa xb xt xc ad0 => ?_)
  show am_W _ _ _ _ _ _ _ _ _ _ _ _ _ _ _ 0 [some (.ref 1), some (.int p0), some (.int p1), some (.ref 45), none] [] S 0 0
  refine am_aload_n (I := iL_level) (pc := 0) dL_level_0 rfl rfl ?_
  refine am_iconst (I := iL_level) (pc := 1) (x := 0) dL_level_1 (by decide) ?_
  refine am_aload_n (I := iL_level) (pc := 2) dL_level_2 rfl rfl ?_
  refine am_iload_n (I := iL_level) (pc := 3) dL_level_3 rfl rfl ?_
  refine am_iload_n (I := iL_level) (pc := 4) dL_level_4 rfl rfl ?_
  refine am_callV (I := iL_level) (pc := 5) (st := [.int 0, .ref 45]) lv_L_41 hC dL_level_5 h1 rfl (Nat.le_of_ble_eq_true rfl) ⟨Nat.le_of_ble_eq_true rfl, Nat.le_of_ble_eq_true rfl⟩ (Nat.le_of_ble_eq_true rfl) (Nat.le_of_ble_eq_true rfl) rfl (fun v9 T1 z9 _ => ?_) (fun _ _ h9 => h9.elim)
  obtain ⟨rfl, hP⟩ := z9
  have h5 := h45 T1 hP
  show am_W _ _ _ _ _ _ _ _ _ _ _ _ _ _ _ 8 [some (.ref 1), some (.int p0), some (.int p1), some (.ref 45), none] [.int (rr), .int 0, .ref 45] T1 2 82
  refine am_i2l (I := iL_level) (pc := 8) dL_level_8 ?_
  refine am_lastore (I := iL_level) (pc := 9) dL_level_9 h5 rfl (vp_in_nI (show 0 < 1 by decide) (by decide)) ?_
  generalize eT2 : ((am_up T1.1 45 (.inl (1, 1, .inr (.inl (vp_updL o (0 : Int32).toNatClampNeg ((rr).toInt64))))), T1.2) : am_S) = T2
  have k1 : T2.1 45 = (.inl (1, 1, .inr (.inl (vp_updL o (0 : Int32).toNatClampNeg ((rr).toInt64))))) := by rw [← eT2]; exact am_up_s (h := T1.1) (a := 45)
  refine am_goto (I := iL_level) (pc := 10) (tgt := 17) dL_level_10 (by decide) ?_
  refine am_iconst (I := iL_level) (pc := 17) (x := 0) dL_level_17 (by decide) ?_
  exact am_iret (I := iL_level) (pc := 18) dL_level_18 rfl (Nat.le_refl _) (Nat.le_refl _) (⟨rfl, T1, hP, eT2⟩)
set_option maxRecDepth 100000 in
set_option maxHeartbeats 4000000 in
theorem w_level_x0 (K : am_K) (l : Launch) (S : am_S) (p0 p1 : Int32) (fs : List Value) (h1 : S.1 1 = .inr (6, fs)) (hC : am_M K l iX6_level 8 2 82 [.ref 1, .int p0, .int p1] S (fun _ _ => False) (fun j S' => j = 0 ∧ S = S')) : am_M K l iL_level 9 2 82 [.ref 1, .int p0, .int p1, .ref 45] S (fun v S' => v = some (.int 1) ∧ S = S') (fun _ _ => False) := by
  refine am_bodyH (by decide) rfl (by simp [Value.category]) (Nat.le_of_ble_eq_true rfl) (fun xp xe xs xm xa xb xt xc ad0 => ?_)
  show am_W _ _ _ _ _ _ _ _ _ _ _ _ _ _ _ 0 [some (.ref 1), some (.int p0), some (.int p1), some (.ref 45), none] [] S 0 0
  refine am_aload_n (I := iL_level) (pc := 0) dL_level_0 rfl rfl ?_
  refine am_iconst (I := iL_level) (pc := 1) (x := 0) dL_level_1 (by decide) ?_
  refine am_aload_n (I := iL_level) (pc := 2) dL_level_2 rfl rfl ?_
  refine am_iload_n (I := iL_level) (pc := 3) dL_level_3 rfl rfl ?_
  refine am_iload_n (I := iL_level) (pc := 4) dL_level_4 rfl rfl ?_
  refine am_callV (I := iL_level) (pc := 5) (st := [.int 0, .ref 45]) lv_L_41 hC dL_level_5 h1 rfl (Nat.le_of_ble_eq_true rfl) ⟨Nat.le_of_ble_eq_true rfl, Nat.le_of_ble_eq_true rfl⟩ (Nat.le_of_ble_eq_true rfl) (Nat.le_of_ble_eq_true rfl) rfl (fun v9 T9 z9 _ => z9.elim) (fun j9 T9 x9 _ => ?_)
  obtain ⟨rfl, rfl⟩ := x9
  refine am_catch (I := iL_level) (E9 := "java/lang/IndexOutOfBoundsException") (nm9 := "java/lang/IndexOutOfBoundsException") (hp := 13) (i := 4) (k := 15) (L' := [some (.ref 1), some (.int p0), some (.int p1), some (.ref 45), none]) [] [] (0, 10, 13, 21) rfl rfl (fun z hz => ?_) (by decide) (by decide) (by decide +kernel) (by decide +kernel) rfl (Or.inl ⟨dL_level_13, rfl⟩) (by decide) rfl ?_
  · cases hz
  show am_W _ _ _ _ _ _ _ _ _ _ _ _ _ _ _ 15 [some (.ref 1), some (.int p0), some (.int p1), some (.ref 45), none] [] S 2 82
  refine am_iconst (I := iL_level) (pc := 15) (x := 1) dL_level_15 (by decide) ?_
  exact am_iret (I := iL_level) (pc := 16) dL_level_16 rfl (Nat.le_refl _) (Nat.le_refl _) (⟨rfl, rfl⟩)
set_option maxRecDepth 100000 in
set_option maxHeartbeats 4000000 in
theorem w_contract (K : am_K) (l : Launch) (S : am_S) (o : Nat → Int64) (p0 : Int32) (rr : Bool) (P : am_S → Prop) (fs : List Value) (h1 : S.1 1 = .inr (6, fs)) (hC : am_M K l iX6_contract 8 2 82 [.ref 1, .int p0] S (fun v S' => v = some (.int (bI rr)) ∧ P S') (fun _ _ => False)) (h45 : ∀ S', P S' → S'.1 45 = lo1 o) : am_M K l iL_contract 9 2 82 [.ref 1, .int p0, .ref 45] S (fun v S' => v = some (.int 0) ∧ ∃ S1, P S1 ∧ (am_up S1.1 45 (lo1 (vp_updL o 0 (bI rr).toInt64)), S1.2) = S') (fun _ _ => False) := by
  refine am_bodyH (by decide) rfl (by simp [Value.category]) (Nat.le_of_ble_eq_true rfl) (fun xp xe xs xm xa xb xt xc ad0 => ?_)
  show am_W _ _ _ _ _ _ _ _ _ _ _ _ _ _ _ 0 [some (.ref 1), some (.int p0), some (.ref 45), none] [] S 0 0
  refine am_aload_n (I := iL_contract) (pc := 0) dL_contract_0 rfl rfl ?_
  refine am_iconst (I := iL_contract) (pc := 1) (x := 0) dL_contract_1 (by decide) ?_
  refine am_aload_n (I := iL_contract) (pc := 2) dL_contract_2 rfl rfl ?_
  refine am_iload_n (I := iL_contract) (pc := 3) dL_contract_3 rfl rfl ?_
  refine am_callV (I := iL_contract) (pc := 4) (st := [.int 0, .ref 45]) lv_L_44 hC dL_contract_4 h1 rfl (Nat.le_of_ble_eq_true rfl) ⟨Nat.le_of_ble_eq_true rfl, Nat.le_of_ble_eq_true rfl⟩ (Nat.le_of_ble_eq_true rfl) (Nat.le_of_ble_eq_true rfl) rfl (fun v9 T1 z9 _ => ?_) (fun _ _ h9 => h9.elim)
  obtain ⟨rfl, hP⟩ := z9
  have h5 := h45 T1 hP
  show am_W _ _ _ _ _ _ _ _ _ _ _ _ _ _ _ 7 [some (.ref 1), some (.int p0), some (.ref 45), none] [.int (bI rr), .int 0, .ref 45] T1 2 82
  refine am_if_eq (I := iL_contract) (pc := 7) (tgt := 14) dL_contract_7 (by decide) (fun c7 => ?_) (fun c7 => ?_)
  · refine am_lconst (I := iL_contract) (pc := 14) (x := 0) dL_contract_14 (by decide) ?_
    refine am_lastore (I := iL_contract) (pc := 15) dL_contract_15 h5 rfl (vp_in_nI (show 0 < 1 by decide) (by decide)) ?_
    generalize eT2 : ((am_up T1.1 45 (.inl (1, 1, .inr (.inl (vp_updL o (0 : Int32).toNatClampNeg 0)))), T1.2) : am_S) = T2
    have k1 : T2.1 45 = (.inl (1, 1, .inr (.inl (vp_updL o (0 : Int32).toNatClampNeg 0)))) := by rw [← eT2]; exact am_up_s (h := T1.1) (a := 45)
    refine am_goto (I := iL_contract) (pc := 16) (tgt := 25) dL_contract_16 (by decide) ?_
    refine am_iconst (I := iL_contract) (pc := 25) (x := 0) dL_contract_25 (by decide) ?_
    exact am_iret (I := iL_contract) (pc := 26) dL_contract_26 rfl (Nat.le_refl _) (Nat.le_refl _) (⟨rfl, T1, hP, by rw [c7]; exact eT2⟩)
  · refine am_lconst (I := iL_contract) (pc := 10) (x := 1) dL_contract_10 (by decide) ?_
    refine am_goto (I := iL_contract) (pc := 11) (tgt := 15) dL_contract_11 (by decide) ?_
    refine am_lastore (I := iL_contract) (pc := 15) dL_contract_15 h5 rfl (vp_in_nI (show 0 < 1 by decide) (by decide)) ?_
    generalize eT3 : ((am_up T1.1 45 (.inl (1, 1, .inr (.inl (vp_updL o (0 : Int32).toNatClampNeg 1)))), T1.2) : am_S) = T3
    have k2 : T3.1 45 = (.inl (1, 1, .inr (.inl (vp_updL o (0 : Int32).toNatClampNeg 1)))) := by rw [← eT3]; exact am_up_s (h := T1.1) (a := 45)
    refine am_goto (I := iL_contract) (pc := 16) (tgt := 25) dL_contract_16 (by decide) ?_
    refine am_iconst (I := iL_contract) (pc := 25) (x := 0) dL_contract_25 (by decide) ?_
    exact am_iret (I := iL_contract) (pc := 26) dL_contract_26 rfl (Nat.le_refl _) (Nat.le_refl _) (⟨rfl, T1, hP, by rw [bI_t (bI_1 c7)]; exact eT3⟩)
set_option maxRecDepth 100000 in
set_option maxHeartbeats 4000000 in
theorem w_contract_x1 (K : am_K) (l : Launch) (S : am_S) (p0 : Int32) (fs : List Value) (h1 : S.1 1 = .inr (6, fs)) (hC : am_M K l iX6_contract 8 2 82 [.ref 1, .int p0] S (fun _ _ => False) (fun j S' => j = 1 ∧ S = S')) : am_M K l iL_contract 9 2 82 [.ref 1, .int p0, .ref 45] S (fun v S' => v = some (.int 1) ∧ S = S') (fun _ _ => False) := by
  refine am_bodyH (by decide) rfl (by simp [Value.category]) (Nat.le_of_ble_eq_true rfl) (fun xp xe xs xm xa xb xt xc ad0 => ?_)
  show am_W _ _ _ _ _ _ _ _ _ _ _ _ _ _ _ 0 [some (.ref 1), some (.int p0), some (.ref 45), none] [] S 0 0
  refine am_aload_n (I := iL_contract) (pc := 0) dL_contract_0 rfl rfl ?_
  refine am_iconst (I := iL_contract) (pc := 1) (x := 0) dL_contract_1 (by decide) ?_
  refine am_aload_n (I := iL_contract) (pc := 2) dL_contract_2 rfl rfl ?_
  refine am_iload_n (I := iL_contract) (pc := 3) dL_contract_3 rfl rfl ?_
  refine am_callV (I := iL_contract) (pc := 4) (st := [.int 0, .ref 45]) lv_L_44 hC dL_contract_4 h1 rfl (Nat.le_of_ble_eq_true rfl) ⟨Nat.le_of_ble_eq_true rfl, Nat.le_of_ble_eq_true rfl⟩ (Nat.le_of_ble_eq_true rfl) (Nat.le_of_ble_eq_true rfl) rfl (fun v9 T9 z9 _ => z9.elim) (fun j9 T9 x9 _ => ?_)
  obtain ⟨rfl, rfl⟩ := x9
  refine am_catch (I := iL_contract) (E9 := "java/lang/IllegalStateException") (nm9 := "java/lang/IllegalStateException") (hp := 19) (i := 3) (k := 20) (L' := [some (.ref 1), some (.int p0), some (.ref 45), none]) [] [(0, 16, 22, 15)] (0, 16, 19, 13) rfl rfl (fun z hz => ?_) (by decide) (by decide) (by decide +kernel) (by decide +kernel) rfl (Or.inr ⟨3, dL_contract_19, rfl, rfl⟩) (by decide) rfl ?_
  · cases hz
  show am_W _ _ _ _ _ _ _ _ _ _ _ _ _ _ _ 20 [some (.ref 1), some (.int p0), some (.ref 45), none] [] S 2 82
  refine am_iconst (I := iL_contract) (pc := 20) (x := 1) dL_contract_20 (by decide) ?_
  exact am_iret (I := iL_contract) (pc := 21) dL_contract_21 rfl (Nat.le_refl _) (Nat.le_refl _) (⟨rfl, rfl⟩)
set_option maxRecDepth 100000 in
set_option maxHeartbeats 4000000 in
theorem w_contract_x2 (K : am_K) (l : Launch) (S : am_S) (p0 : Int32) (fs : List Value) (h1 : S.1 1 = .inr (6, fs)) (hC : am_M K l iX6_contract 8 2 82 [.ref 1, .int p0] S (fun _ _ => False) (fun j S' => j = 2 ∧ S = S')) : am_M K l iL_contract 9 2 82 [.ref 1, .int p0, .ref 45] S (fun v S' => v = some (.int 2) ∧ S = S') (fun _ _ => False) := by
  refine am_bodyH (by decide) rfl (by simp [Value.category]) (Nat.le_of_ble_eq_true rfl) (fun xp xe xs xm xa xb xt xc ad0 => ?_)
  show am_W _ _ _ _ _ _ _ _ _ _ _ _ _ _ _ 0 [some (.ref 1), some (.int p0), some (.ref 45), none] [] S 0 0
  refine am_aload_n (I := iL_contract) (pc := 0) dL_contract_0 rfl rfl ?_
  refine am_iconst (I := iL_contract) (pc := 1) (x := 0) dL_contract_1 (by decide) ?_
  refine am_aload_n (I := iL_contract) (pc := 2) dL_contract_2 rfl rfl ?_
  refine am_iload_n (I := iL_contract) (pc := 3) dL_contract_3 rfl rfl ?_
  refine am_callV (I := iL_contract) (pc := 4) (st := [.int 0, .ref 45]) lv_L_44 hC dL_contract_4 h1 rfl (Nat.le_of_ble_eq_true rfl) ⟨Nat.le_of_ble_eq_true rfl, Nat.le_of_ble_eq_true rfl⟩ (Nat.le_of_ble_eq_true rfl) (Nat.le_of_ble_eq_true rfl) rfl (fun v9 T9 z9 _ => z9.elim) (fun j9 T9 x9 _ => ?_)
  obtain ⟨rfl, rfl⟩ := x9
  refine am_catch (I := iL_contract) (E9 := "java/lang/IllegalArgumentException") (nm9 := "java/lang/IllegalArgumentException") (hp := 22) (i := 3) (k := 23) (L' := [some (.ref 1), some (.int p0), some (.ref 45), none]) [(0, 16, 19, 13)] [] (0, 16, 22, 15) rfl rfl (fun z hz => ?_) (by decide) (by decide) (by decide +kernel) (by decide +kernel) rfl (Or.inr ⟨3, dL_contract_22, rfl, rfl⟩) (by decide) rfl ?_
  · rcases List.mem_singleton.mp hz with rfl
    exact ⟨by decide, "java/lang/IllegalStateException", by decide +kernel, by decide +kernel⟩
  show am_W _ _ _ _ _ _ _ _ _ _ _ _ _ _ _ 23 [some (.ref 1), some (.int p0), some (.ref 45), none] [] S 2 82
  refine am_iconst (I := iL_contract) (pc := 23) (x := 2) dL_contract_23 (by decide) ?_
  exact am_iret (I := iL_contract) (pc := 24) dL_contract_24 rfl (Nat.le_refl _) (Nat.le_refl _) (⟨rfl, rfl⟩)
set_option maxRecDepth 100000 in
set_option maxHeartbeats 4000000 in
theorem w_fingers (K : am_K) (l : Launch) (S : am_S) (o : Nat → Int64) (p0 p1 : Int32) (rr : Int32) (P : am_S → Prop) (fs : List Value) (h1 : S.1 1 = .inr (6, fs)) (hC : am_M K l iX6_fingers 8 2 82 [.ref 1, .int p0, .int p1] S (fun v S' => v = some (.int (rr)) ∧ P S') (fun _ _ => False)) (h45 : ∀ S', P S' → S'.1 45 = lo1 o) : am_M K l iL_fingers 9 2 82 [.ref 1, .int p0, .int p1, .ref 45] S (fun v S' => v = some (.int 0) ∧ ∃ S1, P S1 ∧ (am_up S1.1 45 (lo1 (vp_updL o 0 (rr).toInt64)), S1.2) = S') (fun _ _ => False) := by
  refine am_bodyH (by decide) rfl (by simp [Value.category]) (Nat.le_of_ble_eq_true rfl) (fun xp xe xs xm xa xb xt xc ad0 => ?_)
  show am_W _ _ _ _ _ _ _ _ _ _ _ _ _ _ _ 0 [some (.ref 1), some (.int p0), some (.int p1), some (.ref 45), none] [] S 0 0
  refine am_aload_n (I := iL_fingers) (pc := 0) dL_fingers_0 rfl rfl ?_
  refine am_iconst (I := iL_fingers) (pc := 1) (x := 0) dL_fingers_1 (by decide) ?_
  refine am_aload_n (I := iL_fingers) (pc := 2) dL_fingers_2 rfl rfl ?_
  refine am_iload_n (I := iL_fingers) (pc := 3) dL_fingers_3 rfl rfl ?_
  refine am_iload_n (I := iL_fingers) (pc := 4) dL_fingers_4 rfl rfl ?_
  refine am_callV (I := iL_fingers) (pc := 5) (st := [.int 0, .ref 45]) lv_L_48 hC dL_fingers_5 h1 rfl (Nat.le_of_ble_eq_true rfl) ⟨Nat.le_of_ble_eq_true rfl, Nat.le_of_ble_eq_true rfl⟩ (Nat.le_of_ble_eq_true rfl) (Nat.le_of_ble_eq_true rfl) rfl (fun v9 T1 z9 _ => ?_) (fun _ _ h9 => h9.elim)
  obtain ⟨rfl, hP⟩ := z9
  have h5 := h45 T1 hP
  show am_W _ _ _ _ _ _ _ _ _ _ _ _ _ _ _ 8 [some (.ref 1), some (.int p0), some (.int p1), some (.ref 45), none] [.int (rr), .int 0, .ref 45] T1 2 82
  refine am_i2l (I := iL_fingers) (pc := 8) dL_fingers_8 ?_
  refine am_lastore (I := iL_fingers) (pc := 9) dL_fingers_9 h5 rfl (vp_in_nI (show 0 < 1 by decide) (by decide)) ?_
  generalize eT2 : ((am_up T1.1 45 (.inl (1, 1, .inr (.inl (vp_updL o (0 : Int32).toNatClampNeg ((rr).toInt64))))), T1.2) : am_S) = T2
  have k1 : T2.1 45 = (.inl (1, 1, .inr (.inl (vp_updL o (0 : Int32).toNatClampNeg ((rr).toInt64))))) := by rw [← eT2]; exact am_up_s (h := T1.1) (a := 45)
  refine am_goto (I := iL_fingers) (pc := 10) (tgt := 17) dL_fingers_10 (by decide) ?_
  refine am_iconst (I := iL_fingers) (pc := 17) (x := 0) dL_fingers_17 (by decide) ?_
  exact am_iret (I := iL_fingers) (pc := 18) dL_fingers_18 rfl (Nat.le_refl _) (Nat.le_refl _) (⟨rfl, T1, hP, eT2⟩)
set_option maxRecDepth 100000 in
set_option maxHeartbeats 4000000 in
theorem w_fingers_x0 (K : am_K) (l : Launch) (S : am_S) (p0 p1 : Int32) (fs : List Value) (h1 : S.1 1 = .inr (6, fs)) (hC : am_M K l iX6_fingers 8 2 82 [.ref 1, .int p0, .int p1] S (fun _ _ => False) (fun j S' => j = 0 ∧ S = S')) : am_M K l iL_fingers 9 2 82 [.ref 1, .int p0, .int p1, .ref 45] S (fun v S' => v = some (.int 1) ∧ S = S') (fun _ _ => False) := by
  refine am_bodyH (by decide) rfl (by simp [Value.category]) (Nat.le_of_ble_eq_true rfl) (fun xp xe xs xm xa xb xt xc ad0 => ?_)
  show am_W _ _ _ _ _ _ _ _ _ _ _ _ _ _ _ 0 [some (.ref 1), some (.int p0), some (.int p1), some (.ref 45), none] [] S 0 0
  refine am_aload_n (I := iL_fingers) (pc := 0) dL_fingers_0 rfl rfl ?_
  refine am_iconst (I := iL_fingers) (pc := 1) (x := 0) dL_fingers_1 (by decide) ?_
  refine am_aload_n (I := iL_fingers) (pc := 2) dL_fingers_2 rfl rfl ?_
  refine am_iload_n (I := iL_fingers) (pc := 3) dL_fingers_3 rfl rfl ?_
  refine am_iload_n (I := iL_fingers) (pc := 4) dL_fingers_4 rfl rfl ?_
  refine am_callV (I := iL_fingers) (pc := 5) (st := [.int 0, .ref 45]) lv_L_48 hC dL_fingers_5 h1 rfl (Nat.le_of_ble_eq_true rfl) ⟨Nat.le_of_ble_eq_true rfl, Nat.le_of_ble_eq_true rfl⟩ (Nat.le_of_ble_eq_true rfl) (Nat.le_of_ble_eq_true rfl) rfl (fun v9 T9 z9 _ => z9.elim) (fun j9 T9 x9 _ => ?_)
  obtain ⟨rfl, rfl⟩ := x9
  refine am_catch (I := iL_fingers) (E9 := "java/lang/IndexOutOfBoundsException") (nm9 := "java/lang/IndexOutOfBoundsException") (hp := 13) (i := 4) (k := 15) (L' := [some (.ref 1), some (.int p0), some (.int p1), some (.ref 45), none]) [] [] (0, 10, 13, 21) rfl rfl (fun z hz => ?_) (by decide) (by decide) (by decide +kernel) (by decide +kernel) rfl (Or.inl ⟨dL_fingers_13, rfl⟩) (by decide) rfl ?_
  · cases hz
  show am_W _ _ _ _ _ _ _ _ _ _ _ _ _ _ _ 15 [some (.ref 1), some (.int p0), some (.int p1), some (.ref 45), none] [] S 2 82
  refine am_iconst (I := iL_fingers) (pc := 15) (x := 1) dL_fingers_15 (by decide) ?_
  exact am_iret (I := iL_fingers) (pc := 16) dL_fingers_16 rfl (Nat.le_refl _) (Nat.le_refl _) (⟨rfl, rfl⟩)
set_option maxRecDepth 100000 in
set_option maxHeartbeats 4000000 in
theorem w_cell (K : am_K) (l : Launch) (S : am_S) (o : Nat → Int64) (p0 : Int32) (rr : Int32) (P : am_S → Prop) (fs : List Value) (h1 : S.1 1 = .inr (6, fs)) (hC : am_M K l iX6_cell 8 2 82 [.ref 1, .int p0] S (fun v S' => v = some (.int (rr)) ∧ P S') (fun _ _ => False)) (h45 : ∀ S', P S' → S'.1 45 = lo1 o) : am_M K l iL_cell 9 2 82 [.ref 1, .int p0, .ref 45] S (fun v S' => v = some (.int 0) ∧ ∃ S1, P S1 ∧ (am_up S1.1 45 (lo1 (vp_updL o 0 (rr).toInt64)), S1.2) = S') (fun _ _ => False) := by
  refine am_bodyH (by decide) rfl (by simp [Value.category]) (Nat.le_of_ble_eq_true rfl) (fun xp xe xs xm xa xb xt xc ad0 => ?_)
  show am_W _ _ _ _ _ _ _ _ _ _ _ _ _ _ _ 0 [some (.ref 1), some (.int p0), some (.ref 45), none] [] S 0 0
  refine am_aload_n (I := iL_cell) (pc := 0) dL_cell_0 rfl rfl ?_
  refine am_iconst (I := iL_cell) (pc := 1) (x := 0) dL_cell_1 (by decide) ?_
  refine am_aload_n (I := iL_cell) (pc := 2) dL_cell_2 rfl rfl ?_
  refine am_iload_n (I := iL_cell) (pc := 3) dL_cell_3 rfl rfl ?_
  refine am_callV (I := iL_cell) (pc := 4) (st := [.int 0, .ref 45]) lv_L_51 hC dL_cell_4 h1 rfl (Nat.le_of_ble_eq_true rfl) ⟨Nat.le_of_ble_eq_true rfl, Nat.le_of_ble_eq_true rfl⟩ (Nat.le_of_ble_eq_true rfl) (Nat.le_of_ble_eq_true rfl) rfl (fun v9 T1 z9 _ => ?_) (fun _ _ h9 => h9.elim)
  obtain ⟨rfl, hP⟩ := z9
  have h5 := h45 T1 hP
  show am_W _ _ _ _ _ _ _ _ _ _ _ _ _ _ _ 7 [some (.ref 1), some (.int p0), some (.ref 45), none] [.int (rr), .int 0, .ref 45] T1 2 82
  refine am_i2l (I := iL_cell) (pc := 7) dL_cell_7 ?_
  refine am_lastore (I := iL_cell) (pc := 8) dL_cell_8 h5 rfl (vp_in_nI (show 0 < 1 by decide) (by decide)) ?_
  generalize eT2 : ((am_up T1.1 45 (.inl (1, 1, .inr (.inl (vp_updL o (0 : Int32).toNatClampNeg ((rr).toInt64))))), T1.2) : am_S) = T2
  have k1 : T2.1 45 = (.inl (1, 1, .inr (.inl (vp_updL o (0 : Int32).toNatClampNeg ((rr).toInt64))))) := by rw [← eT2]; exact am_up_s (h := T1.1) (a := 45)
  refine am_goto (I := iL_cell) (pc := 9) (tgt := 15) dL_cell_9 (by decide) ?_
  refine am_iconst (I := iL_cell) (pc := 15) (x := 0) dL_cell_15 (by decide) ?_
  exact am_iret (I := iL_cell) (pc := 16) dL_cell_16 rfl (Nat.le_refl _) (Nat.le_refl _) (⟨rfl, T1, hP, eT2⟩)
set_option maxRecDepth 100000 in
set_option maxHeartbeats 4000000 in
theorem w_cell_x0 (K : am_K) (l : Launch) (S : am_S) (p0 : Int32) (fs : List Value) (h1 : S.1 1 = .inr (6, fs)) (hC : am_M K l iX6_cell 8 2 82 [.ref 1, .int p0] S (fun _ _ => False) (fun j S' => j = 0 ∧ S = S')) : am_M K l iL_cell 9 2 82 [.ref 1, .int p0, .ref 45] S (fun v S' => v = some (.int 1) ∧ S = S') (fun _ _ => False) := by
  refine am_bodyH (by decide) rfl (by simp [Value.category]) (Nat.le_of_ble_eq_true rfl) (fun xp xe xs xm xa xb xt xc ad0 => ?_)
  show am_W _ _ _ _ _ _ _ _ _ _ _ _ _ _ _ 0 [some (.ref 1), some (.int p0), some (.ref 45), none] [] S 0 0
  refine am_aload_n (I := iL_cell) (pc := 0) dL_cell_0 rfl rfl ?_
  refine am_iconst (I := iL_cell) (pc := 1) (x := 0) dL_cell_1 (by decide) ?_
  refine am_aload_n (I := iL_cell) (pc := 2) dL_cell_2 rfl rfl ?_
  refine am_iload_n (I := iL_cell) (pc := 3) dL_cell_3 rfl rfl ?_
  refine am_callV (I := iL_cell) (pc := 4) (st := [.int 0, .ref 45]) lv_L_51 hC dL_cell_4 h1 rfl (Nat.le_of_ble_eq_true rfl) ⟨Nat.le_of_ble_eq_true rfl, Nat.le_of_ble_eq_true rfl⟩ (Nat.le_of_ble_eq_true rfl) (Nat.le_of_ble_eq_true rfl) rfl (fun v9 T9 z9 _ => z9.elim) (fun j9 T9 x9 _ => ?_)
  obtain ⟨rfl, rfl⟩ := x9
  refine am_catch (I := iL_cell) (E9 := "java/lang/IndexOutOfBoundsException") (nm9 := "java/lang/IndexOutOfBoundsException") (hp := 12) (i := 3) (k := 13) (L' := [some (.ref 1), some (.int p0), some (.ref 45), none]) [] [] (0, 9, 12, 21) rfl rfl (fun z hz => ?_) (by decide) (by decide) (by decide +kernel) (by decide +kernel) rfl (Or.inr ⟨3, dL_cell_12, rfl, rfl⟩) (by decide) rfl ?_
  · cases hz
  show am_W _ _ _ _ _ _ _ _ _ _ _ _ _ _ _ 13 [some (.ref 1), some (.int p0), some (.ref 45), none] [] S 2 82
  refine am_iconst (I := iL_cell) (pc := 13) (x := 1) dL_cell_13 (by decide) ?_
  exact am_iret (I := iL_cell) (pc := 14) dL_cell_14 rfl (Nat.le_refl _) (Nat.le_refl _) (⟨rfl, rfl⟩)
set_option maxRecDepth 100000 in
set_option maxHeartbeats 4000000 in
theorem w_back (K : am_K) (l : Launch) (S : am_S) (o : Nat → Int64)  (rr : Int32) (P : am_S → Prop) (fs : List Value) (h1 : S.1 1 = .inr (6, fs)) (hC : am_M K l iX6_back 8 2 82 [.ref 1] S (fun v S' => v = some (.int (rr)) ∧ P S') (fun _ _ => False)) (h45 : ∀ S', P S' → S'.1 45 = lo1 o) : am_M K l iL_back 9 2 82 [.ref 1, .ref 45] S (fun v S' => v = some (.int 0) ∧ ∃ S1, P S1 ∧ (am_up S1.1 45 (lo1 (vp_updL o 0 (rr).toInt64)), S1.2) = S') (fun _ _ => False) := by
  refine am_bodyH (by decide) rfl (by simp [Value.category]) (Nat.le_of_ble_eq_true rfl) (fun xp xe xs xm xa xb xt xc ad0 => ?_)
  show am_W _ _ _ _ _ _ _ _ _ _ _ _ _ _ _ 0 [some (.ref 1), some (.ref 45), none] [] S 0 0
  refine am_aload_n (I := iL_back) (pc := 0) dL_back_0 rfl rfl ?_
  refine am_iconst (I := iL_back) (pc := 1) (x := 0) dL_back_1 (by decide) ?_
  refine am_aload_n (I := iL_back) (pc := 2) dL_back_2 rfl rfl ?_
  refine am_callV (I := iL_back) (pc := 3) (st := [.int 0, .ref 45]) lv_L_54 hC dL_back_3 h1 rfl (Nat.le_of_ble_eq_true rfl) ⟨Nat.le_of_ble_eq_true rfl, Nat.le_of_ble_eq_true rfl⟩ (Nat.le_of_ble_eq_true rfl) (Nat.le_of_ble_eq_true rfl) rfl (fun v9 T1 z9 _ => ?_) (fun _ _ h9 => h9.elim)
  obtain ⟨rfl, hP⟩ := z9
  have h5 := h45 T1 hP
  show am_W _ _ _ _ _ _ _ _ _ _ _ _ _ _ _ 6 [some (.ref 1), some (.ref 45), none] [.int (rr), .int 0, .ref 45] T1 2 82
  refine am_i2l (I := iL_back) (pc := 6) dL_back_6 ?_
  refine am_lastore (I := iL_back) (pc := 7) dL_back_7 h5 rfl (vp_in_nI (show 0 < 1 by decide) (by decide)) ?_
  generalize eT2 : ((am_up T1.1 45 (.inl (1, 1, .inr (.inl (vp_updL o (0 : Int32).toNatClampNeg ((rr).toInt64))))), T1.2) : am_S) = T2
  have k1 : T2.1 45 = (.inl (1, 1, .inr (.inl (vp_updL o (0 : Int32).toNatClampNeg ((rr).toInt64))))) := by rw [← eT2]; exact am_up_s (h := T1.1) (a := 45)
  refine am_goto (I := iL_back) (pc := 8) (tgt := 14) dL_back_8 (by decide) ?_
  refine am_iconst (I := iL_back) (pc := 14) (x := 0) dL_back_14 (by decide) ?_
  exact am_iret (I := iL_back) (pc := 15) dL_back_15 rfl (Nat.le_refl _) (Nat.le_refl _) (⟨rfl, T1, hP, eT2⟩)
set_option maxRecDepth 100000 in
set_option maxHeartbeats 4000000 in
theorem w_back_x1 (K : am_K) (l : Launch) (S : am_S)  (fs : List Value) (h1 : S.1 1 = .inr (6, fs)) (hC : am_M K l iX6_back 8 2 82 [.ref 1] S (fun _ _ => False) (fun j S' => j = 1 ∧ S = S')) : am_M K l iL_back 9 2 82 [.ref 1, .ref 45] S (fun v S' => v = some (.int 1) ∧ S = S') (fun _ _ => False) := by
  refine am_bodyH (by decide) rfl (by simp [Value.category]) (Nat.le_of_ble_eq_true rfl) (fun xp xe xs xm xa xb xt xc ad0 => ?_)
  show am_W _ _ _ _ _ _ _ _ _ _ _ _ _ _ _ 0 [some (.ref 1), some (.ref 45), none] [] S 0 0
  refine am_aload_n (I := iL_back) (pc := 0) dL_back_0 rfl rfl ?_
  refine am_iconst (I := iL_back) (pc := 1) (x := 0) dL_back_1 (by decide) ?_
  refine am_aload_n (I := iL_back) (pc := 2) dL_back_2 rfl rfl ?_
  refine am_callV (I := iL_back) (pc := 3) (st := [.int 0, .ref 45]) lv_L_54 hC dL_back_3 h1 rfl (Nat.le_of_ble_eq_true rfl) ⟨Nat.le_of_ble_eq_true rfl, Nat.le_of_ble_eq_true rfl⟩ (Nat.le_of_ble_eq_true rfl) (Nat.le_of_ble_eq_true rfl) rfl (fun v9 T9 z9 _ => z9.elim) (fun j9 T9 x9 _ => ?_)
  obtain ⟨rfl, rfl⟩ := x9
  refine am_catch (I := iL_back) (E9 := "java/lang/IllegalStateException") (nm9 := "java/lang/IllegalStateException") (hp := 11) (i := 2) (k := 12) (L' := [some (.ref 1), some (.ref 45), none]) [] [] (0, 8, 11, 13) rfl rfl (fun z hz => ?_) (by decide) (by decide) (by decide +kernel) (by decide +kernel) rfl (Or.inr ⟨2, dL_back_11, rfl, rfl⟩) (by decide) rfl ?_
  · cases hz
  show am_W _ _ _ _ _ _ _ _ _ _ _ _ _ _ _ 12 [some (.ref 1), some (.ref 45), none] [] S 2 82
  refine am_iconst (I := iL_back) (pc := 12) (x := 1) dL_back_12 (by decide) ?_
  exact am_iret (I := iL_back) (pc := 13) dL_back_13 rfl (Nat.le_refl _) (Nat.le_refl _) (⟨rfl, rfl⟩)
set_option maxRecDepth 100000 in
set_option maxHeartbeats 4000000 in
theorem w_zone (K : am_K) (l : Launch) (S : am_S) (o : Nat → Int64) (p0 p1 p2 : Int32) (rr : Int32) (P : am_S → Prop) (fs : List Value) (h1 : S.1 1 = .inr (6, fs)) (hC : am_M K l iX6_zone 8 2 82 [.ref 1, .int p0, .int p1, .int p2] S (fun v S' => v = some (.int (rr)) ∧ P S') (fun _ _ => False)) (h45 : ∀ S', P S' → S'.1 45 = lo1 o) : am_M K l iL_zone 9 2 82 [.ref 1, .int p0, .int p1, .int p2, .ref 45] S (fun v S' => v = some (.int 0) ∧ ∃ S1, P S1 ∧ (am_up S1.1 45 (lo1 (vp_updL o 0 (rr).toInt64)), S1.2) = S') (fun _ _ => False) := by
  refine am_bodyH (by decide) rfl (by simp [Value.category]) (Nat.le_of_ble_eq_true rfl) (fun xp xe xs xm xa xb xt xc ad0 => ?_)
  show am_W _ _ _ _ _ _ _ _ _ _ _ _ _ _ _ 0 [some (.ref 1), some (.int p0), some (.int p1), some (.int p2), some (.ref 45), none] [] S 0 0
  refine am_aload (I := iL_zone) (pc := 0) dL_zone_0 rfl ?_
  refine am_iconst (I := iL_zone) (pc := 2) (x := 0) dL_zone_2 (by decide) ?_
  refine am_aload_n (I := iL_zone) (pc := 3) dL_zone_3 rfl rfl ?_
  refine am_iload_n (I := iL_zone) (pc := 4) dL_zone_4 rfl rfl ?_
  refine am_iload_n (I := iL_zone) (pc := 5) dL_zone_5 rfl rfl ?_
  refine am_iload_n (I := iL_zone) (pc := 6) dL_zone_6 rfl rfl ?_
  refine am_callV (I := iL_zone) (pc := 7) (st := [.int 0, .ref 45]) lv_L_58 hC dL_zone_7 h1 rfl (Nat.le_of_ble_eq_true rfl) ⟨Nat.le_of_ble_eq_true rfl, Nat.le_of_ble_eq_true rfl⟩ (Nat.le_of_ble_eq_true rfl) (Nat.le_of_ble_eq_true rfl) rfl (fun v9 T1 z9 _ => ?_) (fun _ _ h9 => h9.elim)
  obtain ⟨rfl, hP⟩ := z9
  have h5 := h45 T1 hP
  show am_W _ _ _ _ _ _ _ _ _ _ _ _ _ _ _ 10 [some (.ref 1), some (.int p0), some (.int p1), some (.int p2), some (.ref 45), none] [.int (rr), .int 0, .ref 45] T1 2 82
  refine am_i2l (I := iL_zone) (pc := 10) dL_zone_10 ?_
  refine am_lastore (I := iL_zone) (pc := 11) dL_zone_11 h5 rfl (vp_in_nI (show 0 < 1 by decide) (by decide)) ?_
  generalize eT2 : ((am_up T1.1 45 (.inl (1, 1, .inr (.inl (vp_updL o (0 : Int32).toNatClampNeg ((rr).toInt64))))), T1.2) : am_S) = T2
  have k1 : T2.1 45 = (.inl (1, 1, .inr (.inl (vp_updL o (0 : Int32).toNatClampNeg ((rr).toInt64))))) := by rw [← eT2]; exact am_up_s (h := T1.1) (a := 45)
  refine am_goto (I := iL_zone) (pc := 12) (tgt := 23) dL_zone_12 (by decide) ?_
  refine am_iconst (I := iL_zone) (pc := 23) (x := 0) dL_zone_23 (by decide) ?_
  exact am_iret (I := iL_zone) (pc := 24) dL_zone_24 rfl (Nat.le_refl _) (Nat.le_refl _) (⟨rfl, T1, hP, eT2⟩)
set_option maxRecDepth 100000 in
set_option maxHeartbeats 4000000 in
theorem w_zone_x1 (K : am_K) (l : Launch) (S : am_S) (p0 p1 p2 : Int32) (fs : List Value) (h1 : S.1 1 = .inr (6, fs)) (hC : am_M K l iX6_zone 8 2 82 [.ref 1, .int p0, .int p1, .int p2] S (fun _ _ => False) (fun j S' => j = 1 ∧ S = S')) : am_M K l iL_zone 9 2 82 [.ref 1, .int p0, .int p1, .int p2, .ref 45] S (fun v S' => v = some (.int 1) ∧ S = S') (fun _ _ => False) := by
  refine am_bodyH (by decide) rfl (by simp [Value.category]) (Nat.le_of_ble_eq_true rfl) (fun xp xe xs xm xa xb xt xc ad0 => ?_)
  show am_W _ _ _ _ _ _ _ _ _ _ _ _ _ _ _ 0 [some (.ref 1), some (.int p0), some (.int p1), some (.int p2), some (.ref 45), none] [] S 0 0
  refine am_aload (I := iL_zone) (pc := 0) dL_zone_0 rfl ?_
  refine am_iconst (I := iL_zone) (pc := 2) (x := 0) dL_zone_2 (by decide) ?_
  refine am_aload_n (I := iL_zone) (pc := 3) dL_zone_3 rfl rfl ?_
  refine am_iload_n (I := iL_zone) (pc := 4) dL_zone_4 rfl rfl ?_
  refine am_iload_n (I := iL_zone) (pc := 5) dL_zone_5 rfl rfl ?_
  refine am_iload_n (I := iL_zone) (pc := 6) dL_zone_6 rfl rfl ?_
  refine am_callV (I := iL_zone) (pc := 7) (st := [.int 0, .ref 45]) lv_L_58 hC dL_zone_7 h1 rfl (Nat.le_of_ble_eq_true rfl) ⟨Nat.le_of_ble_eq_true rfl, Nat.le_of_ble_eq_true rfl⟩ (Nat.le_of_ble_eq_true rfl) (Nat.le_of_ble_eq_true rfl) rfl (fun v9 T9 z9 _ => z9.elim) (fun j9 T9 x9 _ => ?_)
  obtain ⟨rfl, rfl⟩ := x9
  refine am_catch (I := iL_zone) (E9 := "java/lang/IllegalStateException") (nm9 := "java/lang/IllegalStateException") (hp := 15) (i := 5) (k := 17) (L' := [some (.ref 1), some (.int p0), some (.int p1), some (.int p2), some (.ref 45), none]) [] [(0, 12, 19, 15)] (0, 12, 15, 13) rfl rfl (fun z hz => ?_) (by decide) (by decide) (by decide +kernel) (by decide +kernel) rfl (Or.inl ⟨dL_zone_15, rfl⟩) (by decide) rfl ?_
  · cases hz
  show am_W _ _ _ _ _ _ _ _ _ _ _ _ _ _ _ 17 [some (.ref 1), some (.int p0), some (.int p1), some (.int p2), some (.ref 45), none] [] S 2 82
  refine am_iconst (I := iL_zone) (pc := 17) (x := 1) dL_zone_17 (by decide) ?_
  exact am_iret (I := iL_zone) (pc := 18) dL_zone_18 rfl (Nat.le_refl _) (Nat.le_refl _) (⟨rfl, rfl⟩)
set_option maxRecDepth 100000 in
set_option maxHeartbeats 4000000 in
theorem w_zone_x2 (K : am_K) (l : Launch) (S : am_S) (p0 p1 p2 : Int32) (fs : List Value) (h1 : S.1 1 = .inr (6, fs)) (hC : am_M K l iX6_zone 8 2 82 [.ref 1, .int p0, .int p1, .int p2] S (fun _ _ => False) (fun j S' => j = 2 ∧ S = S')) : am_M K l iL_zone 9 2 82 [.ref 1, .int p0, .int p1, .int p2, .ref 45] S (fun v S' => v = some (.int 2) ∧ S = S') (fun _ _ => False) := by
  refine am_bodyH (by decide) rfl (by simp [Value.category]) (Nat.le_of_ble_eq_true rfl) (fun xp xe xs xm xa xb xt xc ad0 => ?_)
  show am_W _ _ _ _ _ _ _ _ _ _ _ _ _ _ _ 0 [some (.ref 1), some (.int p0), some (.int p1), some (.int p2), some (.ref 45), none] [] S 0 0
  refine am_aload (I := iL_zone) (pc := 0) dL_zone_0 rfl ?_
  refine am_iconst (I := iL_zone) (pc := 2) (x := 0) dL_zone_2 (by decide) ?_
  refine am_aload_n (I := iL_zone) (pc := 3) dL_zone_3 rfl rfl ?_
  refine am_iload_n (I := iL_zone) (pc := 4) dL_zone_4 rfl rfl ?_
  refine am_iload_n (I := iL_zone) (pc := 5) dL_zone_5 rfl rfl ?_
  refine am_iload_n (I := iL_zone) (pc := 6) dL_zone_6 rfl rfl ?_
  refine am_callV (I := iL_zone) (pc := 7) (st := [.int 0, .ref 45]) lv_L_58 hC dL_zone_7 h1 rfl (Nat.le_of_ble_eq_true rfl) ⟨Nat.le_of_ble_eq_true rfl, Nat.le_of_ble_eq_true rfl⟩ (Nat.le_of_ble_eq_true rfl) (Nat.le_of_ble_eq_true rfl) rfl (fun v9 T9 z9 _ => z9.elim) (fun j9 T9 x9 _ => ?_)
  obtain ⟨rfl, rfl⟩ := x9
  refine am_catch (I := iL_zone) (E9 := "java/lang/IllegalArgumentException") (nm9 := "java/lang/IllegalArgumentException") (hp := 19) (i := 5) (k := 21) (L' := [some (.ref 1), some (.int p0), some (.int p1), some (.int p2), some (.ref 45), none]) [(0, 12, 15, 13)] [] (0, 12, 19, 15) rfl rfl (fun z hz => ?_) (by decide) (by decide) (by decide +kernel) (by decide +kernel) rfl (Or.inl ⟨dL_zone_19, rfl⟩) (by decide) rfl ?_
  · rcases List.mem_singleton.mp hz with rfl
    exact ⟨by decide, "java/lang/IllegalStateException", by decide +kernel, by decide +kernel⟩
  show am_W _ _ _ _ _ _ _ _ _ _ _ _ _ _ _ 21 [some (.ref 1), some (.int p0), some (.int p1), some (.int p2), some (.ref 45), none] [] S 2 82
  refine am_iconst (I := iL_zone) (pc := 21) (x := 2) dL_zone_21 (by decide) ?_
  exact am_iret (I := iL_zone) (pc := 22) dL_zone_22 rfl (Nat.le_refl _) (Nat.le_refl _) (⟨rfl, rfl⟩)
set_option maxRecDepth 100000 in
set_option maxHeartbeats 4000000 in
theorem w_heard (K : am_K) (l : Launch) (S : am_S) (o : Nat → Int64) (p0 p1 : Int32) (rr : Int32) (P : am_S → Prop) (fs : List Value) (h1 : S.1 1 = .inr (6, fs)) (hC : am_M K l iX6_heard 8 2 82 [.ref 1, .int p0, .int p1] S (fun v S' => v = some (.int (rr)) ∧ P S') (fun _ _ => False)) (h45 : ∀ S', P S' → S'.1 45 = lo1 o) : am_M K l iL_heard 9 2 82 [.ref 1, .int p0, .int p1, .ref 45] S (fun v S' => v = some (.int 0) ∧ ∃ S1, P S1 ∧ (am_up S1.1 45 (lo1 (vp_updL o 0 (rr).toInt64)), S1.2) = S') (fun _ _ => False) := by
  refine am_bodyH (by decide) rfl (by simp [Value.category]) (Nat.le_of_ble_eq_true rfl) (fun xp xe xs xm xa xb xt xc ad0 => ?_)
  show am_W _ _ _ _ _ _ _ _ _ _ _ _ _ _ _ 0 [some (.ref 1), some (.int p0), some (.int p1), some (.ref 45), none] [] S 0 0
  refine am_aload_n (I := iL_heard) (pc := 0) dL_heard_0 rfl rfl ?_
  refine am_iconst (I := iL_heard) (pc := 1) (x := 0) dL_heard_1 (by decide) ?_
  refine am_aload_n (I := iL_heard) (pc := 2) dL_heard_2 rfl rfl ?_
  refine am_iload_n (I := iL_heard) (pc := 3) dL_heard_3 rfl rfl ?_
  refine am_iload_n (I := iL_heard) (pc := 4) dL_heard_4 rfl rfl ?_
  refine am_callV (I := iL_heard) (pc := 5) (st := [.int 0, .ref 45]) lv_L_61 hC dL_heard_5 h1 rfl (Nat.le_of_ble_eq_true rfl) ⟨Nat.le_of_ble_eq_true rfl, Nat.le_of_ble_eq_true rfl⟩ (Nat.le_of_ble_eq_true rfl) (Nat.le_of_ble_eq_true rfl) rfl (fun v9 T1 z9 _ => ?_) (fun _ _ h9 => h9.elim)
  obtain ⟨rfl, hP⟩ := z9
  have h5 := h45 T1 hP
  show am_W _ _ _ _ _ _ _ _ _ _ _ _ _ _ _ 8 [some (.ref 1), some (.int p0), some (.int p1), some (.ref 45), none] [.int (rr), .int 0, .ref 45] T1 2 82
  refine am_i2l (I := iL_heard) (pc := 8) dL_heard_8 ?_
  refine am_lastore (I := iL_heard) (pc := 9) dL_heard_9 h5 rfl (vp_in_nI (show 0 < 1 by decide) (by decide)) ?_
  generalize eT2 : ((am_up T1.1 45 (.inl (1, 1, .inr (.inl (vp_updL o (0 : Int32).toNatClampNeg ((rr).toInt64))))), T1.2) : am_S) = T2
  have k1 : T2.1 45 = (.inl (1, 1, .inr (.inl (vp_updL o (0 : Int32).toNatClampNeg ((rr).toInt64))))) := by rw [← eT2]; exact am_up_s (h := T1.1) (a := 45)
  refine am_goto (I := iL_heard) (pc := 10) (tgt := 17) dL_heard_10 (by decide) ?_
  refine am_iconst (I := iL_heard) (pc := 17) (x := 0) dL_heard_17 (by decide) ?_
  exact am_iret (I := iL_heard) (pc := 18) dL_heard_18 rfl (Nat.le_refl _) (Nat.le_refl _) (⟨rfl, T1, hP, eT2⟩)
set_option maxRecDepth 100000 in
set_option maxHeartbeats 4000000 in
theorem w_heard_x2 (K : am_K) (l : Launch) (S : am_S) (p0 p1 : Int32) (fs : List Value) (h1 : S.1 1 = .inr (6, fs)) (hC : am_M K l iX6_heard 8 2 82 [.ref 1, .int p0, .int p1] S (fun _ _ => False) (fun j S' => j = 2 ∧ S = S')) : am_M K l iL_heard 9 2 82 [.ref 1, .int p0, .int p1, .ref 45] S (fun v S' => v = some (.int 1) ∧ S = S') (fun _ _ => False) := by
  refine am_bodyH (by decide) rfl (by simp [Value.category]) (Nat.le_of_ble_eq_true rfl) (fun xp xe xs xm xa xb xt xc ad0 => ?_)
  show am_W _ _ _ _ _ _ _ _ _ _ _ _ _ _ _ 0 [some (.ref 1), some (.int p0), some (.int p1), some (.ref 45), none] [] S 0 0
  refine am_aload_n (I := iL_heard) (pc := 0) dL_heard_0 rfl rfl ?_
  refine am_iconst (I := iL_heard) (pc := 1) (x := 0) dL_heard_1 (by decide) ?_
  refine am_aload_n (I := iL_heard) (pc := 2) dL_heard_2 rfl rfl ?_
  refine am_iload_n (I := iL_heard) (pc := 3) dL_heard_3 rfl rfl ?_
  refine am_iload_n (I := iL_heard) (pc := 4) dL_heard_4 rfl rfl ?_
  refine am_callV (I := iL_heard) (pc := 5) (st := [.int 0, .ref 45]) lv_L_61 hC dL_heard_5 h1 rfl (Nat.le_of_ble_eq_true rfl) ⟨Nat.le_of_ble_eq_true rfl, Nat.le_of_ble_eq_true rfl⟩ (Nat.le_of_ble_eq_true rfl) (Nat.le_of_ble_eq_true rfl) rfl (fun v9 T9 z9 _ => z9.elim) (fun j9 T9 x9 _ => ?_)
  obtain ⟨rfl, rfl⟩ := x9
  refine am_catch (I := iL_heard) (E9 := "java/lang/IllegalArgumentException") (nm9 := "java/lang/IllegalArgumentException") (hp := 13) (i := 4) (k := 15) (L' := [some (.ref 1), some (.int p0), some (.int p1), some (.ref 45), none]) [] [] (0, 10, 13, 15) rfl rfl (fun z hz => ?_) (by decide) (by decide) (by decide +kernel) (by decide +kernel) rfl (Or.inl ⟨dL_heard_13, rfl⟩) (by decide) rfl ?_
  · cases hz
  show am_W _ _ _ _ _ _ _ _ _ _ _ _ _ _ _ 15 [some (.ref 1), some (.int p0), some (.int p1), some (.ref 45), none] [] S 2 82
  refine am_iconst (I := iL_heard) (pc := 15) (x := 1) dL_heard_15 (by decide) ?_
  exact am_iret (I := iL_heard) (pc := 16) dL_heard_16 rfl (Nat.le_refl _) (Nat.le_refl _) (⟨rfl, rfl⟩)
set_option maxRecDepth 100000 in
set_option maxHeartbeats 4000000 in
theorem w_way (K : am_K) (l : Launch) (S : am_S) (o : Nat → Int64) (p0 p1 p2 : Int32) (rr : Bool) (P : am_S → Prop) (fs : List Value) (h1 : S.1 1 = .inr (6, fs)) (hC : am_M K l iX6_way 8 2 82 [.ref 1, .int p0, .int p1, .int p2] S (fun v S' => v = some (.int (bI rr)) ∧ P S') (fun _ _ => False)) (h45 : ∀ S', P S' → S'.1 45 = lo1 o) : am_M K l iL_way 9 2 82 [.ref 1, .int p0, .int p1, .int p2, .ref 45] S (fun v S' => v = some (.int 0) ∧ ∃ S1, P S1 ∧ (am_up S1.1 45 (lo1 (vp_updL o 0 (bI rr).toInt64)), S1.2) = S') (fun _ _ => False) := by
  refine am_bodyH (by decide) rfl (by simp [Value.category]) (Nat.le_of_ble_eq_true rfl) (fun xp xe xs xm xa xb xt xc ad0 => ?_)
  show am_W _ _ _ _ _ _ _ _ _ _ _ _ _ _ _ 0 [some (.ref 1), some (.int p0), some (.int p1), some (.int p2), some (.ref 45), none] [] S 0 0
  refine am_aload (I := iL_way) (pc := 0) dL_way_0 rfl ?_
  refine am_iconst (I := iL_way) (pc := 2) (x := 0) dL_way_2 (by decide) ?_
  refine am_aload_n (I := iL_way) (pc := 3) dL_way_3 rfl rfl ?_
  refine am_iload_n (I := iL_way) (pc := 4) dL_way_4 rfl rfl ?_
  refine am_iload_n (I := iL_way) (pc := 5) dL_way_5 rfl rfl ?_
  refine am_iload_n (I := iL_way) (pc := 6) dL_way_6 rfl rfl ?_
  refine am_callV (I := iL_way) (pc := 7) (st := [.int 0, .ref 45]) lv_L_64 hC dL_way_7 h1 rfl (Nat.le_of_ble_eq_true rfl) ⟨Nat.le_of_ble_eq_true rfl, Nat.le_of_ble_eq_true rfl⟩ (Nat.le_of_ble_eq_true rfl) (Nat.le_of_ble_eq_true rfl) rfl (fun v9 T1 z9 _ => ?_) (fun _ _ h9 => h9.elim)
  obtain ⟨rfl, hP⟩ := z9
  have h5 := h45 T1 hP
  show am_W _ _ _ _ _ _ _ _ _ _ _ _ _ _ _ 10 [some (.ref 1), some (.int p0), some (.int p1), some (.int p2), some (.ref 45), none] [.int (bI rr), .int 0, .ref 45] T1 2 82
  refine am_if_eq (I := iL_way) (pc := 10) (tgt := 17) dL_way_10 (by decide) (fun c10 => ?_) (fun c10 => ?_)
  · refine am_lconst (I := iL_way) (pc := 17) (x := 0) dL_way_17 (by decide) ?_
    refine am_lastore (I := iL_way) (pc := 18) dL_way_18 h5 rfl (vp_in_nI (show 0 < 1 by decide) (by decide)) ?_
    generalize eT2 : ((am_up T1.1 45 (.inl (1, 1, .inr (.inl (vp_updL o (0 : Int32).toNatClampNeg 0)))), T1.2) : am_S) = T2
    have k1 : T2.1 45 = (.inl (1, 1, .inr (.inl (vp_updL o (0 : Int32).toNatClampNeg 0)))) := by rw [← eT2]; exact am_up_s (h := T1.1) (a := 45)
    refine am_goto (I := iL_way) (pc := 19) (tgt := 30) dL_way_19 (by decide) ?_
    refine am_iconst (I := iL_way) (pc := 30) (x := 0) dL_way_30 (by decide) ?_
    exact am_iret (I := iL_way) (pc := 31) dL_way_31 rfl (Nat.le_refl _) (Nat.le_refl _) (⟨rfl, T1, hP, by rw [c10]; exact eT2⟩)
  · refine am_lconst (I := iL_way) (pc := 13) (x := 1) dL_way_13 (by decide) ?_
    refine am_goto (I := iL_way) (pc := 14) (tgt := 18) dL_way_14 (by decide) ?_
    refine am_lastore (I := iL_way) (pc := 18) dL_way_18 h5 rfl (vp_in_nI (show 0 < 1 by decide) (by decide)) ?_
    generalize eT3 : ((am_up T1.1 45 (.inl (1, 1, .inr (.inl (vp_updL o (0 : Int32).toNatClampNeg 1)))), T1.2) : am_S) = T3
    have k2 : T3.1 45 = (.inl (1, 1, .inr (.inl (vp_updL o (0 : Int32).toNatClampNeg 1)))) := by rw [← eT3]; exact am_up_s (h := T1.1) (a := 45)
    refine am_goto (I := iL_way) (pc := 19) (tgt := 30) dL_way_19 (by decide) ?_
    refine am_iconst (I := iL_way) (pc := 30) (x := 0) dL_way_30 (by decide) ?_
    exact am_iret (I := iL_way) (pc := 31) dL_way_31 rfl (Nat.le_refl _) (Nat.le_refl _) (⟨rfl, T1, hP, by rw [bI_t (bI_1 c10)]; exact eT3⟩)
set_option maxRecDepth 100000 in
set_option maxHeartbeats 4000000 in
theorem w_way_x0 (K : am_K) (l : Launch) (S : am_S) (p0 p1 p2 : Int32) (fs : List Value) (h1 : S.1 1 = .inr (6, fs)) (hC : am_M K l iX6_way 8 2 82 [.ref 1, .int p0, .int p1, .int p2] S (fun _ _ => False) (fun j S' => j = 0 ∧ S = S')) : am_M K l iL_way 9 2 82 [.ref 1, .int p0, .int p1, .int p2, .ref 45] S (fun v S' => v = some (.int 1) ∧ S = S') (fun _ _ => False) := by
  refine am_bodyH (by decide) rfl (by simp [Value.category]) (Nat.le_of_ble_eq_true rfl) (fun xp xe xs xm xa xb xt xc ad0 => ?_)
  show am_W _ _ _ _ _ _ _ _ _ _ _ _ _ _ _ 0 [some (.ref 1), some (.int p0), some (.int p1), some (.int p2), some (.ref 45), none] [] S 0 0
  refine am_aload (I := iL_way) (pc := 0) dL_way_0 rfl ?_
  refine am_iconst (I := iL_way) (pc := 2) (x := 0) dL_way_2 (by decide) ?_
  refine am_aload_n (I := iL_way) (pc := 3) dL_way_3 rfl rfl ?_
  refine am_iload_n (I := iL_way) (pc := 4) dL_way_4 rfl rfl ?_
  refine am_iload_n (I := iL_way) (pc := 5) dL_way_5 rfl rfl ?_
  refine am_iload_n (I := iL_way) (pc := 6) dL_way_6 rfl rfl ?_
  refine am_callV (I := iL_way) (pc := 7) (st := [.int 0, .ref 45]) lv_L_64 hC dL_way_7 h1 rfl (Nat.le_of_ble_eq_true rfl) ⟨Nat.le_of_ble_eq_true rfl, Nat.le_of_ble_eq_true rfl⟩ (Nat.le_of_ble_eq_true rfl) (Nat.le_of_ble_eq_true rfl) rfl (fun v9 T9 z9 _ => z9.elim) (fun j9 T9 x9 _ => ?_)
  obtain ⟨rfl, rfl⟩ := x9
  refine am_catch (I := iL_way) (E9 := "java/lang/IndexOutOfBoundsException") (nm9 := "java/lang/IndexOutOfBoundsException") (hp := 22) (i := 5) (k := 24) (L' := [some (.ref 1), some (.int p0), some (.int p1), some (.int p2), some (.ref 45), none]) [] [(0, 19, 26, 15)] (0, 19, 22, 21) rfl rfl (fun z hz => ?_) (by decide) (by decide) (by decide +kernel) (by decide +kernel) rfl (Or.inl ⟨dL_way_22, rfl⟩) (by decide) rfl ?_
  · cases hz
  show am_W _ _ _ _ _ _ _ _ _ _ _ _ _ _ _ 24 [some (.ref 1), some (.int p0), some (.int p1), some (.int p2), some (.ref 45), none] [] S 2 82
  refine am_iconst (I := iL_way) (pc := 24) (x := 1) dL_way_24 (by decide) ?_
  exact am_iret (I := iL_way) (pc := 25) dL_way_25 rfl (Nat.le_refl _) (Nat.le_refl _) (⟨rfl, rfl⟩)
set_option maxRecDepth 100000 in
set_option maxHeartbeats 4000000 in
theorem w_way_x2 (K : am_K) (l : Launch) (S : am_S) (p0 p1 p2 : Int32) (fs : List Value) (h1 : S.1 1 = .inr (6, fs)) (hC : am_M K l iX6_way 8 2 82 [.ref 1, .int p0, .int p1, .int p2] S (fun _ _ => False) (fun j S' => j = 2 ∧ S = S')) : am_M K l iL_way 9 2 82 [.ref 1, .int p0, .int p1, .int p2, .ref 45] S (fun v S' => v = some (.int 2) ∧ S = S') (fun _ _ => False) := by
  refine am_bodyH (by decide) rfl (by simp [Value.category]) (Nat.le_of_ble_eq_true rfl) (fun xp xe xs xm xa xb xt xc ad0 => ?_)
  show am_W _ _ _ _ _ _ _ _ _ _ _ _ _ _ _ 0 [some (.ref 1), some (.int p0), some (.int p1), some (.int p2), some (.ref 45), none] [] S 0 0
  refine am_aload (I := iL_way) (pc := 0) dL_way_0 rfl ?_
  refine am_iconst (I := iL_way) (pc := 2) (x := 0) dL_way_2 (by decide) ?_
  refine am_aload_n (I := iL_way) (pc := 3) dL_way_3 rfl rfl ?_
  refine am_iload_n (I := iL_way) (pc := 4) dL_way_4 rfl rfl ?_
  refine am_iload_n (I := iL_way) (pc := 5) dL_way_5 rfl rfl ?_
  refine am_iload_n (I := iL_way) (pc := 6) dL_way_6 rfl rfl ?_
  refine am_callV (I := iL_way) (pc := 7) (st := [.int 0, .ref 45]) lv_L_64 hC dL_way_7 h1 rfl (Nat.le_of_ble_eq_true rfl) ⟨Nat.le_of_ble_eq_true rfl, Nat.le_of_ble_eq_true rfl⟩ (Nat.le_of_ble_eq_true rfl) (Nat.le_of_ble_eq_true rfl) rfl (fun v9 T9 z9 _ => z9.elim) (fun j9 T9 x9 _ => ?_)
  obtain ⟨rfl, rfl⟩ := x9
  refine am_catch (I := iL_way) (E9 := "java/lang/IllegalArgumentException") (nm9 := "java/lang/IllegalArgumentException") (hp := 26) (i := 5) (k := 28) (L' := [some (.ref 1), some (.int p0), some (.int p1), some (.int p2), some (.ref 45), none]) [(0, 19, 22, 21)] [] (0, 19, 26, 15) rfl rfl (fun z hz => ?_) (by decide) (by decide) (by decide +kernel) (by decide +kernel) rfl (Or.inl ⟨dL_way_26, rfl⟩) (by decide) rfl ?_
  · rcases List.mem_singleton.mp hz with rfl
    exact ⟨by decide, "java/lang/IndexOutOfBoundsException", by decide +kernel, by decide +kernel⟩
  show am_W _ _ _ _ _ _ _ _ _ _ _ _ _ _ _ 28 [some (.ref 1), some (.int p0), some (.int p1), some (.int p2), some (.ref 45), none] [] S 2 82
  refine am_iconst (I := iL_way) (pc := 28) (x := 2) dL_way_28 (by decide) ?_
  exact am_iret (I := iL_way) (pc := 29) dL_way_29 rfl (Nat.le_refl _) (Nat.le_refl _) (⟨rfl, rfl⟩)
set_option maxRecDepth 100000 in
set_option maxHeartbeats 4000000 in
theorem w_arrow (K : am_K) (l : Launch) (S : am_S) (o : Nat → Int64) (p0 p1 : Int32) (rr : Int32) (P : am_S → Prop) (fs : List Value) (h1 : S.1 1 = .inr (6, fs)) (hC : am_M K l iX6_arrow 8 2 82 [.ref 1, .int p0, .int p1] S (fun v S' => v = some (.int (rr)) ∧ P S') (fun _ _ => False)) (h45 : ∀ S', P S' → S'.1 45 = lo1 o) : am_M K l iL_arrow 9 2 82 [.ref 1, .int p0, .int p1, .ref 45] S (fun v S' => v = some (.int 0) ∧ ∃ S1, P S1 ∧ (am_up S1.1 45 (lo1 (vp_updL o 0 (rr).toInt64)), S1.2) = S') (fun _ _ => False) := by
  refine am_bodyH (by decide) rfl (by simp [Value.category]) (Nat.le_of_ble_eq_true rfl) (fun xp xe xs xm xa xb xt xc ad0 => ?_)
  show am_W _ _ _ _ _ _ _ _ _ _ _ _ _ _ _ 0 [some (.ref 1), some (.int p0), some (.int p1), some (.ref 45), none] [] S 0 0
  refine am_aload_n (I := iL_arrow) (pc := 0) dL_arrow_0 rfl rfl ?_
  refine am_iconst (I := iL_arrow) (pc := 1) (x := 0) dL_arrow_1 (by decide) ?_
  refine am_aload_n (I := iL_arrow) (pc := 2) dL_arrow_2 rfl rfl ?_
  refine am_iload_n (I := iL_arrow) (pc := 3) dL_arrow_3 rfl rfl ?_
  refine am_iload_n (I := iL_arrow) (pc := 4) dL_arrow_4 rfl rfl ?_
  refine am_callV (I := iL_arrow) (pc := 5) (st := [.int 0, .ref 45]) lv_L_68 hC dL_arrow_5 h1 rfl (Nat.le_of_ble_eq_true rfl) ⟨Nat.le_of_ble_eq_true rfl, Nat.le_of_ble_eq_true rfl⟩ (Nat.le_of_ble_eq_true rfl) (Nat.le_of_ble_eq_true rfl) rfl (fun v9 T1 z9 _ => ?_) (fun _ _ h9 => h9.elim)
  obtain ⟨rfl, hP⟩ := z9
  have h5 := h45 T1 hP
  show am_W _ _ _ _ _ _ _ _ _ _ _ _ _ _ _ 8 [some (.ref 1), some (.int p0), some (.int p1), some (.ref 45), none] [.int (rr), .int 0, .ref 45] T1 2 82
  refine am_i2l (I := iL_arrow) (pc := 8) dL_arrow_8 ?_
  refine am_lastore (I := iL_arrow) (pc := 9) dL_arrow_9 h5 rfl (vp_in_nI (show 0 < 1 by decide) (by decide)) ?_
  generalize eT2 : ((am_up T1.1 45 (.inl (1, 1, .inr (.inl (vp_updL o (0 : Int32).toNatClampNeg ((rr).toInt64))))), T1.2) : am_S) = T2
  have k1 : T2.1 45 = (.inl (1, 1, .inr (.inl (vp_updL o (0 : Int32).toNatClampNeg ((rr).toInt64))))) := by rw [← eT2]; exact am_up_s (h := T1.1) (a := 45)
  refine am_goto (I := iL_arrow) (pc := 10) (tgt := 17) dL_arrow_10 (by decide) ?_
  refine am_iconst (I := iL_arrow) (pc := 17) (x := 0) dL_arrow_17 (by decide) ?_
  exact am_iret (I := iL_arrow) (pc := 18) dL_arrow_18 rfl (Nat.le_refl _) (Nat.le_refl _) (⟨rfl, T1, hP, eT2⟩)
set_option maxRecDepth 100000 in
set_option maxHeartbeats 4000000 in
theorem w_arrow_x0 (K : am_K) (l : Launch) (S : am_S) (p0 p1 : Int32) (fs : List Value) (h1 : S.1 1 = .inr (6, fs)) (hC : am_M K l iX6_arrow 8 2 82 [.ref 1, .int p0, .int p1] S (fun _ _ => False) (fun j S' => j = 0 ∧ S = S')) : am_M K l iL_arrow 9 2 82 [.ref 1, .int p0, .int p1, .ref 45] S (fun v S' => v = some (.int 1) ∧ S = S') (fun _ _ => False) := by
  refine am_bodyH (by decide) rfl (by simp [Value.category]) (Nat.le_of_ble_eq_true rfl) (fun xp xe xs xm xa xb xt xc ad0 => ?_)
  show am_W _ _ _ _ _ _ _ _ _ _ _ _ _ _ _ 0 [some (.ref 1), some (.int p0), some (.int p1), some (.ref 45), none] [] S 0 0
  refine am_aload_n (I := iL_arrow) (pc := 0) dL_arrow_0 rfl rfl ?_
  refine am_iconst (I := iL_arrow) (pc := 1) (x := 0) dL_arrow_1 (by decide) ?_
  refine am_aload_n (I := iL_arrow) (pc := 2) dL_arrow_2 rfl rfl ?_
  refine am_iload_n (I := iL_arrow) (pc := 3) dL_arrow_3 rfl rfl ?_
  refine am_iload_n (I := iL_arrow) (pc := 4) dL_arrow_4 rfl rfl ?_
  refine am_callV (I := iL_arrow) (pc := 5) (st := [.int 0, .ref 45]) lv_L_68 hC dL_arrow_5 h1 rfl (Nat.le_of_ble_eq_true rfl) ⟨Nat.le_of_ble_eq_true rfl, Nat.le_of_ble_eq_true rfl⟩ (Nat.le_of_ble_eq_true rfl) (Nat.le_of_ble_eq_true rfl) rfl (fun v9 T9 z9 _ => z9.elim) (fun j9 T9 x9 _ => ?_)
  obtain ⟨rfl, rfl⟩ := x9
  refine am_catch (I := iL_arrow) (E9 := "java/lang/IndexOutOfBoundsException") (nm9 := "java/lang/IndexOutOfBoundsException") (hp := 13) (i := 4) (k := 15) (L' := [some (.ref 1), some (.int p0), some (.int p1), some (.ref 45), none]) [] [] (0, 10, 13, 21) rfl rfl (fun z hz => ?_) (by decide) (by decide) (by decide +kernel) (by decide +kernel) rfl (Or.inl ⟨dL_arrow_13, rfl⟩) (by decide) rfl ?_
  · cases hz
  show am_W _ _ _ _ _ _ _ _ _ _ _ _ _ _ _ 15 [some (.ref 1), some (.int p0), some (.int p1), some (.ref 45), none] [] S 2 82
  refine am_iconst (I := iL_arrow) (pc := 15) (x := 1) dL_arrow_15 (by decide) ?_
  exact am_iret (I := iL_arrow) (pc := 16) dL_arrow_16 rfl (Nat.le_refl _) (Nat.le_refl _) (⟨rfl, rfl⟩)
set_option maxRecDepth 100000 in
set_option maxHeartbeats 4000000 in
theorem w_count (K : am_K) (l : Launch) (S : am_S) (o : Nat → Int64) (p0 : Int32) (rr : Int32) (P : am_S → Prop) (fs : List Value) (h1 : S.1 1 = .inr (6, fs)) (hC : am_M K l iX6_count 8 2 82 [.ref 1, .int p0] S (fun v S' => v = some (.int (rr)) ∧ P S') (fun _ _ => False)) (h45 : ∀ S', P S' → S'.1 45 = lo1 o) : am_M K l iL_count 9 2 82 [.ref 1, .int p0, .ref 45] S (fun v S' => v = some (.int 0) ∧ ∃ S1, P S1 ∧ (am_up S1.1 45 (lo1 (vp_updL o 0 (rr).toInt64)), S1.2) = S') (fun _ _ => False) := by
  refine am_bodyH (by decide) rfl (by simp [Value.category]) (Nat.le_of_ble_eq_true rfl) (fun xp xe xs xm xa xb xt xc ad0 => ?_)
  show am_W _ _ _ _ _ _ _ _ _ _ _ _ _ _ _ 0 [some (.ref 1), some (.int p0), some (.ref 45), none] [] S 0 0
  refine am_aload_n (I := iL_count) (pc := 0) dL_count_0 rfl rfl ?_
  refine am_iconst (I := iL_count) (pc := 1) (x := 0) dL_count_1 (by decide) ?_
  refine am_aload_n (I := iL_count) (pc := 2) dL_count_2 rfl rfl ?_
  refine am_iload_n (I := iL_count) (pc := 3) dL_count_3 rfl rfl ?_
  refine am_callV (I := iL_count) (pc := 4) (st := [.int 0, .ref 45]) lv_L_71 hC dL_count_4 h1 rfl (Nat.le_of_ble_eq_true rfl) ⟨Nat.le_of_ble_eq_true rfl, Nat.le_of_ble_eq_true rfl⟩ (Nat.le_of_ble_eq_true rfl) (Nat.le_of_ble_eq_true rfl) rfl (fun v9 T1 z9 _ => ?_) (fun _ _ h9 => h9.elim)
  obtain ⟨rfl, hP⟩ := z9
  have h5 := h45 T1 hP
  show am_W _ _ _ _ _ _ _ _ _ _ _ _ _ _ _ 7 [some (.ref 1), some (.int p0), some (.ref 45), none] [.int (rr), .int 0, .ref 45] T1 2 82
  refine am_i2l (I := iL_count) (pc := 7) dL_count_7 ?_
  refine am_lastore (I := iL_count) (pc := 8) dL_count_8 h5 rfl (vp_in_nI (show 0 < 1 by decide) (by decide)) ?_
  generalize eT2 : ((am_up T1.1 45 (.inl (1, 1, .inr (.inl (vp_updL o (0 : Int32).toNatClampNeg ((rr).toInt64))))), T1.2) : am_S) = T2
  have k1 : T2.1 45 = (.inl (1, 1, .inr (.inl (vp_updL o (0 : Int32).toNatClampNeg ((rr).toInt64))))) := by rw [← eT2]; exact am_up_s (h := T1.1) (a := 45)
  refine am_goto (I := iL_count) (pc := 9) (tgt := 15) dL_count_9 (by decide) ?_
  refine am_iconst (I := iL_count) (pc := 15) (x := 0) dL_count_15 (by decide) ?_
  exact am_iret (I := iL_count) (pc := 16) dL_count_16 rfl (Nat.le_refl _) (Nat.le_refl _) (⟨rfl, T1, hP, eT2⟩)
set_option maxRecDepth 100000 in
set_option maxHeartbeats 4000000 in
theorem w_count_x0 (K : am_K) (l : Launch) (S : am_S) (p0 : Int32) (fs : List Value) (h1 : S.1 1 = .inr (6, fs)) (hC : am_M K l iX6_count 8 2 82 [.ref 1, .int p0] S (fun _ _ => False) (fun j S' => j = 0 ∧ S = S')) : am_M K l iL_count 9 2 82 [.ref 1, .int p0, .ref 45] S (fun v S' => v = some (.int 1) ∧ S = S') (fun _ _ => False) := by
  refine am_bodyH (by decide) rfl (by simp [Value.category]) (Nat.le_of_ble_eq_true rfl) (fun xp xe xs xm xa xb xt xc ad0 => ?_)
  show am_W _ _ _ _ _ _ _ _ _ _ _ _ _ _ _ 0 [some (.ref 1), some (.int p0), some (.ref 45), none] [] S 0 0
  refine am_aload_n (I := iL_count) (pc := 0) dL_count_0 rfl rfl ?_
  refine am_iconst (I := iL_count) (pc := 1) (x := 0) dL_count_1 (by decide) ?_
  refine am_aload_n (I := iL_count) (pc := 2) dL_count_2 rfl rfl ?_
  refine am_iload_n (I := iL_count) (pc := 3) dL_count_3 rfl rfl ?_
  refine am_callV (I := iL_count) (pc := 4) (st := [.int 0, .ref 45]) lv_L_71 hC dL_count_4 h1 rfl (Nat.le_of_ble_eq_true rfl) ⟨Nat.le_of_ble_eq_true rfl, Nat.le_of_ble_eq_true rfl⟩ (Nat.le_of_ble_eq_true rfl) (Nat.le_of_ble_eq_true rfl) rfl (fun v9 T9 z9 _ => z9.elim) (fun j9 T9 x9 _ => ?_)
  obtain ⟨rfl, rfl⟩ := x9
  refine am_catch (I := iL_count) (E9 := "java/lang/IndexOutOfBoundsException") (nm9 := "java/lang/IndexOutOfBoundsException") (hp := 12) (i := 3) (k := 13) (L' := [some (.ref 1), some (.int p0), some (.ref 45), none]) [] [] (0, 9, 12, 21) rfl rfl (fun z hz => ?_) (by decide) (by decide) (by decide +kernel) (by decide +kernel) rfl (Or.inr ⟨3, dL_count_12, rfl, rfl⟩) (by decide) rfl ?_
  · cases hz
  show am_W _ _ _ _ _ _ _ _ _ _ _ _ _ _ _ 13 [some (.ref 1), some (.int p0), some (.ref 45), none] [] S 2 82
  refine am_iconst (I := iL_count) (pc := 13) (x := 1) dL_count_13 (by decide) ?_
  exact am_iret (I := iL_count) (pc := 14) dL_count_14 rfl (Nat.le_refl _) (Nat.le_refl _) (⟨rfl, rfl⟩)
