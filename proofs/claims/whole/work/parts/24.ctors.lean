set_option maxRecDepth 100000 in
set_option maxHeartbeats 4000000 in
theorem m_Capt_init (K : am_K) (l : Launch) (h : Nat → am_C) (hr : h 4 = (.inr (0, [.null, .null, .null, .int 0]))) : am_M K l iX0_init 1 3 255 [.ref 4] (h, 5) (fun v S' => v = none ∧ S'.2 = 8 ∧ S'.1 4 = (.inr (0, [.ref 5, .ref 6, .ref 7, .int 0])) ∧ S'.1 5 = (.inl (2, 200, .inr (.inr (.inr (.inr (fun _ => none)))))) ∧ S'.1 6 = (.inl (0, 50, .inl (fun _ => 0))) ∧ S'.1 7 = (.inl (0, 5, .inl (upd (upd (upd (upd (upd (fun _ => 0) (0 : Int32).toNatClampNeg (-1)) (1 : Int32).toNatClampNeg (-1)) (2 : Int32).toNatClampNeg (-1)) (3 : Int32).toNatClampNeg (-1)) (4 : Int32).toNatClampNeg (-1)))) ∧ ∀ z : Nat, z < 4 → S'.1 z = h z) (fun _ _ => False) := by
  refine am_body (by decide) rfl (by simp [Value.category]) (Nat.le_of_ble_eq_true rfl) (fun xp xe xs xm xa xb xt xc ad0 => ?_)
  show am_W _ _ _ _ _ _ _ _ _ _ _ _ _ _ _ 0 [some (.ref 4), none] [] (h, 5) 0 0
  refine am_aload_n (I := iX0_init) (pc := 0) dX0_init_0 rfl rfl ?_
  refine am_objInit (I := iX0_init) (pc := 1) dX0_init_1 lo_X0_3 lo_i lo_c (Nat.le_of_ble_eq_true rfl) (Nat.le_of_ble_eq_true rfl) ?_
  refine am_aload_n (I := iX0_init) (pc := 4) dX0_init_4 rfl rfl ?_
  refine am_sipush (I := iX0_init) (pc := 5) (x := 200) dX0_init_5 (by decide) ?_
  refine am_anewarray (I := iX0_init) (pc := 8) (k := 2) (n := 200) dX0_init_8 rfl lq_X0_9 (by decide +kernel) (by decide) (by decide) (by decide) (Nat.le_of_ble_eq_true rfl) (Nat.le_of_ble_eq_true rfl) ?_
  show am_W _ _ _ _ _ _ _ _ _ _ _ _ _ _ _ 11 [some (.ref 4), none] [.ref 5, .ref 4] (am_up h 5 (.inl (2, 200, .inr (.inr (.inr (.inr (fun _ => none)))))), 6) 1 200
  generalize eT1 : am_up h 5 (.inl (2, 200, .inr (.inr (.inr (.inr (fun _ => none)))))) = T1
  have k1 : T1 4 = (.inr (0, [.null, .null, .null, .int 0])) := by rw [← eT1]; exact (am_up_n (by decide)).trans hr
  have k2 : ∀ z : Nat, z < 4 → T1 z = h z := fun z q9 => by rw [← eT1]; exact (am_up_n (Nat.ne_of_lt (Nat.lt_of_lt_of_le q9 (by decide)))).trans ((fun z _ => rfl : ∀ z : Nat, z < 4 → h z = h z) z q9)
  have k3 : T1 5 = (.inl (2, 200, .inr (.inr (.inr (.inr (fun _ => none)))))) := by rw [← eT1]; exact am_up_s
  refine am_putF (I := iX0_init) (pc := 11) (fs' := [.ref 5, .null, .null, .int 0]) lf_X0_11 rfl dX0_init_11 k1 (fun _ => ⟨rfl, rfl⟩) (Nat.le_of_ble_eq_true rfl) rfl ?_
  show am_W _ _ _ _ _ _ _ _ _ _ _ _ _ _ _ 14 [some (.ref 4), none] [] (am_up T1 4 (.inr (0, [.ref 5, .null, .null, .int 0])), 6) 1 200
  generalize eT2 : am_up T1 4 (.inr (0, [.ref 5, .null, .null, .int 0])) = T2
  have k4 : T2 4 = (.inr (0, [.ref 5, .null, .null, .int 0])) := by rw [← eT2]; exact am_up_s
  have k5 : ∀ z : Nat, z < 4 → T2 z = h z := fun z q9 => by rw [← eT2]; exact (am_up_n (Nat.ne_of_lt (Nat.lt_of_lt_of_le q9 (by decide)))).trans (k2 z q9)
  have k6 : T2 5 = (.inl (2, 200, .inr (.inr (.inr (.inr (fun _ => none)))))) := by rw [← eT2]; exact (am_up_n (by decide)).trans k3
  refine am_aload_n (I := iX0_init) (pc := 14) dX0_init_14 rfl rfl ?_
  refine am_bipush (I := iX0_init) (pc := 15) (x := 50) dX0_init_15 (by decide) ?_
  refine am_newarray (I := iX0_init) (pc := 17) (k := 0) (n := 50) (ty := .int) (q0 := .inl (fun _ => 0)) dX0_init_17 rfl rfl la_int (fun _ => rfl) (fun _ => rfl) (fun _ => trivial) (by decide) (by decide) (by decide) (Nat.le_of_ble_eq_true rfl) (Nat.le_of_ble_eq_true rfl) ?_
  show am_W _ _ _ _ _ _ _ _ _ _ _ _ _ _ _ 19 [some (.ref 4), none] [.ref 6, .ref 4] (am_up T2 6 (.inl (0, 50, .inl (fun _ => 0))), 7) 2 250
  generalize eT3 : am_up T2 6 (.inl (0, 50, .inl (fun _ => 0))) = T3
  have k7 : T3 4 = (.inr (0, [.ref 5, .null, .null, .int 0])) := by rw [← eT3]; exact (am_up_n (by decide)).trans k4
  have k8 : ∀ z : Nat, z < 4 → T3 z = h z := fun z q9 => by rw [← eT3]; exact (am_up_n (Nat.ne_of_lt (Nat.lt_of_lt_of_le q9 (by decide)))).trans (k5 z q9)
  have k9 : T3 5 = (.inl (2, 200, .inr (.inr (.inr (.inr (fun _ => none)))))) := by rw [← eT3]; exact (am_up_n (by decide)).trans k6
  have k10 : T3 6 = (.inl (0, 50, .inl (fun _ => 0))) := by rw [← eT3]; exact am_up_s
  refine am_putF (I := iX0_init) (pc := 19) (fs' := [.ref 5, .ref 6, .null, .int 0]) lf_X0_17 rfl dX0_init_19 k7 (fun _ => ⟨rfl, rfl⟩) (Nat.le_of_ble_eq_true rfl) rfl ?_
  show am_W _ _ _ _ _ _ _ _ _ _ _ _ _ _ _ 22 [some (.ref 4), none] [] (am_up T3 4 (.inr (0, [.ref 5, .ref 6, .null, .int 0])), 7) 2 250
  generalize eT4 : am_up T3 4 (.inr (0, [.ref 5, .ref 6, .null, .int 0])) = T4
  have k11 : T4 4 = (.inr (0, [.ref 5, .ref 6, .null, .int 0])) := by rw [← eT4]; exact am_up_s
  have k12 : ∀ z : Nat, z < 4 → T4 z = h z := fun z q9 => by rw [← eT4]; exact (am_up_n (Nat.ne_of_lt (Nat.lt_of_lt_of_le q9 (by decide)))).trans (k8 z q9)
  have k13 : T4 5 = (.inl (2, 200, .inr (.inr (.inr (.inr (fun _ => none)))))) := by rw [← eT4]; exact (am_up_n (by decide)).trans k9
  have k14 : T4 6 = (.inl (0, 50, .inl (fun _ => 0))) := by rw [← eT4]; exact (am_up_n (by decide)).trans k10
  refine am_aload_n (I := iX0_init) (pc := 22) dX0_init_22 rfl rfl ?_
  refine am_iconst (I := iX0_init) (pc := 23) (x := 5) dX0_init_23 (by decide) ?_
  refine am_newarray (I := iX0_init) (pc := 24) (k := 0) (n := 5) (ty := .int) (q0 := .inl (fun _ => 0)) dX0_init_24 rfl rfl la_int (fun _ => rfl) (fun _ => rfl) (fun _ => trivial) (by decide) (by decide) (by decide) (Nat.le_of_ble_eq_true rfl) (Nat.le_of_ble_eq_true rfl) ?_
  show am_W _ _ _ _ _ _ _ _ _ _ _ _ _ _ _ 26 [some (.ref 4), none] [.ref 7, .ref 4] (am_up T4 7 (.inl (0, 5, .inl (fun _ => 0))), 8) 3 255
  generalize eT5 : am_up T4 7 (.inl (0, 5, .inl (fun _ => 0))) = T5
  have k15 : T5 4 = (.inr (0, [.ref 5, .ref 6, .null, .int 0])) := by rw [← eT5]; exact (am_up_n (by decide)).trans k11
  have k16 : ∀ z : Nat, z < 4 → T5 z = h z := fun z q9 => by rw [← eT5]; exact (am_up_n (Nat.ne_of_lt (Nat.lt_of_lt_of_le q9 (by decide)))).trans (k12 z q9)
  have k17 : T5 5 = (.inl (2, 200, .inr (.inr (.inr (.inr (fun _ => none)))))) := by rw [← eT5]; exact (am_up_n (by decide)).trans k13
  have k18 : T5 6 = (.inl (0, 50, .inl (fun _ => 0))) := by rw [← eT5]; exact (am_up_n (by decide)).trans k14
  have k19 : T5 7 = (.inl (0, 5, .inl (fun _ => 0))) := by rw [← eT5]; exact am_up_s
  refine am_putF (I := iX0_init) (pc := 26) (fs' := [.ref 5, .ref 6, .ref 7, .int 0]) lf_X0_21 rfl dX0_init_26 k15 (fun _ => ⟨rfl, rfl⟩) (Nat.le_of_ble_eq_true rfl) rfl ?_
  show am_W _ _ _ _ _ _ _ _ _ _ _ _ _ _ _ 29 [some (.ref 4), none] [] (am_up T5 4 (.inr (0, [.ref 5, .ref 6, .ref 7, .int 0])), 8) 3 255
  generalize eT6 : am_up T5 4 (.inr (0, [.ref 5, .ref 6, .ref 7, .int 0])) = T6
  have k20 : T6 4 = (.inr (0, [.ref 5, .ref 6, .ref 7, .int 0])) := by rw [← eT6]; exact am_up_s
  have k21 : ∀ z : Nat, z < 4 → T6 z = h z := fun z q9 => by rw [← eT6]; exact (am_up_n (Nat.ne_of_lt (Nat.lt_of_lt_of_le q9 (by decide)))).trans (k16 z q9)
  have k22 : T6 5 = (.inl (2, 200, .inr (.inr (.inr (.inr (fun _ => none)))))) := by rw [← eT6]; exact (am_up_n (by decide)).trans k17
  have k23 : T6 6 = (.inl (0, 50, .inl (fun _ => 0))) := by rw [← eT6]; exact (am_up_n (by decide)).trans k18
  have k24 : T6 7 = (.inl (0, 5, .inl (fun _ => 0))) := by rw [← eT6]; exact (am_up_n (by decide)).trans k19
  refine am_iconst (I := iX0_init) (pc := 29) (x := 0) dX0_init_29 (by decide) ?_
  refine am_istore_n (I := iX0_init) (pc := 30) (L' := [some (.ref 4), some (.int 0)]) dX0_init_30 rfl (by decide) rfl ?_
  refine am_iload_n (I := iX0_init) (pc := 31) dX0_init_31 rfl rfl ?_
  refine am_iconst (I := iX0_init) (pc := 32) (x := 5) dX0_init_32 (by decide) ?_
  refine am_icmp_ge (I := iX0_init) (pc := 33) (tgt := 49) dX0_init_33 (by decide) (fun c33 => ?_) (fun c33 => ?_)
  · exact absurd c33 (by decide)
  · refine am_aload_n (I := iX0_init) (pc := 36) dX0_init_36 rfl rfl ?_
    refine am_getf (I := iX0_init) (pc := 37) lf_X0_21 dX0_init_37 k20 rfl ?_
    refine am_iload_n (I := iX0_init) (pc := 40) dX0_init_40 rfl rfl ?_
    refine am_iconst (I := iX0_init) (pc := 41) (x := (-1)) dX0_init_41 (by decide) ?_
    refine am_iastore (I := iX0_init) (pc := 42) dX0_init_42 k24 rfl (vp_in_nI (show 0 < 5 by decide) (by decide)) ?_
    show am_W _ _ _ _ _ _ _ _ _ _ _ _ _ _ _ 43 [some (.ref 4), some (.int 0)] [] (am_up T6 7 (.inl (0, 5, .inl (upd (fun _ => 0) (0 : Int32).toNatClampNeg (-1)))), 8) 3 255
    generalize eT7 : am_up T6 7 (.inl (0, 5, .inl (upd (fun _ => 0) (0 : Int32).toNatClampNeg (-1)))) = T7
    have k25 : T7 4 = (.inr (0, [.ref 5, .ref 6, .ref 7, .int 0])) := by rw [← eT7]; exact (am_up_n (by decide)).trans k20
    have k26 : ∀ z : Nat, z < 4 → T7 z = h z := fun z q9 => by rw [← eT7]; exact (am_up_n (Nat.ne_of_lt (Nat.lt_of_lt_of_le q9 (by decide)))).trans (k21 z q9)
    have k27 : T7 5 = (.inl (2, 200, .inr (.inr (.inr (.inr (fun _ => none)))))) := by rw [← eT7]; exact (am_up_n (by decide)).trans k22
    have k28 : T7 6 = (.inl (0, 50, .inl (fun _ => 0))) := by rw [← eT7]; exact (am_up_n (by decide)).trans k23
    have k29 : T7 7 = (.inl (0, 5, .inl (upd (fun _ => 0) (0 : Int32).toNatClampNeg (-1)))) := by rw [← eT7]; exact am_up_s
    refine am_iinc (I := iX0_init) (pc := 43) (y := 1) (L' := [some (.ref 4), some (.int 1)]) dX0_init_43 rfl (by decide) rfl ?_
    refine am_goto (I := iX0_init) (pc := 46) (tgt := 31) dX0_init_46 (by decide) ?_
    refine am_iload_n (I := iX0_init) (pc := 31) dX0_init_31 rfl rfl ?_
    refine am_iconst (I := iX0_init) (pc := 32) (x := 5) dX0_init_32 (by decide) ?_
    refine am_icmp_ge (I := iX0_init) (pc := 33) (tgt := 49) dX0_init_33 (by decide) (fun c33 => ?_) (fun c33 => ?_)
    · exact absurd c33 (by decide)
    · refine am_aload_n (I := iX0_init) (pc := 36) dX0_init_36 rfl rfl ?_
      refine am_getf (I := iX0_init) (pc := 37) lf_X0_21 dX0_init_37 k25 rfl ?_
      refine am_iload_n (I := iX0_init) (pc := 40) dX0_init_40 rfl rfl ?_
      refine am_iconst (I := iX0_init) (pc := 41) (x := (-1)) dX0_init_41 (by decide) ?_
      refine am_iastore (I := iX0_init) (pc := 42) dX0_init_42 k29 rfl (vp_in_nI (show 1 < 5 by decide) (by decide)) ?_
      show am_W _ _ _ _ _ _ _ _ _ _ _ _ _ _ _ 43 [some (.ref 4), some (.int 1)] [] (am_up T7 7 (.inl (0, 5, .inl (upd (upd (fun _ => 0) (0 : Int32).toNatClampNeg (-1)) (1 : Int32).toNatClampNeg (-1)))), 8) 3 255
      generalize eT8 : am_up T7 7 (.inl (0, 5, .inl (upd (upd (fun _ => 0) (0 : Int32).toNatClampNeg (-1)) (1 : Int32).toNatClampNeg (-1)))) = T8
      have k30 : T8 4 = (.inr (0, [.ref 5, .ref 6, .ref 7, .int 0])) := by rw [← eT8]; exact (am_up_n (by decide)).trans k25
      have k31 : ∀ z : Nat, z < 4 → T8 z = h z := fun z q9 => by rw [← eT8]; exact (am_up_n (Nat.ne_of_lt (Nat.lt_of_lt_of_le q9 (by decide)))).trans (k26 z q9)
      have k32 : T8 5 = (.inl (2, 200, .inr (.inr (.inr (.inr (fun _ => none)))))) := by rw [← eT8]; exact (am_up_n (by decide)).trans k27
      have k33 : T8 6 = (.inl (0, 50, .inl (fun _ => 0))) := by rw [← eT8]; exact (am_up_n (by decide)).trans k28
      have k34 : T8 7 = (.inl (0, 5, .inl (upd (upd (fun _ => 0) (0 : Int32).toNatClampNeg (-1)) (1 : Int32).toNatClampNeg (-1)))) := by rw [← eT8]; exact am_up_s
      refine am_iinc (I := iX0_init) (pc := 43) (y := 2) (L' := [some (.ref 4), some (.int 2)]) dX0_init_43 rfl (by decide) rfl ?_
      refine am_goto (I := iX0_init) (pc := 46) (tgt := 31) dX0_init_46 (by decide) ?_
      refine am_iload_n (I := iX0_init) (pc := 31) dX0_init_31 rfl rfl ?_
      refine am_iconst (I := iX0_init) (pc := 32) (x := 5) dX0_init_32 (by decide) ?_
      refine am_icmp_ge (I := iX0_init) (pc := 33) (tgt := 49) dX0_init_33 (by decide) (fun c33 => ?_) (fun c33 => ?_)
      · exact absurd c33 (by decide)
      · refine am_aload_n (I := iX0_init) (pc := 36) dX0_init_36 rfl rfl ?_
        refine am_getf (I := iX0_init) (pc := 37) lf_X0_21 dX0_init_37 k30 rfl ?_
        refine am_iload_n (I := iX0_init) (pc := 40) dX0_init_40 rfl rfl ?_
        refine am_iconst (I := iX0_init) (pc := 41) (x := (-1)) dX0_init_41 (by decide) ?_
        refine am_iastore (I := iX0_init) (pc := 42) dX0_init_42 k34 rfl (vp_in_nI (show 2 < 5 by decide) (by decide)) ?_
        show am_W _ _ _ _ _ _ _ _ _ _ _ _ _ _ _ 43 [some (.ref 4), some (.int 2)] [] (am_up T8 7 (.inl (0, 5, .inl (upd (upd (upd (fun _ => 0) (0 : Int32).toNatClampNeg (-1)) (1 : Int32).toNatClampNeg (-1)) (2 : Int32).toNatClampNeg (-1)))), 8) 3 255
        generalize eT9 : am_up T8 7 (.inl (0, 5, .inl (upd (upd (upd (fun _ => 0) (0 : Int32).toNatClampNeg (-1)) (1 : Int32).toNatClampNeg (-1)) (2 : Int32).toNatClampNeg (-1)))) = T9
        have k35 : T9 4 = (.inr (0, [.ref 5, .ref 6, .ref 7, .int 0])) := by rw [← eT9]; exact (am_up_n (by decide)).trans k30
        have k36 : ∀ z : Nat, z < 4 → T9 z = h z := fun z q9 => by rw [← eT9]; exact (am_up_n (Nat.ne_of_lt (Nat.lt_of_lt_of_le q9 (by decide)))).trans (k31 z q9)
        have k37 : T9 5 = (.inl (2, 200, .inr (.inr (.inr (.inr (fun _ => none)))))) := by rw [← eT9]; exact (am_up_n (by decide)).trans k32
        have k38 : T9 6 = (.inl (0, 50, .inl (fun _ => 0))) := by rw [← eT9]; exact (am_up_n (by decide)).trans k33
        have k39 : T9 7 = (.inl (0, 5, .inl (upd (upd (upd (fun _ => 0) (0 : Int32).toNatClampNeg (-1)) (1 : Int32).toNatClampNeg (-1)) (2 : Int32).toNatClampNeg (-1)))) := by rw [← eT9]; exact am_up_s
        refine am_iinc (I := iX0_init) (pc := 43) (y := 3) (L' := [some (.ref 4), some (.int 3)]) dX0_init_43 rfl (by decide) rfl ?_
        refine am_goto (I := iX0_init) (pc := 46) (tgt := 31) dX0_init_46 (by decide) ?_
        refine am_iload_n (I := iX0_init) (pc := 31) dX0_init_31 rfl rfl ?_
        refine am_iconst (I := iX0_init) (pc := 32) (x := 5) dX0_init_32 (by decide) ?_
        refine am_icmp_ge (I := iX0_init) (pc := 33) (tgt := 49) dX0_init_33 (by decide) (fun c33 => ?_) (fun c33 => ?_)
        · exact absurd c33 (by decide)
        · refine am_aload_n (I := iX0_init) (pc := 36) dX0_init_36 rfl rfl ?_
          refine am_getf (I := iX0_init) (pc := 37) lf_X0_21 dX0_init_37 k35 rfl ?_
          refine am_iload_n (I := iX0_init) (pc := 40) dX0_init_40 rfl rfl ?_
          refine am_iconst (I := iX0_init) (pc := 41) (x := (-1)) dX0_init_41 (by decide) ?_
          refine am_iastore (I := iX0_init) (pc := 42) dX0_init_42 k39 rfl (vp_in_nI (show 3 < 5 by decide) (by decide)) ?_
          show am_W _ _ _ _ _ _ _ _ _ _ _ _ _ _ _ 43 [some (.ref 4), some (.int 3)] [] (am_up T9 7 (.inl (0, 5, .inl (upd (upd (upd (upd (fun _ => 0) (0 : Int32).toNatClampNeg (-1)) (1 : Int32).toNatClampNeg (-1)) (2 : Int32).toNatClampNeg (-1)) (3 : Int32).toNatClampNeg (-1)))), 8) 3 255
          generalize eT10 : am_up T9 7 (.inl (0, 5, .inl (upd (upd (upd (upd (fun _ => 0) (0 : Int32).toNatClampNeg (-1)) (1 : Int32).toNatClampNeg (-1)) (2 : Int32).toNatClampNeg (-1)) (3 : Int32).toNatClampNeg (-1)))) = T10
          have k40 : T10 4 = (.inr (0, [.ref 5, .ref 6, .ref 7, .int 0])) := by rw [← eT10]; exact (am_up_n (by decide)).trans k35
          have k41 : ∀ z : Nat, z < 4 → T10 z = h z := fun z q9 => by rw [← eT10]; exact (am_up_n (Nat.ne_of_lt (Nat.lt_of_lt_of_le q9 (by decide)))).trans (k36 z q9)
          have k42 : T10 5 = (.inl (2, 200, .inr (.inr (.inr (.inr (fun _ => none)))))) := by rw [← eT10]; exact (am_up_n (by decide)).trans k37
          have k43 : T10 6 = (.inl (0, 50, .inl (fun _ => 0))) := by rw [← eT10]; exact (am_up_n (by decide)).trans k38
          have k44 : T10 7 = (.inl (0, 5, .inl (upd (upd (upd (upd (fun _ => 0) (0 : Int32).toNatClampNeg (-1)) (1 : Int32).toNatClampNeg (-1)) (2 : Int32).toNatClampNeg (-1)) (3 : Int32).toNatClampNeg (-1)))) := by rw [← eT10]; exact am_up_s
          refine am_iinc (I := iX0_init) (pc := 43) (y := 4) (L' := [some (.ref 4), some (.int 4)]) dX0_init_43 rfl (by decide) rfl ?_
          refine am_goto (I := iX0_init) (pc := 46) (tgt := 31) dX0_init_46 (by decide) ?_
          refine am_iload_n (I := iX0_init) (pc := 31) dX0_init_31 rfl rfl ?_
          refine am_iconst (I := iX0_init) (pc := 32) (x := 5) dX0_init_32 (by decide) ?_
          refine am_icmp_ge (I := iX0_init) (pc := 33) (tgt := 49) dX0_init_33 (by decide) (fun c33 => ?_) (fun c33 => ?_)
          · exact absurd c33 (by decide)
          · refine am_aload_n (I := iX0_init) (pc := 36) dX0_init_36 rfl rfl ?_
            refine am_getf (I := iX0_init) (pc := 37) lf_X0_21 dX0_init_37 k40 rfl ?_
            refine am_iload_n (I := iX0_init) (pc := 40) dX0_init_40 rfl rfl ?_
            refine am_iconst (I := iX0_init) (pc := 41) (x := (-1)) dX0_init_41 (by decide) ?_
            refine am_iastore (I := iX0_init) (pc := 42) dX0_init_42 k44 rfl (vp_in_nI (show 4 < 5 by decide) (by decide)) ?_
            show am_W _ _ _ _ _ _ _ _ _ _ _ _ _ _ _ 43 [some (.ref 4), some (.int 4)] [] (am_up T10 7 (.inl (0, 5, .inl (upd (upd (upd (upd (upd (fun _ => 0) (0 : Int32).toNatClampNeg (-1)) (1 : Int32).toNatClampNeg (-1)) (2 : Int32).toNatClampNeg (-1)) (3 : Int32).toNatClampNeg (-1)) (4 : Int32).toNatClampNeg (-1)))), 8) 3 255
            generalize eT11 : am_up T10 7 (.inl (0, 5, .inl (upd (upd (upd (upd (upd (fun _ => 0) (0 : Int32).toNatClampNeg (-1)) (1 : Int32).toNatClampNeg (-1)) (2 : Int32).toNatClampNeg (-1)) (3 : Int32).toNatClampNeg (-1)) (4 : Int32).toNatClampNeg (-1)))) = T11
            have k45 : T11 4 = (.inr (0, [.ref 5, .ref 6, .ref 7, .int 0])) := by rw [← eT11]; exact (am_up_n (by decide)).trans k40
            have k46 : ∀ z : Nat, z < 4 → T11 z = h z := fun z q9 => by rw [← eT11]; exact (am_up_n (Nat.ne_of_lt (Nat.lt_of_lt_of_le q9 (by decide)))).trans (k41 z q9)
            have k47 : T11 5 = (.inl (2, 200, .inr (.inr (.inr (.inr (fun _ => none)))))) := by rw [← eT11]; exact (am_up_n (by decide)).trans k42
            have k48 : T11 6 = (.inl (0, 50, .inl (fun _ => 0))) := by rw [← eT11]; exact (am_up_n (by decide)).trans k43
            have k49 : T11 7 = (.inl (0, 5, .inl (upd (upd (upd (upd (upd (fun _ => 0) (0 : Int32).toNatClampNeg (-1)) (1 : Int32).toNatClampNeg (-1)) (2 : Int32).toNatClampNeg (-1)) (3 : Int32).toNatClampNeg (-1)) (4 : Int32).toNatClampNeg (-1)))) := by rw [← eT11]; exact am_up_s
            refine am_iinc (I := iX0_init) (pc := 43) (y := 5) (L' := [some (.ref 4), some (.int 5)]) dX0_init_43 rfl (by decide) rfl ?_
            refine am_goto (I := iX0_init) (pc := 46) (tgt := 31) dX0_init_46 (by decide) ?_
            refine am_iload_n (I := iX0_init) (pc := 31) dX0_init_31 rfl rfl ?_
            refine am_iconst (I := iX0_init) (pc := 32) (x := 5) dX0_init_32 (by decide) ?_
            refine am_icmp_ge (I := iX0_init) (pc := 33) (tgt := 49) dX0_init_33 (by decide) (fun c33 => ?_) (fun c33 => ?_)
            · refine am_aload_n (I := iX0_init) (pc := 49) dX0_init_49 rfl rfl ?_
              refine am_iconst (I := iX0_init) (pc := 50) (x := 0) dX0_init_50 (by decide) ?_
              refine am_putf (I := iX0_init) (pc := 51) (fs' := [.ref 5, .ref 6, .ref 7, .int 0]) lf_X0_24 dX0_init_51 k45 (fun _ => ⟨rfl, rfl⟩) (Nat.le_of_ble_eq_true rfl) rfl ?_
              show am_W _ _ _ _ _ _ _ _ _ _ _ _ _ _ _ 54 [some (.ref 4), some (.int 5)] [] (am_up T11 4 (.inr (0, [.ref 5, .ref 6, .ref 7, .int 0])), 8) 3 255
              generalize eT12 : am_up T11 4 (.inr (0, [.ref 5, .ref 6, .ref 7, .int 0])) = T12
              have k50 : T12 4 = (.inr (0, [.ref 5, .ref 6, .ref 7, .int 0])) := by rw [← eT12]; exact am_up_s
              have k51 : ∀ z : Nat, z < 4 → T12 z = h z := fun z q9 => by rw [← eT12]; exact (am_up_n (Nat.ne_of_lt (Nat.lt_of_lt_of_le q9 (by decide)))).trans (k46 z q9)
              have k52 : T12 5 = (.inl (2, 200, .inr (.inr (.inr (.inr (fun _ => none)))))) := by rw [← eT12]; exact (am_up_n (by decide)).trans k47
              have k53 : T12 6 = (.inl (0, 50, .inl (fun _ => 0))) := by rw [← eT12]; exact (am_up_n (by decide)).trans k48
              have k54 : T12 7 = (.inl (0, 5, .inl (upd (upd (upd (upd (upd (fun _ => 0) (0 : Int32).toNatClampNeg (-1)) (1 : Int32).toNatClampNeg (-1)) (2 : Int32).toNatClampNeg (-1)) (3 : Int32).toNatClampNeg (-1)) (4 : Int32).toNatClampNeg (-1)))) := by rw [← eT12]; exact (am_up_n (by decide)).trans k49
              exact am_vret (I := iX0_init) (pc := 54) dX0_init_54 rfl (Nat.le_refl _) (Nat.le_refl _) (⟨rfl, rfl, k50, k52, k53, k54, k51⟩)
            · exact absurd c33 (by decide)
set_option maxRecDepth 100000 in
set_option maxHeartbeats 4000000 in
theorem m_Set_init (K : am_K) (l : Launch) (h : Nat → am_C) (hr : h 8 = (.inr (4, [.null, .null, .int 0, .null, .null, .null, .null, .int 0, .int 0]))) : am_M K l iX4_init 1 6 240 [.ref 8] (h, 9) (fun v S' => v = none ∧ S'.2 = 15 ∧ S'.1 8 = (.inr (4, [.ref 9, .ref 10, .int 0, .ref 11, .ref 12, .ref 13, .ref 14, .int 0, .int 0])) ∧ S'.1 9 = (.inl (0, 40, .inl (fun _ => 0))) ∧ S'.1 10 = (.inl (0, 40, .inl (fun _ => 0))) ∧ S'.1 11 = (.inl (0, 40, .inl (fun _ => 0))) ∧ S'.1 12 = (.inl (0, 40, .inl (fun _ => 0))) ∧ S'.1 13 = (.inl (0, 40, .inl (fun _ => 0))) ∧ S'.1 14 = (.inl (0, 40, .inl (fun _ => 0))) ∧ ∀ z : Nat, z < 8 → S'.1 z = h z) (fun _ _ => False) := by
  refine am_body (by decide) rfl (by simp [Value.category]) (Nat.le_of_ble_eq_true rfl) (fun xp xe xs xm xa xb xt xc ad0 => ?_)
  show am_W _ _ _ _ _ _ _ _ _ _ _ _ _ _ _ 0 [some (.ref 8)] [] (h, 9) 0 0
  refine am_aload_n (I := iX4_init) (pc := 0) dX4_init_0 rfl rfl ?_
  refine am_objInit (I := iX4_init) (pc := 1) dX4_init_1 lo_X4_3 lo_i lo_c (Nat.le_of_ble_eq_true rfl) (Nat.le_of_ble_eq_true rfl) ?_
  refine am_aload_n (I := iX4_init) (pc := 4) dX4_init_4 rfl rfl ?_
  refine am_bipush (I := iX4_init) (pc := 5) (x := 40) dX4_init_5 (by decide) ?_
  refine am_newarray (I := iX4_init) (pc := 7) (k := 0) (n := 40) (ty := .int) (q0 := .inl (fun _ => 0)) dX4_init_7 rfl rfl la_int (fun _ => rfl) (fun _ => rfl) (fun _ => trivial) (by decide) (by decide) (by decide) (Nat.le_of_ble_eq_true rfl) (Nat.le_of_ble_eq_true rfl) ?_
  show am_W _ _ _ _ _ _ _ _ _ _ _ _ _ _ _ 9 [some (.ref 8)] [.ref 9, .ref 8] (am_up h 9 (.inl (0, 40, .inl (fun _ => 0))), 10) 1 40
  generalize eT1 : am_up h 9 (.inl (0, 40, .inl (fun _ => 0))) = T1
  have k1 : T1 8 = (.inr (4, [.null, .null, .int 0, .null, .null, .null, .null, .int 0, .int 0])) := by rw [← eT1]; exact (am_up_n (by decide)).trans hr
  have k2 : ∀ z : Nat, z < 8 → T1 z = h z := fun z q9 => by rw [← eT1]; exact (am_up_n (Nat.ne_of_lt (Nat.lt_of_lt_of_le q9 (by decide)))).trans ((fun z _ => rfl : ∀ z : Nat, z < 8 → h z = h z) z q9)
  have k3 : T1 9 = (.inl (0, 40, .inl (fun _ => 0))) := by rw [← eT1]; exact am_up_s
  refine am_putF (I := iX4_init) (pc := 9) (fs' := [.ref 9, .null, .int 0, .null, .null, .null, .null, .int 0, .int 0]) lf_X4_9 rfl dX4_init_9 k1 (fun _ => ⟨rfl, rfl⟩) (Nat.le_of_ble_eq_true rfl) rfl ?_
  show am_W _ _ _ _ _ _ _ _ _ _ _ _ _ _ _ 12 [some (.ref 8)] [] (am_up T1 8 (.inr (4, [.ref 9, .null, .int 0, .null, .null, .null, .null, .int 0, .int 0])), 10) 1 40
  generalize eT2 : am_up T1 8 (.inr (4, [.ref 9, .null, .int 0, .null, .null, .null, .null, .int 0, .int 0])) = T2
  have k4 : T2 8 = (.inr (4, [.ref 9, .null, .int 0, .null, .null, .null, .null, .int 0, .int 0])) := by rw [← eT2]; exact am_up_s
  have k5 : ∀ z : Nat, z < 8 → T2 z = h z := fun z q9 => by rw [← eT2]; exact (am_up_n (Nat.ne_of_lt (Nat.lt_of_lt_of_le q9 (by decide)))).trans (k2 z q9)
  have k6 : T2 9 = (.inl (0, 40, .inl (fun _ => 0))) := by rw [← eT2]; exact (am_up_n (by decide)).trans k3
  refine am_aload_n (I := iX4_init) (pc := 12) dX4_init_12 rfl rfl ?_
  refine am_bipush (I := iX4_init) (pc := 13) (x := 40) dX4_init_13 (by decide) ?_
  refine am_newarray (I := iX4_init) (pc := 15) (k := 0) (n := 40) (ty := .int) (q0 := .inl (fun _ => 0)) dX4_init_15 rfl rfl la_int (fun _ => rfl) (fun _ => rfl) (fun _ => trivial) (by decide) (by decide) (by decide) (Nat.le_of_ble_eq_true rfl) (Nat.le_of_ble_eq_true rfl) ?_
  show am_W _ _ _ _ _ _ _ _ _ _ _ _ _ _ _ 17 [some (.ref 8)] [.ref 10, .ref 8] (am_up T2 10 (.inl (0, 40, .inl (fun _ => 0))), 11) 2 80
  generalize eT3 : am_up T2 10 (.inl (0, 40, .inl (fun _ => 0))) = T3
  have k7 : T3 8 = (.inr (4, [.ref 9, .null, .int 0, .null, .null, .null, .null, .int 0, .int 0])) := by rw [← eT3]; exact (am_up_n (by decide)).trans k4
  have k8 : ∀ z : Nat, z < 8 → T3 z = h z := fun z q9 => by rw [← eT3]; exact (am_up_n (Nat.ne_of_lt (Nat.lt_of_lt_of_le q9 (by decide)))).trans (k5 z q9)
  have k9 : T3 9 = (.inl (0, 40, .inl (fun _ => 0))) := by rw [← eT3]; exact (am_up_n (by decide)).trans k6
  have k10 : T3 10 = (.inl (0, 40, .inl (fun _ => 0))) := by rw [← eT3]; exact am_up_s
  refine am_putF (I := iX4_init) (pc := 17) (fs' := [.ref 9, .ref 10, .int 0, .null, .null, .null, .null, .int 0, .int 0]) lf_X4_15 rfl dX4_init_17 k7 (fun _ => ⟨rfl, rfl⟩) (Nat.le_of_ble_eq_true rfl) rfl ?_
  show am_W _ _ _ _ _ _ _ _ _ _ _ _ _ _ _ 20 [some (.ref 8)] [] (am_up T3 8 (.inr (4, [.ref 9, .ref 10, .int 0, .null, .null, .null, .null, .int 0, .int 0])), 11) 2 80
  generalize eT4 : am_up T3 8 (.inr (4, [.ref 9, .ref 10, .int 0, .null, .null, .null, .null, .int 0, .int 0])) = T4
  have k11 : T4 8 = (.inr (4, [.ref 9, .ref 10, .int 0, .null, .null, .null, .null, .int 0, .int 0])) := by rw [← eT4]; exact am_up_s
  have k12 : ∀ z : Nat, z < 8 → T4 z = h z := fun z q9 => by rw [← eT4]; exact (am_up_n (Nat.ne_of_lt (Nat.lt_of_lt_of_le q9 (by decide)))).trans (k8 z q9)
  have k13 : T4 9 = (.inl (0, 40, .inl (fun _ => 0))) := by rw [← eT4]; exact (am_up_n (by decide)).trans k9
  have k14 : T4 10 = (.inl (0, 40, .inl (fun _ => 0))) := by rw [← eT4]; exact (am_up_n (by decide)).trans k10
  refine am_aload_n (I := iX4_init) (pc := 20) dX4_init_20 rfl rfl ?_
  refine am_iconst (I := iX4_init) (pc := 21) (x := 0) dX4_init_21 (by decide) ?_
  refine am_putf (I := iX4_init) (pc := 22) (fs' := [.ref 9, .ref 10, .int 0, .null, .null, .null, .null, .int 0, .int 0]) lf_X4_18 dX4_init_22 k11 (fun _ => ⟨rfl, rfl⟩) (Nat.le_of_ble_eq_true rfl) rfl ?_
  show am_W _ _ _ _ _ _ _ _ _ _ _ _ _ _ _ 25 [some (.ref 8)] [] (am_up T4 8 (.inr (4, [.ref 9, .ref 10, .int 0, .null, .null, .null, .null, .int 0, .int 0])), 11) 2 80
  generalize eT5 : am_up T4 8 (.inr (4, [.ref 9, .ref 10, .int 0, .null, .null, .null, .null, .int 0, .int 0])) = T5
  have k15 : T5 8 = (.inr (4, [.ref 9, .ref 10, .int 0, .null, .null, .null, .null, .int 0, .int 0])) := by rw [← eT5]; exact am_up_s
  have k16 : ∀ z : Nat, z < 8 → T5 z = h z := fun z q9 => by rw [← eT5]; exact (am_up_n (Nat.ne_of_lt (Nat.lt_of_lt_of_le q9 (by decide)))).trans (k12 z q9)
  have k17 : T5 9 = (.inl (0, 40, .inl (fun _ => 0))) := by rw [← eT5]; exact (am_up_n (by decide)).trans k13
  have k18 : T5 10 = (.inl (0, 40, .inl (fun _ => 0))) := by rw [← eT5]; exact (am_up_n (by decide)).trans k14
  refine am_aload_n (I := iX4_init) (pc := 25) dX4_init_25 rfl rfl ?_
  refine am_bipush (I := iX4_init) (pc := 26) (x := 40) dX4_init_26 (by decide) ?_
  refine am_newarray (I := iX4_init) (pc := 28) (k := 0) (n := 40) (ty := .int) (q0 := .inl (fun _ => 0)) dX4_init_28 rfl rfl la_int (fun _ => rfl) (fun _ => rfl) (fun _ => trivial) (by decide) (by decide) (by decide) (Nat.le_of_ble_eq_true rfl) (Nat.le_of_ble_eq_true rfl) ?_
  show am_W _ _ _ _ _ _ _ _ _ _ _ _ _ _ _ 30 [some (.ref 8)] [.ref 11, .ref 8] (am_up T5 11 (.inl (0, 40, .inl (fun _ => 0))), 12) 3 120
  generalize eT6 : am_up T5 11 (.inl (0, 40, .inl (fun _ => 0))) = T6
  have k19 : T6 8 = (.inr (4, [.ref 9, .ref 10, .int 0, .null, .null, .null, .null, .int 0, .int 0])) := by rw [← eT6]; exact (am_up_n (by decide)).trans k15
  have k20 : ∀ z : Nat, z < 8 → T6 z = h z := fun z q9 => by rw [← eT6]; exact (am_up_n (Nat.ne_of_lt (Nat.lt_of_lt_of_le q9 (by decide)))).trans (k16 z q9)
  have k21 : T6 9 = (.inl (0, 40, .inl (fun _ => 0))) := by rw [← eT6]; exact (am_up_n (by decide)).trans k17
  have k22 : T6 10 = (.inl (0, 40, .inl (fun _ => 0))) := by rw [← eT6]; exact (am_up_n (by decide)).trans k18
  have k23 : T6 11 = (.inl (0, 40, .inl (fun _ => 0))) := by rw [← eT6]; exact am_up_s
  refine am_putF (I := iX4_init) (pc := 30) (fs' := [.ref 9, .ref 10, .int 0, .ref 11, .null, .null, .null, .int 0, .int 0]) lf_X4_22 rfl dX4_init_30 k19 (fun _ => ⟨rfl, rfl⟩) (Nat.le_of_ble_eq_true rfl) rfl ?_
  show am_W _ _ _ _ _ _ _ _ _ _ _ _ _ _ _ 33 [some (.ref 8)] [] (am_up T6 8 (.inr (4, [.ref 9, .ref 10, .int 0, .ref 11, .null, .null, .null, .int 0, .int 0])), 12) 3 120
  generalize eT7 : am_up T6 8 (.inr (4, [.ref 9, .ref 10, .int 0, .ref 11, .null, .null, .null, .int 0, .int 0])) = T7
  have k24 : T7 8 = (.inr (4, [.ref 9, .ref 10, .int 0, .ref 11, .null, .null, .null, .int 0, .int 0])) := by rw [← eT7]; exact am_up_s
  have k25 : ∀ z : Nat, z < 8 → T7 z = h z := fun z q9 => by rw [← eT7]; exact (am_up_n (Nat.ne_of_lt (Nat.lt_of_lt_of_le q9 (by decide)))).trans (k20 z q9)
  have k26 : T7 9 = (.inl (0, 40, .inl (fun _ => 0))) := by rw [← eT7]; exact (am_up_n (by decide)).trans k21
  have k27 : T7 10 = (.inl (0, 40, .inl (fun _ => 0))) := by rw [← eT7]; exact (am_up_n (by decide)).trans k22
  have k28 : T7 11 = (.inl (0, 40, .inl (fun _ => 0))) := by rw [← eT7]; exact (am_up_n (by decide)).trans k23
  refine am_aload_n (I := iX4_init) (pc := 33) dX4_init_33 rfl rfl ?_
  refine am_bipush (I := iX4_init) (pc := 34) (x := 40) dX4_init_34 (by decide) ?_
  refine am_newarray (I := iX4_init) (pc := 36) (k := 0) (n := 40) (ty := .int) (q0 := .inl (fun _ => 0)) dX4_init_36 rfl rfl la_int (fun _ => rfl) (fun _ => rfl) (fun _ => trivial) (by decide) (by decide) (by decide) (Nat.le_of_ble_eq_true rfl) (Nat.le_of_ble_eq_true rfl) ?_
  show am_W _ _ _ _ _ _ _ _ _ _ _ _ _ _ _ 38 [some (.ref 8)] [.ref 12, .ref 8] (am_up T7 12 (.inl (0, 40, .inl (fun _ => 0))), 13) 4 160
  generalize eT8 : am_up T7 12 (.inl (0, 40, .inl (fun _ => 0))) = T8
  have k29 : T8 8 = (.inr (4, [.ref 9, .ref 10, .int 0, .ref 11, .null, .null, .null, .int 0, .int 0])) := by rw [← eT8]; exact (am_up_n (by decide)).trans k24
  have k30 : ∀ z : Nat, z < 8 → T8 z = h z := fun z q9 => by rw [← eT8]; exact (am_up_n (Nat.ne_of_lt (Nat.lt_of_lt_of_le q9 (by decide)))).trans (k25 z q9)
  have k31 : T8 9 = (.inl (0, 40, .inl (fun _ => 0))) := by rw [← eT8]; exact (am_up_n (by decide)).trans k26
  have k32 : T8 10 = (.inl (0, 40, .inl (fun _ => 0))) := by rw [← eT8]; exact (am_up_n (by decide)).trans k27
  have k33 : T8 11 = (.inl (0, 40, .inl (fun _ => 0))) := by rw [← eT8]; exact (am_up_n (by decide)).trans k28
  have k34 : T8 12 = (.inl (0, 40, .inl (fun _ => 0))) := by rw [← eT8]; exact am_up_s
  refine am_putF (I := iX4_init) (pc := 38) (fs' := [.ref 9, .ref 10, .int 0, .ref 11, .ref 12, .null, .null, .int 0, .int 0]) lf_X4_25 rfl dX4_init_38 k29 (fun _ => ⟨rfl, rfl⟩) (Nat.le_of_ble_eq_true rfl) rfl ?_
  show am_W _ _ _ _ _ _ _ _ _ _ _ _ _ _ _ 41 [some (.ref 8)] [] (am_up T8 8 (.inr (4, [.ref 9, .ref 10, .int 0, .ref 11, .ref 12, .null, .null, .int 0, .int 0])), 13) 4 160
  generalize eT9 : am_up T8 8 (.inr (4, [.ref 9, .ref 10, .int 0, .ref 11, .ref 12, .null, .null, .int 0, .int 0])) = T9
  have k35 : T9 8 = (.inr (4, [.ref 9, .ref 10, .int 0, .ref 11, .ref 12, .null, .null, .int 0, .int 0])) := by rw [← eT9]; exact am_up_s
  have k36 : ∀ z : Nat, z < 8 → T9 z = h z := fun z q9 => by rw [← eT9]; exact (am_up_n (Nat.ne_of_lt (Nat.lt_of_lt_of_le q9 (by decide)))).trans (k30 z q9)
  have k37 : T9 9 = (.inl (0, 40, .inl (fun _ => 0))) := by rw [← eT9]; exact (am_up_n (by decide)).trans k31
  have k38 : T9 10 = (.inl (0, 40, .inl (fun _ => 0))) := by rw [← eT9]; exact (am_up_n (by decide)).trans k32
  have k39 : T9 11 = (.inl (0, 40, .inl (fun _ => 0))) := by rw [← eT9]; exact (am_up_n (by decide)).trans k33
  have k40 : T9 12 = (.inl (0, 40, .inl (fun _ => 0))) := by rw [← eT9]; exact (am_up_n (by decide)).trans k34
  refine am_aload_n (I := iX4_init) (pc := 41) dX4_init_41 rfl rfl ?_
  refine am_bipush (I := iX4_init) (pc := 42) (x := 40) dX4_init_42 (by decide) ?_
  refine am_newarray (I := iX4_init) (pc := 44) (k := 0) (n := 40) (ty := .int) (q0 := .inl (fun _ => 0)) dX4_init_44 rfl rfl la_int (fun _ => rfl) (fun _ => rfl) (fun _ => trivial) (by decide) (by decide) (by decide) (Nat.le_of_ble_eq_true rfl) (Nat.le_of_ble_eq_true rfl) ?_
  show am_W _ _ _ _ _ _ _ _ _ _ _ _ _ _ _ 46 [some (.ref 8)] [.ref 13, .ref 8] (am_up T9 13 (.inl (0, 40, .inl (fun _ => 0))), 14) 5 200
  generalize eT10 : am_up T9 13 (.inl (0, 40, .inl (fun _ => 0))) = T10
  have k41 : T10 8 = (.inr (4, [.ref 9, .ref 10, .int 0, .ref 11, .ref 12, .null, .null, .int 0, .int 0])) := by rw [← eT10]; exact (am_up_n (by decide)).trans k35
  have k42 : ∀ z : Nat, z < 8 → T10 z = h z := fun z q9 => by rw [← eT10]; exact (am_up_n (Nat.ne_of_lt (Nat.lt_of_lt_of_le q9 (by decide)))).trans (k36 z q9)
  have k43 : T10 9 = (.inl (0, 40, .inl (fun _ => 0))) := by rw [← eT10]; exact (am_up_n (by decide)).trans k37
  have k44 : T10 10 = (.inl (0, 40, .inl (fun _ => 0))) := by rw [← eT10]; exact (am_up_n (by decide)).trans k38
  have k45 : T10 11 = (.inl (0, 40, .inl (fun _ => 0))) := by rw [← eT10]; exact (am_up_n (by decide)).trans k39
  have k46 : T10 12 = (.inl (0, 40, .inl (fun _ => 0))) := by rw [← eT10]; exact (am_up_n (by decide)).trans k40
  have k47 : T10 13 = (.inl (0, 40, .inl (fun _ => 0))) := by rw [← eT10]; exact am_up_s
  refine am_putF (I := iX4_init) (pc := 46) (fs' := [.ref 9, .ref 10, .int 0, .ref 11, .ref 12, .ref 13, .null, .int 0, .int 0]) lf_X4_28 rfl dX4_init_46 k41 (fun _ => ⟨rfl, rfl⟩) (Nat.le_of_ble_eq_true rfl) rfl ?_
  show am_W _ _ _ _ _ _ _ _ _ _ _ _ _ _ _ 49 [some (.ref 8)] [] (am_up T10 8 (.inr (4, [.ref 9, .ref 10, .int 0, .ref 11, .ref 12, .ref 13, .null, .int 0, .int 0])), 14) 5 200
  generalize eT11 : am_up T10 8 (.inr (4, [.ref 9, .ref 10, .int 0, .ref 11, .ref 12, .ref 13, .null, .int 0, .int 0])) = T11
  have k48 : T11 8 = (.inr (4, [.ref 9, .ref 10, .int 0, .ref 11, .ref 12, .ref 13, .null, .int 0, .int 0])) := by rw [← eT11]; exact am_up_s
  have k49 : ∀ z : Nat, z < 8 → T11 z = h z := fun z q9 => by rw [← eT11]; exact (am_up_n (Nat.ne_of_lt (Nat.lt_of_lt_of_le q9 (by decide)))).trans (k42 z q9)
  have k50 : T11 9 = (.inl (0, 40, .inl (fun _ => 0))) := by rw [← eT11]; exact (am_up_n (by decide)).trans k43
  have k51 : T11 10 = (.inl (0, 40, .inl (fun _ => 0))) := by rw [← eT11]; exact (am_up_n (by decide)).trans k44
  have k52 : T11 11 = (.inl (0, 40, .inl (fun _ => 0))) := by rw [← eT11]; exact (am_up_n (by decide)).trans k45
  have k53 : T11 12 = (.inl (0, 40, .inl (fun _ => 0))) := by rw [← eT11]; exact (am_up_n (by decide)).trans k46
  have k54 : T11 13 = (.inl (0, 40, .inl (fun _ => 0))) := by rw [← eT11]; exact (am_up_n (by decide)).trans k47
  refine am_aload_n (I := iX4_init) (pc := 49) dX4_init_49 rfl rfl ?_
  refine am_bipush (I := iX4_init) (pc := 50) (x := 40) dX4_init_50 (by decide) ?_
  refine am_newarray (I := iX4_init) (pc := 52) (k := 0) (n := 40) (ty := .int) (q0 := .inl (fun _ => 0)) dX4_init_52 rfl rfl la_int (fun _ => rfl) (fun _ => rfl) (fun _ => trivial) (by decide) (by decide) (by decide) (Nat.le_of_ble_eq_true rfl) (Nat.le_of_ble_eq_true rfl) ?_
  show am_W _ _ _ _ _ _ _ _ _ _ _ _ _ _ _ 54 [some (.ref 8)] [.ref 14, .ref 8] (am_up T11 14 (.inl (0, 40, .inl (fun _ => 0))), 15) 6 240
  generalize eT12 : am_up T11 14 (.inl (0, 40, .inl (fun _ => 0))) = T12
  have k55 : T12 8 = (.inr (4, [.ref 9, .ref 10, .int 0, .ref 11, .ref 12, .ref 13, .null, .int 0, .int 0])) := by rw [← eT12]; exact (am_up_n (by decide)).trans k48
  have k56 : ∀ z : Nat, z < 8 → T12 z = h z := fun z q9 => by rw [← eT12]; exact (am_up_n (Nat.ne_of_lt (Nat.lt_of_lt_of_le q9 (by decide)))).trans (k49 z q9)
  have k57 : T12 9 = (.inl (0, 40, .inl (fun _ => 0))) := by rw [← eT12]; exact (am_up_n (by decide)).trans k50
  have k58 : T12 10 = (.inl (0, 40, .inl (fun _ => 0))) := by rw [← eT12]; exact (am_up_n (by decide)).trans k51
  have k59 : T12 11 = (.inl (0, 40, .inl (fun _ => 0))) := by rw [← eT12]; exact (am_up_n (by decide)).trans k52
  have k60 : T12 12 = (.inl (0, 40, .inl (fun _ => 0))) := by rw [← eT12]; exact (am_up_n (by decide)).trans k53
  have k61 : T12 13 = (.inl (0, 40, .inl (fun _ => 0))) := by rw [← eT12]; exact (am_up_n (by decide)).trans k54
  have k62 : T12 14 = (.inl (0, 40, .inl (fun _ => 0))) := by rw [← eT12]; exact am_up_s
  refine am_putF (I := iX4_init) (pc := 54) (fs' := [.ref 9, .ref 10, .int 0, .ref 11, .ref 12, .ref 13, .ref 14, .int 0, .int 0]) lf_X4_31 rfl dX4_init_54 k55 (fun _ => ⟨rfl, rfl⟩) (Nat.le_of_ble_eq_true rfl) rfl ?_
  show am_W _ _ _ _ _ _ _ _ _ _ _ _ _ _ _ 57 [some (.ref 8)] [] (am_up T12 8 (.inr (4, [.ref 9, .ref 10, .int 0, .ref 11, .ref 12, .ref 13, .ref 14, .int 0, .int 0])), 15) 6 240
  generalize eT13 : am_up T12 8 (.inr (4, [.ref 9, .ref 10, .int 0, .ref 11, .ref 12, .ref 13, .ref 14, .int 0, .int 0])) = T13
  have k63 : T13 8 = (.inr (4, [.ref 9, .ref 10, .int 0, .ref 11, .ref 12, .ref 13, .ref 14, .int 0, .int 0])) := by rw [← eT13]; exact am_up_s
  have k64 : ∀ z : Nat, z < 8 → T13 z = h z := fun z q9 => by rw [← eT13]; exact (am_up_n (Nat.ne_of_lt (Nat.lt_of_lt_of_le q9 (by decide)))).trans (k56 z q9)
  have k65 : T13 9 = (.inl (0, 40, .inl (fun _ => 0))) := by rw [← eT13]; exact (am_up_n (by decide)).trans k57
  have k66 : T13 10 = (.inl (0, 40, .inl (fun _ => 0))) := by rw [← eT13]; exact (am_up_n (by decide)).trans k58
  have k67 : T13 11 = (.inl (0, 40, .inl (fun _ => 0))) := by rw [← eT13]; exact (am_up_n (by decide)).trans k59
  have k68 : T13 12 = (.inl (0, 40, .inl (fun _ => 0))) := by rw [← eT13]; exact (am_up_n (by decide)).trans k60
  have k69 : T13 13 = (.inl (0, 40, .inl (fun _ => 0))) := by rw [← eT13]; exact (am_up_n (by decide)).trans k61
  have k70 : T13 14 = (.inl (0, 40, .inl (fun _ => 0))) := by rw [← eT13]; exact (am_up_n (by decide)).trans k62
  refine am_aload_n (I := iX4_init) (pc := 57) dX4_init_57 rfl rfl ?_
  refine am_iconst (I := iX4_init) (pc := 58) (x := 0) dX4_init_58 (by decide) ?_
  refine am_putf (I := iX4_init) (pc := 59) (fs' := [.ref 9, .ref 10, .int 0, .ref 11, .ref 12, .ref 13, .ref 14, .int 0, .int 0]) lf_X4_34 dX4_init_59 k63 (fun _ => ⟨rfl, rfl⟩) (Nat.le_of_ble_eq_true rfl) rfl ?_
  show am_W _ _ _ _ _ _ _ _ _ _ _ _ _ _ _ 62 [some (.ref 8)] [] (am_up T13 8 (.inr (4, [.ref 9, .ref 10, .int 0, .ref 11, .ref 12, .ref 13, .ref 14, .int 0, .int 0])), 15) 6 240
  generalize eT14 : am_up T13 8 (.inr (4, [.ref 9, .ref 10, .int 0, .ref 11, .ref 12, .ref 13, .ref 14, .int 0, .int 0])) = T14
  have k71 : T14 8 = (.inr (4, [.ref 9, .ref 10, .int 0, .ref 11, .ref 12, .ref 13, .ref 14, .int 0, .int 0])) := by rw [← eT14]; exact am_up_s
  have k72 : ∀ z : Nat, z < 8 → T14 z = h z := fun z q9 => by rw [← eT14]; exact (am_up_n (Nat.ne_of_lt (Nat.lt_of_lt_of_le q9 (by decide)))).trans (k64 z q9)
  have k73 : T14 9 = (.inl (0, 40, .inl (fun _ => 0))) := by rw [← eT14]; exact (am_up_n (by decide)).trans k65
  have k74 : T14 10 = (.inl (0, 40, .inl (fun _ => 0))) := by rw [← eT14]; exact (am_up_n (by decide)).trans k66
  have k75 : T14 11 = (.inl (0, 40, .inl (fun _ => 0))) := by rw [← eT14]; exact (am_up_n (by decide)).trans k67
  have k76 : T14 12 = (.inl (0, 40, .inl (fun _ => 0))) := by rw [← eT14]; exact (am_up_n (by decide)).trans k68
  have k77 : T14 13 = (.inl (0, 40, .inl (fun _ => 0))) := by rw [← eT14]; exact (am_up_n (by decide)).trans k69
  have k78 : T14 14 = (.inl (0, 40, .inl (fun _ => 0))) := by rw [← eT14]; exact (am_up_n (by decide)).trans k70
  refine am_aload_n (I := iX4_init) (pc := 62) dX4_init_62 rfl rfl ?_
  refine am_iconst (I := iX4_init) (pc := 63) (x := 0) dX4_init_63 (by decide) ?_
  refine am_putf (I := iX4_init) (pc := 64) (fs' := [.ref 9, .ref 10, .int 0, .ref 11, .ref 12, .ref 13, .ref 14, .int 0, .int 0]) lf_X4_37 dX4_init_64 k71 (fun _ => ⟨rfl, rfl⟩) (Nat.le_of_ble_eq_true rfl) rfl ?_
  show am_W _ _ _ _ _ _ _ _ _ _ _ _ _ _ _ 67 [some (.ref 8)] [] (am_up T14 8 (.inr (4, [.ref 9, .ref 10, .int 0, .ref 11, .ref 12, .ref 13, .ref 14, .int 0, .int 0])), 15) 6 240
  generalize eT15 : am_up T14 8 (.inr (4, [.ref 9, .ref 10, .int 0, .ref 11, .ref 12, .ref 13, .ref 14, .int 0, .int 0])) = T15
  have k79 : T15 8 = (.inr (4, [.ref 9, .ref 10, .int 0, .ref 11, .ref 12, .ref 13, .ref 14, .int 0, .int 0])) := by rw [← eT15]; exact am_up_s
  have k80 : ∀ z : Nat, z < 8 → T15 z = h z := fun z q9 => by rw [← eT15]; exact (am_up_n (Nat.ne_of_lt (Nat.lt_of_lt_of_le q9 (by decide)))).trans (k72 z q9)
  have k81 : T15 9 = (.inl (0, 40, .inl (fun _ => 0))) := by rw [← eT15]; exact (am_up_n (by decide)).trans k73
  have k82 : T15 10 = (.inl (0, 40, .inl (fun _ => 0))) := by rw [← eT15]; exact (am_up_n (by decide)).trans k74
  have k83 : T15 11 = (.inl (0, 40, .inl (fun _ => 0))) := by rw [← eT15]; exact (am_up_n (by decide)).trans k75
  have k84 : T15 12 = (.inl (0, 40, .inl (fun _ => 0))) := by rw [← eT15]; exact (am_up_n (by decide)).trans k76
  have k85 : T15 13 = (.inl (0, 40, .inl (fun _ => 0))) := by rw [← eT15]; exact (am_up_n (by decide)).trans k77
  have k86 : T15 14 = (.inl (0, 40, .inl (fun _ => 0))) := by rw [← eT15]; exact (am_up_n (by decide)).trans k78
  exact am_vret (I := iX4_init) (pc := 67) dX4_init_67 rfl (Nat.le_refl _) (Nat.le_refl _) (⟨rfl, rfl, k79, k81, k82, k83, k84, k85, k86, k80⟩)
set_option maxRecDepth 100000 in
set_option maxHeartbeats 4000000 in
theorem m_Con_init (K : am_K) (l : Launch) (h : Nat → am_C) (hr : h 15 = (.inr (1, [.null, .int 0]))) : am_M K l iX1_init 1 1 36 [.ref 15] (h, 16) (fun v S' => v = none ∧ S'.2 = 17 ∧ S'.1 15 = (.inr (1, [.ref 16, .int 0])) ∧ S'.1 16 = (.inl (2, 36, .inr (.inr (.inr (.inr (fun _ => none)))))) ∧ ∀ z : Nat, z < 15 → S'.1 z = h z) (fun _ _ => False) := by
  refine am_body (by decide) rfl (by simp [Value.category]) (Nat.le_of_ble_eq_true rfl) (fun xp xe xs xm xa xb xt xc ad0 => ?_)
  show am_W _ _ _ _ _ _ _ _ _ _ _ _ _ _ _ 0 [some (.ref 15)] [] (h, 16) 0 0
  refine am_aload_n (I := iX1_init) (pc := 0) dX1_init_0 rfl rfl ?_
  refine am_objInit (I := iX1_init) (pc := 1) dX1_init_1 lo_X1_3 lo_i lo_c (Nat.le_of_ble_eq_true rfl) (Nat.le_of_ble_eq_true rfl) ?_
  refine am_aload_n (I := iX1_init) (pc := 4) dX1_init_4 rfl rfl ?_
  refine am_bipush (I := iX1_init) (pc := 5) (x := 36) dX1_init_5 (by decide) ?_
  refine am_anewarray (I := iX1_init) (pc := 7) (k := 2) (n := 36) dX1_init_7 rfl lq_X1_9 (by decide +kernel) (by decide) (by decide) (by decide) (Nat.le_of_ble_eq_true rfl) (Nat.le_of_ble_eq_true rfl) ?_
  show am_W _ _ _ _ _ _ _ _ _ _ _ _ _ _ _ 10 [some (.ref 15)] [.ref 16, .ref 15] (am_up h 16 (.inl (2, 36, .inr (.inr (.inr (.inr (fun _ => none)))))), 17) 1 36
  generalize eT1 : am_up h 16 (.inl (2, 36, .inr (.inr (.inr (.inr (fun _ => none)))))) = T1
  have k1 : T1 15 = (.inr (1, [.null, .int 0])) := by rw [← eT1]; exact (am_up_n (by decide)).trans hr
  have k2 : ∀ z : Nat, z < 15 → T1 z = h z := fun z q9 => by rw [← eT1]; exact (am_up_n (Nat.ne_of_lt (Nat.lt_of_lt_of_le q9 (by decide)))).trans ((fun z _ => rfl : ∀ z : Nat, z < 15 → h z = h z) z q9)
  have k3 : T1 16 = (.inl (2, 36, .inr (.inr (.inr (.inr (fun _ => none)))))) := by rw [← eT1]; exact am_up_s
  refine am_putF (I := iX1_init) (pc := 10) (fs' := [.ref 16, .int 0]) lf_X1_11 rfl dX1_init_10 k1 (fun _ => ⟨rfl, rfl⟩) (Nat.le_of_ble_eq_true rfl) rfl ?_
  show am_W _ _ _ _ _ _ _ _ _ _ _ _ _ _ _ 13 [some (.ref 15)] [] (am_up T1 15 (.inr (1, [.ref 16, .int 0])), 17) 1 36
  generalize eT2 : am_up T1 15 (.inr (1, [.ref 16, .int 0])) = T2
  have k4 : T2 15 = (.inr (1, [.ref 16, .int 0])) := by rw [← eT2]; exact am_up_s
  have k5 : ∀ z : Nat, z < 15 → T2 z = h z := fun z q9 => by rw [← eT2]; exact (am_up_n (Nat.ne_of_lt (Nat.lt_of_lt_of_le q9 (by decide)))).trans (k2 z q9)
  have k6 : T2 16 = (.inl (2, 36, .inr (.inr (.inr (.inr (fun _ => none)))))) := by rw [← eT2]; exact (am_up_n (by decide)).trans k3
  refine am_aload_n (I := iX1_init) (pc := 13) dX1_init_13 rfl rfl ?_
  refine am_iconst (I := iX1_init) (pc := 14) (x := 0) dX1_init_14 (by decide) ?_
  refine am_putf (I := iX1_init) (pc := 15) (fs' := [.ref 16, .int 0]) lf_X1_17 dX1_init_15 k4 (fun _ => ⟨rfl, rfl⟩) (Nat.le_of_ble_eq_true rfl) rfl ?_
  show am_W _ _ _ _ _ _ _ _ _ _ _ _ _ _ _ 18 [some (.ref 15)] [] (am_up T2 15 (.inr (1, [.ref 16, .int 0])), 17) 1 36
  generalize eT3 : am_up T2 15 (.inr (1, [.ref 16, .int 0])) = T3
  have k7 : T3 15 = (.inr (1, [.ref 16, .int 0])) := by rw [← eT3]; exact am_up_s
  have k8 : ∀ z : Nat, z < 15 → T3 z = h z := fun z q9 => by rw [← eT3]; exact (am_up_n (Nat.ne_of_lt (Nat.lt_of_lt_of_le q9 (by decide)))).trans (k5 z q9)
  have k9 : T3 16 = (.inl (2, 36, .inr (.inr (.inr (.inr (fun _ => none)))))) := by rw [← eT3]; exact (am_up_n (by decide)).trans k6
  exact am_vret (I := iX1_init) (pc := 18) dX1_init_18 rfl (Nat.le_refl _) (Nat.le_refl _) (⟨rfl, rfl, k7, k9, k8⟩)
set_option maxRecDepth 100000 in
set_option maxHeartbeats 4000000 in
theorem m_Zon_init (K : am_K) (l : Launch) (h : Nat → am_C) (hr : h 19 = (.inr (5, [.null, .null, .null, .int 0]))) : am_M K l iX5_init 1 3 48 [.ref 19] (h, 20) (fun v S' => v = none ∧ S'.2 = 23 ∧ S'.1 19 = (.inr (5, [.ref 20, .ref 21, .ref 22, .int 0])) ∧ S'.1 20 = (.inl (0, 16, .inl (fun _ => 0))) ∧ S'.1 21 = (.inl (0, 16, .inl (fun _ => 0))) ∧ S'.1 22 = (.inl (0, 16, .inl (fun _ => 0))) ∧ ∀ z : Nat, z < 19 → S'.1 z = h z) (fun _ _ => False) := by
  refine am_body (by decide) rfl (by simp [Value.category]) (Nat.le_of_ble_eq_true rfl) (fun xp xe xs xm xa xb xt xc ad0 => ?_)
  show am_W _ _ _ _ _ _ _ _ _ _ _ _ _ _ _ 0 [some (.ref 19)] [] (h, 20) 0 0
  refine am_aload_n (I := iX5_init) (pc := 0) dX5_init_0 rfl rfl ?_
  refine am_objInit (I := iX5_init) (pc := 1) dX5_init_1 lo_X5_3 lo_i lo_c (Nat.le_of_ble_eq_true rfl) (Nat.le_of_ble_eq_true rfl) ?_
  refine am_aload_n (I := iX5_init) (pc := 4) dX5_init_4 rfl rfl ?_
  refine am_bipush (I := iX5_init) (pc := 5) (x := 16) dX5_init_5 (by decide) ?_
  refine am_newarray (I := iX5_init) (pc := 7) (k := 0) (n := 16) (ty := .int) (q0 := .inl (fun _ => 0)) dX5_init_7 rfl rfl la_int (fun _ => rfl) (fun _ => rfl) (fun _ => trivial) (by decide) (by decide) (by decide) (Nat.le_of_ble_eq_true rfl) (Nat.le_of_ble_eq_true rfl) ?_
  show am_W _ _ _ _ _ _ _ _ _ _ _ _ _ _ _ 9 [some (.ref 19)] [.ref 20, .ref 19] (am_up h 20 (.inl (0, 16, .inl (fun _ => 0))), 21) 1 16
  generalize eT1 : am_up h 20 (.inl (0, 16, .inl (fun _ => 0))) = T1
  have k1 : T1 19 = (.inr (5, [.null, .null, .null, .int 0])) := by rw [← eT1]; exact (am_up_n (by decide)).trans hr
  have k2 : ∀ z : Nat, z < 19 → T1 z = h z := fun z q9 => by rw [← eT1]; exact (am_up_n (Nat.ne_of_lt (Nat.lt_of_lt_of_le q9 (by decide)))).trans ((fun z _ => rfl : ∀ z : Nat, z < 19 → h z = h z) z q9)
  have k3 : T1 20 = (.inl (0, 16, .inl (fun _ => 0))) := by rw [← eT1]; exact am_up_s
  refine am_putF (I := iX5_init) (pc := 9) (fs' := [.ref 20, .null, .null, .int 0]) lf_X5_9 rfl dX5_init_9 k1 (fun _ => ⟨rfl, rfl⟩) (Nat.le_of_ble_eq_true rfl) rfl ?_
  show am_W _ _ _ _ _ _ _ _ _ _ _ _ _ _ _ 12 [some (.ref 19)] [] (am_up T1 19 (.inr (5, [.ref 20, .null, .null, .int 0])), 21) 1 16
  generalize eT2 : am_up T1 19 (.inr (5, [.ref 20, .null, .null, .int 0])) = T2
  have k4 : T2 19 = (.inr (5, [.ref 20, .null, .null, .int 0])) := by rw [← eT2]; exact am_up_s
  have k5 : ∀ z : Nat, z < 19 → T2 z = h z := fun z q9 => by rw [← eT2]; exact (am_up_n (Nat.ne_of_lt (Nat.lt_of_lt_of_le q9 (by decide)))).trans (k2 z q9)
  have k6 : T2 20 = (.inl (0, 16, .inl (fun _ => 0))) := by rw [← eT2]; exact (am_up_n (by decide)).trans k3
  refine am_aload_n (I := iX5_init) (pc := 12) dX5_init_12 rfl rfl ?_
  refine am_bipush (I := iX5_init) (pc := 13) (x := 16) dX5_init_13 (by decide) ?_
  refine am_newarray (I := iX5_init) (pc := 15) (k := 0) (n := 16) (ty := .int) (q0 := .inl (fun _ => 0)) dX5_init_15 rfl rfl la_int (fun _ => rfl) (fun _ => rfl) (fun _ => trivial) (by decide) (by decide) (by decide) (Nat.le_of_ble_eq_true rfl) (Nat.le_of_ble_eq_true rfl) ?_
  show am_W _ _ _ _ _ _ _ _ _ _ _ _ _ _ _ 17 [some (.ref 19)] [.ref 21, .ref 19] (am_up T2 21 (.inl (0, 16, .inl (fun _ => 0))), 22) 2 32
  generalize eT3 : am_up T2 21 (.inl (0, 16, .inl (fun _ => 0))) = T3
  have k7 : T3 19 = (.inr (5, [.ref 20, .null, .null, .int 0])) := by rw [← eT3]; exact (am_up_n (by decide)).trans k4
  have k8 : ∀ z : Nat, z < 19 → T3 z = h z := fun z q9 => by rw [← eT3]; exact (am_up_n (Nat.ne_of_lt (Nat.lt_of_lt_of_le q9 (by decide)))).trans (k5 z q9)
  have k9 : T3 20 = (.inl (0, 16, .inl (fun _ => 0))) := by rw [← eT3]; exact (am_up_n (by decide)).trans k6
  have k10 : T3 21 = (.inl (0, 16, .inl (fun _ => 0))) := by rw [← eT3]; exact am_up_s
  refine am_putF (I := iX5_init) (pc := 17) (fs' := [.ref 20, .ref 21, .null, .int 0]) lf_X5_15 rfl dX5_init_17 k7 (fun _ => ⟨rfl, rfl⟩) (Nat.le_of_ble_eq_true rfl) rfl ?_
  show am_W _ _ _ _ _ _ _ _ _ _ _ _ _ _ _ 20 [some (.ref 19)] [] (am_up T3 19 (.inr (5, [.ref 20, .ref 21, .null, .int 0])), 22) 2 32
  generalize eT4 : am_up T3 19 (.inr (5, [.ref 20, .ref 21, .null, .int 0])) = T4
  have k11 : T4 19 = (.inr (5, [.ref 20, .ref 21, .null, .int 0])) := by rw [← eT4]; exact am_up_s
  have k12 : ∀ z : Nat, z < 19 → T4 z = h z := fun z q9 => by rw [← eT4]; exact (am_up_n (Nat.ne_of_lt (Nat.lt_of_lt_of_le q9 (by decide)))).trans (k8 z q9)
  have k13 : T4 20 = (.inl (0, 16, .inl (fun _ => 0))) := by rw [← eT4]; exact (am_up_n (by decide)).trans k9
  have k14 : T4 21 = (.inl (0, 16, .inl (fun _ => 0))) := by rw [← eT4]; exact (am_up_n (by decide)).trans k10
  refine am_aload_n (I := iX5_init) (pc := 20) dX5_init_20 rfl rfl ?_
  refine am_bipush (I := iX5_init) (pc := 21) (x := 16) dX5_init_21 (by decide) ?_
  refine am_newarray (I := iX5_init) (pc := 23) (k := 0) (n := 16) (ty := .int) (q0 := .inl (fun _ => 0)) dX5_init_23 rfl rfl la_int (fun _ => rfl) (fun _ => rfl) (fun _ => trivial) (by decide) (by decide) (by decide) (Nat.le_of_ble_eq_true rfl) (Nat.le_of_ble_eq_true rfl) ?_
  show am_W _ _ _ _ _ _ _ _ _ _ _ _ _ _ _ 25 [some (.ref 19)] [.ref 22, .ref 19] (am_up T4 22 (.inl (0, 16, .inl (fun _ => 0))), 23) 3 48
  generalize eT5 : am_up T4 22 (.inl (0, 16, .inl (fun _ => 0))) = T5
  have k15 : T5 19 = (.inr (5, [.ref 20, .ref 21, .null, .int 0])) := by rw [← eT5]; exact (am_up_n (by decide)).trans k11
  have k16 : ∀ z : Nat, z < 19 → T5 z = h z := fun z q9 => by rw [← eT5]; exact (am_up_n (Nat.ne_of_lt (Nat.lt_of_lt_of_le q9 (by decide)))).trans (k12 z q9)
  have k17 : T5 20 = (.inl (0, 16, .inl (fun _ => 0))) := by rw [← eT5]; exact (am_up_n (by decide)).trans k13
  have k18 : T5 21 = (.inl (0, 16, .inl (fun _ => 0))) := by rw [← eT5]; exact (am_up_n (by decide)).trans k14
  have k19 : T5 22 = (.inl (0, 16, .inl (fun _ => 0))) := by rw [← eT5]; exact am_up_s
  refine am_putF (I := iX5_init) (pc := 25) (fs' := [.ref 20, .ref 21, .ref 22, .int 0]) lf_X5_18 rfl dX5_init_25 k15 (fun _ => ⟨rfl, rfl⟩) (Nat.le_of_ble_eq_true rfl) rfl ?_
  show am_W _ _ _ _ _ _ _ _ _ _ _ _ _ _ _ 28 [some (.ref 19)] [] (am_up T5 19 (.inr (5, [.ref 20, .ref 21, .ref 22, .int 0])), 23) 3 48
  generalize eT6 : am_up T5 19 (.inr (5, [.ref 20, .ref 21, .ref 22, .int 0])) = T6
  have k20 : T6 19 = (.inr (5, [.ref 20, .ref 21, .ref 22, .int 0])) := by rw [← eT6]; exact am_up_s
  have k21 : ∀ z : Nat, z < 19 → T6 z = h z := fun z q9 => by rw [← eT6]; exact (am_up_n (Nat.ne_of_lt (Nat.lt_of_lt_of_le q9 (by decide)))).trans (k16 z q9)
  have k22 : T6 20 = (.inl (0, 16, .inl (fun _ => 0))) := by rw [← eT6]; exact (am_up_n (by decide)).trans k17
  have k23 : T6 21 = (.inl (0, 16, .inl (fun _ => 0))) := by rw [← eT6]; exact (am_up_n (by decide)).trans k18
  have k24 : T6 22 = (.inl (0, 16, .inl (fun _ => 0))) := by rw [← eT6]; exact (am_up_n (by decide)).trans k19
  refine am_aload_n (I := iX5_init) (pc := 28) dX5_init_28 rfl rfl ?_
  refine am_iconst (I := iX5_init) (pc := 29) (x := 0) dX5_init_29 (by decide) ?_
  refine am_putf (I := iX5_init) (pc := 30) (fs' := [.ref 20, .ref 21, .ref 22, .int 0]) lf_X5_21 dX5_init_30 k20 (fun _ => ⟨rfl, rfl⟩) (Nat.le_of_ble_eq_true rfl) rfl ?_
  show am_W _ _ _ _ _ _ _ _ _ _ _ _ _ _ _ 33 [some (.ref 19)] [] (am_up T6 19 (.inr (5, [.ref 20, .ref 21, .ref 22, .int 0])), 23) 3 48
  generalize eT7 : am_up T6 19 (.inr (5, [.ref 20, .ref 21, .ref 22, .int 0])) = T7
  have k25 : T7 19 = (.inr (5, [.ref 20, .ref 21, .ref 22, .int 0])) := by rw [← eT7]; exact am_up_s
  have k26 : ∀ z : Nat, z < 19 → T7 z = h z := fun z q9 => by rw [← eT7]; exact (am_up_n (Nat.ne_of_lt (Nat.lt_of_lt_of_le q9 (by decide)))).trans (k21 z q9)
  have k27 : T7 20 = (.inl (0, 16, .inl (fun _ => 0))) := by rw [← eT7]; exact (am_up_n (by decide)).trans k22
  have k28 : T7 21 = (.inl (0, 16, .inl (fun _ => 0))) := by rw [← eT7]; exact (am_up_n (by decide)).trans k23
  have k29 : T7 22 = (.inl (0, 16, .inl (fun _ => 0))) := by rw [← eT7]; exact (am_up_n (by decide)).trans k24
  exact am_vret (I := iX5_init) (pc := 33) dX5_init_33 rfl (Nat.le_refl _) (Nat.le_refl _) (⟨rfl, rfl, k25, k27, k28, k29, k26⟩)
set_option maxRecDepth 100000 in
set_option maxHeartbeats 4000000 in
theorem m_Roo_init (K : am_K) (l : Launch) (h : Nat → am_C) (hr : h 23 = (.inr (2, [.null, .int 0]))) : am_M K l iX2_init 1 1 24 [.ref 23] (h, 24) (fun v S' => v = none ∧ S'.2 = 25 ∧ S'.1 23 = (.inr (2, [.ref 24, .int 0])) ∧ S'.1 24 = (.inl (0, 24, .inl (fun _ => 0))) ∧ ∀ z : Nat, z < 23 → S'.1 z = h z) (fun _ _ => False) := by
  refine am_body (by decide) rfl (by simp [Value.category]) (Nat.le_of_ble_eq_true rfl) (fun xp xe xs xm xa xb xt xc ad0 => ?_)
  show am_W _ _ _ _ _ _ _ _ _ _ _ _ _ _ _ 0 [some (.ref 23)] [] (h, 24) 0 0
  refine am_aload_n (I := iX2_init) (pc := 0) dX2_init_0 rfl rfl ?_
  refine am_objInit (I := iX2_init) (pc := 1) dX2_init_1 lo_X2_3 lo_i lo_c (Nat.le_of_ble_eq_true rfl) (Nat.le_of_ble_eq_true rfl) ?_
  refine am_aload_n (I := iX2_init) (pc := 4) dX2_init_4 rfl rfl ?_
  refine am_bipush (I := iX2_init) (pc := 5) (x := 24) dX2_init_5 (by decide) ?_
  refine am_newarray (I := iX2_init) (pc := 7) (k := 0) (n := 24) (ty := .int) (q0 := .inl (fun _ => 0)) dX2_init_7 rfl rfl la_int (fun _ => rfl) (fun _ => rfl) (fun _ => trivial) (by decide) (by decide) (by decide) (Nat.le_of_ble_eq_true rfl) (Nat.le_of_ble_eq_true rfl) ?_
  show am_W _ _ _ _ _ _ _ _ _ _ _ _ _ _ _ 9 [some (.ref 23)] [.ref 24, .ref 23] (am_up h 24 (.inl (0, 24, .inl (fun _ => 0))), 25) 1 24
  generalize eT1 : am_up h 24 (.inl (0, 24, .inl (fun _ => 0))) = T1
  have k1 : T1 23 = (.inr (2, [.null, .int 0])) := by rw [← eT1]; exact (am_up_n (by decide)).trans hr
  have k2 : ∀ z : Nat, z < 23 → T1 z = h z := fun z q9 => by rw [← eT1]; exact (am_up_n (Nat.ne_of_lt (Nat.lt_of_lt_of_le q9 (by decide)))).trans ((fun z _ => rfl : ∀ z : Nat, z < 23 → h z = h z) z q9)
  have k3 : T1 24 = (.inl (0, 24, .inl (fun _ => 0))) := by rw [← eT1]; exact am_up_s
  refine am_putF (I := iX2_init) (pc := 9) (fs' := [.ref 24, .int 0]) lf_X2_9 rfl dX2_init_9 k1 (fun _ => ⟨rfl, rfl⟩) (Nat.le_of_ble_eq_true rfl) rfl ?_
  show am_W _ _ _ _ _ _ _ _ _ _ _ _ _ _ _ 12 [some (.ref 23)] [] (am_up T1 23 (.inr (2, [.ref 24, .int 0])), 25) 1 24
  generalize eT2 : am_up T1 23 (.inr (2, [.ref 24, .int 0])) = T2
  have k4 : T2 23 = (.inr (2, [.ref 24, .int 0])) := by rw [← eT2]; exact am_up_s
  have k5 : ∀ z : Nat, z < 23 → T2 z = h z := fun z q9 => by rw [← eT2]; exact (am_up_n (Nat.ne_of_lt (Nat.lt_of_lt_of_le q9 (by decide)))).trans (k2 z q9)
  have k6 : T2 24 = (.inl (0, 24, .inl (fun _ => 0))) := by rw [← eT2]; exact (am_up_n (by decide)).trans k3
  refine am_aload_n (I := iX2_init) (pc := 12) dX2_init_12 rfl rfl ?_
  refine am_iconst (I := iX2_init) (pc := 13) (x := 0) dX2_init_13 (by decide) ?_
  refine am_putf (I := iX2_init) (pc := 14) (fs' := [.ref 24, .int 0]) lf_X2_15 dX2_init_14 k4 (fun _ => ⟨rfl, rfl⟩) (Nat.le_of_ble_eq_true rfl) rfl ?_
  show am_W _ _ _ _ _ _ _ _ _ _ _ _ _ _ _ 17 [some (.ref 23)] [] (am_up T2 23 (.inr (2, [.ref 24, .int 0])), 25) 1 24
  generalize eT3 : am_up T2 23 (.inr (2, [.ref 24, .int 0])) = T3
  have k7 : T3 23 = (.inr (2, [.ref 24, .int 0])) := by rw [← eT3]; exact am_up_s
  have k8 : ∀ z : Nat, z < 23 → T3 z = h z := fun z q9 => by rw [← eT3]; exact (am_up_n (Nat.ne_of_lt (Nat.lt_of_lt_of_le q9 (by decide)))).trans (k5 z q9)
  have k9 : T3 24 = (.inl (0, 24, .inl (fun _ => 0))) := by rw [← eT3]; exact (am_up_n (by decide)).trans k6
  exact am_vret (I := iX2_init) (pc := 17) dX2_init_17 rfl (Nat.le_refl _) (Nat.le_refl _) (⟨rfl, rfl, k7, k9, k8⟩)
set_option maxRecDepth 100000 in
set_option maxHeartbeats 4000000 in
theorem m_CL_init (K : am_K) (l : Launch) (h : Nat → am_C) (hr : h 1 = (.inr (6, [.null, .null, .null, .null, .null, .null, .null]))) : am_M K l iX6_init 2 23 788 [.ref 1] (h, 2) (fun v S' => v = none ∧ S'.2 = 25 ∧ S'.1 1 = (.inr (6, [.ref 2, .ref 4, .ref 8, .ref 15, .ref 17, .ref 19, .ref 23])) ∧ S'.1 2 = (.inr (3, [.ref 3, .int 0])) ∧ S'.1 3 = (.inl (0, 80, .inl (fun _ => 0))) ∧ S'.1 4 = (.inr (0, [.ref 5, .ref 6, .ref 7, .int 0])) ∧ S'.1 5 = (.inl (2, 200, .inr (.inr (.inr (.inr (fun _ => none)))))) ∧ S'.1 6 = (.inl (0, 50, .inl (fun _ => 0))) ∧ S'.1 7 = (.inl (0, 5, .inl (upd (upd (upd (upd (upd (fun _ => 0) (0 : Int32).toNatClampNeg (-1)) (1 : Int32).toNatClampNeg (-1)) (2 : Int32).toNatClampNeg (-1)) (3 : Int32).toNatClampNeg (-1)) (4 : Int32).toNatClampNeg (-1)))) ∧ S'.1 8 = (.inr (4, [.ref 9, .ref 10, .int 0, .ref 11, .ref 12, .ref 13, .ref 14, .int 0, .int 0])) ∧ S'.1 9 = (.inl (0, 40, .inl (fun _ => 0))) ∧ S'.1 10 = (.inl (0, 40, .inl (fun _ => 0))) ∧ S'.1 11 = (.inl (0, 40, .inl (fun _ => 0))) ∧ S'.1 12 = (.inl (0, 40, .inl (fun _ => 0))) ∧ S'.1 13 = (.inl (0, 40, .inl (fun _ => 0))) ∧ S'.1 14 = (.inl (0, 40, .inl (fun _ => 0))) ∧ S'.1 15 = (.inr (1, [.ref 16, .int 0])) ∧ S'.1 16 = (.inl (2, 36, .inr (.inr (.inr (.inr (fun _ => none)))))) ∧ S'.1 17 = (.inr (3, [.ref 18, .int 0])) ∧ S'.1 18 = (.inl (0, 80, .inl (fun _ => 0))) ∧ S'.1 19 = (.inr (5, [.ref 20, .ref 21, .ref 22, .int 0])) ∧ S'.1 20 = (.inl (0, 16, .inl (fun _ => 0))) ∧ S'.1 21 = (.inl (0, 16, .inl (fun _ => 0))) ∧ S'.1 22 = (.inl (0, 16, .inl (fun _ => 0))) ∧ S'.1 23 = (.inr (2, [.ref 24, .int 0])) ∧ S'.1 24 = (.inl (0, 24, .inl (fun _ => 0))) ∧ ∀ z : Nat, z < 1 → S'.1 z = h z) (fun _ _ => False) := by
  refine am_body (by decide) rfl (by simp [Value.category]) (Nat.le_of_ble_eq_true rfl) (fun xp xe xs xm xa xb xt xc ad0 => ?_)
  show am_W _ _ _ _ _ _ _ _ _ _ _ _ _ _ _ 0 [some (.ref 1)] [] (h, 2) 0 0
  refine am_aload_n (I := iX6_init) (pc := 0) dX6_init_0 rfl rfl ?_
  refine am_objInit (I := iX6_init) (pc := 1) dX6_init_1 lo_X6_3 lo_i lo_c (Nat.le_of_ble_eq_true rfl) (Nat.le_of_ble_eq_true rfl) ?_
  refine am_aload_n (I := iX6_init) (pc := 4) dX6_init_4 rfl rfl ?_
  refine am_new (I := iX6_init) (pc := 5) ln_X6_9 dX6_init_5 (Nat.le_of_ble_eq_true rfl) (Nat.le_of_ble_eq_true rfl) ?_
  show am_W _ _ _ _ _ _ _ _ _ _ _ _ _ _ _ 8 [some (.ref 1)] [.ref 2, .ref 1] (am_up h 2 (.inr (3, [.null, .int 0])), 3) 1 2
  generalize eT1 : am_up h 2 (.inr (3, [.null, .int 0])) = T1
  have k1 : T1 1 = (.inr (6, [.null, .null, .null, .null, .null, .null, .null])) := by rw [← eT1]; exact (am_up_n (by decide)).trans hr
  have k2 : ∀ z : Nat, z < 1 → T1 z = h z := fun z q9 => by rw [← eT1]; exact (am_up_n (Nat.ne_of_lt (Nat.lt_of_lt_of_le q9 (by decide)))).trans ((fun z _ => rfl : ∀ z : Nat, z < 1 → h z = h z) z q9)
  have k3 : T1 2 = (.inr (3, [.null, .int 0])) := by rw [← eT1]; exact am_up_s
  refine am_dup (I := iX6_init) (pc := 8) dX6_init_8 rfl ?_
  refine am_bipush (I := iX6_init) (pc := 9) (x := 80) dX6_init_9 (by decide) ?_
  refine am_callI (I := iX6_init) (pc := 11) (st := [.ref 2, .ref 1]) lv_X6_11 (m_Row_init K l (T1, 3) 2 80 k3 (by decide)) dX6_init_11 rfl (Nat.le_of_ble_eq_true rfl) ⟨Nat.le_of_ble_eq_true rfl, Nat.le_of_ble_eq_true rfl⟩ (Nat.le_of_ble_eq_true rfl) (Nat.le_of_ble_eq_true rfl) rfl (fun v9 U9 z9 _ => ?_)
  obtain ⟨rfl, rfl⟩ := z9
  show am_W _ _ _ _ _ _ _ _ _ _ _ _ _ _ _ 14 [some (.ref 1)] [.ref 2, .ref 1] (am_up (am_up T1 3 (.inl (0, 80, .inl (fun _ => 0)))) 2 (.inr (3, [.ref 3, .int 0])), 4) 2 82
  generalize eT2 : am_up T1 3 (.inl (0, 80, .inl (fun _ => 0))) = T2
  have k4 : T2 1 = (.inr (6, [.null, .null, .null, .null, .null, .null, .null])) := by rw [← eT2]; exact (am_up_n (by decide)).trans k1
  have k5 : ∀ z : Nat, z < 1 → T2 z = h z := fun z q9 => by rw [← eT2]; exact (am_up_n (Nat.ne_of_lt (Nat.lt_of_lt_of_le q9 (by decide)))).trans (k2 z q9)
  have k6 : T2 2 = (.inr (3, [.null, .int 0])) := by rw [← eT2]; exact (am_up_n (by decide)).trans k3
  have k7 : T2 3 = (.inl (0, 80, .inl (fun _ => 0))) := by rw [← eT2]; exact am_up_s
  generalize eT3 : am_up T2 2 (.inr (3, [.ref 3, .int 0])) = T3
  have k8 : T3 1 = (.inr (6, [.null, .null, .null, .null, .null, .null, .null])) := by rw [← eT3]; exact (am_up_n (by decide)).trans k4
  have k9 : ∀ z : Nat, z < 1 → T3 z = h z := fun z q9 => by rw [← eT3]; exact (am_up_n (Nat.ne_of_lt (Nat.lt_of_lt_of_le q9 (by decide)))).trans (k5 z q9)
  have k10 : T3 2 = (.inr (3, [.ref 3, .int 0])) := by rw [← eT3]; exact am_up_s
  have k11 : T3 3 = (.inl (0, 80, .inl (fun _ => 0))) := by rw [← eT3]; exact (am_up_n (by decide)).trans k7
  refine am_putF (I := iX6_init) (pc := 14) (fs' := [.ref 2, .null, .null, .null, .null, .null, .null]) lf_X6_14 rfl dX6_init_14 k8 (fun _ => ⟨rfl, rfl⟩) (Nat.le_of_ble_eq_true rfl) rfl ?_
  show am_W _ _ _ _ _ _ _ _ _ _ _ _ _ _ _ 17 [some (.ref 1)] [] (am_up T3 1 (.inr (6, [.ref 2, .null, .null, .null, .null, .null, .null])), 4) 2 82
  generalize eT4 : am_up T3 1 (.inr (6, [.ref 2, .null, .null, .null, .null, .null, .null])) = T4
  have k12 : T4 1 = (.inr (6, [.ref 2, .null, .null, .null, .null, .null, .null])) := by rw [← eT4]; exact am_up_s
  have k13 : ∀ z : Nat, z < 1 → T4 z = h z := fun z q9 => by rw [← eT4]; exact (am_up_n (Nat.ne_of_lt (Nat.lt_of_lt_of_le q9 (by decide)))).trans (k9 z q9)
  have k14 : T4 2 = (.inr (3, [.ref 3, .int 0])) := by rw [← eT4]; exact (am_up_n (by decide)).trans k10
  have k15 : T4 3 = (.inl (0, 80, .inl (fun _ => 0))) := by rw [← eT4]; exact (am_up_n (by decide)).trans k11
  refine am_aload_n (I := iX6_init) (pc := 17) dX6_init_17 rfl rfl ?_
  refine am_new (I := iX6_init) (pc := 18) ln_X6_18 dX6_init_18 (Nat.le_of_ble_eq_true rfl) (Nat.le_of_ble_eq_true rfl) ?_
  show am_W _ _ _ _ _ _ _ _ _ _ _ _ _ _ _ 21 [some (.ref 1)] [.ref 4, .ref 1] (am_up T4 4 (.inr (0, [.null, .null, .null, .int 0])), 5) 3 86
  generalize eT5 : am_up T4 4 (.inr (0, [.null, .null, .null, .int 0])) = T5
  have k16 : T5 1 = (.inr (6, [.ref 2, .null, .null, .null, .null, .null, .null])) := by rw [← eT5]; exact (am_up_n (by decide)).trans k12
  have k17 : ∀ z : Nat, z < 1 → T5 z = h z := fun z q9 => by rw [← eT5]; exact (am_up_n (Nat.ne_of_lt (Nat.lt_of_lt_of_le q9 (by decide)))).trans (k13 z q9)
  have k18 : T5 2 = (.inr (3, [.ref 3, .int 0])) := by rw [← eT5]; exact (am_up_n (by decide)).trans k14
  have k19 : T5 3 = (.inl (0, 80, .inl (fun _ => 0))) := by rw [← eT5]; exact (am_up_n (by decide)).trans k15
  have k20 : T5 4 = (.inr (0, [.null, .null, .null, .int 0])) := by rw [← eT5]; exact am_up_s
  refine am_dup (I := iX6_init) (pc := 21) dX6_init_21 rfl ?_
  refine am_callI (I := iX6_init) (pc := 22) (st := [.ref 4, .ref 1]) lv_X6_20 (m_Capt_init K l T5 k20) dX6_init_22 rfl (Nat.le_of_ble_eq_true rfl) ⟨Nat.le_of_ble_eq_true rfl, Nat.le_of_ble_eq_true rfl⟩ (Nat.le_of_ble_eq_true rfl) (Nat.le_of_ble_eq_true rfl) rfl (fun v9 U9 z9 _ => ?_)
  obtain ⟨rfl, nU9, k21, k22, k23, k24, k25⟩ := z9
  obtain ⟨T6, n9⟩ := U9
  change n9 = 8 at nU9
  subst nU9
  have k26 : T6 1 = (.inr (6, [.ref 2, .null, .null, .null, .null, .null, .null])) := (k25 1 (by decide)).trans k16
  have k27 : ∀ z : Nat, z < 1 → T6 z = h z := fun z q9 => (k25 z (Nat.lt_of_lt_of_le q9 (by decide))).trans (k17 z q9)
  have k28 : T6 2 = (.inr (3, [.ref 3, .int 0])) := (k25 2 (by decide)).trans k18
  have k29 : T6 3 = (.inl (0, 80, .inl (fun _ => 0))) := (k25 3 (by decide)).trans k19
  change T6 4 = (.inr (0, [.ref 5, .ref 6, .ref 7, .int 0])) at k21
  change T6 5 = (.inl (2, 200, .inr (.inr (.inr (.inr (fun _ => none)))))) at k22
  change T6 6 = (.inl (0, 50, .inl (fun _ => 0))) at k23
  change T6 7 = (.inl (0, 5, .inl (upd (upd (upd (upd (upd (fun _ => 0) (0 : Int32).toNatClampNeg (-1)) (1 : Int32).toNatClampNeg (-1)) (2 : Int32).toNatClampNeg (-1)) (3 : Int32).toNatClampNeg (-1)) (4 : Int32).toNatClampNeg (-1)))) at k24
  show am_W _ _ _ _ _ _ _ _ _ _ _ _ _ _ _ 25 [some (.ref 1)] [.ref 4, .ref 1] (T6, 8) 6 341
  refine am_putF (I := iX6_init) (pc := 25) (fs' := [.ref 2, .ref 4, .null, .null, .null, .null, .null]) lf_X6_21 rfl dX6_init_25 k26 (fun _ => ⟨rfl, rfl⟩) (Nat.le_of_ble_eq_true rfl) rfl ?_
  show am_W _ _ _ _ _ _ _ _ _ _ _ _ _ _ _ 28 [some (.ref 1)] [] (am_up T6 1 (.inr (6, [.ref 2, .ref 4, .null, .null, .null, .null, .null])), 8) 6 341
  generalize eT7 : am_up T6 1 (.inr (6, [.ref 2, .ref 4, .null, .null, .null, .null, .null])) = T7
  have k30 : T7 1 = (.inr (6, [.ref 2, .ref 4, .null, .null, .null, .null, .null])) := by rw [← eT7]; exact am_up_s
  have k31 : ∀ z : Nat, z < 1 → T7 z = h z := fun z q9 => by rw [← eT7]; exact (am_up_n (Nat.ne_of_lt (Nat.lt_of_lt_of_le q9 (by decide)))).trans (k27 z q9)
  have k32 : T7 2 = (.inr (3, [.ref 3, .int 0])) := by rw [← eT7]; exact (am_up_n (by decide)).trans k28
  have k33 : T7 3 = (.inl (0, 80, .inl (fun _ => 0))) := by rw [← eT7]; exact (am_up_n (by decide)).trans k29
  have k34 : T7 4 = (.inr (0, [.ref 5, .ref 6, .ref 7, .int 0])) := by rw [← eT7]; exact (am_up_n (by decide)).trans k21
  have k35 : T7 5 = (.inl (2, 200, .inr (.inr (.inr (.inr (fun _ => none)))))) := by rw [← eT7]; exact (am_up_n (by decide)).trans k22
  have k36 : T7 6 = (.inl (0, 50, .inl (fun _ => 0))) := by rw [← eT7]; exact (am_up_n (by decide)).trans k23
  have k37 : T7 7 = (.inl (0, 5, .inl (upd (upd (upd (upd (upd (fun _ => 0) (0 : Int32).toNatClampNeg (-1)) (1 : Int32).toNatClampNeg (-1)) (2 : Int32).toNatClampNeg (-1)) (3 : Int32).toNatClampNeg (-1)) (4 : Int32).toNatClampNeg (-1)))) := by rw [← eT7]; exact (am_up_n (by decide)).trans k24
  refine am_aload_n (I := iX6_init) (pc := 28) dX6_init_28 rfl rfl ?_
  refine am_new (I := iX6_init) (pc := 29) ln_X6_25 dX6_init_29 (Nat.le_of_ble_eq_true rfl) (Nat.le_of_ble_eq_true rfl) ?_
  show am_W _ _ _ _ _ _ _ _ _ _ _ _ _ _ _ 32 [some (.ref 1)] [.ref 8, .ref 1] (am_up T7 8 (.inr (4, [.null, .null, .int 0, .null, .null, .null, .null, .int 0, .int 0])), 9) 7 350
  generalize eT8 : am_up T7 8 (.inr (4, [.null, .null, .int 0, .null, .null, .null, .null, .int 0, .int 0])) = T8
  have k38 : T8 1 = (.inr (6, [.ref 2, .ref 4, .null, .null, .null, .null, .null])) := by rw [← eT8]; exact (am_up_n (by decide)).trans k30
  have k39 : ∀ z : Nat, z < 1 → T8 z = h z := fun z q9 => by rw [← eT8]; exact (am_up_n (Nat.ne_of_lt (Nat.lt_of_lt_of_le q9 (by decide)))).trans (k31 z q9)
  have k40 : T8 2 = (.inr (3, [.ref 3, .int 0])) := by rw [← eT8]; exact (am_up_n (by decide)).trans k32
  have k41 : T8 3 = (.inl (0, 80, .inl (fun _ => 0))) := by rw [← eT8]; exact (am_up_n (by decide)).trans k33
  have k42 : T8 4 = (.inr (0, [.ref 5, .ref 6, .ref 7, .int 0])) := by rw [← eT8]; exact (am_up_n (by decide)).trans k34
  have k43 : T8 5 = (.inl (2, 200, .inr (.inr (.inr (.inr (fun _ => none)))))) := by rw [← eT8]; exact (am_up_n (by decide)).trans k35
  have k44 : T8 6 = (.inl (0, 50, .inl (fun _ => 0))) := by rw [← eT8]; exact (am_up_n (by decide)).trans k36
  have k45 : T8 7 = (.inl (0, 5, .inl (upd (upd (upd (upd (upd (fun _ => 0) (0 : Int32).toNatClampNeg (-1)) (1 : Int32).toNatClampNeg (-1)) (2 : Int32).toNatClampNeg (-1)) (3 : Int32).toNatClampNeg (-1)) (4 : Int32).toNatClampNeg (-1)))) := by rw [← eT8]; exact (am_up_n (by decide)).trans k37
  have k46 : T8 8 = (.inr (4, [.null, .null, .int 0, .null, .null, .null, .null, .int 0, .int 0])) := by rw [← eT8]; exact am_up_s
  refine am_dup (I := iX6_init) (pc := 32) dX6_init_32 rfl ?_
  refine am_callI (I := iX6_init) (pc := 33) (st := [.ref 8, .ref 1]) lv_X6_27 (m_Set_init K l T8 k46) dX6_init_33 rfl (Nat.le_of_ble_eq_true rfl) ⟨Nat.le_of_ble_eq_true rfl, Nat.le_of_ble_eq_true rfl⟩ (Nat.le_of_ble_eq_true rfl) (Nat.le_of_ble_eq_true rfl) rfl (fun v9 U9 z9 _ => ?_)
  obtain ⟨rfl, nU9, k47, k48, k49, k50, k51, k52, k53, k54⟩ := z9
  obtain ⟨T9, n9⟩ := U9
  change n9 = 15 at nU9
  subst nU9
  have k55 : T9 1 = (.inr (6, [.ref 2, .ref 4, .null, .null, .null, .null, .null])) := (k54 1 (by decide)).trans k38
  have k56 : ∀ z : Nat, z < 1 → T9 z = h z := fun z q9 => (k54 z (Nat.lt_of_lt_of_le q9 (by decide))).trans (k39 z q9)
  have k57 : T9 2 = (.inr (3, [.ref 3, .int 0])) := (k54 2 (by decide)).trans k40
  have k58 : T9 3 = (.inl (0, 80, .inl (fun _ => 0))) := (k54 3 (by decide)).trans k41
  have k59 : T9 4 = (.inr (0, [.ref 5, .ref 6, .ref 7, .int 0])) := (k54 4 (by decide)).trans k42
  have k60 : T9 5 = (.inl (2, 200, .inr (.inr (.inr (.inr (fun _ => none)))))) := (k54 5 (by decide)).trans k43
  have k61 : T9 6 = (.inl (0, 50, .inl (fun _ => 0))) := (k54 6 (by decide)).trans k44
  have k62 : T9 7 = (.inl (0, 5, .inl (upd (upd (upd (upd (upd (fun _ => 0) (0 : Int32).toNatClampNeg (-1)) (1 : Int32).toNatClampNeg (-1)) (2 : Int32).toNatClampNeg (-1)) (3 : Int32).toNatClampNeg (-1)) (4 : Int32).toNatClampNeg (-1)))) := (k54 7 (by decide)).trans k45
  change T9 8 = (.inr (4, [.ref 9, .ref 10, .int 0, .ref 11, .ref 12, .ref 13, .ref 14, .int 0, .int 0])) at k47
  change T9 9 = (.inl (0, 40, .inl (fun _ => 0))) at k48
  change T9 10 = (.inl (0, 40, .inl (fun _ => 0))) at k49
  change T9 11 = (.inl (0, 40, .inl (fun _ => 0))) at k50
  change T9 12 = (.inl (0, 40, .inl (fun _ => 0))) at k51
  change T9 13 = (.inl (0, 40, .inl (fun _ => 0))) at k52
  change T9 14 = (.inl (0, 40, .inl (fun _ => 0))) at k53
  show am_W _ _ _ _ _ _ _ _ _ _ _ _ _ _ _ 36 [some (.ref 1)] [.ref 8, .ref 1] (T9, 15) 13 590
  refine am_putF (I := iX6_init) (pc := 36) (fs' := [.ref 2, .ref 4, .ref 8, .null, .null, .null, .null]) lf_X6_28 rfl dX6_init_36 k55 (fun _ => ⟨rfl, rfl⟩) (Nat.le_of_ble_eq_true rfl) rfl ?_
  show am_W _ _ _ _ _ _ _ _ _ _ _ _ _ _ _ 39 [some (.ref 1)] [] (am_up T9 1 (.inr (6, [.ref 2, .ref 4, .ref 8, .null, .null, .null, .null])), 15) 13 590
  generalize eT10 : am_up T9 1 (.inr (6, [.ref 2, .ref 4, .ref 8, .null, .null, .null, .null])) = T10
  have k63 : T10 1 = (.inr (6, [.ref 2, .ref 4, .ref 8, .null, .null, .null, .null])) := by rw [← eT10]; exact am_up_s
  have k64 : ∀ z : Nat, z < 1 → T10 z = h z := fun z q9 => by rw [← eT10]; exact (am_up_n (Nat.ne_of_lt (Nat.lt_of_lt_of_le q9 (by decide)))).trans (k56 z q9)
  have k65 : T10 2 = (.inr (3, [.ref 3, .int 0])) := by rw [← eT10]; exact (am_up_n (by decide)).trans k57
  have k66 : T10 3 = (.inl (0, 80, .inl (fun _ => 0))) := by rw [← eT10]; exact (am_up_n (by decide)).trans k58
  have k67 : T10 4 = (.inr (0, [.ref 5, .ref 6, .ref 7, .int 0])) := by rw [← eT10]; exact (am_up_n (by decide)).trans k59
  have k68 : T10 5 = (.inl (2, 200, .inr (.inr (.inr (.inr (fun _ => none)))))) := by rw [← eT10]; exact (am_up_n (by decide)).trans k60
  have k69 : T10 6 = (.inl (0, 50, .inl (fun _ => 0))) := by rw [← eT10]; exact (am_up_n (by decide)).trans k61
  have k70 : T10 7 = (.inl (0, 5, .inl (upd (upd (upd (upd (upd (fun _ => 0) (0 : Int32).toNatClampNeg (-1)) (1 : Int32).toNatClampNeg (-1)) (2 : Int32).toNatClampNeg (-1)) (3 : Int32).toNatClampNeg (-1)) (4 : Int32).toNatClampNeg (-1)))) := by rw [← eT10]; exact (am_up_n (by decide)).trans k62
  have k71 : T10 8 = (.inr (4, [.ref 9, .ref 10, .int 0, .ref 11, .ref 12, .ref 13, .ref 14, .int 0, .int 0])) := by rw [← eT10]; exact (am_up_n (by decide)).trans k47
  have k72 : T10 9 = (.inl (0, 40, .inl (fun _ => 0))) := by rw [← eT10]; exact (am_up_n (by decide)).trans k48
  have k73 : T10 10 = (.inl (0, 40, .inl (fun _ => 0))) := by rw [← eT10]; exact (am_up_n (by decide)).trans k49
  have k74 : T10 11 = (.inl (0, 40, .inl (fun _ => 0))) := by rw [← eT10]; exact (am_up_n (by decide)).trans k50
  have k75 : T10 12 = (.inl (0, 40, .inl (fun _ => 0))) := by rw [← eT10]; exact (am_up_n (by decide)).trans k51
  have k76 : T10 13 = (.inl (0, 40, .inl (fun _ => 0))) := by rw [← eT10]; exact (am_up_n (by decide)).trans k52
  have k77 : T10 14 = (.inl (0, 40, .inl (fun _ => 0))) := by rw [← eT10]; exact (am_up_n (by decide)).trans k53
  refine am_aload_n (I := iX6_init) (pc := 39) dX6_init_39 rfl rfl ?_
  refine am_new (I := iX6_init) (pc := 40) ln_X6_32 dX6_init_40 (Nat.le_of_ble_eq_true rfl) (Nat.le_of_ble_eq_true rfl) ?_
  show am_W _ _ _ _ _ _ _ _ _ _ _ _ _ _ _ 43 [some (.ref 1)] [.ref 15, .ref 1] (am_up T10 15 (.inr (1, [.null, .int 0])), 16) 14 592
  generalize eT11 : am_up T10 15 (.inr (1, [.null, .int 0])) = T11
  have k78 : T11 1 = (.inr (6, [.ref 2, .ref 4, .ref 8, .null, .null, .null, .null])) := by rw [← eT11]; exact (am_up_n (by decide)).trans k63
  have k79 : ∀ z : Nat, z < 1 → T11 z = h z := fun z q9 => by rw [← eT11]; exact (am_up_n (Nat.ne_of_lt (Nat.lt_of_lt_of_le q9 (by decide)))).trans (k64 z q9)
  have k80 : T11 2 = (.inr (3, [.ref 3, .int 0])) := by rw [← eT11]; exact (am_up_n (by decide)).trans k65
  have k81 : T11 3 = (.inl (0, 80, .inl (fun _ => 0))) := by rw [← eT11]; exact (am_up_n (by decide)).trans k66
  have k82 : T11 4 = (.inr (0, [.ref 5, .ref 6, .ref 7, .int 0])) := by rw [← eT11]; exact (am_up_n (by decide)).trans k67
  have k83 : T11 5 = (.inl (2, 200, .inr (.inr (.inr (.inr (fun _ => none)))))) := by rw [← eT11]; exact (am_up_n (by decide)).trans k68
  have k84 : T11 6 = (.inl (0, 50, .inl (fun _ => 0))) := by rw [← eT11]; exact (am_up_n (by decide)).trans k69
  have k85 : T11 7 = (.inl (0, 5, .inl (upd (upd (upd (upd (upd (fun _ => 0) (0 : Int32).toNatClampNeg (-1)) (1 : Int32).toNatClampNeg (-1)) (2 : Int32).toNatClampNeg (-1)) (3 : Int32).toNatClampNeg (-1)) (4 : Int32).toNatClampNeg (-1)))) := by rw [← eT11]; exact (am_up_n (by decide)).trans k70
  have k86 : T11 8 = (.inr (4, [.ref 9, .ref 10, .int 0, .ref 11, .ref 12, .ref 13, .ref 14, .int 0, .int 0])) := by rw [← eT11]; exact (am_up_n (by decide)).trans k71
  have k87 : T11 9 = (.inl (0, 40, .inl (fun _ => 0))) := by rw [← eT11]; exact (am_up_n (by decide)).trans k72
  have k88 : T11 10 = (.inl (0, 40, .inl (fun _ => 0))) := by rw [← eT11]; exact (am_up_n (by decide)).trans k73
  have k89 : T11 11 = (.inl (0, 40, .inl (fun _ => 0))) := by rw [← eT11]; exact (am_up_n (by decide)).trans k74
  have k90 : T11 12 = (.inl (0, 40, .inl (fun _ => 0))) := by rw [← eT11]; exact (am_up_n (by decide)).trans k75
  have k91 : T11 13 = (.inl (0, 40, .inl (fun _ => 0))) := by rw [← eT11]; exact (am_up_n (by decide)).trans k76
  have k92 : T11 14 = (.inl (0, 40, .inl (fun _ => 0))) := by rw [← eT11]; exact (am_up_n (by decide)).trans k77
  have k93 : T11 15 = (.inr (1, [.null, .int 0])) := by rw [← eT11]; exact am_up_s
  refine am_dup (I := iX6_init) (pc := 43) dX6_init_43 rfl ?_
  refine am_callI (I := iX6_init) (pc := 44) (st := [.ref 15, .ref 1]) lv_X6_34 (m_Con_init K l T11 k93) dX6_init_44 rfl (Nat.le_of_ble_eq_true rfl) ⟨Nat.le_of_ble_eq_true rfl, Nat.le_of_ble_eq_true rfl⟩ (Nat.le_of_ble_eq_true rfl) (Nat.le_of_ble_eq_true rfl) rfl (fun v9 U9 z9 _ => ?_)
  obtain ⟨rfl, nU9, k94, k95, k96⟩ := z9
  obtain ⟨T12, n9⟩ := U9
  change n9 = 17 at nU9
  subst nU9
  have k97 : T12 1 = (.inr (6, [.ref 2, .ref 4, .ref 8, .null, .null, .null, .null])) := (k96 1 (by decide)).trans k78
  have k98 : ∀ z : Nat, z < 1 → T12 z = h z := fun z q9 => (k96 z (Nat.lt_of_lt_of_le q9 (by decide))).trans (k79 z q9)
  have k99 : T12 2 = (.inr (3, [.ref 3, .int 0])) := (k96 2 (by decide)).trans k80
  have k100 : T12 3 = (.inl (0, 80, .inl (fun _ => 0))) := (k96 3 (by decide)).trans k81
  have k101 : T12 4 = (.inr (0, [.ref 5, .ref 6, .ref 7, .int 0])) := (k96 4 (by decide)).trans k82
  have k102 : T12 5 = (.inl (2, 200, .inr (.inr (.inr (.inr (fun _ => none)))))) := (k96 5 (by decide)).trans k83
  have k103 : T12 6 = (.inl (0, 50, .inl (fun _ => 0))) := (k96 6 (by decide)).trans k84
  have k104 : T12 7 = (.inl (0, 5, .inl (upd (upd (upd (upd (upd (fun _ => 0) (0 : Int32).toNatClampNeg (-1)) (1 : Int32).toNatClampNeg (-1)) (2 : Int32).toNatClampNeg (-1)) (3 : Int32).toNatClampNeg (-1)) (4 : Int32).toNatClampNeg (-1)))) := (k96 7 (by decide)).trans k85
  have k105 : T12 8 = (.inr (4, [.ref 9, .ref 10, .int 0, .ref 11, .ref 12, .ref 13, .ref 14, .int 0, .int 0])) := (k96 8 (by decide)).trans k86
  have k106 : T12 9 = (.inl (0, 40, .inl (fun _ => 0))) := (k96 9 (by decide)).trans k87
  have k107 : T12 10 = (.inl (0, 40, .inl (fun _ => 0))) := (k96 10 (by decide)).trans k88
  have k108 : T12 11 = (.inl (0, 40, .inl (fun _ => 0))) := (k96 11 (by decide)).trans k89
  have k109 : T12 12 = (.inl (0, 40, .inl (fun _ => 0))) := (k96 12 (by decide)).trans k90
  have k110 : T12 13 = (.inl (0, 40, .inl (fun _ => 0))) := (k96 13 (by decide)).trans k91
  have k111 : T12 14 = (.inl (0, 40, .inl (fun _ => 0))) := (k96 14 (by decide)).trans k92
  change T12 15 = (.inr (1, [.ref 16, .int 0])) at k94
  change T12 16 = (.inl (2, 36, .inr (.inr (.inr (.inr (fun _ => none)))))) at k95
  show am_W _ _ _ _ _ _ _ _ _ _ _ _ _ _ _ 47 [some (.ref 1)] [.ref 15, .ref 1] (T12, 17) 15 628
  refine am_putF (I := iX6_init) (pc := 47) (fs' := [.ref 2, .ref 4, .ref 8, .ref 15, .null, .null, .null]) lf_X6_35 rfl dX6_init_47 k97 (fun _ => ⟨rfl, rfl⟩) (Nat.le_of_ble_eq_true rfl) rfl ?_
  show am_W _ _ _ _ _ _ _ _ _ _ _ _ _ _ _ 50 [some (.ref 1)] [] (am_up T12 1 (.inr (6, [.ref 2, .ref 4, .ref 8, .ref 15, .null, .null, .null])), 17) 15 628
  generalize eT13 : am_up T12 1 (.inr (6, [.ref 2, .ref 4, .ref 8, .ref 15, .null, .null, .null])) = T13
  have k112 : T13 1 = (.inr (6, [.ref 2, .ref 4, .ref 8, .ref 15, .null, .null, .null])) := by rw [← eT13]; exact am_up_s
  have k113 : ∀ z : Nat, z < 1 → T13 z = h z := fun z q9 => by rw [← eT13]; exact (am_up_n (Nat.ne_of_lt (Nat.lt_of_lt_of_le q9 (by decide)))).trans (k98 z q9)
  have k114 : T13 2 = (.inr (3, [.ref 3, .int 0])) := by rw [← eT13]; exact (am_up_n (by decide)).trans k99
  have k115 : T13 3 = (.inl (0, 80, .inl (fun _ => 0))) := by rw [← eT13]; exact (am_up_n (by decide)).trans k100
  have k116 : T13 4 = (.inr (0, [.ref 5, .ref 6, .ref 7, .int 0])) := by rw [← eT13]; exact (am_up_n (by decide)).trans k101
  have k117 : T13 5 = (.inl (2, 200, .inr (.inr (.inr (.inr (fun _ => none)))))) := by rw [← eT13]; exact (am_up_n (by decide)).trans k102
  have k118 : T13 6 = (.inl (0, 50, .inl (fun _ => 0))) := by rw [← eT13]; exact (am_up_n (by decide)).trans k103
  have k119 : T13 7 = (.inl (0, 5, .inl (upd (upd (upd (upd (upd (fun _ => 0) (0 : Int32).toNatClampNeg (-1)) (1 : Int32).toNatClampNeg (-1)) (2 : Int32).toNatClampNeg (-1)) (3 : Int32).toNatClampNeg (-1)) (4 : Int32).toNatClampNeg (-1)))) := by rw [← eT13]; exact (am_up_n (by decide)).trans k104
  have k120 : T13 8 = (.inr (4, [.ref 9, .ref 10, .int 0, .ref 11, .ref 12, .ref 13, .ref 14, .int 0, .int 0])) := by rw [← eT13]; exact (am_up_n (by decide)).trans k105
  have k121 : T13 9 = (.inl (0, 40, .inl (fun _ => 0))) := by rw [← eT13]; exact (am_up_n (by decide)).trans k106
  have k122 : T13 10 = (.inl (0, 40, .inl (fun _ => 0))) := by rw [← eT13]; exact (am_up_n (by decide)).trans k107
  have k123 : T13 11 = (.inl (0, 40, .inl (fun _ => 0))) := by rw [← eT13]; exact (am_up_n (by decide)).trans k108
  have k124 : T13 12 = (.inl (0, 40, .inl (fun _ => 0))) := by rw [← eT13]; exact (am_up_n (by decide)).trans k109
  have k125 : T13 13 = (.inl (0, 40, .inl (fun _ => 0))) := by rw [← eT13]; exact (am_up_n (by decide)).trans k110
  have k126 : T13 14 = (.inl (0, 40, .inl (fun _ => 0))) := by rw [← eT13]; exact (am_up_n (by decide)).trans k111
  have k127 : T13 15 = (.inr (1, [.ref 16, .int 0])) := by rw [← eT13]; exact (am_up_n (by decide)).trans k94
  have k128 : T13 16 = (.inl (2, 36, .inr (.inr (.inr (.inr (fun _ => none)))))) := by rw [← eT13]; exact (am_up_n (by decide)).trans k95
  refine am_aload_n (I := iX6_init) (pc := 50) dX6_init_50 rfl rfl ?_
  refine am_new (I := iX6_init) (pc := 51) ln_X6_9 dX6_init_51 (Nat.le_of_ble_eq_true rfl) (Nat.le_of_ble_eq_true rfl) ?_
  show am_W _ _ _ _ _ _ _ _ _ _ _ _ _ _ _ 54 [some (.ref 1)] [.ref 17, .ref 1] (am_up T13 17 (.inr (3, [.null, .int 0])), 18) 16 630
  generalize eT14 : am_up T13 17 (.inr (3, [.null, .int 0])) = T14
  have k129 : T14 1 = (.inr (6, [.ref 2, .ref 4, .ref 8, .ref 15, .null, .null, .null])) := by rw [← eT14]; exact (am_up_n (by decide)).trans k112
  have k130 : ∀ z : Nat, z < 1 → T14 z = h z := fun z q9 => by rw [← eT14]; exact (am_up_n (Nat.ne_of_lt (Nat.lt_of_lt_of_le q9 (by decide)))).trans (k113 z q9)
  have k131 : T14 2 = (.inr (3, [.ref 3, .int 0])) := by rw [← eT14]; exact (am_up_n (by decide)).trans k114
  have k132 : T14 3 = (.inl (0, 80, .inl (fun _ => 0))) := by rw [← eT14]; exact (am_up_n (by decide)).trans k115
  have k133 : T14 4 = (.inr (0, [.ref 5, .ref 6, .ref 7, .int 0])) := by rw [← eT14]; exact (am_up_n (by decide)).trans k116
  have k134 : T14 5 = (.inl (2, 200, .inr (.inr (.inr (.inr (fun _ => none)))))) := by rw [← eT14]; exact (am_up_n (by decide)).trans k117
  have k135 : T14 6 = (.inl (0, 50, .inl (fun _ => 0))) := by rw [← eT14]; exact (am_up_n (by decide)).trans k118
  have k136 : T14 7 = (.inl (0, 5, .inl (upd (upd (upd (upd (upd (fun _ => 0) (0 : Int32).toNatClampNeg (-1)) (1 : Int32).toNatClampNeg (-1)) (2 : Int32).toNatClampNeg (-1)) (3 : Int32).toNatClampNeg (-1)) (4 : Int32).toNatClampNeg (-1)))) := by rw [← eT14]; exact (am_up_n (by decide)).trans k119
  have k137 : T14 8 = (.inr (4, [.ref 9, .ref 10, .int 0, .ref 11, .ref 12, .ref 13, .ref 14, .int 0, .int 0])) := by rw [← eT14]; exact (am_up_n (by decide)).trans k120
  have k138 : T14 9 = (.inl (0, 40, .inl (fun _ => 0))) := by rw [← eT14]; exact (am_up_n (by decide)).trans k121
  have k139 : T14 10 = (.inl (0, 40, .inl (fun _ => 0))) := by rw [← eT14]; exact (am_up_n (by decide)).trans k122
  have k140 : T14 11 = (.inl (0, 40, .inl (fun _ => 0))) := by rw [← eT14]; exact (am_up_n (by decide)).trans k123
  have k141 : T14 12 = (.inl (0, 40, .inl (fun _ => 0))) := by rw [← eT14]; exact (am_up_n (by decide)).trans k124
  have k142 : T14 13 = (.inl (0, 40, .inl (fun _ => 0))) := by rw [← eT14]; exact (am_up_n (by decide)).trans k125
  have k143 : T14 14 = (.inl (0, 40, .inl (fun _ => 0))) := by rw [← eT14]; exact (am_up_n (by decide)).trans k126
  have k144 : T14 15 = (.inr (1, [.ref 16, .int 0])) := by rw [← eT14]; exact (am_up_n (by decide)).trans k127
  have k145 : T14 16 = (.inl (2, 36, .inr (.inr (.inr (.inr (fun _ => none)))))) := by rw [← eT14]; exact (am_up_n (by decide)).trans k128
  have k146 : T14 17 = (.inr (3, [.null, .int 0])) := by rw [← eT14]; exact am_up_s
  refine am_dup (I := iX6_init) (pc := 54) dX6_init_54 rfl ?_
  refine am_bipush (I := iX6_init) (pc := 55) (x := 80) dX6_init_55 (by decide) ?_
  refine am_callI (I := iX6_init) (pc := 57) (st := [.ref 17, .ref 1]) lv_X6_11 (m_Row_init K l (T14, 18) 17 80 k146 (by decide)) dX6_init_57 rfl (Nat.le_of_ble_eq_true rfl) ⟨Nat.le_of_ble_eq_true rfl, Nat.le_of_ble_eq_true rfl⟩ (Nat.le_of_ble_eq_true rfl) (Nat.le_of_ble_eq_true rfl) rfl (fun v9 U9 z9 _ => ?_)
  obtain ⟨rfl, rfl⟩ := z9
  show am_W _ _ _ _ _ _ _ _ _ _ _ _ _ _ _ 60 [some (.ref 1)] [.ref 17, .ref 1] (am_up (am_up T14 18 (.inl (0, 80, .inl (fun _ => 0)))) 17 (.inr (3, [.ref 18, .int 0])), 19) 17 710
  generalize eT15 : am_up T14 18 (.inl (0, 80, .inl (fun _ => 0))) = T15
  have k147 : T15 1 = (.inr (6, [.ref 2, .ref 4, .ref 8, .ref 15, .null, .null, .null])) := by rw [← eT15]; exact (am_up_n (by decide)).trans k129
  have k148 : ∀ z : Nat, z < 1 → T15 z = h z := fun z q9 => by rw [← eT15]; exact (am_up_n (Nat.ne_of_lt (Nat.lt_of_lt_of_le q9 (by decide)))).trans (k130 z q9)
  have k149 : T15 2 = (.inr (3, [.ref 3, .int 0])) := by rw [← eT15]; exact (am_up_n (by decide)).trans k131
  have k150 : T15 3 = (.inl (0, 80, .inl (fun _ => 0))) := by rw [← eT15]; exact (am_up_n (by decide)).trans k132
  have k151 : T15 4 = (.inr (0, [.ref 5, .ref 6, .ref 7, .int 0])) := by rw [← eT15]; exact (am_up_n (by decide)).trans k133
  have k152 : T15 5 = (.inl (2, 200, .inr (.inr (.inr (.inr (fun _ => none)))))) := by rw [← eT15]; exact (am_up_n (by decide)).trans k134
  have k153 : T15 6 = (.inl (0, 50, .inl (fun _ => 0))) := by rw [← eT15]; exact (am_up_n (by decide)).trans k135
  have k154 : T15 7 = (.inl (0, 5, .inl (upd (upd (upd (upd (upd (fun _ => 0) (0 : Int32).toNatClampNeg (-1)) (1 : Int32).toNatClampNeg (-1)) (2 : Int32).toNatClampNeg (-1)) (3 : Int32).toNatClampNeg (-1)) (4 : Int32).toNatClampNeg (-1)))) := by rw [← eT15]; exact (am_up_n (by decide)).trans k136
  have k155 : T15 8 = (.inr (4, [.ref 9, .ref 10, .int 0, .ref 11, .ref 12, .ref 13, .ref 14, .int 0, .int 0])) := by rw [← eT15]; exact (am_up_n (by decide)).trans k137
  have k156 : T15 9 = (.inl (0, 40, .inl (fun _ => 0))) := by rw [← eT15]; exact (am_up_n (by decide)).trans k138
  have k157 : T15 10 = (.inl (0, 40, .inl (fun _ => 0))) := by rw [← eT15]; exact (am_up_n (by decide)).trans k139
  have k158 : T15 11 = (.inl (0, 40, .inl (fun _ => 0))) := by rw [← eT15]; exact (am_up_n (by decide)).trans k140
  have k159 : T15 12 = (.inl (0, 40, .inl (fun _ => 0))) := by rw [← eT15]; exact (am_up_n (by decide)).trans k141
  have k160 : T15 13 = (.inl (0, 40, .inl (fun _ => 0))) := by rw [← eT15]; exact (am_up_n (by decide)).trans k142
  have k161 : T15 14 = (.inl (0, 40, .inl (fun _ => 0))) := by rw [← eT15]; exact (am_up_n (by decide)).trans k143
  have k162 : T15 15 = (.inr (1, [.ref 16, .int 0])) := by rw [← eT15]; exact (am_up_n (by decide)).trans k144
  have k163 : T15 16 = (.inl (2, 36, .inr (.inr (.inr (.inr (fun _ => none)))))) := by rw [← eT15]; exact (am_up_n (by decide)).trans k145
  have k164 : T15 17 = (.inr (3, [.null, .int 0])) := by rw [← eT15]; exact (am_up_n (by decide)).trans k146
  have k165 : T15 18 = (.inl (0, 80, .inl (fun _ => 0))) := by rw [← eT15]; exact am_up_s
  generalize eT16 : am_up T15 17 (.inr (3, [.ref 18, .int 0])) = T16
  have k166 : T16 1 = (.inr (6, [.ref 2, .ref 4, .ref 8, .ref 15, .null, .null, .null])) := by rw [← eT16]; exact (am_up_n (by decide)).trans k147
  have k167 : ∀ z : Nat, z < 1 → T16 z = h z := fun z q9 => by rw [← eT16]; exact (am_up_n (Nat.ne_of_lt (Nat.lt_of_lt_of_le q9 (by decide)))).trans (k148 z q9)
  have k168 : T16 2 = (.inr (3, [.ref 3, .int 0])) := by rw [← eT16]; exact (am_up_n (by decide)).trans k149
  have k169 : T16 3 = (.inl (0, 80, .inl (fun _ => 0))) := by rw [← eT16]; exact (am_up_n (by decide)).trans k150
  have k170 : T16 4 = (.inr (0, [.ref 5, .ref 6, .ref 7, .int 0])) := by rw [← eT16]; exact (am_up_n (by decide)).trans k151
  have k171 : T16 5 = (.inl (2, 200, .inr (.inr (.inr (.inr (fun _ => none)))))) := by rw [← eT16]; exact (am_up_n (by decide)).trans k152
  have k172 : T16 6 = (.inl (0, 50, .inl (fun _ => 0))) := by rw [← eT16]; exact (am_up_n (by decide)).trans k153
  have k173 : T16 7 = (.inl (0, 5, .inl (upd (upd (upd (upd (upd (fun _ => 0) (0 : Int32).toNatClampNeg (-1)) (1 : Int32).toNatClampNeg (-1)) (2 : Int32).toNatClampNeg (-1)) (3 : Int32).toNatClampNeg (-1)) (4 : Int32).toNatClampNeg (-1)))) := by rw [← eT16]; exact (am_up_n (by decide)).trans k154
  have k174 : T16 8 = (.inr (4, [.ref 9, .ref 10, .int 0, .ref 11, .ref 12, .ref 13, .ref 14, .int 0, .int 0])) := by rw [← eT16]; exact (am_up_n (by decide)).trans k155
  have k175 : T16 9 = (.inl (0, 40, .inl (fun _ => 0))) := by rw [← eT16]; exact (am_up_n (by decide)).trans k156
  have k176 : T16 10 = (.inl (0, 40, .inl (fun _ => 0))) := by rw [← eT16]; exact (am_up_n (by decide)).trans k157
  have k177 : T16 11 = (.inl (0, 40, .inl (fun _ => 0))) := by rw [← eT16]; exact (am_up_n (by decide)).trans k158
  have k178 : T16 12 = (.inl (0, 40, .inl (fun _ => 0))) := by rw [← eT16]; exact (am_up_n (by decide)).trans k159
  have k179 : T16 13 = (.inl (0, 40, .inl (fun _ => 0))) := by rw [← eT16]; exact (am_up_n (by decide)).trans k160
  have k180 : T16 14 = (.inl (0, 40, .inl (fun _ => 0))) := by rw [← eT16]; exact (am_up_n (by decide)).trans k161
  have k181 : T16 15 = (.inr (1, [.ref 16, .int 0])) := by rw [← eT16]; exact (am_up_n (by decide)).trans k162
  have k182 : T16 16 = (.inl (2, 36, .inr (.inr (.inr (.inr (fun _ => none)))))) := by rw [← eT16]; exact (am_up_n (by decide)).trans k163
  have k183 : T16 17 = (.inr (3, [.ref 18, .int 0])) := by rw [← eT16]; exact am_up_s
  have k184 : T16 18 = (.inl (0, 80, .inl (fun _ => 0))) := by rw [← eT16]; exact (am_up_n (by decide)).trans k165
  refine am_putF (I := iX6_init) (pc := 60) (fs' := [.ref 2, .ref 4, .ref 8, .ref 15, .ref 17, .null, .null]) lf_X6_39 rfl dX6_init_60 k166 (fun _ => ⟨rfl, rfl⟩) (Nat.le_of_ble_eq_true rfl) rfl ?_
  show am_W _ _ _ _ _ _ _ _ _ _ _ _ _ _ _ 63 [some (.ref 1)] [] (am_up T16 1 (.inr (6, [.ref 2, .ref 4, .ref 8, .ref 15, .ref 17, .null, .null])), 19) 17 710
  generalize eT17 : am_up T16 1 (.inr (6, [.ref 2, .ref 4, .ref 8, .ref 15, .ref 17, .null, .null])) = T17
  have k185 : T17 1 = (.inr (6, [.ref 2, .ref 4, .ref 8, .ref 15, .ref 17, .null, .null])) := by rw [← eT17]; exact am_up_s
  have k186 : ∀ z : Nat, z < 1 → T17 z = h z := fun z q9 => by rw [← eT17]; exact (am_up_n (Nat.ne_of_lt (Nat.lt_of_lt_of_le q9 (by decide)))).trans (k167 z q9)
  have k187 : T17 2 = (.inr (3, [.ref 3, .int 0])) := by rw [← eT17]; exact (am_up_n (by decide)).trans k168
  have k188 : T17 3 = (.inl (0, 80, .inl (fun _ => 0))) := by rw [← eT17]; exact (am_up_n (by decide)).trans k169
  have k189 : T17 4 = (.inr (0, [.ref 5, .ref 6, .ref 7, .int 0])) := by rw [← eT17]; exact (am_up_n (by decide)).trans k170
  have k190 : T17 5 = (.inl (2, 200, .inr (.inr (.inr (.inr (fun _ => none)))))) := by rw [← eT17]; exact (am_up_n (by decide)).trans k171
  have k191 : T17 6 = (.inl (0, 50, .inl (fun _ => 0))) := by rw [← eT17]; exact (am_up_n (by decide)).trans k172
  have k192 : T17 7 = (.inl (0, 5, .inl (upd (upd (upd (upd (upd (fun _ => 0) (0 : Int32).toNatClampNeg (-1)) (1 : Int32).toNatClampNeg (-1)) (2 : Int32).toNatClampNeg (-1)) (3 : Int32).toNatClampNeg (-1)) (4 : Int32).toNatClampNeg (-1)))) := by rw [← eT17]; exact (am_up_n (by decide)).trans k173
  have k193 : T17 8 = (.inr (4, [.ref 9, .ref 10, .int 0, .ref 11, .ref 12, .ref 13, .ref 14, .int 0, .int 0])) := by rw [← eT17]; exact (am_up_n (by decide)).trans k174
  have k194 : T17 9 = (.inl (0, 40, .inl (fun _ => 0))) := by rw [← eT17]; exact (am_up_n (by decide)).trans k175
  have k195 : T17 10 = (.inl (0, 40, .inl (fun _ => 0))) := by rw [← eT17]; exact (am_up_n (by decide)).trans k176
  have k196 : T17 11 = (.inl (0, 40, .inl (fun _ => 0))) := by rw [← eT17]; exact (am_up_n (by decide)).trans k177
  have k197 : T17 12 = (.inl (0, 40, .inl (fun _ => 0))) := by rw [← eT17]; exact (am_up_n (by decide)).trans k178
  have k198 : T17 13 = (.inl (0, 40, .inl (fun _ => 0))) := by rw [← eT17]; exact (am_up_n (by decide)).trans k179
  have k199 : T17 14 = (.inl (0, 40, .inl (fun _ => 0))) := by rw [← eT17]; exact (am_up_n (by decide)).trans k180
  have k200 : T17 15 = (.inr (1, [.ref 16, .int 0])) := by rw [← eT17]; exact (am_up_n (by decide)).trans k181
  have k201 : T17 16 = (.inl (2, 36, .inr (.inr (.inr (.inr (fun _ => none)))))) := by rw [← eT17]; exact (am_up_n (by decide)).trans k182
  have k202 : T17 17 = (.inr (3, [.ref 18, .int 0])) := by rw [← eT17]; exact (am_up_n (by decide)).trans k183
  have k203 : T17 18 = (.inl (0, 80, .inl (fun _ => 0))) := by rw [← eT17]; exact (am_up_n (by decide)).trans k184
  refine am_aload_n (I := iX6_init) (pc := 63) dX6_init_63 rfl rfl ?_
  refine am_new (I := iX6_init) (pc := 64) ln_X6_42 dX6_init_64 (Nat.le_of_ble_eq_true rfl) (Nat.le_of_ble_eq_true rfl) ?_
  show am_W _ _ _ _ _ _ _ _ _ _ _ _ _ _ _ 67 [some (.ref 1)] [.ref 19, .ref 1] (am_up T17 19 (.inr (5, [.null, .null, .null, .int 0])), 20) 18 714
  generalize eT18 : am_up T17 19 (.inr (5, [.null, .null, .null, .int 0])) = T18
  have k204 : T18 1 = (.inr (6, [.ref 2, .ref 4, .ref 8, .ref 15, .ref 17, .null, .null])) := by rw [← eT18]; exact (am_up_n (by decide)).trans k185
  have k205 : ∀ z : Nat, z < 1 → T18 z = h z := fun z q9 => by rw [← eT18]; exact (am_up_n (Nat.ne_of_lt (Nat.lt_of_lt_of_le q9 (by decide)))).trans (k186 z q9)
  have k206 : T18 2 = (.inr (3, [.ref 3, .int 0])) := by rw [← eT18]; exact (am_up_n (by decide)).trans k187
  have k207 : T18 3 = (.inl (0, 80, .inl (fun _ => 0))) := by rw [← eT18]; exact (am_up_n (by decide)).trans k188
  have k208 : T18 4 = (.inr (0, [.ref 5, .ref 6, .ref 7, .int 0])) := by rw [← eT18]; exact (am_up_n (by decide)).trans k189
  have k209 : T18 5 = (.inl (2, 200, .inr (.inr (.inr (.inr (fun _ => none)))))) := by rw [← eT18]; exact (am_up_n (by decide)).trans k190
  have k210 : T18 6 = (.inl (0, 50, .inl (fun _ => 0))) := by rw [← eT18]; exact (am_up_n (by decide)).trans k191
  have k211 : T18 7 = (.inl (0, 5, .inl (upd (upd (upd (upd (upd (fun _ => 0) (0 : Int32).toNatClampNeg (-1)) (1 : Int32).toNatClampNeg (-1)) (2 : Int32).toNatClampNeg (-1)) (3 : Int32).toNatClampNeg (-1)) (4 : Int32).toNatClampNeg (-1)))) := by rw [← eT18]; exact (am_up_n (by decide)).trans k192
  have k212 : T18 8 = (.inr (4, [.ref 9, .ref 10, .int 0, .ref 11, .ref 12, .ref 13, .ref 14, .int 0, .int 0])) := by rw [← eT18]; exact (am_up_n (by decide)).trans k193
  have k213 : T18 9 = (.inl (0, 40, .inl (fun _ => 0))) := by rw [← eT18]; exact (am_up_n (by decide)).trans k194
  have k214 : T18 10 = (.inl (0, 40, .inl (fun _ => 0))) := by rw [← eT18]; exact (am_up_n (by decide)).trans k195
  have k215 : T18 11 = (.inl (0, 40, .inl (fun _ => 0))) := by rw [← eT18]; exact (am_up_n (by decide)).trans k196
  have k216 : T18 12 = (.inl (0, 40, .inl (fun _ => 0))) := by rw [← eT18]; exact (am_up_n (by decide)).trans k197
  have k217 : T18 13 = (.inl (0, 40, .inl (fun _ => 0))) := by rw [← eT18]; exact (am_up_n (by decide)).trans k198
  have k218 : T18 14 = (.inl (0, 40, .inl (fun _ => 0))) := by rw [← eT18]; exact (am_up_n (by decide)).trans k199
  have k219 : T18 15 = (.inr (1, [.ref 16, .int 0])) := by rw [← eT18]; exact (am_up_n (by decide)).trans k200
  have k220 : T18 16 = (.inl (2, 36, .inr (.inr (.inr (.inr (fun _ => none)))))) := by rw [← eT18]; exact (am_up_n (by decide)).trans k201
  have k221 : T18 17 = (.inr (3, [.ref 18, .int 0])) := by rw [← eT18]; exact (am_up_n (by decide)).trans k202
  have k222 : T18 18 = (.inl (0, 80, .inl (fun _ => 0))) := by rw [← eT18]; exact (am_up_n (by decide)).trans k203
  have k223 : T18 19 = (.inr (5, [.null, .null, .null, .int 0])) := by rw [← eT18]; exact am_up_s
  refine am_dup (I := iX6_init) (pc := 67) dX6_init_67 rfl ?_
  refine am_callI (I := iX6_init) (pc := 68) (st := [.ref 19, .ref 1]) lv_X6_44 (m_Zon_init K l T18 k223) dX6_init_68 rfl (Nat.le_of_ble_eq_true rfl) ⟨Nat.le_of_ble_eq_true rfl, Nat.le_of_ble_eq_true rfl⟩ (Nat.le_of_ble_eq_true rfl) (Nat.le_of_ble_eq_true rfl) rfl (fun v9 U9 z9 _ => ?_)
  obtain ⟨rfl, nU9, k224, k225, k226, k227, k228⟩ := z9
  obtain ⟨T19, n9⟩ := U9
  change n9 = 23 at nU9
  subst nU9
  have k229 : T19 1 = (.inr (6, [.ref 2, .ref 4, .ref 8, .ref 15, .ref 17, .null, .null])) := (k228 1 (by decide)).trans k204
  have k230 : ∀ z : Nat, z < 1 → T19 z = h z := fun z q9 => (k228 z (Nat.lt_of_lt_of_le q9 (by decide))).trans (k205 z q9)
  have k231 : T19 2 = (.inr (3, [.ref 3, .int 0])) := (k228 2 (by decide)).trans k206
  have k232 : T19 3 = (.inl (0, 80, .inl (fun _ => 0))) := (k228 3 (by decide)).trans k207
  have k233 : T19 4 = (.inr (0, [.ref 5, .ref 6, .ref 7, .int 0])) := (k228 4 (by decide)).trans k208
  have k234 : T19 5 = (.inl (2, 200, .inr (.inr (.inr (.inr (fun _ => none)))))) := (k228 5 (by decide)).trans k209
  have k235 : T19 6 = (.inl (0, 50, .inl (fun _ => 0))) := (k228 6 (by decide)).trans k210
  have k236 : T19 7 = (.inl (0, 5, .inl (upd (upd (upd (upd (upd (fun _ => 0) (0 : Int32).toNatClampNeg (-1)) (1 : Int32).toNatClampNeg (-1)) (2 : Int32).toNatClampNeg (-1)) (3 : Int32).toNatClampNeg (-1)) (4 : Int32).toNatClampNeg (-1)))) := (k228 7 (by decide)).trans k211
  have k237 : T19 8 = (.inr (4, [.ref 9, .ref 10, .int 0, .ref 11, .ref 12, .ref 13, .ref 14, .int 0, .int 0])) := (k228 8 (by decide)).trans k212
  have k238 : T19 9 = (.inl (0, 40, .inl (fun _ => 0))) := (k228 9 (by decide)).trans k213
  have k239 : T19 10 = (.inl (0, 40, .inl (fun _ => 0))) := (k228 10 (by decide)).trans k214
  have k240 : T19 11 = (.inl (0, 40, .inl (fun _ => 0))) := (k228 11 (by decide)).trans k215
  have k241 : T19 12 = (.inl (0, 40, .inl (fun _ => 0))) := (k228 12 (by decide)).trans k216
  have k242 : T19 13 = (.inl (0, 40, .inl (fun _ => 0))) := (k228 13 (by decide)).trans k217
  have k243 : T19 14 = (.inl (0, 40, .inl (fun _ => 0))) := (k228 14 (by decide)).trans k218
  have k244 : T19 15 = (.inr (1, [.ref 16, .int 0])) := (k228 15 (by decide)).trans k219
  have k245 : T19 16 = (.inl (2, 36, .inr (.inr (.inr (.inr (fun _ => none)))))) := (k228 16 (by decide)).trans k220
  have k246 : T19 17 = (.inr (3, [.ref 18, .int 0])) := (k228 17 (by decide)).trans k221
  have k247 : T19 18 = (.inl (0, 80, .inl (fun _ => 0))) := (k228 18 (by decide)).trans k222
  change T19 19 = (.inr (5, [.ref 20, .ref 21, .ref 22, .int 0])) at k224
  change T19 20 = (.inl (0, 16, .inl (fun _ => 0))) at k225
  change T19 21 = (.inl (0, 16, .inl (fun _ => 0))) at k226
  change T19 22 = (.inl (0, 16, .inl (fun _ => 0))) at k227
  show am_W _ _ _ _ _ _ _ _ _ _ _ _ _ _ _ 71 [some (.ref 1)] [.ref 19, .ref 1] (T19, 23) 21 762
  refine am_putF (I := iX6_init) (pc := 71) (fs' := [.ref 2, .ref 4, .ref 8, .ref 15, .ref 17, .ref 19, .null]) lf_X6_45 rfl dX6_init_71 k229 (fun _ => ⟨rfl, rfl⟩) (Nat.le_of_ble_eq_true rfl) rfl ?_
  show am_W _ _ _ _ _ _ _ _ _ _ _ _ _ _ _ 74 [some (.ref 1)] [] (am_up T19 1 (.inr (6, [.ref 2, .ref 4, .ref 8, .ref 15, .ref 17, .ref 19, .null])), 23) 21 762
  generalize eT20 : am_up T19 1 (.inr (6, [.ref 2, .ref 4, .ref 8, .ref 15, .ref 17, .ref 19, .null])) = T20
  have k248 : T20 1 = (.inr (6, [.ref 2, .ref 4, .ref 8, .ref 15, .ref 17, .ref 19, .null])) := by rw [← eT20]; exact am_up_s
  have k249 : ∀ z : Nat, z < 1 → T20 z = h z := fun z q9 => by rw [← eT20]; exact (am_up_n (Nat.ne_of_lt (Nat.lt_of_lt_of_le q9 (by decide)))).trans (k230 z q9)
  have k250 : T20 2 = (.inr (3, [.ref 3, .int 0])) := by rw [← eT20]; exact (am_up_n (by decide)).trans k231
  have k251 : T20 3 = (.inl (0, 80, .inl (fun _ => 0))) := by rw [← eT20]; exact (am_up_n (by decide)).trans k232
  have k252 : T20 4 = (.inr (0, [.ref 5, .ref 6, .ref 7, .int 0])) := by rw [← eT20]; exact (am_up_n (by decide)).trans k233
  have k253 : T20 5 = (.inl (2, 200, .inr (.inr (.inr (.inr (fun _ => none)))))) := by rw [← eT20]; exact (am_up_n (by decide)).trans k234
  have k254 : T20 6 = (.inl (0, 50, .inl (fun _ => 0))) := by rw [← eT20]; exact (am_up_n (by decide)).trans k235
  have k255 : T20 7 = (.inl (0, 5, .inl (upd (upd (upd (upd (upd (fun _ => 0) (0 : Int32).toNatClampNeg (-1)) (1 : Int32).toNatClampNeg (-1)) (2 : Int32).toNatClampNeg (-1)) (3 : Int32).toNatClampNeg (-1)) (4 : Int32).toNatClampNeg (-1)))) := by rw [← eT20]; exact (am_up_n (by decide)).trans k236
  have k256 : T20 8 = (.inr (4, [.ref 9, .ref 10, .int 0, .ref 11, .ref 12, .ref 13, .ref 14, .int 0, .int 0])) := by rw [← eT20]; exact (am_up_n (by decide)).trans k237
  have k257 : T20 9 = (.inl (0, 40, .inl (fun _ => 0))) := by rw [← eT20]; exact (am_up_n (by decide)).trans k238
  have k258 : T20 10 = (.inl (0, 40, .inl (fun _ => 0))) := by rw [← eT20]; exact (am_up_n (by decide)).trans k239
  have k259 : T20 11 = (.inl (0, 40, .inl (fun _ => 0))) := by rw [← eT20]; exact (am_up_n (by decide)).trans k240
  have k260 : T20 12 = (.inl (0, 40, .inl (fun _ => 0))) := by rw [← eT20]; exact (am_up_n (by decide)).trans k241
  have k261 : T20 13 = (.inl (0, 40, .inl (fun _ => 0))) := by rw [← eT20]; exact (am_up_n (by decide)).trans k242
  have k262 : T20 14 = (.inl (0, 40, .inl (fun _ => 0))) := by rw [← eT20]; exact (am_up_n (by decide)).trans k243
  have k263 : T20 15 = (.inr (1, [.ref 16, .int 0])) := by rw [← eT20]; exact (am_up_n (by decide)).trans k244
  have k264 : T20 16 = (.inl (2, 36, .inr (.inr (.inr (.inr (fun _ => none)))))) := by rw [← eT20]; exact (am_up_n (by decide)).trans k245
  have k265 : T20 17 = (.inr (3, [.ref 18, .int 0])) := by rw [← eT20]; exact (am_up_n (by decide)).trans k246
  have k266 : T20 18 = (.inl (0, 80, .inl (fun _ => 0))) := by rw [← eT20]; exact (am_up_n (by decide)).trans k247
  have k267 : T20 19 = (.inr (5, [.ref 20, .ref 21, .ref 22, .int 0])) := by rw [← eT20]; exact (am_up_n (by decide)).trans k224
  have k268 : T20 20 = (.inl (0, 16, .inl (fun _ => 0))) := by rw [← eT20]; exact (am_up_n (by decide)).trans k225
  have k269 : T20 21 = (.inl (0, 16, .inl (fun _ => 0))) := by rw [← eT20]; exact (am_up_n (by decide)).trans k226
  have k270 : T20 22 = (.inl (0, 16, .inl (fun _ => 0))) := by rw [← eT20]; exact (am_up_n (by decide)).trans k227
  refine am_aload_n (I := iX6_init) (pc := 74) dX6_init_74 rfl rfl ?_
  refine am_new (I := iX6_init) (pc := 75) ln_X6_49 dX6_init_75 (Nat.le_of_ble_eq_true rfl) (Nat.le_of_ble_eq_true rfl) ?_
  show am_W _ _ _ _ _ _ _ _ _ _ _ _ _ _ _ 78 [some (.ref 1)] [.ref 23, .ref 1] (am_up T20 23 (.inr (2, [.null, .int 0])), 24) 22 764
  generalize eT21 : am_up T20 23 (.inr (2, [.null, .int 0])) = T21
  have k271 : T21 1 = (.inr (6, [.ref 2, .ref 4, .ref 8, .ref 15, .ref 17, .ref 19, .null])) := by rw [← eT21]; exact (am_up_n (by decide)).trans k248
  have k272 : ∀ z : Nat, z < 1 → T21 z = h z := fun z q9 => by rw [← eT21]; exact (am_up_n (Nat.ne_of_lt (Nat.lt_of_lt_of_le q9 (by decide)))).trans (k249 z q9)
  have k273 : T21 2 = (.inr (3, [.ref 3, .int 0])) := by rw [← eT21]; exact (am_up_n (by decide)).trans k250
  have k274 : T21 3 = (.inl (0, 80, .inl (fun _ => 0))) := by rw [← eT21]; exact (am_up_n (by decide)).trans k251
  have k275 : T21 4 = (.inr (0, [.ref 5, .ref 6, .ref 7, .int 0])) := by rw [← eT21]; exact (am_up_n (by decide)).trans k252
  have k276 : T21 5 = (.inl (2, 200, .inr (.inr (.inr (.inr (fun _ => none)))))) := by rw [← eT21]; exact (am_up_n (by decide)).trans k253
  have k277 : T21 6 = (.inl (0, 50, .inl (fun _ => 0))) := by rw [← eT21]; exact (am_up_n (by decide)).trans k254
  have k278 : T21 7 = (.inl (0, 5, .inl (upd (upd (upd (upd (upd (fun _ => 0) (0 : Int32).toNatClampNeg (-1)) (1 : Int32).toNatClampNeg (-1)) (2 : Int32).toNatClampNeg (-1)) (3 : Int32).toNatClampNeg (-1)) (4 : Int32).toNatClampNeg (-1)))) := by rw [← eT21]; exact (am_up_n (by decide)).trans k255
  have k279 : T21 8 = (.inr (4, [.ref 9, .ref 10, .int 0, .ref 11, .ref 12, .ref 13, .ref 14, .int 0, .int 0])) := by rw [← eT21]; exact (am_up_n (by decide)).trans k256
  have k280 : T21 9 = (.inl (0, 40, .inl (fun _ => 0))) := by rw [← eT21]; exact (am_up_n (by decide)).trans k257
  have k281 : T21 10 = (.inl (0, 40, .inl (fun _ => 0))) := by rw [← eT21]; exact (am_up_n (by decide)).trans k258
  have k282 : T21 11 = (.inl (0, 40, .inl (fun _ => 0))) := by rw [← eT21]; exact (am_up_n (by decide)).trans k259
  have k283 : T21 12 = (.inl (0, 40, .inl (fun _ => 0))) := by rw [← eT21]; exact (am_up_n (by decide)).trans k260
  have k284 : T21 13 = (.inl (0, 40, .inl (fun _ => 0))) := by rw [← eT21]; exact (am_up_n (by decide)).trans k261
  have k285 : T21 14 = (.inl (0, 40, .inl (fun _ => 0))) := by rw [← eT21]; exact (am_up_n (by decide)).trans k262
  have k286 : T21 15 = (.inr (1, [.ref 16, .int 0])) := by rw [← eT21]; exact (am_up_n (by decide)).trans k263
  have k287 : T21 16 = (.inl (2, 36, .inr (.inr (.inr (.inr (fun _ => none)))))) := by rw [← eT21]; exact (am_up_n (by decide)).trans k264
  have k288 : T21 17 = (.inr (3, [.ref 18, .int 0])) := by rw [← eT21]; exact (am_up_n (by decide)).trans k265
  have k289 : T21 18 = (.inl (0, 80, .inl (fun _ => 0))) := by rw [← eT21]; exact (am_up_n (by decide)).trans k266
  have k290 : T21 19 = (.inr (5, [.ref 20, .ref 21, .ref 22, .int 0])) := by rw [← eT21]; exact (am_up_n (by decide)).trans k267
  have k291 : T21 20 = (.inl (0, 16, .inl (fun _ => 0))) := by rw [← eT21]; exact (am_up_n (by decide)).trans k268
  have k292 : T21 21 = (.inl (0, 16, .inl (fun _ => 0))) := by rw [← eT21]; exact (am_up_n (by decide)).trans k269
  have k293 : T21 22 = (.inl (0, 16, .inl (fun _ => 0))) := by rw [← eT21]; exact (am_up_n (by decide)).trans k270
  have k294 : T21 23 = (.inr (2, [.null, .int 0])) := by rw [← eT21]; exact am_up_s
  refine am_dup (I := iX6_init) (pc := 78) dX6_init_78 rfl ?_
  refine am_callI (I := iX6_init) (pc := 79) (st := [.ref 23, .ref 1]) lv_X6_51 (m_Roo_init K l T21 k294) dX6_init_79 rfl (Nat.le_of_ble_eq_true rfl) ⟨Nat.le_of_ble_eq_true rfl, Nat.le_of_ble_eq_true rfl⟩ (Nat.le_of_ble_eq_true rfl) (Nat.le_of_ble_eq_true rfl) rfl (fun v9 U9 z9 _ => ?_)
  obtain ⟨rfl, nU9, k295, k296, k297⟩ := z9
  obtain ⟨T22, n9⟩ := U9
  change n9 = 25 at nU9
  subst nU9
  have k298 : T22 1 = (.inr (6, [.ref 2, .ref 4, .ref 8, .ref 15, .ref 17, .ref 19, .null])) := (k297 1 (by decide)).trans k271
  have k299 : ∀ z : Nat, z < 1 → T22 z = h z := fun z q9 => (k297 z (Nat.lt_of_lt_of_le q9 (by decide))).trans (k272 z q9)
  have k300 : T22 2 = (.inr (3, [.ref 3, .int 0])) := (k297 2 (by decide)).trans k273
  have k301 : T22 3 = (.inl (0, 80, .inl (fun _ => 0))) := (k297 3 (by decide)).trans k274
  have k302 : T22 4 = (.inr (0, [.ref 5, .ref 6, .ref 7, .int 0])) := (k297 4 (by decide)).trans k275
  have k303 : T22 5 = (.inl (2, 200, .inr (.inr (.inr (.inr (fun _ => none)))))) := (k297 5 (by decide)).trans k276
  have k304 : T22 6 = (.inl (0, 50, .inl (fun _ => 0))) := (k297 6 (by decide)).trans k277
  have k305 : T22 7 = (.inl (0, 5, .inl (upd (upd (upd (upd (upd (fun _ => 0) (0 : Int32).toNatClampNeg (-1)) (1 : Int32).toNatClampNeg (-1)) (2 : Int32).toNatClampNeg (-1)) (3 : Int32).toNatClampNeg (-1)) (4 : Int32).toNatClampNeg (-1)))) := (k297 7 (by decide)).trans k278
  have k306 : T22 8 = (.inr (4, [.ref 9, .ref 10, .int 0, .ref 11, .ref 12, .ref 13, .ref 14, .int 0, .int 0])) := (k297 8 (by decide)).trans k279
  have k307 : T22 9 = (.inl (0, 40, .inl (fun _ => 0))) := (k297 9 (by decide)).trans k280
  have k308 : T22 10 = (.inl (0, 40, .inl (fun _ => 0))) := (k297 10 (by decide)).trans k281
  have k309 : T22 11 = (.inl (0, 40, .inl (fun _ => 0))) := (k297 11 (by decide)).trans k282
  have k310 : T22 12 = (.inl (0, 40, .inl (fun _ => 0))) := (k297 12 (by decide)).trans k283
  have k311 : T22 13 = (.inl (0, 40, .inl (fun _ => 0))) := (k297 13 (by decide)).trans k284
  have k312 : T22 14 = (.inl (0, 40, .inl (fun _ => 0))) := (k297 14 (by decide)).trans k285
  have k313 : T22 15 = (.inr (1, [.ref 16, .int 0])) := (k297 15 (by decide)).trans k286
  have k314 : T22 16 = (.inl (2, 36, .inr (.inr (.inr (.inr (fun _ => none)))))) := (k297 16 (by decide)).trans k287
  have k315 : T22 17 = (.inr (3, [.ref 18, .int 0])) := (k297 17 (by decide)).trans k288
  have k316 : T22 18 = (.inl (0, 80, .inl (fun _ => 0))) := (k297 18 (by decide)).trans k289
  have k317 : T22 19 = (.inr (5, [.ref 20, .ref 21, .ref 22, .int 0])) := (k297 19 (by decide)).trans k290
  have k318 : T22 20 = (.inl (0, 16, .inl (fun _ => 0))) := (k297 20 (by decide)).trans k291
  have k319 : T22 21 = (.inl (0, 16, .inl (fun _ => 0))) := (k297 21 (by decide)).trans k292
  have k320 : T22 22 = (.inl (0, 16, .inl (fun _ => 0))) := (k297 22 (by decide)).trans k293
  change T22 23 = (.inr (2, [.ref 24, .int 0])) at k295
  change T22 24 = (.inl (0, 24, .inl (fun _ => 0))) at k296
  show am_W _ _ _ _ _ _ _ _ _ _ _ _ _ _ _ 82 [some (.ref 1)] [.ref 23, .ref 1] (T22, 25) 23 788
  refine am_putF (I := iX6_init) (pc := 82) (fs' := [.ref 2, .ref 4, .ref 8, .ref 15, .ref 17, .ref 19, .ref 23]) lf_X6_52 rfl dX6_init_82 k298 (fun _ => ⟨rfl, rfl⟩) (Nat.le_of_ble_eq_true rfl) rfl ?_
  show am_W _ _ _ _ _ _ _ _ _ _ _ _ _ _ _ 85 [some (.ref 1)] [] (am_up T22 1 (.inr (6, [.ref 2, .ref 4, .ref 8, .ref 15, .ref 17, .ref 19, .ref 23])), 25) 23 788
  generalize eT23 : am_up T22 1 (.inr (6, [.ref 2, .ref 4, .ref 8, .ref 15, .ref 17, .ref 19, .ref 23])) = T23
  have k321 : T23 1 = (.inr (6, [.ref 2, .ref 4, .ref 8, .ref 15, .ref 17, .ref 19, .ref 23])) := by rw [← eT23]; exact am_up_s
  have k322 : ∀ z : Nat, z < 1 → T23 z = h z := fun z q9 => by rw [← eT23]; exact (am_up_n (Nat.ne_of_lt (Nat.lt_of_lt_of_le q9 (by decide)))).trans (k299 z q9)
  have k323 : T23 2 = (.inr (3, [.ref 3, .int 0])) := by rw [← eT23]; exact (am_up_n (by decide)).trans k300
  have k324 : T23 3 = (.inl (0, 80, .inl (fun _ => 0))) := by rw [← eT23]; exact (am_up_n (by decide)).trans k301
  have k325 : T23 4 = (.inr (0, [.ref 5, .ref 6, .ref 7, .int 0])) := by rw [← eT23]; exact (am_up_n (by decide)).trans k302
  have k326 : T23 5 = (.inl (2, 200, .inr (.inr (.inr (.inr (fun _ => none)))))) := by rw [← eT23]; exact (am_up_n (by decide)).trans k303
  have k327 : T23 6 = (.inl (0, 50, .inl (fun _ => 0))) := by rw [← eT23]; exact (am_up_n (by decide)).trans k304
  have k328 : T23 7 = (.inl (0, 5, .inl (upd (upd (upd (upd (upd (fun _ => 0) (0 : Int32).toNatClampNeg (-1)) (1 : Int32).toNatClampNeg (-1)) (2 : Int32).toNatClampNeg (-1)) (3 : Int32).toNatClampNeg (-1)) (4 : Int32).toNatClampNeg (-1)))) := by rw [← eT23]; exact (am_up_n (by decide)).trans k305
  have k329 : T23 8 = (.inr (4, [.ref 9, .ref 10, .int 0, .ref 11, .ref 12, .ref 13, .ref 14, .int 0, .int 0])) := by rw [← eT23]; exact (am_up_n (by decide)).trans k306
  have k330 : T23 9 = (.inl (0, 40, .inl (fun _ => 0))) := by rw [← eT23]; exact (am_up_n (by decide)).trans k307
  have k331 : T23 10 = (.inl (0, 40, .inl (fun _ => 0))) := by rw [← eT23]; exact (am_up_n (by decide)).trans k308
  have k332 : T23 11 = (.inl (0, 40, .inl (fun _ => 0))) := by rw [← eT23]; exact (am_up_n (by decide)).trans k309
  have k333 : T23 12 = (.inl (0, 40, .inl (fun _ => 0))) := by rw [← eT23]; exact (am_up_n (by decide)).trans k310
  have k334 : T23 13 = (.inl (0, 40, .inl (fun _ => 0))) := by rw [← eT23]; exact (am_up_n (by decide)).trans k311
  have k335 : T23 14 = (.inl (0, 40, .inl (fun _ => 0))) := by rw [← eT23]; exact (am_up_n (by decide)).trans k312
  have k336 : T23 15 = (.inr (1, [.ref 16, .int 0])) := by rw [← eT23]; exact (am_up_n (by decide)).trans k313
  have k337 : T23 16 = (.inl (2, 36, .inr (.inr (.inr (.inr (fun _ => none)))))) := by rw [← eT23]; exact (am_up_n (by decide)).trans k314
  have k338 : T23 17 = (.inr (3, [.ref 18, .int 0])) := by rw [← eT23]; exact (am_up_n (by decide)).trans k315
  have k339 : T23 18 = (.inl (0, 80, .inl (fun _ => 0))) := by rw [← eT23]; exact (am_up_n (by decide)).trans k316
  have k340 : T23 19 = (.inr (5, [.ref 20, .ref 21, .ref 22, .int 0])) := by rw [← eT23]; exact (am_up_n (by decide)).trans k317
  have k341 : T23 20 = (.inl (0, 16, .inl (fun _ => 0))) := by rw [← eT23]; exact (am_up_n (by decide)).trans k318
  have k342 : T23 21 = (.inl (0, 16, .inl (fun _ => 0))) := by rw [← eT23]; exact (am_up_n (by decide)).trans k319
  have k343 : T23 22 = (.inl (0, 16, .inl (fun _ => 0))) := by rw [← eT23]; exact (am_up_n (by decide)).trans k320
  have k344 : T23 23 = (.inr (2, [.ref 24, .int 0])) := by rw [← eT23]; exact (am_up_n (by decide)).trans k295
  have k345 : T23 24 = (.inl (0, 24, .inl (fun _ => 0))) := by rw [← eT23]; exact (am_up_n (by decide)).trans k296
  exact am_vret (I := iX6_init) (pc := 85) dX6_init_85 rfl (Nat.le_refl _) (Nat.le_refl _) (⟨rfl, rfl, k321, k323, k324, k325, k326, k327, k328, k329, k330, k331, k332, k333, k334, k335, k336, k337, k338, k339, k340, k341, k342, k343, k344, k345, k322⟩)
set_option maxRecDepth 100000 in
set_option maxHeartbeats 4000000 in
theorem m_Md_init (K : am_K) (l : Launch) (h : Nat → am_C) (hr : h 25 = (.inr (7, [.int 0, .int 0, .null, .null, .null, .null, .null, .int 0, .null, .null, .null, .null, .int 0, .int 0, .int 0, .null, .null, .null, .null, .int 0, .int 0, .int 0, .null, .int 0, .null, .null, .null, .null, .null]))) : am_M K l iX7_init 1 19 17527 [.ref 25] (h, 26) (fun v S' => v = none ∧ S'.2 = 45 ∧ S'.1 25 = (.inr (7, [.int 0, .int 0, .ref 26, .ref 27, .ref 28, .ref 29, .ref 30, .int 0, .ref 31, .ref 32, .ref 33, .ref 34, .int 0, .int 0, .int 0, .ref 35, .ref 36, .ref 37, .ref 38, .int 0, .int 0, .int 0, .ref 39, .int 0, .ref 40, .ref 41, .ref 42, .ref 43, .ref 44])) ∧ S'.1 26 = (.inl (0, 80, .inl (fun _ => 0))) ∧ S'.1 27 = (.inl (0, 50, .inl (fun _ => 0))) ∧ S'.1 28 = (.inl (0, 200, .inl (fun _ => 0))) ∧ S'.1 29 = (.inl (0, 16000, .inl (fun _ => 0))) ∧ S'.1 30 = (.inl (0, 5, .inl (upd (upd (upd (upd (upd (fun _ => 0) (0 : Int32).toNatClampNeg (-1)) (1 : Int32).toNatClampNeg (-1)) (2 : Int32).toNatClampNeg (-1)) (3 : Int32).toNatClampNeg (-1)) (4 : Int32).toNatClampNeg (-1)))) ∧ S'.1 31 = (.inl (0, 41, .inl (fun _ => 0))) ∧ S'.1 32 = (.inl (0, 41, .inl (fun _ => 0))) ∧ S'.1 33 = (.inl (0, 42, .inl (fun _ => 0))) ∧ S'.1 34 = (.inl (0, 42, .inl (fun _ => 0))) ∧ S'.1 35 = (.inl (0, 41, .inl (fun _ => 0))) ∧ S'.1 36 = (.inl (0, 41, .inl (fun _ => 0))) ∧ S'.1 37 = (.inl (0, 36, .inl (fun _ => 0))) ∧ S'.1 38 = (.inl (0, 180, .inl (fun _ => 0))) ∧ S'.1 39 = (.inl (0, 80, .inl (fun _ => 0))) ∧ S'.1 40 = (.inl (0, 16, .inl (fun _ => 0))) ∧ S'.1 41 = (.inl (0, 16, .inl (fun _ => 0))) ∧ S'.1 42 = (.inl (0, 16, .inl (fun _ => 0))) ∧ S'.1 43 = (.inl (3, 576, .inl (fun _ => 0))) ∧ S'.1 44 = (.inl (0, 24, .inl (fun _ => 0))) ∧ ∀ z : Nat, z < 25 → S'.1 z = h z) (fun _ _ => False) := by
  refine am_body (by decide) rfl (by simp [Value.category]) (Nat.le_of_ble_eq_true rfl) (fun xp xe xs xm xa xb xt xc ad0 => ?_)
  show am_W _ _ _ _ _ _ _ _ _ _ _ _ _ _ _ 0 [some (.ref 25), none] [] (h, 26) 0 0
  refine am_aload_n (I := iX7_init) (pc := 0) dX7_init_0 rfl rfl ?_
  refine am_objInit (I := iX7_init) (pc := 1) dX7_init_1 lo_X7_1 lo_i lo_c (Nat.le_of_ble_eq_true rfl) (Nat.le_of_ble_eq_true rfl) ?_
  refine am_aload_n (I := iX7_init) (pc := 4) dX7_init_4 rfl rfl ?_
  refine am_bipush (I := iX7_init) (pc := 5) (x := 80) dX7_init_5 (by decide) ?_
  refine am_newarray (I := iX7_init) (pc := 7) (k := 0) (n := 80) (ty := .int) (q0 := .inl (fun _ => 0)) dX7_init_7 rfl rfl la_int (fun _ => rfl) (fun _ => rfl) (fun _ => trivial) (by decide) (by decide) (by decide) (Nat.le_of_ble_eq_true rfl) (Nat.le_of_ble_eq_true rfl) ?_
  show am_W _ _ _ _ _ _ _ _ _ _ _ _ _ _ _ 9 [some (.ref 25), none] [.ref 26, .ref 25] (am_up h 26 (.inl (0, 80, .inl (fun _ => 0))), 27) 1 80
  generalize eT1 : am_up h 26 (.inl (0, 80, .inl (fun _ => 0))) = T1
  have k1 : T1 25 = (.inr (7, [.int 0, .int 0, .null, .null, .null, .null, .null, .int 0, .null, .null, .null, .null, .int 0, .int 0, .int 0, .null, .null, .null, .null, .int 0, .int 0, .int 0, .null, .int 0, .null, .null, .null, .null, .null])) := by rw [← eT1]; exact (am_up_n (by decide)).trans hr
  have k2 : ∀ z : Nat, z < 25 → T1 z = h z := fun z q9 => by rw [← eT1]; exact (am_up_n (Nat.ne_of_lt (Nat.lt_of_lt_of_le q9 (by decide)))).trans ((fun z _ => rfl : ∀ z : Nat, z < 25 → h z = h z) z q9)
  have k3 : T1 26 = (.inl (0, 80, .inl (fun _ => 0))) := by rw [← eT1]; exact am_up_s
  refine am_putF (I := iX7_init) (pc := 9) (fs' := [.int 0, .int 0, .ref 26, .null, .null, .null, .null, .int 0, .null, .null, .null, .null, .int 0, .int 0, .int 0, .null, .null, .null, .null, .int 0, .int 0, .int 0, .null, .int 0, .null, .null, .null, .null, .null]) lf_X7_7 rfl dX7_init_9 k1 (fun _ => ⟨rfl, rfl⟩) (Nat.le_of_ble_eq_true rfl) rfl ?_
  show am_W _ _ _ _ _ _ _ _ _ _ _ _ _ _ _ 12 [some (.ref 25), none] [] (am_up T1 25 (.inr (7, [.int 0, .int 0, .ref 26, .null, .null, .null, .null, .int 0, .null, .null, .null, .null, .int 0, .int 0, .int 0, .null, .null, .null, .null, .int 0, .int 0, .int 0, .null, .int 0, .null, .null, .null, .null, .null])), 27) 1 80
  generalize eT2 : am_up T1 25 (.inr (7, [.int 0, .int 0, .ref 26, .null, .null, .null, .null, .int 0, .null, .null, .null, .null, .int 0, .int 0, .int 0, .null, .null, .null, .null, .int 0, .int 0, .int 0, .null, .int 0, .null, .null, .null, .null, .null])) = T2
  have k4 : T2 25 = (.inr (7, [.int 0, .int 0, .ref 26, .null, .null, .null, .null, .int 0, .null, .null, .null, .null, .int 0, .int 0, .int 0, .null, .null, .null, .null, .int 0, .int 0, .int 0, .null, .int 0, .null, .null, .null, .null, .null])) := by rw [← eT2]; exact am_up_s
  have k5 : ∀ z : Nat, z < 25 → T2 z = h z := fun z q9 => by rw [← eT2]; exact (am_up_n (Nat.ne_of_lt (Nat.lt_of_lt_of_le q9 (by decide)))).trans (k2 z q9)
  have k6 : T2 26 = (.inl (0, 80, .inl (fun _ => 0))) := by rw [← eT2]; exact (am_up_n (by decide)).trans k3
  refine am_aload_n (I := iX7_init) (pc := 12) dX7_init_12 rfl rfl ?_
  refine am_bipush (I := iX7_init) (pc := 13) (x := 50) dX7_init_13 (by decide) ?_
  refine am_newarray (I := iX7_init) (pc := 15) (k := 0) (n := 50) (ty := .int) (q0 := .inl (fun _ => 0)) dX7_init_15 rfl rfl la_int (fun _ => rfl) (fun _ => rfl) (fun _ => trivial) (by decide) (by decide) (by decide) (Nat.le_of_ble_eq_true rfl) (Nat.le_of_ble_eq_true rfl) ?_
  show am_W _ _ _ _ _ _ _ _ _ _ _ _ _ _ _ 17 [some (.ref 25), none] [.ref 27, .ref 25] (am_up T2 27 (.inl (0, 50, .inl (fun _ => 0))), 28) 2 130
  generalize eT3 : am_up T2 27 (.inl (0, 50, .inl (fun _ => 0))) = T3
  have k7 : T3 25 = (.inr (7, [.int 0, .int 0, .ref 26, .null, .null, .null, .null, .int 0, .null, .null, .null, .null, .int 0, .int 0, .int 0, .null, .null, .null, .null, .int 0, .int 0, .int 0, .null, .int 0, .null, .null, .null, .null, .null])) := by rw [← eT3]; exact (am_up_n (by decide)).trans k4
  have k8 : ∀ z : Nat, z < 25 → T3 z = h z := fun z q9 => by rw [← eT3]; exact (am_up_n (Nat.ne_of_lt (Nat.lt_of_lt_of_le q9 (by decide)))).trans (k5 z q9)
  have k9 : T3 26 = (.inl (0, 80, .inl (fun _ => 0))) := by rw [← eT3]; exact (am_up_n (by decide)).trans k6
  have k10 : T3 27 = (.inl (0, 50, .inl (fun _ => 0))) := by rw [← eT3]; exact am_up_s
  refine am_putF (I := iX7_init) (pc := 17) (fs' := [.int 0, .int 0, .ref 26, .ref 27, .null, .null, .null, .int 0, .null, .null, .null, .null, .int 0, .int 0, .int 0, .null, .null, .null, .null, .int 0, .int 0, .int 0, .null, .int 0, .null, .null, .null, .null, .null]) lf_X7_13 rfl dX7_init_17 k7 (fun _ => ⟨rfl, rfl⟩) (Nat.le_of_ble_eq_true rfl) rfl ?_
  show am_W _ _ _ _ _ _ _ _ _ _ _ _ _ _ _ 20 [some (.ref 25), none] [] (am_up T3 25 (.inr (7, [.int 0, .int 0, .ref 26, .ref 27, .null, .null, .null, .int 0, .null, .null, .null, .null, .int 0, .int 0, .int 0, .null, .null, .null, .null, .int 0, .int 0, .int 0, .null, .int 0, .null, .null, .null, .null, .null])), 28) 2 130
  generalize eT4 : am_up T3 25 (.inr (7, [.int 0, .int 0, .ref 26, .ref 27, .null, .null, .null, .int 0, .null, .null, .null, .null, .int 0, .int 0, .int 0, .null, .null, .null, .null, .int 0, .int 0, .int 0, .null, .int 0, .null, .null, .null, .null, .null])) = T4
  have k11 : T4 25 = (.inr (7, [.int 0, .int 0, .ref 26, .ref 27, .null, .null, .null, .int 0, .null, .null, .null, .null, .int 0, .int 0, .int 0, .null, .null, .null, .null, .int 0, .int 0, .int 0, .null, .int 0, .null, .null, .null, .null, .null])) := by rw [← eT4]; exact am_up_s
  have k12 : ∀ z : Nat, z < 25 → T4 z = h z := fun z q9 => by rw [← eT4]; exact (am_up_n (Nat.ne_of_lt (Nat.lt_of_lt_of_le q9 (by decide)))).trans (k8 z q9)
  have k13 : T4 26 = (.inl (0, 80, .inl (fun _ => 0))) := by rw [← eT4]; exact (am_up_n (by decide)).trans k9
  have k14 : T4 27 = (.inl (0, 50, .inl (fun _ => 0))) := by rw [← eT4]; exact (am_up_n (by decide)).trans k10
  refine am_aload_n (I := iX7_init) (pc := 20) dX7_init_20 rfl rfl ?_
  refine am_sipush (I := iX7_init) (pc := 21) (x := 200) dX7_init_21 (by decide) ?_
  refine am_newarray (I := iX7_init) (pc := 24) (k := 0) (n := 200) (ty := .int) (q0 := .inl (fun _ => 0)) dX7_init_24 rfl rfl la_int (fun _ => rfl) (fun _ => rfl) (fun _ => trivial) (by decide) (by decide) (by decide) (Nat.le_of_ble_eq_true rfl) (Nat.le_of_ble_eq_true rfl) ?_
  show am_W _ _ _ _ _ _ _ _ _ _ _ _ _ _ _ 26 [some (.ref 25), none] [.ref 28, .ref 25] (am_up T4 28 (.inl (0, 200, .inl (fun _ => 0))), 29) 3 330
  generalize eT5 : am_up T4 28 (.inl (0, 200, .inl (fun _ => 0))) = T5
  have k15 : T5 25 = (.inr (7, [.int 0, .int 0, .ref 26, .ref 27, .null, .null, .null, .int 0, .null, .null, .null, .null, .int 0, .int 0, .int 0, .null, .null, .null, .null, .int 0, .int 0, .int 0, .null, .int 0, .null, .null, .null, .null, .null])) := by rw [← eT5]; exact (am_up_n (by decide)).trans k11
  have k16 : ∀ z : Nat, z < 25 → T5 z = h z := fun z q9 => by rw [← eT5]; exact (am_up_n (Nat.ne_of_lt (Nat.lt_of_lt_of_le q9 (by decide)))).trans (k12 z q9)
  have k17 : T5 26 = (.inl (0, 80, .inl (fun _ => 0))) := by rw [← eT5]; exact (am_up_n (by decide)).trans k13
  have k18 : T5 27 = (.inl (0, 50, .inl (fun _ => 0))) := by rw [← eT5]; exact (am_up_n (by decide)).trans k14
  have k19 : T5 28 = (.inl (0, 200, .inl (fun _ => 0))) := by rw [← eT5]; exact am_up_s
  refine am_putF (I := iX7_init) (pc := 26) (fs' := [.int 0, .int 0, .ref 26, .ref 27, .ref 28, .null, .null, .int 0, .null, .null, .null, .null, .int 0, .int 0, .int 0, .null, .null, .null, .null, .int 0, .int 0, .int 0, .null, .int 0, .null, .null, .null, .null, .null]) lf_X7_16 rfl dX7_init_26 k15 (fun _ => ⟨rfl, rfl⟩) (Nat.le_of_ble_eq_true rfl) rfl ?_
  show am_W _ _ _ _ _ _ _ _ _ _ _ _ _ _ _ 29 [some (.ref 25), none] [] (am_up T5 25 (.inr (7, [.int 0, .int 0, .ref 26, .ref 27, .ref 28, .null, .null, .int 0, .null, .null, .null, .null, .int 0, .int 0, .int 0, .null, .null, .null, .null, .int 0, .int 0, .int 0, .null, .int 0, .null, .null, .null, .null, .null])), 29) 3 330
  generalize eT6 : am_up T5 25 (.inr (7, [.int 0, .int 0, .ref 26, .ref 27, .ref 28, .null, .null, .int 0, .null, .null, .null, .null, .int 0, .int 0, .int 0, .null, .null, .null, .null, .int 0, .int 0, .int 0, .null, .int 0, .null, .null, .null, .null, .null])) = T6
  have k20 : T6 25 = (.inr (7, [.int 0, .int 0, .ref 26, .ref 27, .ref 28, .null, .null, .int 0, .null, .null, .null, .null, .int 0, .int 0, .int 0, .null, .null, .null, .null, .int 0, .int 0, .int 0, .null, .int 0, .null, .null, .null, .null, .null])) := by rw [← eT6]; exact am_up_s
  have k21 : ∀ z : Nat, z < 25 → T6 z = h z := fun z q9 => by rw [← eT6]; exact (am_up_n (Nat.ne_of_lt (Nat.lt_of_lt_of_le q9 (by decide)))).trans (k16 z q9)
  have k22 : T6 26 = (.inl (0, 80, .inl (fun _ => 0))) := by rw [← eT6]; exact (am_up_n (by decide)).trans k17
  have k23 : T6 27 = (.inl (0, 50, .inl (fun _ => 0))) := by rw [← eT6]; exact (am_up_n (by decide)).trans k18
  have k24 : T6 28 = (.inl (0, 200, .inl (fun _ => 0))) := by rw [← eT6]; exact (am_up_n (by decide)).trans k19
  refine am_aload_n (I := iX7_init) (pc := 29) dX7_init_29 rfl rfl ?_
  refine am_sipush (I := iX7_init) (pc := 30) (x := 16000) dX7_init_30 (by decide) ?_
  refine am_newarray (I := iX7_init) (pc := 33) (k := 0) (n := 16000) (ty := .int) (q0 := .inl (fun _ => 0)) dX7_init_33 rfl rfl la_int (fun _ => rfl) (fun _ => rfl) (fun _ => trivial) (by decide) (by decide) (by decide) (Nat.le_of_ble_eq_true rfl) (Nat.le_of_ble_eq_true rfl) ?_
  show am_W _ _ _ _ _ _ _ _ _ _ _ _ _ _ _ 35 [some (.ref 25), none] [.ref 29, .ref 25] (am_up T6 29 (.inl (0, 16000, .inl (fun _ => 0))), 30) 4 16330
  generalize eT7 : am_up T6 29 (.inl (0, 16000, .inl (fun _ => 0))) = T7
  have k25 : T7 25 = (.inr (7, [.int 0, .int 0, .ref 26, .ref 27, .ref 28, .null, .null, .int 0, .null, .null, .null, .null, .int 0, .int 0, .int 0, .null, .null, .null, .null, .int 0, .int 0, .int 0, .null, .int 0, .null, .null, .null, .null, .null])) := by rw [← eT7]; exact (am_up_n (by decide)).trans k20
  have k26 : ∀ z : Nat, z < 25 → T7 z = h z := fun z q9 => by rw [← eT7]; exact (am_up_n (Nat.ne_of_lt (Nat.lt_of_lt_of_le q9 (by decide)))).trans (k21 z q9)
  have k27 : T7 26 = (.inl (0, 80, .inl (fun _ => 0))) := by rw [← eT7]; exact (am_up_n (by decide)).trans k22
  have k28 : T7 27 = (.inl (0, 50, .inl (fun _ => 0))) := by rw [← eT7]; exact (am_up_n (by decide)).trans k23
  have k29 : T7 28 = (.inl (0, 200, .inl (fun _ => 0))) := by rw [← eT7]; exact (am_up_n (by decide)).trans k24
  have k30 : T7 29 = (.inl (0, 16000, .inl (fun _ => 0))) := by rw [← eT7]; exact am_up_s
  refine am_putF (I := iX7_init) (pc := 35) (fs' := [.int 0, .int 0, .ref 26, .ref 27, .ref 28, .ref 29, .null, .int 0, .null, .null, .null, .null, .int 0, .int 0, .int 0, .null, .null, .null, .null, .int 0, .int 0, .int 0, .null, .int 0, .null, .null, .null, .null, .null]) lf_X7_19 rfl dX7_init_35 k25 (fun _ => ⟨rfl, rfl⟩) (Nat.le_of_ble_eq_true rfl) rfl ?_
  show am_W _ _ _ _ _ _ _ _ _ _ _ _ _ _ _ 38 [some (.ref 25), none] [] (am_up T7 25 (.inr (7, [.int 0, .int 0, .ref 26, .ref 27, .ref 28, .ref 29, .null, .int 0, .null, .null, .null, .null, .int 0, .int 0, .int 0, .null, .null, .null, .null, .int 0, .int 0, .int 0, .null, .int 0, .null, .null, .null, .null, .null])), 30) 4 16330
  generalize eT8 : am_up T7 25 (.inr (7, [.int 0, .int 0, .ref 26, .ref 27, .ref 28, .ref 29, .null, .int 0, .null, .null, .null, .null, .int 0, .int 0, .int 0, .null, .null, .null, .null, .int 0, .int 0, .int 0, .null, .int 0, .null, .null, .null, .null, .null])) = T8
  have k31 : T8 25 = (.inr (7, [.int 0, .int 0, .ref 26, .ref 27, .ref 28, .ref 29, .null, .int 0, .null, .null, .null, .null, .int 0, .int 0, .int 0, .null, .null, .null, .null, .int 0, .int 0, .int 0, .null, .int 0, .null, .null, .null, .null, .null])) := by rw [← eT8]; exact am_up_s
  have k32 : ∀ z : Nat, z < 25 → T8 z = h z := fun z q9 => by rw [← eT8]; exact (am_up_n (Nat.ne_of_lt (Nat.lt_of_lt_of_le q9 (by decide)))).trans (k26 z q9)
  have k33 : T8 26 = (.inl (0, 80, .inl (fun _ => 0))) := by rw [← eT8]; exact (am_up_n (by decide)).trans k27
  have k34 : T8 27 = (.inl (0, 50, .inl (fun _ => 0))) := by rw [← eT8]; exact (am_up_n (by decide)).trans k28
  have k35 : T8 28 = (.inl (0, 200, .inl (fun _ => 0))) := by rw [← eT8]; exact (am_up_n (by decide)).trans k29
  have k36 : T8 29 = (.inl (0, 16000, .inl (fun _ => 0))) := by rw [← eT8]; exact (am_up_n (by decide)).trans k30
  refine am_aload_n (I := iX7_init) (pc := 38) dX7_init_38 rfl rfl ?_
  refine am_iconst (I := iX7_init) (pc := 39) (x := 5) dX7_init_39 (by decide) ?_
  refine am_newarray (I := iX7_init) (pc := 40) (k := 0) (n := 5) (ty := .int) (q0 := .inl (fun _ => 0)) dX7_init_40 rfl rfl la_int (fun _ => rfl) (fun _ => rfl) (fun _ => trivial) (by decide) (by decide) (by decide) (Nat.le_of_ble_eq_true rfl) (Nat.le_of_ble_eq_true rfl) ?_
  show am_W _ _ _ _ _ _ _ _ _ _ _ _ _ _ _ 42 [some (.ref 25), none] [.ref 30, .ref 25] (am_up T8 30 (.inl (0, 5, .inl (fun _ => 0))), 31) 5 16335
  generalize eT9 : am_up T8 30 (.inl (0, 5, .inl (fun _ => 0))) = T9
  have k37 : T9 25 = (.inr (7, [.int 0, .int 0, .ref 26, .ref 27, .ref 28, .ref 29, .null, .int 0, .null, .null, .null, .null, .int 0, .int 0, .int 0, .null, .null, .null, .null, .int 0, .int 0, .int 0, .null, .int 0, .null, .null, .null, .null, .null])) := by rw [← eT9]; exact (am_up_n (by decide)).trans k31
  have k38 : ∀ z : Nat, z < 25 → T9 z = h z := fun z q9 => by rw [← eT9]; exact (am_up_n (Nat.ne_of_lt (Nat.lt_of_lt_of_le q9 (by decide)))).trans (k32 z q9)
  have k39 : T9 26 = (.inl (0, 80, .inl (fun _ => 0))) := by rw [← eT9]; exact (am_up_n (by decide)).trans k33
  have k40 : T9 27 = (.inl (0, 50, .inl (fun _ => 0))) := by rw [← eT9]; exact (am_up_n (by decide)).trans k34
  have k41 : T9 28 = (.inl (0, 200, .inl (fun _ => 0))) := by rw [← eT9]; exact (am_up_n (by decide)).trans k35
  have k42 : T9 29 = (.inl (0, 16000, .inl (fun _ => 0))) := by rw [← eT9]; exact (am_up_n (by decide)).trans k36
  have k43 : T9 30 = (.inl (0, 5, .inl (fun _ => 0))) := by rw [← eT9]; exact am_up_s
  refine am_putF (I := iX7_init) (pc := 42) (fs' := [.int 0, .int 0, .ref 26, .ref 27, .ref 28, .ref 29, .ref 30, .int 0, .null, .null, .null, .null, .int 0, .int 0, .int 0, .null, .null, .null, .null, .int 0, .int 0, .int 0, .null, .int 0, .null, .null, .null, .null, .null]) lf_X7_22 rfl dX7_init_42 k37 (fun _ => ⟨rfl, rfl⟩) (Nat.le_of_ble_eq_true rfl) rfl ?_
  show am_W _ _ _ _ _ _ _ _ _ _ _ _ _ _ _ 45 [some (.ref 25), none] [] (am_up T9 25 (.inr (7, [.int 0, .int 0, .ref 26, .ref 27, .ref 28, .ref 29, .ref 30, .int 0, .null, .null, .null, .null, .int 0, .int 0, .int 0, .null, .null, .null, .null, .int 0, .int 0, .int 0, .null, .int 0, .null, .null, .null, .null, .null])), 31) 5 16335
  generalize eT10 : am_up T9 25 (.inr (7, [.int 0, .int 0, .ref 26, .ref 27, .ref 28, .ref 29, .ref 30, .int 0, .null, .null, .null, .null, .int 0, .int 0, .int 0, .null, .null, .null, .null, .int 0, .int 0, .int 0, .null, .int 0, .null, .null, .null, .null, .null])) = T10
  have k44 : T10 25 = (.inr (7, [.int 0, .int 0, .ref 26, .ref 27, .ref 28, .ref 29, .ref 30, .int 0, .null, .null, .null, .null, .int 0, .int 0, .int 0, .null, .null, .null, .null, .int 0, .int 0, .int 0, .null, .int 0, .null, .null, .null, .null, .null])) := by rw [← eT10]; exact am_up_s
  have k45 : ∀ z : Nat, z < 25 → T10 z = h z := fun z q9 => by rw [← eT10]; exact (am_up_n (Nat.ne_of_lt (Nat.lt_of_lt_of_le q9 (by decide)))).trans (k38 z q9)
  have k46 : T10 26 = (.inl (0, 80, .inl (fun _ => 0))) := by rw [← eT10]; exact (am_up_n (by decide)).trans k39
  have k47 : T10 27 = (.inl (0, 50, .inl (fun _ => 0))) := by rw [← eT10]; exact (am_up_n (by decide)).trans k40
  have k48 : T10 28 = (.inl (0, 200, .inl (fun _ => 0))) := by rw [← eT10]; exact (am_up_n (by decide)).trans k41
  have k49 : T10 29 = (.inl (0, 16000, .inl (fun _ => 0))) := by rw [← eT10]; exact (am_up_n (by decide)).trans k42
  have k50 : T10 30 = (.inl (0, 5, .inl (fun _ => 0))) := by rw [← eT10]; exact (am_up_n (by decide)).trans k43
  refine am_aload_n (I := iX7_init) (pc := 45) dX7_init_45 rfl rfl ?_
  refine am_bipush (I := iX7_init) (pc := 46) (x := 41) dX7_init_46 (by decide) ?_
  refine am_newarray (I := iX7_init) (pc := 48) (k := 0) (n := 41) (ty := .int) (q0 := .inl (fun _ => 0)) dX7_init_48 rfl rfl la_int (fun _ => rfl) (fun _ => rfl) (fun _ => trivial) (by decide) (by decide) (by decide) (Nat.le_of_ble_eq_true rfl) (Nat.le_of_ble_eq_true rfl) ?_
  show am_W _ _ _ _ _ _ _ _ _ _ _ _ _ _ _ 50 [some (.ref 25), none] [.ref 31, .ref 25] (am_up T10 31 (.inl (0, 41, .inl (fun _ => 0))), 32) 6 16376
  generalize eT11 : am_up T10 31 (.inl (0, 41, .inl (fun _ => 0))) = T11
  have k51 : T11 25 = (.inr (7, [.int 0, .int 0, .ref 26, .ref 27, .ref 28, .ref 29, .ref 30, .int 0, .null, .null, .null, .null, .int 0, .int 0, .int 0, .null, .null, .null, .null, .int 0, .int 0, .int 0, .null, .int 0, .null, .null, .null, .null, .null])) := by rw [← eT11]; exact (am_up_n (by decide)).trans k44
  have k52 : ∀ z : Nat, z < 25 → T11 z = h z := fun z q9 => by rw [← eT11]; exact (am_up_n (Nat.ne_of_lt (Nat.lt_of_lt_of_le q9 (by decide)))).trans (k45 z q9)
  have k53 : T11 26 = (.inl (0, 80, .inl (fun _ => 0))) := by rw [← eT11]; exact (am_up_n (by decide)).trans k46
  have k54 : T11 27 = (.inl (0, 50, .inl (fun _ => 0))) := by rw [← eT11]; exact (am_up_n (by decide)).trans k47
  have k55 : T11 28 = (.inl (0, 200, .inl (fun _ => 0))) := by rw [← eT11]; exact (am_up_n (by decide)).trans k48
  have k56 : T11 29 = (.inl (0, 16000, .inl (fun _ => 0))) := by rw [← eT11]; exact (am_up_n (by decide)).trans k49
  have k57 : T11 30 = (.inl (0, 5, .inl (fun _ => 0))) := by rw [← eT11]; exact (am_up_n (by decide)).trans k50
  have k58 : T11 31 = (.inl (0, 41, .inl (fun _ => 0))) := by rw [← eT11]; exact am_up_s
  refine am_putF (I := iX7_init) (pc := 50) (fs' := [.int 0, .int 0, .ref 26, .ref 27, .ref 28, .ref 29, .ref 30, .int 0, .ref 31, .null, .null, .null, .int 0, .int 0, .int 0, .null, .null, .null, .null, .int 0, .int 0, .int 0, .null, .int 0, .null, .null, .null, .null, .null]) lf_X7_25 rfl dX7_init_50 k51 (fun _ => ⟨rfl, rfl⟩) (Nat.le_of_ble_eq_true rfl) rfl ?_
  show am_W _ _ _ _ _ _ _ _ _ _ _ _ _ _ _ 53 [some (.ref 25), none] [] (am_up T11 25 (.inr (7, [.int 0, .int 0, .ref 26, .ref 27, .ref 28, .ref 29, .ref 30, .int 0, .ref 31, .null, .null, .null, .int 0, .int 0, .int 0, .null, .null, .null, .null, .int 0, .int 0, .int 0, .null, .int 0, .null, .null, .null, .null, .null])), 32) 6 16376
  generalize eT12 : am_up T11 25 (.inr (7, [.int 0, .int 0, .ref 26, .ref 27, .ref 28, .ref 29, .ref 30, .int 0, .ref 31, .null, .null, .null, .int 0, .int 0, .int 0, .null, .null, .null, .null, .int 0, .int 0, .int 0, .null, .int 0, .null, .null, .null, .null, .null])) = T12
  have k59 : T12 25 = (.inr (7, [.int 0, .int 0, .ref 26, .ref 27, .ref 28, .ref 29, .ref 30, .int 0, .ref 31, .null, .null, .null, .int 0, .int 0, .int 0, .null, .null, .null, .null, .int 0, .int 0, .int 0, .null, .int 0, .null, .null, .null, .null, .null])) := by rw [← eT12]; exact am_up_s
  have k60 : ∀ z : Nat, z < 25 → T12 z = h z := fun z q9 => by rw [← eT12]; exact (am_up_n (Nat.ne_of_lt (Nat.lt_of_lt_of_le q9 (by decide)))).trans (k52 z q9)
  have k61 : T12 26 = (.inl (0, 80, .inl (fun _ => 0))) := by rw [← eT12]; exact (am_up_n (by decide)).trans k53
  have k62 : T12 27 = (.inl (0, 50, .inl (fun _ => 0))) := by rw [← eT12]; exact (am_up_n (by decide)).trans k54
  have k63 : T12 28 = (.inl (0, 200, .inl (fun _ => 0))) := by rw [← eT12]; exact (am_up_n (by decide)).trans k55
  have k64 : T12 29 = (.inl (0, 16000, .inl (fun _ => 0))) := by rw [← eT12]; exact (am_up_n (by decide)).trans k56
  have k65 : T12 30 = (.inl (0, 5, .inl (fun _ => 0))) := by rw [← eT12]; exact (am_up_n (by decide)).trans k57
  have k66 : T12 31 = (.inl (0, 41, .inl (fun _ => 0))) := by rw [← eT12]; exact (am_up_n (by decide)).trans k58
  refine am_aload_n (I := iX7_init) (pc := 53) dX7_init_53 rfl rfl ?_
  refine am_bipush (I := iX7_init) (pc := 54) (x := 41) dX7_init_54 (by decide) ?_
  refine am_newarray (I := iX7_init) (pc := 56) (k := 0) (n := 41) (ty := .int) (q0 := .inl (fun _ => 0)) dX7_init_56 rfl rfl la_int (fun _ => rfl) (fun _ => rfl) (fun _ => trivial) (by decide) (by decide) (by decide) (Nat.le_of_ble_eq_true rfl) (Nat.le_of_ble_eq_true rfl) ?_
  show am_W _ _ _ _ _ _ _ _ _ _ _ _ _ _ _ 58 [some (.ref 25), none] [.ref 32, .ref 25] (am_up T12 32 (.inl (0, 41, .inl (fun _ => 0))), 33) 7 16417
  generalize eT13 : am_up T12 32 (.inl (0, 41, .inl (fun _ => 0))) = T13
  have k67 : T13 25 = (.inr (7, [.int 0, .int 0, .ref 26, .ref 27, .ref 28, .ref 29, .ref 30, .int 0, .ref 31, .null, .null, .null, .int 0, .int 0, .int 0, .null, .null, .null, .null, .int 0, .int 0, .int 0, .null, .int 0, .null, .null, .null, .null, .null])) := by rw [← eT13]; exact (am_up_n (by decide)).trans k59
  have k68 : ∀ z : Nat, z < 25 → T13 z = h z := fun z q9 => by rw [← eT13]; exact (am_up_n (Nat.ne_of_lt (Nat.lt_of_lt_of_le q9 (by decide)))).trans (k60 z q9)
  have k69 : T13 26 = (.inl (0, 80, .inl (fun _ => 0))) := by rw [← eT13]; exact (am_up_n (by decide)).trans k61
  have k70 : T13 27 = (.inl (0, 50, .inl (fun _ => 0))) := by rw [← eT13]; exact (am_up_n (by decide)).trans k62
  have k71 : T13 28 = (.inl (0, 200, .inl (fun _ => 0))) := by rw [← eT13]; exact (am_up_n (by decide)).trans k63
  have k72 : T13 29 = (.inl (0, 16000, .inl (fun _ => 0))) := by rw [← eT13]; exact (am_up_n (by decide)).trans k64
  have k73 : T13 30 = (.inl (0, 5, .inl (fun _ => 0))) := by rw [← eT13]; exact (am_up_n (by decide)).trans k65
  have k74 : T13 31 = (.inl (0, 41, .inl (fun _ => 0))) := by rw [← eT13]; exact (am_up_n (by decide)).trans k66
  have k75 : T13 32 = (.inl (0, 41, .inl (fun _ => 0))) := by rw [← eT13]; exact am_up_s
  refine am_putF (I := iX7_init) (pc := 58) (fs' := [.int 0, .int 0, .ref 26, .ref 27, .ref 28, .ref 29, .ref 30, .int 0, .ref 31, .ref 32, .null, .null, .int 0, .int 0, .int 0, .null, .null, .null, .null, .int 0, .int 0, .int 0, .null, .int 0, .null, .null, .null, .null, .null]) lf_X7_28 rfl dX7_init_58 k67 (fun _ => ⟨rfl, rfl⟩) (Nat.le_of_ble_eq_true rfl) rfl ?_
  show am_W _ _ _ _ _ _ _ _ _ _ _ _ _ _ _ 61 [some (.ref 25), none] [] (am_up T13 25 (.inr (7, [.int 0, .int 0, .ref 26, .ref 27, .ref 28, .ref 29, .ref 30, .int 0, .ref 31, .ref 32, .null, .null, .int 0, .int 0, .int 0, .null, .null, .null, .null, .int 0, .int 0, .int 0, .null, .int 0, .null, .null, .null, .null, .null])), 33) 7 16417
  generalize eT14 : am_up T13 25 (.inr (7, [.int 0, .int 0, .ref 26, .ref 27, .ref 28, .ref 29, .ref 30, .int 0, .ref 31, .ref 32, .null, .null, .int 0, .int 0, .int 0, .null, .null, .null, .null, .int 0, .int 0, .int 0, .null, .int 0, .null, .null, .null, .null, .null])) = T14
  have k76 : T14 25 = (.inr (7, [.int 0, .int 0, .ref 26, .ref 27, .ref 28, .ref 29, .ref 30, .int 0, .ref 31, .ref 32, .null, .null, .int 0, .int 0, .int 0, .null, .null, .null, .null, .int 0, .int 0, .int 0, .null, .int 0, .null, .null, .null, .null, .null])) := by rw [← eT14]; exact am_up_s
  have k77 : ∀ z : Nat, z < 25 → T14 z = h z := fun z q9 => by rw [← eT14]; exact (am_up_n (Nat.ne_of_lt (Nat.lt_of_lt_of_le q9 (by decide)))).trans (k68 z q9)
  have k78 : T14 26 = (.inl (0, 80, .inl (fun _ => 0))) := by rw [← eT14]; exact (am_up_n (by decide)).trans k69
  have k79 : T14 27 = (.inl (0, 50, .inl (fun _ => 0))) := by rw [← eT14]; exact (am_up_n (by decide)).trans k70
  have k80 : T14 28 = (.inl (0, 200, .inl (fun _ => 0))) := by rw [← eT14]; exact (am_up_n (by decide)).trans k71
  have k81 : T14 29 = (.inl (0, 16000, .inl (fun _ => 0))) := by rw [← eT14]; exact (am_up_n (by decide)).trans k72
  have k82 : T14 30 = (.inl (0, 5, .inl (fun _ => 0))) := by rw [← eT14]; exact (am_up_n (by decide)).trans k73
  have k83 : T14 31 = (.inl (0, 41, .inl (fun _ => 0))) := by rw [← eT14]; exact (am_up_n (by decide)).trans k74
  have k84 : T14 32 = (.inl (0, 41, .inl (fun _ => 0))) := by rw [← eT14]; exact (am_up_n (by decide)).trans k75
  refine am_aload_n (I := iX7_init) (pc := 61) dX7_init_61 rfl rfl ?_
  refine am_bipush (I := iX7_init) (pc := 62) (x := 42) dX7_init_62 (by decide) ?_
  refine am_newarray (I := iX7_init) (pc := 64) (k := 0) (n := 42) (ty := .int) (q0 := .inl (fun _ => 0)) dX7_init_64 rfl rfl la_int (fun _ => rfl) (fun _ => rfl) (fun _ => trivial) (by decide) (by decide) (by decide) (Nat.le_of_ble_eq_true rfl) (Nat.le_of_ble_eq_true rfl) ?_
  show am_W _ _ _ _ _ _ _ _ _ _ _ _ _ _ _ 66 [some (.ref 25), none] [.ref 33, .ref 25] (am_up T14 33 (.inl (0, 42, .inl (fun _ => 0))), 34) 8 16459
  generalize eT15 : am_up T14 33 (.inl (0, 42, .inl (fun _ => 0))) = T15
  have k85 : T15 25 = (.inr (7, [.int 0, .int 0, .ref 26, .ref 27, .ref 28, .ref 29, .ref 30, .int 0, .ref 31, .ref 32, .null, .null, .int 0, .int 0, .int 0, .null, .null, .null, .null, .int 0, .int 0, .int 0, .null, .int 0, .null, .null, .null, .null, .null])) := by rw [← eT15]; exact (am_up_n (by decide)).trans k76
  have k86 : ∀ z : Nat, z < 25 → T15 z = h z := fun z q9 => by rw [← eT15]; exact (am_up_n (Nat.ne_of_lt (Nat.lt_of_lt_of_le q9 (by decide)))).trans (k77 z q9)
  have k87 : T15 26 = (.inl (0, 80, .inl (fun _ => 0))) := by rw [← eT15]; exact (am_up_n (by decide)).trans k78
  have k88 : T15 27 = (.inl (0, 50, .inl (fun _ => 0))) := by rw [← eT15]; exact (am_up_n (by decide)).trans k79
  have k89 : T15 28 = (.inl (0, 200, .inl (fun _ => 0))) := by rw [← eT15]; exact (am_up_n (by decide)).trans k80
  have k90 : T15 29 = (.inl (0, 16000, .inl (fun _ => 0))) := by rw [← eT15]; exact (am_up_n (by decide)).trans k81
  have k91 : T15 30 = (.inl (0, 5, .inl (fun _ => 0))) := by rw [← eT15]; exact (am_up_n (by decide)).trans k82
  have k92 : T15 31 = (.inl (0, 41, .inl (fun _ => 0))) := by rw [← eT15]; exact (am_up_n (by decide)).trans k83
  have k93 : T15 32 = (.inl (0, 41, .inl (fun _ => 0))) := by rw [← eT15]; exact (am_up_n (by decide)).trans k84
  have k94 : T15 33 = (.inl (0, 42, .inl (fun _ => 0))) := by rw [← eT15]; exact am_up_s
  refine am_putF (I := iX7_init) (pc := 66) (fs' := [.int 0, .int 0, .ref 26, .ref 27, .ref 28, .ref 29, .ref 30, .int 0, .ref 31, .ref 32, .ref 33, .null, .int 0, .int 0, .int 0, .null, .null, .null, .null, .int 0, .int 0, .int 0, .null, .int 0, .null, .null, .null, .null, .null]) lf_X7_31 rfl dX7_init_66 k85 (fun _ => ⟨rfl, rfl⟩) (Nat.le_of_ble_eq_true rfl) rfl ?_
  show am_W _ _ _ _ _ _ _ _ _ _ _ _ _ _ _ 69 [some (.ref 25), none] [] (am_up T15 25 (.inr (7, [.int 0, .int 0, .ref 26, .ref 27, .ref 28, .ref 29, .ref 30, .int 0, .ref 31, .ref 32, .ref 33, .null, .int 0, .int 0, .int 0, .null, .null, .null, .null, .int 0, .int 0, .int 0, .null, .int 0, .null, .null, .null, .null, .null])), 34) 8 16459
  generalize eT16 : am_up T15 25 (.inr (7, [.int 0, .int 0, .ref 26, .ref 27, .ref 28, .ref 29, .ref 30, .int 0, .ref 31, .ref 32, .ref 33, .null, .int 0, .int 0, .int 0, .null, .null, .null, .null, .int 0, .int 0, .int 0, .null, .int 0, .null, .null, .null, .null, .null])) = T16
  have k95 : T16 25 = (.inr (7, [.int 0, .int 0, .ref 26, .ref 27, .ref 28, .ref 29, .ref 30, .int 0, .ref 31, .ref 32, .ref 33, .null, .int 0, .int 0, .int 0, .null, .null, .null, .null, .int 0, .int 0, .int 0, .null, .int 0, .null, .null, .null, .null, .null])) := by rw [← eT16]; exact am_up_s
  have k96 : ∀ z : Nat, z < 25 → T16 z = h z := fun z q9 => by rw [← eT16]; exact (am_up_n (Nat.ne_of_lt (Nat.lt_of_lt_of_le q9 (by decide)))).trans (k86 z q9)
  have k97 : T16 26 = (.inl (0, 80, .inl (fun _ => 0))) := by rw [← eT16]; exact (am_up_n (by decide)).trans k87
  have k98 : T16 27 = (.inl (0, 50, .inl (fun _ => 0))) := by rw [← eT16]; exact (am_up_n (by decide)).trans k88
  have k99 : T16 28 = (.inl (0, 200, .inl (fun _ => 0))) := by rw [← eT16]; exact (am_up_n (by decide)).trans k89
  have k100 : T16 29 = (.inl (0, 16000, .inl (fun _ => 0))) := by rw [← eT16]; exact (am_up_n (by decide)).trans k90
  have k101 : T16 30 = (.inl (0, 5, .inl (fun _ => 0))) := by rw [← eT16]; exact (am_up_n (by decide)).trans k91
  have k102 : T16 31 = (.inl (0, 41, .inl (fun _ => 0))) := by rw [← eT16]; exact (am_up_n (by decide)).trans k92
  have k103 : T16 32 = (.inl (0, 41, .inl (fun _ => 0))) := by rw [← eT16]; exact (am_up_n (by decide)).trans k93
  have k104 : T16 33 = (.inl (0, 42, .inl (fun _ => 0))) := by rw [← eT16]; exact (am_up_n (by decide)).trans k94
  refine am_aload_n (I := iX7_init) (pc := 69) dX7_init_69 rfl rfl ?_
  refine am_bipush (I := iX7_init) (pc := 70) (x := 42) dX7_init_70 (by decide) ?_
  refine am_newarray (I := iX7_init) (pc := 72) (k := 0) (n := 42) (ty := .int) (q0 := .inl (fun _ => 0)) dX7_init_72 rfl rfl la_int (fun _ => rfl) (fun _ => rfl) (fun _ => trivial) (by decide) (by decide) (by decide) (Nat.le_of_ble_eq_true rfl) (Nat.le_of_ble_eq_true rfl) ?_
  show am_W _ _ _ _ _ _ _ _ _ _ _ _ _ _ _ 74 [some (.ref 25), none] [.ref 34, .ref 25] (am_up T16 34 (.inl (0, 42, .inl (fun _ => 0))), 35) 9 16501
  generalize eT17 : am_up T16 34 (.inl (0, 42, .inl (fun _ => 0))) = T17
  have k105 : T17 25 = (.inr (7, [.int 0, .int 0, .ref 26, .ref 27, .ref 28, .ref 29, .ref 30, .int 0, .ref 31, .ref 32, .ref 33, .null, .int 0, .int 0, .int 0, .null, .null, .null, .null, .int 0, .int 0, .int 0, .null, .int 0, .null, .null, .null, .null, .null])) := by rw [← eT17]; exact (am_up_n (by decide)).trans k95
  have k106 : ∀ z : Nat, z < 25 → T17 z = h z := fun z q9 => by rw [← eT17]; exact (am_up_n (Nat.ne_of_lt (Nat.lt_of_lt_of_le q9 (by decide)))).trans (k96 z q9)
  have k107 : T17 26 = (.inl (0, 80, .inl (fun _ => 0))) := by rw [← eT17]; exact (am_up_n (by decide)).trans k97
  have k108 : T17 27 = (.inl (0, 50, .inl (fun _ => 0))) := by rw [← eT17]; exact (am_up_n (by decide)).trans k98
  have k109 : T17 28 = (.inl (0, 200, .inl (fun _ => 0))) := by rw [← eT17]; exact (am_up_n (by decide)).trans k99
  have k110 : T17 29 = (.inl (0, 16000, .inl (fun _ => 0))) := by rw [← eT17]; exact (am_up_n (by decide)).trans k100
  have k111 : T17 30 = (.inl (0, 5, .inl (fun _ => 0))) := by rw [← eT17]; exact (am_up_n (by decide)).trans k101
  have k112 : T17 31 = (.inl (0, 41, .inl (fun _ => 0))) := by rw [← eT17]; exact (am_up_n (by decide)).trans k102
  have k113 : T17 32 = (.inl (0, 41, .inl (fun _ => 0))) := by rw [← eT17]; exact (am_up_n (by decide)).trans k103
  have k114 : T17 33 = (.inl (0, 42, .inl (fun _ => 0))) := by rw [← eT17]; exact (am_up_n (by decide)).trans k104
  have k115 : T17 34 = (.inl (0, 42, .inl (fun _ => 0))) := by rw [← eT17]; exact am_up_s
  refine am_putF (I := iX7_init) (pc := 74) (fs' := [.int 0, .int 0, .ref 26, .ref 27, .ref 28, .ref 29, .ref 30, .int 0, .ref 31, .ref 32, .ref 33, .ref 34, .int 0, .int 0, .int 0, .null, .null, .null, .null, .int 0, .int 0, .int 0, .null, .int 0, .null, .null, .null, .null, .null]) lf_X7_34 rfl dX7_init_74 k105 (fun _ => ⟨rfl, rfl⟩) (Nat.le_of_ble_eq_true rfl) rfl ?_
  show am_W _ _ _ _ _ _ _ _ _ _ _ _ _ _ _ 77 [some (.ref 25), none] [] (am_up T17 25 (.inr (7, [.int 0, .int 0, .ref 26, .ref 27, .ref 28, .ref 29, .ref 30, .int 0, .ref 31, .ref 32, .ref 33, .ref 34, .int 0, .int 0, .int 0, .null, .null, .null, .null, .int 0, .int 0, .int 0, .null, .int 0, .null, .null, .null, .null, .null])), 35) 9 16501
  generalize eT18 : am_up T17 25 (.inr (7, [.int 0, .int 0, .ref 26, .ref 27, .ref 28, .ref 29, .ref 30, .int 0, .ref 31, .ref 32, .ref 33, .ref 34, .int 0, .int 0, .int 0, .null, .null, .null, .null, .int 0, .int 0, .int 0, .null, .int 0, .null, .null, .null, .null, .null])) = T18
  have k116 : T18 25 = (.inr (7, [.int 0, .int 0, .ref 26, .ref 27, .ref 28, .ref 29, .ref 30, .int 0, .ref 31, .ref 32, .ref 33, .ref 34, .int 0, .int 0, .int 0, .null, .null, .null, .null, .int 0, .int 0, .int 0, .null, .int 0, .null, .null, .null, .null, .null])) := by rw [← eT18]; exact am_up_s
  have k117 : ∀ z : Nat, z < 25 → T18 z = h z := fun z q9 => by rw [← eT18]; exact (am_up_n (Nat.ne_of_lt (Nat.lt_of_lt_of_le q9 (by decide)))).trans (k106 z q9)
  have k118 : T18 26 = (.inl (0, 80, .inl (fun _ => 0))) := by rw [← eT18]; exact (am_up_n (by decide)).trans k107
  have k119 : T18 27 = (.inl (0, 50, .inl (fun _ => 0))) := by rw [← eT18]; exact (am_up_n (by decide)).trans k108
  have k120 : T18 28 = (.inl (0, 200, .inl (fun _ => 0))) := by rw [← eT18]; exact (am_up_n (by decide)).trans k109
  have k121 : T18 29 = (.inl (0, 16000, .inl (fun _ => 0))) := by rw [← eT18]; exact (am_up_n (by decide)).trans k110
  have k122 : T18 30 = (.inl (0, 5, .inl (fun _ => 0))) := by rw [← eT18]; exact (am_up_n (by decide)).trans k111
  have k123 : T18 31 = (.inl (0, 41, .inl (fun _ => 0))) := by rw [← eT18]; exact (am_up_n (by decide)).trans k112
  have k124 : T18 32 = (.inl (0, 41, .inl (fun _ => 0))) := by rw [← eT18]; exact (am_up_n (by decide)).trans k113
  have k125 : T18 33 = (.inl (0, 42, .inl (fun _ => 0))) := by rw [← eT18]; exact (am_up_n (by decide)).trans k114
  have k126 : T18 34 = (.inl (0, 42, .inl (fun _ => 0))) := by rw [← eT18]; exact (am_up_n (by decide)).trans k115
  refine am_aload_n (I := iX7_init) (pc := 77) dX7_init_77 rfl rfl ?_
  refine am_bipush (I := iX7_init) (pc := 78) (x := 41) dX7_init_78 (by decide) ?_
  refine am_newarray (I := iX7_init) (pc := 80) (k := 0) (n := 41) (ty := .int) (q0 := .inl (fun _ => 0)) dX7_init_80 rfl rfl la_int (fun _ => rfl) (fun _ => rfl) (fun _ => trivial) (by decide) (by decide) (by decide) (Nat.le_of_ble_eq_true rfl) (Nat.le_of_ble_eq_true rfl) ?_
  show am_W _ _ _ _ _ _ _ _ _ _ _ _ _ _ _ 82 [some (.ref 25), none] [.ref 35, .ref 25] (am_up T18 35 (.inl (0, 41, .inl (fun _ => 0))), 36) 10 16542
  generalize eT19 : am_up T18 35 (.inl (0, 41, .inl (fun _ => 0))) = T19
  have k127 : T19 25 = (.inr (7, [.int 0, .int 0, .ref 26, .ref 27, .ref 28, .ref 29, .ref 30, .int 0, .ref 31, .ref 32, .ref 33, .ref 34, .int 0, .int 0, .int 0, .null, .null, .null, .null, .int 0, .int 0, .int 0, .null, .int 0, .null, .null, .null, .null, .null])) := by rw [← eT19]; exact (am_up_n (by decide)).trans k116
  have k128 : ∀ z : Nat, z < 25 → T19 z = h z := fun z q9 => by rw [← eT19]; exact (am_up_n (Nat.ne_of_lt (Nat.lt_of_lt_of_le q9 (by decide)))).trans (k117 z q9)
  have k129 : T19 26 = (.inl (0, 80, .inl (fun _ => 0))) := by rw [← eT19]; exact (am_up_n (by decide)).trans k118
  have k130 : T19 27 = (.inl (0, 50, .inl (fun _ => 0))) := by rw [← eT19]; exact (am_up_n (by decide)).trans k119
  have k131 : T19 28 = (.inl (0, 200, .inl (fun _ => 0))) := by rw [← eT19]; exact (am_up_n (by decide)).trans k120
  have k132 : T19 29 = (.inl (0, 16000, .inl (fun _ => 0))) := by rw [← eT19]; exact (am_up_n (by decide)).trans k121
  have k133 : T19 30 = (.inl (0, 5, .inl (fun _ => 0))) := by rw [← eT19]; exact (am_up_n (by decide)).trans k122
  have k134 : T19 31 = (.inl (0, 41, .inl (fun _ => 0))) := by rw [← eT19]; exact (am_up_n (by decide)).trans k123
  have k135 : T19 32 = (.inl (0, 41, .inl (fun _ => 0))) := by rw [← eT19]; exact (am_up_n (by decide)).trans k124
  have k136 : T19 33 = (.inl (0, 42, .inl (fun _ => 0))) := by rw [← eT19]; exact (am_up_n (by decide)).trans k125
  have k137 : T19 34 = (.inl (0, 42, .inl (fun _ => 0))) := by rw [← eT19]; exact (am_up_n (by decide)).trans k126
  have k138 : T19 35 = (.inl (0, 41, .inl (fun _ => 0))) := by rw [← eT19]; exact am_up_s
  refine am_putF (I := iX7_init) (pc := 82) (fs' := [.int 0, .int 0, .ref 26, .ref 27, .ref 28, .ref 29, .ref 30, .int 0, .ref 31, .ref 32, .ref 33, .ref 34, .int 0, .int 0, .int 0, .ref 35, .null, .null, .null, .int 0, .int 0, .int 0, .null, .int 0, .null, .null, .null, .null, .null]) lf_X7_37 rfl dX7_init_82 k127 (fun _ => ⟨rfl, rfl⟩) (Nat.le_of_ble_eq_true rfl) rfl ?_
  show am_W _ _ _ _ _ _ _ _ _ _ _ _ _ _ _ 85 [some (.ref 25), none] [] (am_up T19 25 (.inr (7, [.int 0, .int 0, .ref 26, .ref 27, .ref 28, .ref 29, .ref 30, .int 0, .ref 31, .ref 32, .ref 33, .ref 34, .int 0, .int 0, .int 0, .ref 35, .null, .null, .null, .int 0, .int 0, .int 0, .null, .int 0, .null, .null, .null, .null, .null])), 36) 10 16542
  generalize eT20 : am_up T19 25 (.inr (7, [.int 0, .int 0, .ref 26, .ref 27, .ref 28, .ref 29, .ref 30, .int 0, .ref 31, .ref 32, .ref 33, .ref 34, .int 0, .int 0, .int 0, .ref 35, .null, .null, .null, .int 0, .int 0, .int 0, .null, .int 0, .null, .null, .null, .null, .null])) = T20
  have k139 : T20 25 = (.inr (7, [.int 0, .int 0, .ref 26, .ref 27, .ref 28, .ref 29, .ref 30, .int 0, .ref 31, .ref 32, .ref 33, .ref 34, .int 0, .int 0, .int 0, .ref 35, .null, .null, .null, .int 0, .int 0, .int 0, .null, .int 0, .null, .null, .null, .null, .null])) := by rw [← eT20]; exact am_up_s
  have k140 : ∀ z : Nat, z < 25 → T20 z = h z := fun z q9 => by rw [← eT20]; exact (am_up_n (Nat.ne_of_lt (Nat.lt_of_lt_of_le q9 (by decide)))).trans (k128 z q9)
  have k141 : T20 26 = (.inl (0, 80, .inl (fun _ => 0))) := by rw [← eT20]; exact (am_up_n (by decide)).trans k129
  have k142 : T20 27 = (.inl (0, 50, .inl (fun _ => 0))) := by rw [← eT20]; exact (am_up_n (by decide)).trans k130
  have k143 : T20 28 = (.inl (0, 200, .inl (fun _ => 0))) := by rw [← eT20]; exact (am_up_n (by decide)).trans k131
  have k144 : T20 29 = (.inl (0, 16000, .inl (fun _ => 0))) := by rw [← eT20]; exact (am_up_n (by decide)).trans k132
  have k145 : T20 30 = (.inl (0, 5, .inl (fun _ => 0))) := by rw [← eT20]; exact (am_up_n (by decide)).trans k133
  have k146 : T20 31 = (.inl (0, 41, .inl (fun _ => 0))) := by rw [← eT20]; exact (am_up_n (by decide)).trans k134
  have k147 : T20 32 = (.inl (0, 41, .inl (fun _ => 0))) := by rw [← eT20]; exact (am_up_n (by decide)).trans k135
  have k148 : T20 33 = (.inl (0, 42, .inl (fun _ => 0))) := by rw [← eT20]; exact (am_up_n (by decide)).trans k136
  have k149 : T20 34 = (.inl (0, 42, .inl (fun _ => 0))) := by rw [← eT20]; exact (am_up_n (by decide)).trans k137
  have k150 : T20 35 = (.inl (0, 41, .inl (fun _ => 0))) := by rw [← eT20]; exact (am_up_n (by decide)).trans k138
  refine am_aload_n (I := iX7_init) (pc := 85) dX7_init_85 rfl rfl ?_
  refine am_bipush (I := iX7_init) (pc := 86) (x := 41) dX7_init_86 (by decide) ?_
  refine am_newarray (I := iX7_init) (pc := 88) (k := 0) (n := 41) (ty := .int) (q0 := .inl (fun _ => 0)) dX7_init_88 rfl rfl la_int (fun _ => rfl) (fun _ => rfl) (fun _ => trivial) (by decide) (by decide) (by decide) (Nat.le_of_ble_eq_true rfl) (Nat.le_of_ble_eq_true rfl) ?_
  show am_W _ _ _ _ _ _ _ _ _ _ _ _ _ _ _ 90 [some (.ref 25), none] [.ref 36, .ref 25] (am_up T20 36 (.inl (0, 41, .inl (fun _ => 0))), 37) 11 16583
  generalize eT21 : am_up T20 36 (.inl (0, 41, .inl (fun _ => 0))) = T21
  have k151 : T21 25 = (.inr (7, [.int 0, .int 0, .ref 26, .ref 27, .ref 28, .ref 29, .ref 30, .int 0, .ref 31, .ref 32, .ref 33, .ref 34, .int 0, .int 0, .int 0, .ref 35, .null, .null, .null, .int 0, .int 0, .int 0, .null, .int 0, .null, .null, .null, .null, .null])) := by rw [← eT21]; exact (am_up_n (by decide)).trans k139
  have k152 : ∀ z : Nat, z < 25 → T21 z = h z := fun z q9 => by rw [← eT21]; exact (am_up_n (Nat.ne_of_lt (Nat.lt_of_lt_of_le q9 (by decide)))).trans (k140 z q9)
  have k153 : T21 26 = (.inl (0, 80, .inl (fun _ => 0))) := by rw [← eT21]; exact (am_up_n (by decide)).trans k141
  have k154 : T21 27 = (.inl (0, 50, .inl (fun _ => 0))) := by rw [← eT21]; exact (am_up_n (by decide)).trans k142
  have k155 : T21 28 = (.inl (0, 200, .inl (fun _ => 0))) := by rw [← eT21]; exact (am_up_n (by decide)).trans k143
  have k156 : T21 29 = (.inl (0, 16000, .inl (fun _ => 0))) := by rw [← eT21]; exact (am_up_n (by decide)).trans k144
  have k157 : T21 30 = (.inl (0, 5, .inl (fun _ => 0))) := by rw [← eT21]; exact (am_up_n (by decide)).trans k145
  have k158 : T21 31 = (.inl (0, 41, .inl (fun _ => 0))) := by rw [← eT21]; exact (am_up_n (by decide)).trans k146
  have k159 : T21 32 = (.inl (0, 41, .inl (fun _ => 0))) := by rw [← eT21]; exact (am_up_n (by decide)).trans k147
  have k160 : T21 33 = (.inl (0, 42, .inl (fun _ => 0))) := by rw [← eT21]; exact (am_up_n (by decide)).trans k148
  have k161 : T21 34 = (.inl (0, 42, .inl (fun _ => 0))) := by rw [← eT21]; exact (am_up_n (by decide)).trans k149
  have k162 : T21 35 = (.inl (0, 41, .inl (fun _ => 0))) := by rw [← eT21]; exact (am_up_n (by decide)).trans k150
  have k163 : T21 36 = (.inl (0, 41, .inl (fun _ => 0))) := by rw [← eT21]; exact am_up_s
  refine am_putF (I := iX7_init) (pc := 90) (fs' := [.int 0, .int 0, .ref 26, .ref 27, .ref 28, .ref 29, .ref 30, .int 0, .ref 31, .ref 32, .ref 33, .ref 34, .int 0, .int 0, .int 0, .ref 35, .ref 36, .null, .null, .int 0, .int 0, .int 0, .null, .int 0, .null, .null, .null, .null, .null]) lf_X7_40 rfl dX7_init_90 k151 (fun _ => ⟨rfl, rfl⟩) (Nat.le_of_ble_eq_true rfl) rfl ?_
  show am_W _ _ _ _ _ _ _ _ _ _ _ _ _ _ _ 93 [some (.ref 25), none] [] (am_up T21 25 (.inr (7, [.int 0, .int 0, .ref 26, .ref 27, .ref 28, .ref 29, .ref 30, .int 0, .ref 31, .ref 32, .ref 33, .ref 34, .int 0, .int 0, .int 0, .ref 35, .ref 36, .null, .null, .int 0, .int 0, .int 0, .null, .int 0, .null, .null, .null, .null, .null])), 37) 11 16583
  generalize eT22 : am_up T21 25 (.inr (7, [.int 0, .int 0, .ref 26, .ref 27, .ref 28, .ref 29, .ref 30, .int 0, .ref 31, .ref 32, .ref 33, .ref 34, .int 0, .int 0, .int 0, .ref 35, .ref 36, .null, .null, .int 0, .int 0, .int 0, .null, .int 0, .null, .null, .null, .null, .null])) = T22
  have k164 : T22 25 = (.inr (7, [.int 0, .int 0, .ref 26, .ref 27, .ref 28, .ref 29, .ref 30, .int 0, .ref 31, .ref 32, .ref 33, .ref 34, .int 0, .int 0, .int 0, .ref 35, .ref 36, .null, .null, .int 0, .int 0, .int 0, .null, .int 0, .null, .null, .null, .null, .null])) := by rw [← eT22]; exact am_up_s
  have k165 : ∀ z : Nat, z < 25 → T22 z = h z := fun z q9 => by rw [← eT22]; exact (am_up_n (Nat.ne_of_lt (Nat.lt_of_lt_of_le q9 (by decide)))).trans (k152 z q9)
  have k166 : T22 26 = (.inl (0, 80, .inl (fun _ => 0))) := by rw [← eT22]; exact (am_up_n (by decide)).trans k153
  have k167 : T22 27 = (.inl (0, 50, .inl (fun _ => 0))) := by rw [← eT22]; exact (am_up_n (by decide)).trans k154
  have k168 : T22 28 = (.inl (0, 200, .inl (fun _ => 0))) := by rw [← eT22]; exact (am_up_n (by decide)).trans k155
  have k169 : T22 29 = (.inl (0, 16000, .inl (fun _ => 0))) := by rw [← eT22]; exact (am_up_n (by decide)).trans k156
  have k170 : T22 30 = (.inl (0, 5, .inl (fun _ => 0))) := by rw [← eT22]; exact (am_up_n (by decide)).trans k157
  have k171 : T22 31 = (.inl (0, 41, .inl (fun _ => 0))) := by rw [← eT22]; exact (am_up_n (by decide)).trans k158
  have k172 : T22 32 = (.inl (0, 41, .inl (fun _ => 0))) := by rw [← eT22]; exact (am_up_n (by decide)).trans k159
  have k173 : T22 33 = (.inl (0, 42, .inl (fun _ => 0))) := by rw [← eT22]; exact (am_up_n (by decide)).trans k160
  have k174 : T22 34 = (.inl (0, 42, .inl (fun _ => 0))) := by rw [← eT22]; exact (am_up_n (by decide)).trans k161
  have k175 : T22 35 = (.inl (0, 41, .inl (fun _ => 0))) := by rw [← eT22]; exact (am_up_n (by decide)).trans k162
  have k176 : T22 36 = (.inl (0, 41, .inl (fun _ => 0))) := by rw [← eT22]; exact (am_up_n (by decide)).trans k163
  refine am_aload_n (I := iX7_init) (pc := 93) dX7_init_93 rfl rfl ?_
  refine am_bipush (I := iX7_init) (pc := 94) (x := 36) dX7_init_94 (by decide) ?_
  refine am_newarray (I := iX7_init) (pc := 96) (k := 0) (n := 36) (ty := .int) (q0 := .inl (fun _ => 0)) dX7_init_96 rfl rfl la_int (fun _ => rfl) (fun _ => rfl) (fun _ => trivial) (by decide) (by decide) (by decide) (Nat.le_of_ble_eq_true rfl) (Nat.le_of_ble_eq_true rfl) ?_
  show am_W _ _ _ _ _ _ _ _ _ _ _ _ _ _ _ 98 [some (.ref 25), none] [.ref 37, .ref 25] (am_up T22 37 (.inl (0, 36, .inl (fun _ => 0))), 38) 12 16619
  generalize eT23 : am_up T22 37 (.inl (0, 36, .inl (fun _ => 0))) = T23
  have k177 : T23 25 = (.inr (7, [.int 0, .int 0, .ref 26, .ref 27, .ref 28, .ref 29, .ref 30, .int 0, .ref 31, .ref 32, .ref 33, .ref 34, .int 0, .int 0, .int 0, .ref 35, .ref 36, .null, .null, .int 0, .int 0, .int 0, .null, .int 0, .null, .null, .null, .null, .null])) := by rw [← eT23]; exact (am_up_n (by decide)).trans k164
  have k178 : ∀ z : Nat, z < 25 → T23 z = h z := fun z q9 => by rw [← eT23]; exact (am_up_n (Nat.ne_of_lt (Nat.lt_of_lt_of_le q9 (by decide)))).trans (k165 z q9)
  have k179 : T23 26 = (.inl (0, 80, .inl (fun _ => 0))) := by rw [← eT23]; exact (am_up_n (by decide)).trans k166
  have k180 : T23 27 = (.inl (0, 50, .inl (fun _ => 0))) := by rw [← eT23]; exact (am_up_n (by decide)).trans k167
  have k181 : T23 28 = (.inl (0, 200, .inl (fun _ => 0))) := by rw [← eT23]; exact (am_up_n (by decide)).trans k168
  have k182 : T23 29 = (.inl (0, 16000, .inl (fun _ => 0))) := by rw [← eT23]; exact (am_up_n (by decide)).trans k169
  have k183 : T23 30 = (.inl (0, 5, .inl (fun _ => 0))) := by rw [← eT23]; exact (am_up_n (by decide)).trans k170
  have k184 : T23 31 = (.inl (0, 41, .inl (fun _ => 0))) := by rw [← eT23]; exact (am_up_n (by decide)).trans k171
  have k185 : T23 32 = (.inl (0, 41, .inl (fun _ => 0))) := by rw [← eT23]; exact (am_up_n (by decide)).trans k172
  have k186 : T23 33 = (.inl (0, 42, .inl (fun _ => 0))) := by rw [← eT23]; exact (am_up_n (by decide)).trans k173
  have k187 : T23 34 = (.inl (0, 42, .inl (fun _ => 0))) := by rw [← eT23]; exact (am_up_n (by decide)).trans k174
  have k188 : T23 35 = (.inl (0, 41, .inl (fun _ => 0))) := by rw [← eT23]; exact (am_up_n (by decide)).trans k175
  have k189 : T23 36 = (.inl (0, 41, .inl (fun _ => 0))) := by rw [← eT23]; exact (am_up_n (by decide)).trans k176
  have k190 : T23 37 = (.inl (0, 36, .inl (fun _ => 0))) := by rw [← eT23]; exact am_up_s
  refine am_putF (I := iX7_init) (pc := 98) (fs' := [.int 0, .int 0, .ref 26, .ref 27, .ref 28, .ref 29, .ref 30, .int 0, .ref 31, .ref 32, .ref 33, .ref 34, .int 0, .int 0, .int 0, .ref 35, .ref 36, .ref 37, .null, .int 0, .int 0, .int 0, .null, .int 0, .null, .null, .null, .null, .null]) lf_X7_43 rfl dX7_init_98 k177 (fun _ => ⟨rfl, rfl⟩) (Nat.le_of_ble_eq_true rfl) rfl ?_
  show am_W _ _ _ _ _ _ _ _ _ _ _ _ _ _ _ 101 [some (.ref 25), none] [] (am_up T23 25 (.inr (7, [.int 0, .int 0, .ref 26, .ref 27, .ref 28, .ref 29, .ref 30, .int 0, .ref 31, .ref 32, .ref 33, .ref 34, .int 0, .int 0, .int 0, .ref 35, .ref 36, .ref 37, .null, .int 0, .int 0, .int 0, .null, .int 0, .null, .null, .null, .null, .null])), 38) 12 16619
  generalize eT24 : am_up T23 25 (.inr (7, [.int 0, .int 0, .ref 26, .ref 27, .ref 28, .ref 29, .ref 30, .int 0, .ref 31, .ref 32, .ref 33, .ref 34, .int 0, .int 0, .int 0, .ref 35, .ref 36, .ref 37, .null, .int 0, .int 0, .int 0, .null, .int 0, .null, .null, .null, .null, .null])) = T24
  have k191 : T24 25 = (.inr (7, [.int 0, .int 0, .ref 26, .ref 27, .ref 28, .ref 29, .ref 30, .int 0, .ref 31, .ref 32, .ref 33, .ref 34, .int 0, .int 0, .int 0, .ref 35, .ref 36, .ref 37, .null, .int 0, .int 0, .int 0, .null, .int 0, .null, .null, .null, .null, .null])) := by rw [← eT24]; exact am_up_s
  have k192 : ∀ z : Nat, z < 25 → T24 z = h z := fun z q9 => by rw [← eT24]; exact (am_up_n (Nat.ne_of_lt (Nat.lt_of_lt_of_le q9 (by decide)))).trans (k178 z q9)
  have k193 : T24 26 = (.inl (0, 80, .inl (fun _ => 0))) := by rw [← eT24]; exact (am_up_n (by decide)).trans k179
  have k194 : T24 27 = (.inl (0, 50, .inl (fun _ => 0))) := by rw [← eT24]; exact (am_up_n (by decide)).trans k180
  have k195 : T24 28 = (.inl (0, 200, .inl (fun _ => 0))) := by rw [← eT24]; exact (am_up_n (by decide)).trans k181
  have k196 : T24 29 = (.inl (0, 16000, .inl (fun _ => 0))) := by rw [← eT24]; exact (am_up_n (by decide)).trans k182
  have k197 : T24 30 = (.inl (0, 5, .inl (fun _ => 0))) := by rw [← eT24]; exact (am_up_n (by decide)).trans k183
  have k198 : T24 31 = (.inl (0, 41, .inl (fun _ => 0))) := by rw [← eT24]; exact (am_up_n (by decide)).trans k184
  have k199 : T24 32 = (.inl (0, 41, .inl (fun _ => 0))) := by rw [← eT24]; exact (am_up_n (by decide)).trans k185
  have k200 : T24 33 = (.inl (0, 42, .inl (fun _ => 0))) := by rw [← eT24]; exact (am_up_n (by decide)).trans k186
  have k201 : T24 34 = (.inl (0, 42, .inl (fun _ => 0))) := by rw [← eT24]; exact (am_up_n (by decide)).trans k187
  have k202 : T24 35 = (.inl (0, 41, .inl (fun _ => 0))) := by rw [← eT24]; exact (am_up_n (by decide)).trans k188
  have k203 : T24 36 = (.inl (0, 41, .inl (fun _ => 0))) := by rw [← eT24]; exact (am_up_n (by decide)).trans k189
  have k204 : T24 37 = (.inl (0, 36, .inl (fun _ => 0))) := by rw [← eT24]; exact (am_up_n (by decide)).trans k190
  refine am_aload_n (I := iX7_init) (pc := 101) dX7_init_101 rfl rfl ?_
  refine am_sipush (I := iX7_init) (pc := 102) (x := 180) dX7_init_102 (by decide) ?_
  refine am_newarray (I := iX7_init) (pc := 105) (k := 0) (n := 180) (ty := .int) (q0 := .inl (fun _ => 0)) dX7_init_105 rfl rfl la_int (fun _ => rfl) (fun _ => rfl) (fun _ => trivial) (by decide) (by decide) (by decide) (Nat.le_of_ble_eq_true rfl) (Nat.le_of_ble_eq_true rfl) ?_
  show am_W _ _ _ _ _ _ _ _ _ _ _ _ _ _ _ 107 [some (.ref 25), none] [.ref 38, .ref 25] (am_up T24 38 (.inl (0, 180, .inl (fun _ => 0))), 39) 13 16799
  generalize eT25 : am_up T24 38 (.inl (0, 180, .inl (fun _ => 0))) = T25
  have k205 : T25 25 = (.inr (7, [.int 0, .int 0, .ref 26, .ref 27, .ref 28, .ref 29, .ref 30, .int 0, .ref 31, .ref 32, .ref 33, .ref 34, .int 0, .int 0, .int 0, .ref 35, .ref 36, .ref 37, .null, .int 0, .int 0, .int 0, .null, .int 0, .null, .null, .null, .null, .null])) := by rw [← eT25]; exact (am_up_n (by decide)).trans k191
  have k206 : ∀ z : Nat, z < 25 → T25 z = h z := fun z q9 => by rw [← eT25]; exact (am_up_n (Nat.ne_of_lt (Nat.lt_of_lt_of_le q9 (by decide)))).trans (k192 z q9)
  have k207 : T25 26 = (.inl (0, 80, .inl (fun _ => 0))) := by rw [← eT25]; exact (am_up_n (by decide)).trans k193
  have k208 : T25 27 = (.inl (0, 50, .inl (fun _ => 0))) := by rw [← eT25]; exact (am_up_n (by decide)).trans k194
  have k209 : T25 28 = (.inl (0, 200, .inl (fun _ => 0))) := by rw [← eT25]; exact (am_up_n (by decide)).trans k195
  have k210 : T25 29 = (.inl (0, 16000, .inl (fun _ => 0))) := by rw [← eT25]; exact (am_up_n (by decide)).trans k196
  have k211 : T25 30 = (.inl (0, 5, .inl (fun _ => 0))) := by rw [← eT25]; exact (am_up_n (by decide)).trans k197
  have k212 : T25 31 = (.inl (0, 41, .inl (fun _ => 0))) := by rw [← eT25]; exact (am_up_n (by decide)).trans k198
  have k213 : T25 32 = (.inl (0, 41, .inl (fun _ => 0))) := by rw [← eT25]; exact (am_up_n (by decide)).trans k199
  have k214 : T25 33 = (.inl (0, 42, .inl (fun _ => 0))) := by rw [← eT25]; exact (am_up_n (by decide)).trans k200
  have k215 : T25 34 = (.inl (0, 42, .inl (fun _ => 0))) := by rw [← eT25]; exact (am_up_n (by decide)).trans k201
  have k216 : T25 35 = (.inl (0, 41, .inl (fun _ => 0))) := by rw [← eT25]; exact (am_up_n (by decide)).trans k202
  have k217 : T25 36 = (.inl (0, 41, .inl (fun _ => 0))) := by rw [← eT25]; exact (am_up_n (by decide)).trans k203
  have k218 : T25 37 = (.inl (0, 36, .inl (fun _ => 0))) := by rw [← eT25]; exact (am_up_n (by decide)).trans k204
  have k219 : T25 38 = (.inl (0, 180, .inl (fun _ => 0))) := by rw [← eT25]; exact am_up_s
  refine am_putF (I := iX7_init) (pc := 107) (fs' := [.int 0, .int 0, .ref 26, .ref 27, .ref 28, .ref 29, .ref 30, .int 0, .ref 31, .ref 32, .ref 33, .ref 34, .int 0, .int 0, .int 0, .ref 35, .ref 36, .ref 37, .ref 38, .int 0, .int 0, .int 0, .null, .int 0, .null, .null, .null, .null, .null]) lf_X7_46 rfl dX7_init_107 k205 (fun _ => ⟨rfl, rfl⟩) (Nat.le_of_ble_eq_true rfl) rfl ?_
  show am_W _ _ _ _ _ _ _ _ _ _ _ _ _ _ _ 110 [some (.ref 25), none] [] (am_up T25 25 (.inr (7, [.int 0, .int 0, .ref 26, .ref 27, .ref 28, .ref 29, .ref 30, .int 0, .ref 31, .ref 32, .ref 33, .ref 34, .int 0, .int 0, .int 0, .ref 35, .ref 36, .ref 37, .ref 38, .int 0, .int 0, .int 0, .null, .int 0, .null, .null, .null, .null, .null])), 39) 13 16799
  generalize eT26 : am_up T25 25 (.inr (7, [.int 0, .int 0, .ref 26, .ref 27, .ref 28, .ref 29, .ref 30, .int 0, .ref 31, .ref 32, .ref 33, .ref 34, .int 0, .int 0, .int 0, .ref 35, .ref 36, .ref 37, .ref 38, .int 0, .int 0, .int 0, .null, .int 0, .null, .null, .null, .null, .null])) = T26
  have k220 : T26 25 = (.inr (7, [.int 0, .int 0, .ref 26, .ref 27, .ref 28, .ref 29, .ref 30, .int 0, .ref 31, .ref 32, .ref 33, .ref 34, .int 0, .int 0, .int 0, .ref 35, .ref 36, .ref 37, .ref 38, .int 0, .int 0, .int 0, .null, .int 0, .null, .null, .null, .null, .null])) := by rw [← eT26]; exact am_up_s
  have k221 : ∀ z : Nat, z < 25 → T26 z = h z := fun z q9 => by rw [← eT26]; exact (am_up_n (Nat.ne_of_lt (Nat.lt_of_lt_of_le q9 (by decide)))).trans (k206 z q9)
  have k222 : T26 26 = (.inl (0, 80, .inl (fun _ => 0))) := by rw [← eT26]; exact (am_up_n (by decide)).trans k207
  have k223 : T26 27 = (.inl (0, 50, .inl (fun _ => 0))) := by rw [← eT26]; exact (am_up_n (by decide)).trans k208
  have k224 : T26 28 = (.inl (0, 200, .inl (fun _ => 0))) := by rw [← eT26]; exact (am_up_n (by decide)).trans k209
  have k225 : T26 29 = (.inl (0, 16000, .inl (fun _ => 0))) := by rw [← eT26]; exact (am_up_n (by decide)).trans k210
  have k226 : T26 30 = (.inl (0, 5, .inl (fun _ => 0))) := by rw [← eT26]; exact (am_up_n (by decide)).trans k211
  have k227 : T26 31 = (.inl (0, 41, .inl (fun _ => 0))) := by rw [← eT26]; exact (am_up_n (by decide)).trans k212
  have k228 : T26 32 = (.inl (0, 41, .inl (fun _ => 0))) := by rw [← eT26]; exact (am_up_n (by decide)).trans k213
  have k229 : T26 33 = (.inl (0, 42, .inl (fun _ => 0))) := by rw [← eT26]; exact (am_up_n (by decide)).trans k214
  have k230 : T26 34 = (.inl (0, 42, .inl (fun _ => 0))) := by rw [← eT26]; exact (am_up_n (by decide)).trans k215
  have k231 : T26 35 = (.inl (0, 41, .inl (fun _ => 0))) := by rw [← eT26]; exact (am_up_n (by decide)).trans k216
  have k232 : T26 36 = (.inl (0, 41, .inl (fun _ => 0))) := by rw [← eT26]; exact (am_up_n (by decide)).trans k217
  have k233 : T26 37 = (.inl (0, 36, .inl (fun _ => 0))) := by rw [← eT26]; exact (am_up_n (by decide)).trans k218
  have k234 : T26 38 = (.inl (0, 180, .inl (fun _ => 0))) := by rw [← eT26]; exact (am_up_n (by decide)).trans k219
  refine am_aload_n (I := iX7_init) (pc := 110) dX7_init_110 rfl rfl ?_
  refine am_bipush (I := iX7_init) (pc := 111) (x := 80) dX7_init_111 (by decide) ?_
  refine am_newarray (I := iX7_init) (pc := 113) (k := 0) (n := 80) (ty := .int) (q0 := .inl (fun _ => 0)) dX7_init_113 rfl rfl la_int (fun _ => rfl) (fun _ => rfl) (fun _ => trivial) (by decide) (by decide) (by decide) (Nat.le_of_ble_eq_true rfl) (Nat.le_of_ble_eq_true rfl) ?_
  show am_W _ _ _ _ _ _ _ _ _ _ _ _ _ _ _ 115 [some (.ref 25), none] [.ref 39, .ref 25] (am_up T26 39 (.inl (0, 80, .inl (fun _ => 0))), 40) 14 16879
  generalize eT27 : am_up T26 39 (.inl (0, 80, .inl (fun _ => 0))) = T27
  have k235 : T27 25 = (.inr (7, [.int 0, .int 0, .ref 26, .ref 27, .ref 28, .ref 29, .ref 30, .int 0, .ref 31, .ref 32, .ref 33, .ref 34, .int 0, .int 0, .int 0, .ref 35, .ref 36, .ref 37, .ref 38, .int 0, .int 0, .int 0, .null, .int 0, .null, .null, .null, .null, .null])) := by rw [← eT27]; exact (am_up_n (by decide)).trans k220
  have k236 : ∀ z : Nat, z < 25 → T27 z = h z := fun z q9 => by rw [← eT27]; exact (am_up_n (Nat.ne_of_lt (Nat.lt_of_lt_of_le q9 (by decide)))).trans (k221 z q9)
  have k237 : T27 26 = (.inl (0, 80, .inl (fun _ => 0))) := by rw [← eT27]; exact (am_up_n (by decide)).trans k222
  have k238 : T27 27 = (.inl (0, 50, .inl (fun _ => 0))) := by rw [← eT27]; exact (am_up_n (by decide)).trans k223
  have k239 : T27 28 = (.inl (0, 200, .inl (fun _ => 0))) := by rw [← eT27]; exact (am_up_n (by decide)).trans k224
  have k240 : T27 29 = (.inl (0, 16000, .inl (fun _ => 0))) := by rw [← eT27]; exact (am_up_n (by decide)).trans k225
  have k241 : T27 30 = (.inl (0, 5, .inl (fun _ => 0))) := by rw [← eT27]; exact (am_up_n (by decide)).trans k226
  have k242 : T27 31 = (.inl (0, 41, .inl (fun _ => 0))) := by rw [← eT27]; exact (am_up_n (by decide)).trans k227
  have k243 : T27 32 = (.inl (0, 41, .inl (fun _ => 0))) := by rw [← eT27]; exact (am_up_n (by decide)).trans k228
  have k244 : T27 33 = (.inl (0, 42, .inl (fun _ => 0))) := by rw [← eT27]; exact (am_up_n (by decide)).trans k229
  have k245 : T27 34 = (.inl (0, 42, .inl (fun _ => 0))) := by rw [← eT27]; exact (am_up_n (by decide)).trans k230
  have k246 : T27 35 = (.inl (0, 41, .inl (fun _ => 0))) := by rw [← eT27]; exact (am_up_n (by decide)).trans k231
  have k247 : T27 36 = (.inl (0, 41, .inl (fun _ => 0))) := by rw [← eT27]; exact (am_up_n (by decide)).trans k232
  have k248 : T27 37 = (.inl (0, 36, .inl (fun _ => 0))) := by rw [← eT27]; exact (am_up_n (by decide)).trans k233
  have k249 : T27 38 = (.inl (0, 180, .inl (fun _ => 0))) := by rw [← eT27]; exact (am_up_n (by decide)).trans k234
  have k250 : T27 39 = (.inl (0, 80, .inl (fun _ => 0))) := by rw [← eT27]; exact am_up_s
  refine am_putF (I := iX7_init) (pc := 115) (fs' := [.int 0, .int 0, .ref 26, .ref 27, .ref 28, .ref 29, .ref 30, .int 0, .ref 31, .ref 32, .ref 33, .ref 34, .int 0, .int 0, .int 0, .ref 35, .ref 36, .ref 37, .ref 38, .int 0, .int 0, .int 0, .ref 39, .int 0, .null, .null, .null, .null, .null]) lf_X7_49 rfl dX7_init_115 k235 (fun _ => ⟨rfl, rfl⟩) (Nat.le_of_ble_eq_true rfl) rfl ?_
  show am_W _ _ _ _ _ _ _ _ _ _ _ _ _ _ _ 118 [some (.ref 25), none] [] (am_up T27 25 (.inr (7, [.int 0, .int 0, .ref 26, .ref 27, .ref 28, .ref 29, .ref 30, .int 0, .ref 31, .ref 32, .ref 33, .ref 34, .int 0, .int 0, .int 0, .ref 35, .ref 36, .ref 37, .ref 38, .int 0, .int 0, .int 0, .ref 39, .int 0, .null, .null, .null, .null, .null])), 40) 14 16879
  generalize eT28 : am_up T27 25 (.inr (7, [.int 0, .int 0, .ref 26, .ref 27, .ref 28, .ref 29, .ref 30, .int 0, .ref 31, .ref 32, .ref 33, .ref 34, .int 0, .int 0, .int 0, .ref 35, .ref 36, .ref 37, .ref 38, .int 0, .int 0, .int 0, .ref 39, .int 0, .null, .null, .null, .null, .null])) = T28
  have k251 : T28 25 = (.inr (7, [.int 0, .int 0, .ref 26, .ref 27, .ref 28, .ref 29, .ref 30, .int 0, .ref 31, .ref 32, .ref 33, .ref 34, .int 0, .int 0, .int 0, .ref 35, .ref 36, .ref 37, .ref 38, .int 0, .int 0, .int 0, .ref 39, .int 0, .null, .null, .null, .null, .null])) := by rw [← eT28]; exact am_up_s
  have k252 : ∀ z : Nat, z < 25 → T28 z = h z := fun z q9 => by rw [← eT28]; exact (am_up_n (Nat.ne_of_lt (Nat.lt_of_lt_of_le q9 (by decide)))).trans (k236 z q9)
  have k253 : T28 26 = (.inl (0, 80, .inl (fun _ => 0))) := by rw [← eT28]; exact (am_up_n (by decide)).trans k237
  have k254 : T28 27 = (.inl (0, 50, .inl (fun _ => 0))) := by rw [← eT28]; exact (am_up_n (by decide)).trans k238
  have k255 : T28 28 = (.inl (0, 200, .inl (fun _ => 0))) := by rw [← eT28]; exact (am_up_n (by decide)).trans k239
  have k256 : T28 29 = (.inl (0, 16000, .inl (fun _ => 0))) := by rw [← eT28]; exact (am_up_n (by decide)).trans k240
  have k257 : T28 30 = (.inl (0, 5, .inl (fun _ => 0))) := by rw [← eT28]; exact (am_up_n (by decide)).trans k241
  have k258 : T28 31 = (.inl (0, 41, .inl (fun _ => 0))) := by rw [← eT28]; exact (am_up_n (by decide)).trans k242
  have k259 : T28 32 = (.inl (0, 41, .inl (fun _ => 0))) := by rw [← eT28]; exact (am_up_n (by decide)).trans k243
  have k260 : T28 33 = (.inl (0, 42, .inl (fun _ => 0))) := by rw [← eT28]; exact (am_up_n (by decide)).trans k244
  have k261 : T28 34 = (.inl (0, 42, .inl (fun _ => 0))) := by rw [← eT28]; exact (am_up_n (by decide)).trans k245
  have k262 : T28 35 = (.inl (0, 41, .inl (fun _ => 0))) := by rw [← eT28]; exact (am_up_n (by decide)).trans k246
  have k263 : T28 36 = (.inl (0, 41, .inl (fun _ => 0))) := by rw [← eT28]; exact (am_up_n (by decide)).trans k247
  have k264 : T28 37 = (.inl (0, 36, .inl (fun _ => 0))) := by rw [← eT28]; exact (am_up_n (by decide)).trans k248
  have k265 : T28 38 = (.inl (0, 180, .inl (fun _ => 0))) := by rw [← eT28]; exact (am_up_n (by decide)).trans k249
  have k266 : T28 39 = (.inl (0, 80, .inl (fun _ => 0))) := by rw [← eT28]; exact (am_up_n (by decide)).trans k250
  refine am_aload_n (I := iX7_init) (pc := 118) dX7_init_118 rfl rfl ?_
  refine am_bipush (I := iX7_init) (pc := 119) (x := 16) dX7_init_119 (by decide) ?_
  refine am_newarray (I := iX7_init) (pc := 121) (k := 0) (n := 16) (ty := .int) (q0 := .inl (fun _ => 0)) dX7_init_121 rfl rfl la_int (fun _ => rfl) (fun _ => rfl) (fun _ => trivial) (by decide) (by decide) (by decide) (Nat.le_of_ble_eq_true rfl) (Nat.le_of_ble_eq_true rfl) ?_
  show am_W _ _ _ _ _ _ _ _ _ _ _ _ _ _ _ 123 [some (.ref 25), none] [.ref 40, .ref 25] (am_up T28 40 (.inl (0, 16, .inl (fun _ => 0))), 41) 15 16895
  generalize eT29 : am_up T28 40 (.inl (0, 16, .inl (fun _ => 0))) = T29
  have k267 : T29 25 = (.inr (7, [.int 0, .int 0, .ref 26, .ref 27, .ref 28, .ref 29, .ref 30, .int 0, .ref 31, .ref 32, .ref 33, .ref 34, .int 0, .int 0, .int 0, .ref 35, .ref 36, .ref 37, .ref 38, .int 0, .int 0, .int 0, .ref 39, .int 0, .null, .null, .null, .null, .null])) := by rw [← eT29]; exact (am_up_n (by decide)).trans k251
  have k268 : ∀ z : Nat, z < 25 → T29 z = h z := fun z q9 => by rw [← eT29]; exact (am_up_n (Nat.ne_of_lt (Nat.lt_of_lt_of_le q9 (by decide)))).trans (k252 z q9)
  have k269 : T29 26 = (.inl (0, 80, .inl (fun _ => 0))) := by rw [← eT29]; exact (am_up_n (by decide)).trans k253
  have k270 : T29 27 = (.inl (0, 50, .inl (fun _ => 0))) := by rw [← eT29]; exact (am_up_n (by decide)).trans k254
  have k271 : T29 28 = (.inl (0, 200, .inl (fun _ => 0))) := by rw [← eT29]; exact (am_up_n (by decide)).trans k255
  have k272 : T29 29 = (.inl (0, 16000, .inl (fun _ => 0))) := by rw [← eT29]; exact (am_up_n (by decide)).trans k256
  have k273 : T29 30 = (.inl (0, 5, .inl (fun _ => 0))) := by rw [← eT29]; exact (am_up_n (by decide)).trans k257
  have k274 : T29 31 = (.inl (0, 41, .inl (fun _ => 0))) := by rw [← eT29]; exact (am_up_n (by decide)).trans k258
  have k275 : T29 32 = (.inl (0, 41, .inl (fun _ => 0))) := by rw [← eT29]; exact (am_up_n (by decide)).trans k259
  have k276 : T29 33 = (.inl (0, 42, .inl (fun _ => 0))) := by rw [← eT29]; exact (am_up_n (by decide)).trans k260
  have k277 : T29 34 = (.inl (0, 42, .inl (fun _ => 0))) := by rw [← eT29]; exact (am_up_n (by decide)).trans k261
  have k278 : T29 35 = (.inl (0, 41, .inl (fun _ => 0))) := by rw [← eT29]; exact (am_up_n (by decide)).trans k262
  have k279 : T29 36 = (.inl (0, 41, .inl (fun _ => 0))) := by rw [← eT29]; exact (am_up_n (by decide)).trans k263
  have k280 : T29 37 = (.inl (0, 36, .inl (fun _ => 0))) := by rw [← eT29]; exact (am_up_n (by decide)).trans k264
  have k281 : T29 38 = (.inl (0, 180, .inl (fun _ => 0))) := by rw [← eT29]; exact (am_up_n (by decide)).trans k265
  have k282 : T29 39 = (.inl (0, 80, .inl (fun _ => 0))) := by rw [← eT29]; exact (am_up_n (by decide)).trans k266
  have k283 : T29 40 = (.inl (0, 16, .inl (fun _ => 0))) := by rw [← eT29]; exact am_up_s
  refine am_putF (I := iX7_init) (pc := 123) (fs' := [.int 0, .int 0, .ref 26, .ref 27, .ref 28, .ref 29, .ref 30, .int 0, .ref 31, .ref 32, .ref 33, .ref 34, .int 0, .int 0, .int 0, .ref 35, .ref 36, .ref 37, .ref 38, .int 0, .int 0, .int 0, .ref 39, .int 0, .ref 40, .null, .null, .null, .null]) lf_X7_52 rfl dX7_init_123 k267 (fun _ => ⟨rfl, rfl⟩) (Nat.le_of_ble_eq_true rfl) rfl ?_
  show am_W _ _ _ _ _ _ _ _ _ _ _ _ _ _ _ 126 [some (.ref 25), none] [] (am_up T29 25 (.inr (7, [.int 0, .int 0, .ref 26, .ref 27, .ref 28, .ref 29, .ref 30, .int 0, .ref 31, .ref 32, .ref 33, .ref 34, .int 0, .int 0, .int 0, .ref 35, .ref 36, .ref 37, .ref 38, .int 0, .int 0, .int 0, .ref 39, .int 0, .ref 40, .null, .null, .null, .null])), 41) 15 16895
  generalize eT30 : am_up T29 25 (.inr (7, [.int 0, .int 0, .ref 26, .ref 27, .ref 28, .ref 29, .ref 30, .int 0, .ref 31, .ref 32, .ref 33, .ref 34, .int 0, .int 0, .int 0, .ref 35, .ref 36, .ref 37, .ref 38, .int 0, .int 0, .int 0, .ref 39, .int 0, .ref 40, .null, .null, .null, .null])) = T30
  have k284 : T30 25 = (.inr (7, [.int 0, .int 0, .ref 26, .ref 27, .ref 28, .ref 29, .ref 30, .int 0, .ref 31, .ref 32, .ref 33, .ref 34, .int 0, .int 0, .int 0, .ref 35, .ref 36, .ref 37, .ref 38, .int 0, .int 0, .int 0, .ref 39, .int 0, .ref 40, .null, .null, .null, .null])) := by rw [← eT30]; exact am_up_s
  have k285 : ∀ z : Nat, z < 25 → T30 z = h z := fun z q9 => by rw [← eT30]; exact (am_up_n (Nat.ne_of_lt (Nat.lt_of_lt_of_le q9 (by decide)))).trans (k268 z q9)
  have k286 : T30 26 = (.inl (0, 80, .inl (fun _ => 0))) := by rw [← eT30]; exact (am_up_n (by decide)).trans k269
  have k287 : T30 27 = (.inl (0, 50, .inl (fun _ => 0))) := by rw [← eT30]; exact (am_up_n (by decide)).trans k270
  have k288 : T30 28 = (.inl (0, 200, .inl (fun _ => 0))) := by rw [← eT30]; exact (am_up_n (by decide)).trans k271
  have k289 : T30 29 = (.inl (0, 16000, .inl (fun _ => 0))) := by rw [← eT30]; exact (am_up_n (by decide)).trans k272
  have k290 : T30 30 = (.inl (0, 5, .inl (fun _ => 0))) := by rw [← eT30]; exact (am_up_n (by decide)).trans k273
  have k291 : T30 31 = (.inl (0, 41, .inl (fun _ => 0))) := by rw [← eT30]; exact (am_up_n (by decide)).trans k274
  have k292 : T30 32 = (.inl (0, 41, .inl (fun _ => 0))) := by rw [← eT30]; exact (am_up_n (by decide)).trans k275
  have k293 : T30 33 = (.inl (0, 42, .inl (fun _ => 0))) := by rw [← eT30]; exact (am_up_n (by decide)).trans k276
  have k294 : T30 34 = (.inl (0, 42, .inl (fun _ => 0))) := by rw [← eT30]; exact (am_up_n (by decide)).trans k277
  have k295 : T30 35 = (.inl (0, 41, .inl (fun _ => 0))) := by rw [← eT30]; exact (am_up_n (by decide)).trans k278
  have k296 : T30 36 = (.inl (0, 41, .inl (fun _ => 0))) := by rw [← eT30]; exact (am_up_n (by decide)).trans k279
  have k297 : T30 37 = (.inl (0, 36, .inl (fun _ => 0))) := by rw [← eT30]; exact (am_up_n (by decide)).trans k280
  have k298 : T30 38 = (.inl (0, 180, .inl (fun _ => 0))) := by rw [← eT30]; exact (am_up_n (by decide)).trans k281
  have k299 : T30 39 = (.inl (0, 80, .inl (fun _ => 0))) := by rw [← eT30]; exact (am_up_n (by decide)).trans k282
  have k300 : T30 40 = (.inl (0, 16, .inl (fun _ => 0))) := by rw [← eT30]; exact (am_up_n (by decide)).trans k283
  refine am_aload_n (I := iX7_init) (pc := 126) dX7_init_126 rfl rfl ?_
  refine am_bipush (I := iX7_init) (pc := 127) (x := 16) dX7_init_127 (by decide) ?_
  refine am_newarray (I := iX7_init) (pc := 129) (k := 0) (n := 16) (ty := .int) (q0 := .inl (fun _ => 0)) dX7_init_129 rfl rfl la_int (fun _ => rfl) (fun _ => rfl) (fun _ => trivial) (by decide) (by decide) (by decide) (Nat.le_of_ble_eq_true rfl) (Nat.le_of_ble_eq_true rfl) ?_
  show am_W _ _ _ _ _ _ _ _ _ _ _ _ _ _ _ 131 [some (.ref 25), none] [.ref 41, .ref 25] (am_up T30 41 (.inl (0, 16, .inl (fun _ => 0))), 42) 16 16911
  generalize eT31 : am_up T30 41 (.inl (0, 16, .inl (fun _ => 0))) = T31
  have k301 : T31 25 = (.inr (7, [.int 0, .int 0, .ref 26, .ref 27, .ref 28, .ref 29, .ref 30, .int 0, .ref 31, .ref 32, .ref 33, .ref 34, .int 0, .int 0, .int 0, .ref 35, .ref 36, .ref 37, .ref 38, .int 0, .int 0, .int 0, .ref 39, .int 0, .ref 40, .null, .null, .null, .null])) := by rw [← eT31]; exact (am_up_n (by decide)).trans k284
  have k302 : ∀ z : Nat, z < 25 → T31 z = h z := fun z q9 => by rw [← eT31]; exact (am_up_n (Nat.ne_of_lt (Nat.lt_of_lt_of_le q9 (by decide)))).trans (k285 z q9)
  have k303 : T31 26 = (.inl (0, 80, .inl (fun _ => 0))) := by rw [← eT31]; exact (am_up_n (by decide)).trans k286
  have k304 : T31 27 = (.inl (0, 50, .inl (fun _ => 0))) := by rw [← eT31]; exact (am_up_n (by decide)).trans k287
  have k305 : T31 28 = (.inl (0, 200, .inl (fun _ => 0))) := by rw [← eT31]; exact (am_up_n (by decide)).trans k288
  have k306 : T31 29 = (.inl (0, 16000, .inl (fun _ => 0))) := by rw [← eT31]; exact (am_up_n (by decide)).trans k289
  have k307 : T31 30 = (.inl (0, 5, .inl (fun _ => 0))) := by rw [← eT31]; exact (am_up_n (by decide)).trans k290
  have k308 : T31 31 = (.inl (0, 41, .inl (fun _ => 0))) := by rw [← eT31]; exact (am_up_n (by decide)).trans k291
  have k309 : T31 32 = (.inl (0, 41, .inl (fun _ => 0))) := by rw [← eT31]; exact (am_up_n (by decide)).trans k292
  have k310 : T31 33 = (.inl (0, 42, .inl (fun _ => 0))) := by rw [← eT31]; exact (am_up_n (by decide)).trans k293
  have k311 : T31 34 = (.inl (0, 42, .inl (fun _ => 0))) := by rw [← eT31]; exact (am_up_n (by decide)).trans k294
  have k312 : T31 35 = (.inl (0, 41, .inl (fun _ => 0))) := by rw [← eT31]; exact (am_up_n (by decide)).trans k295
  have k313 : T31 36 = (.inl (0, 41, .inl (fun _ => 0))) := by rw [← eT31]; exact (am_up_n (by decide)).trans k296
  have k314 : T31 37 = (.inl (0, 36, .inl (fun _ => 0))) := by rw [← eT31]; exact (am_up_n (by decide)).trans k297
  have k315 : T31 38 = (.inl (0, 180, .inl (fun _ => 0))) := by rw [← eT31]; exact (am_up_n (by decide)).trans k298
  have k316 : T31 39 = (.inl (0, 80, .inl (fun _ => 0))) := by rw [← eT31]; exact (am_up_n (by decide)).trans k299
  have k317 : T31 40 = (.inl (0, 16, .inl (fun _ => 0))) := by rw [← eT31]; exact (am_up_n (by decide)).trans k300
  have k318 : T31 41 = (.inl (0, 16, .inl (fun _ => 0))) := by rw [← eT31]; exact am_up_s
  refine am_putF (I := iX7_init) (pc := 131) (fs' := [.int 0, .int 0, .ref 26, .ref 27, .ref 28, .ref 29, .ref 30, .int 0, .ref 31, .ref 32, .ref 33, .ref 34, .int 0, .int 0, .int 0, .ref 35, .ref 36, .ref 37, .ref 38, .int 0, .int 0, .int 0, .ref 39, .int 0, .ref 40, .ref 41, .null, .null, .null]) lf_X7_55 rfl dX7_init_131 k301 (fun _ => ⟨rfl, rfl⟩) (Nat.le_of_ble_eq_true rfl) rfl ?_
  show am_W _ _ _ _ _ _ _ _ _ _ _ _ _ _ _ 134 [some (.ref 25), none] [] (am_up T31 25 (.inr (7, [.int 0, .int 0, .ref 26, .ref 27, .ref 28, .ref 29, .ref 30, .int 0, .ref 31, .ref 32, .ref 33, .ref 34, .int 0, .int 0, .int 0, .ref 35, .ref 36, .ref 37, .ref 38, .int 0, .int 0, .int 0, .ref 39, .int 0, .ref 40, .ref 41, .null, .null, .null])), 42) 16 16911
  generalize eT32 : am_up T31 25 (.inr (7, [.int 0, .int 0, .ref 26, .ref 27, .ref 28, .ref 29, .ref 30, .int 0, .ref 31, .ref 32, .ref 33, .ref 34, .int 0, .int 0, .int 0, .ref 35, .ref 36, .ref 37, .ref 38, .int 0, .int 0, .int 0, .ref 39, .int 0, .ref 40, .ref 41, .null, .null, .null])) = T32
  have k319 : T32 25 = (.inr (7, [.int 0, .int 0, .ref 26, .ref 27, .ref 28, .ref 29, .ref 30, .int 0, .ref 31, .ref 32, .ref 33, .ref 34, .int 0, .int 0, .int 0, .ref 35, .ref 36, .ref 37, .ref 38, .int 0, .int 0, .int 0, .ref 39, .int 0, .ref 40, .ref 41, .null, .null, .null])) := by rw [← eT32]; exact am_up_s
  have k320 : ∀ z : Nat, z < 25 → T32 z = h z := fun z q9 => by rw [← eT32]; exact (am_up_n (Nat.ne_of_lt (Nat.lt_of_lt_of_le q9 (by decide)))).trans (k302 z q9)
  have k321 : T32 26 = (.inl (0, 80, .inl (fun _ => 0))) := by rw [← eT32]; exact (am_up_n (by decide)).trans k303
  have k322 : T32 27 = (.inl (0, 50, .inl (fun _ => 0))) := by rw [← eT32]; exact (am_up_n (by decide)).trans k304
  have k323 : T32 28 = (.inl (0, 200, .inl (fun _ => 0))) := by rw [← eT32]; exact (am_up_n (by decide)).trans k305
  have k324 : T32 29 = (.inl (0, 16000, .inl (fun _ => 0))) := by rw [← eT32]; exact (am_up_n (by decide)).trans k306
  have k325 : T32 30 = (.inl (0, 5, .inl (fun _ => 0))) := by rw [← eT32]; exact (am_up_n (by decide)).trans k307
  have k326 : T32 31 = (.inl (0, 41, .inl (fun _ => 0))) := by rw [← eT32]; exact (am_up_n (by decide)).trans k308
  have k327 : T32 32 = (.inl (0, 41, .inl (fun _ => 0))) := by rw [← eT32]; exact (am_up_n (by decide)).trans k309
  have k328 : T32 33 = (.inl (0, 42, .inl (fun _ => 0))) := by rw [← eT32]; exact (am_up_n (by decide)).trans k310
  have k329 : T32 34 = (.inl (0, 42, .inl (fun _ => 0))) := by rw [← eT32]; exact (am_up_n (by decide)).trans k311
  have k330 : T32 35 = (.inl (0, 41, .inl (fun _ => 0))) := by rw [← eT32]; exact (am_up_n (by decide)).trans k312
  have k331 : T32 36 = (.inl (0, 41, .inl (fun _ => 0))) := by rw [← eT32]; exact (am_up_n (by decide)).trans k313
  have k332 : T32 37 = (.inl (0, 36, .inl (fun _ => 0))) := by rw [← eT32]; exact (am_up_n (by decide)).trans k314
  have k333 : T32 38 = (.inl (0, 180, .inl (fun _ => 0))) := by rw [← eT32]; exact (am_up_n (by decide)).trans k315
  have k334 : T32 39 = (.inl (0, 80, .inl (fun _ => 0))) := by rw [← eT32]; exact (am_up_n (by decide)).trans k316
  have k335 : T32 40 = (.inl (0, 16, .inl (fun _ => 0))) := by rw [← eT32]; exact (am_up_n (by decide)).trans k317
  have k336 : T32 41 = (.inl (0, 16, .inl (fun _ => 0))) := by rw [← eT32]; exact (am_up_n (by decide)).trans k318
  refine am_aload_n (I := iX7_init) (pc := 134) dX7_init_134 rfl rfl ?_
  refine am_bipush (I := iX7_init) (pc := 135) (x := 16) dX7_init_135 (by decide) ?_
  refine am_newarray (I := iX7_init) (pc := 137) (k := 0) (n := 16) (ty := .int) (q0 := .inl (fun _ => 0)) dX7_init_137 rfl rfl la_int (fun _ => rfl) (fun _ => rfl) (fun _ => trivial) (by decide) (by decide) (by decide) (Nat.le_of_ble_eq_true rfl) (Nat.le_of_ble_eq_true rfl) ?_
  show am_W _ _ _ _ _ _ _ _ _ _ _ _ _ _ _ 139 [some (.ref 25), none] [.ref 42, .ref 25] (am_up T32 42 (.inl (0, 16, .inl (fun _ => 0))), 43) 17 16927
  generalize eT33 : am_up T32 42 (.inl (0, 16, .inl (fun _ => 0))) = T33
  have k337 : T33 25 = (.inr (7, [.int 0, .int 0, .ref 26, .ref 27, .ref 28, .ref 29, .ref 30, .int 0, .ref 31, .ref 32, .ref 33, .ref 34, .int 0, .int 0, .int 0, .ref 35, .ref 36, .ref 37, .ref 38, .int 0, .int 0, .int 0, .ref 39, .int 0, .ref 40, .ref 41, .null, .null, .null])) := by rw [← eT33]; exact (am_up_n (by decide)).trans k319
  have k338 : ∀ z : Nat, z < 25 → T33 z = h z := fun z q9 => by rw [← eT33]; exact (am_up_n (Nat.ne_of_lt (Nat.lt_of_lt_of_le q9 (by decide)))).trans (k320 z q9)
  have k339 : T33 26 = (.inl (0, 80, .inl (fun _ => 0))) := by rw [← eT33]; exact (am_up_n (by decide)).trans k321
  have k340 : T33 27 = (.inl (0, 50, .inl (fun _ => 0))) := by rw [← eT33]; exact (am_up_n (by decide)).trans k322
  have k341 : T33 28 = (.inl (0, 200, .inl (fun _ => 0))) := by rw [← eT33]; exact (am_up_n (by decide)).trans k323
  have k342 : T33 29 = (.inl (0, 16000, .inl (fun _ => 0))) := by rw [← eT33]; exact (am_up_n (by decide)).trans k324
  have k343 : T33 30 = (.inl (0, 5, .inl (fun _ => 0))) := by rw [← eT33]; exact (am_up_n (by decide)).trans k325
  have k344 : T33 31 = (.inl (0, 41, .inl (fun _ => 0))) := by rw [← eT33]; exact (am_up_n (by decide)).trans k326
  have k345 : T33 32 = (.inl (0, 41, .inl (fun _ => 0))) := by rw [← eT33]; exact (am_up_n (by decide)).trans k327
  have k346 : T33 33 = (.inl (0, 42, .inl (fun _ => 0))) := by rw [← eT33]; exact (am_up_n (by decide)).trans k328
  have k347 : T33 34 = (.inl (0, 42, .inl (fun _ => 0))) := by rw [← eT33]; exact (am_up_n (by decide)).trans k329
  have k348 : T33 35 = (.inl (0, 41, .inl (fun _ => 0))) := by rw [← eT33]; exact (am_up_n (by decide)).trans k330
  have k349 : T33 36 = (.inl (0, 41, .inl (fun _ => 0))) := by rw [← eT33]; exact (am_up_n (by decide)).trans k331
  have k350 : T33 37 = (.inl (0, 36, .inl (fun _ => 0))) := by rw [← eT33]; exact (am_up_n (by decide)).trans k332
  have k351 : T33 38 = (.inl (0, 180, .inl (fun _ => 0))) := by rw [← eT33]; exact (am_up_n (by decide)).trans k333
  have k352 : T33 39 = (.inl (0, 80, .inl (fun _ => 0))) := by rw [← eT33]; exact (am_up_n (by decide)).trans k334
  have k353 : T33 40 = (.inl (0, 16, .inl (fun _ => 0))) := by rw [← eT33]; exact (am_up_n (by decide)).trans k335
  have k354 : T33 41 = (.inl (0, 16, .inl (fun _ => 0))) := by rw [← eT33]; exact (am_up_n (by decide)).trans k336
  have k355 : T33 42 = (.inl (0, 16, .inl (fun _ => 0))) := by rw [← eT33]; exact am_up_s
  refine am_putF (I := iX7_init) (pc := 139) (fs' := [.int 0, .int 0, .ref 26, .ref 27, .ref 28, .ref 29, .ref 30, .int 0, .ref 31, .ref 32, .ref 33, .ref 34, .int 0, .int 0, .int 0, .ref 35, .ref 36, .ref 37, .ref 38, .int 0, .int 0, .int 0, .ref 39, .int 0, .ref 40, .ref 41, .ref 42, .null, .null]) lf_X7_58 rfl dX7_init_139 k337 (fun _ => ⟨rfl, rfl⟩) (Nat.le_of_ble_eq_true rfl) rfl ?_
  show am_W _ _ _ _ _ _ _ _ _ _ _ _ _ _ _ 142 [some (.ref 25), none] [] (am_up T33 25 (.inr (7, [.int 0, .int 0, .ref 26, .ref 27, .ref 28, .ref 29, .ref 30, .int 0, .ref 31, .ref 32, .ref 33, .ref 34, .int 0, .int 0, .int 0, .ref 35, .ref 36, .ref 37, .ref 38, .int 0, .int 0, .int 0, .ref 39, .int 0, .ref 40, .ref 41, .ref 42, .null, .null])), 43) 17 16927
  generalize eT34 : am_up T33 25 (.inr (7, [.int 0, .int 0, .ref 26, .ref 27, .ref 28, .ref 29, .ref 30, .int 0, .ref 31, .ref 32, .ref 33, .ref 34, .int 0, .int 0, .int 0, .ref 35, .ref 36, .ref 37, .ref 38, .int 0, .int 0, .int 0, .ref 39, .int 0, .ref 40, .ref 41, .ref 42, .null, .null])) = T34
  have k356 : T34 25 = (.inr (7, [.int 0, .int 0, .ref 26, .ref 27, .ref 28, .ref 29, .ref 30, .int 0, .ref 31, .ref 32, .ref 33, .ref 34, .int 0, .int 0, .int 0, .ref 35, .ref 36, .ref 37, .ref 38, .int 0, .int 0, .int 0, .ref 39, .int 0, .ref 40, .ref 41, .ref 42, .null, .null])) := by rw [← eT34]; exact am_up_s
  have k357 : ∀ z : Nat, z < 25 → T34 z = h z := fun z q9 => by rw [← eT34]; exact (am_up_n (Nat.ne_of_lt (Nat.lt_of_lt_of_le q9 (by decide)))).trans (k338 z q9)
  have k358 : T34 26 = (.inl (0, 80, .inl (fun _ => 0))) := by rw [← eT34]; exact (am_up_n (by decide)).trans k339
  have k359 : T34 27 = (.inl (0, 50, .inl (fun _ => 0))) := by rw [← eT34]; exact (am_up_n (by decide)).trans k340
  have k360 : T34 28 = (.inl (0, 200, .inl (fun _ => 0))) := by rw [← eT34]; exact (am_up_n (by decide)).trans k341
  have k361 : T34 29 = (.inl (0, 16000, .inl (fun _ => 0))) := by rw [← eT34]; exact (am_up_n (by decide)).trans k342
  have k362 : T34 30 = (.inl (0, 5, .inl (fun _ => 0))) := by rw [← eT34]; exact (am_up_n (by decide)).trans k343
  have k363 : T34 31 = (.inl (0, 41, .inl (fun _ => 0))) := by rw [← eT34]; exact (am_up_n (by decide)).trans k344
  have k364 : T34 32 = (.inl (0, 41, .inl (fun _ => 0))) := by rw [← eT34]; exact (am_up_n (by decide)).trans k345
  have k365 : T34 33 = (.inl (0, 42, .inl (fun _ => 0))) := by rw [← eT34]; exact (am_up_n (by decide)).trans k346
  have k366 : T34 34 = (.inl (0, 42, .inl (fun _ => 0))) := by rw [← eT34]; exact (am_up_n (by decide)).trans k347
  have k367 : T34 35 = (.inl (0, 41, .inl (fun _ => 0))) := by rw [← eT34]; exact (am_up_n (by decide)).trans k348
  have k368 : T34 36 = (.inl (0, 41, .inl (fun _ => 0))) := by rw [← eT34]; exact (am_up_n (by decide)).trans k349
  have k369 : T34 37 = (.inl (0, 36, .inl (fun _ => 0))) := by rw [← eT34]; exact (am_up_n (by decide)).trans k350
  have k370 : T34 38 = (.inl (0, 180, .inl (fun _ => 0))) := by rw [← eT34]; exact (am_up_n (by decide)).trans k351
  have k371 : T34 39 = (.inl (0, 80, .inl (fun _ => 0))) := by rw [← eT34]; exact (am_up_n (by decide)).trans k352
  have k372 : T34 40 = (.inl (0, 16, .inl (fun _ => 0))) := by rw [← eT34]; exact (am_up_n (by decide)).trans k353
  have k373 : T34 41 = (.inl (0, 16, .inl (fun _ => 0))) := by rw [← eT34]; exact (am_up_n (by decide)).trans k354
  have k374 : T34 42 = (.inl (0, 16, .inl (fun _ => 0))) := by rw [← eT34]; exact (am_up_n (by decide)).trans k355
  refine am_aload_n (I := iX7_init) (pc := 142) dX7_init_142 rfl rfl ?_
  refine am_sipush (I := iX7_init) (pc := 143) (x := 576) dX7_init_143 (by decide) ?_
  refine am_newarray (I := iX7_init) (pc := 146) (k := 3) (n := 576) (ty := .boolean) (q0 := .inl (fun _ => 0)) dX7_init_146 rfl rfl la_boolean (fun _ => rfl) (fun _ => rfl) (fun _ => trivial) (by decide) (by decide) (by decide) (Nat.le_of_ble_eq_true rfl) (Nat.le_of_ble_eq_true rfl) ?_
  show am_W _ _ _ _ _ _ _ _ _ _ _ _ _ _ _ 148 [some (.ref 25), none] [.ref 43, .ref 25] (am_up T34 43 (.inl (3, 576, .inl (fun _ => 0))), 44) 18 17503
  generalize eT35 : am_up T34 43 (.inl (3, 576, .inl (fun _ => 0))) = T35
  have k375 : T35 25 = (.inr (7, [.int 0, .int 0, .ref 26, .ref 27, .ref 28, .ref 29, .ref 30, .int 0, .ref 31, .ref 32, .ref 33, .ref 34, .int 0, .int 0, .int 0, .ref 35, .ref 36, .ref 37, .ref 38, .int 0, .int 0, .int 0, .ref 39, .int 0, .ref 40, .ref 41, .ref 42, .null, .null])) := by rw [← eT35]; exact (am_up_n (by decide)).trans k356
  have k376 : ∀ z : Nat, z < 25 → T35 z = h z := fun z q9 => by rw [← eT35]; exact (am_up_n (Nat.ne_of_lt (Nat.lt_of_lt_of_le q9 (by decide)))).trans (k357 z q9)
  have k377 : T35 26 = (.inl (0, 80, .inl (fun _ => 0))) := by rw [← eT35]; exact (am_up_n (by decide)).trans k358
  have k378 : T35 27 = (.inl (0, 50, .inl (fun _ => 0))) := by rw [← eT35]; exact (am_up_n (by decide)).trans k359
  have k379 : T35 28 = (.inl (0, 200, .inl (fun _ => 0))) := by rw [← eT35]; exact (am_up_n (by decide)).trans k360
  have k380 : T35 29 = (.inl (0, 16000, .inl (fun _ => 0))) := by rw [← eT35]; exact (am_up_n (by decide)).trans k361
  have k381 : T35 30 = (.inl (0, 5, .inl (fun _ => 0))) := by rw [← eT35]; exact (am_up_n (by decide)).trans k362
  have k382 : T35 31 = (.inl (0, 41, .inl (fun _ => 0))) := by rw [← eT35]; exact (am_up_n (by decide)).trans k363
  have k383 : T35 32 = (.inl (0, 41, .inl (fun _ => 0))) := by rw [← eT35]; exact (am_up_n (by decide)).trans k364
  have k384 : T35 33 = (.inl (0, 42, .inl (fun _ => 0))) := by rw [← eT35]; exact (am_up_n (by decide)).trans k365
  have k385 : T35 34 = (.inl (0, 42, .inl (fun _ => 0))) := by rw [← eT35]; exact (am_up_n (by decide)).trans k366
  have k386 : T35 35 = (.inl (0, 41, .inl (fun _ => 0))) := by rw [← eT35]; exact (am_up_n (by decide)).trans k367
  have k387 : T35 36 = (.inl (0, 41, .inl (fun _ => 0))) := by rw [← eT35]; exact (am_up_n (by decide)).trans k368
  have k388 : T35 37 = (.inl (0, 36, .inl (fun _ => 0))) := by rw [← eT35]; exact (am_up_n (by decide)).trans k369
  have k389 : T35 38 = (.inl (0, 180, .inl (fun _ => 0))) := by rw [← eT35]; exact (am_up_n (by decide)).trans k370
  have k390 : T35 39 = (.inl (0, 80, .inl (fun _ => 0))) := by rw [← eT35]; exact (am_up_n (by decide)).trans k371
  have k391 : T35 40 = (.inl (0, 16, .inl (fun _ => 0))) := by rw [← eT35]; exact (am_up_n (by decide)).trans k372
  have k392 : T35 41 = (.inl (0, 16, .inl (fun _ => 0))) := by rw [← eT35]; exact (am_up_n (by decide)).trans k373
  have k393 : T35 42 = (.inl (0, 16, .inl (fun _ => 0))) := by rw [← eT35]; exact (am_up_n (by decide)).trans k374
  have k394 : T35 43 = (.inl (3, 576, .inl (fun _ => 0))) := by rw [← eT35]; exact am_up_s
  refine am_putF (I := iX7_init) (pc := 148) (fs' := [.int 0, .int 0, .ref 26, .ref 27, .ref 28, .ref 29, .ref 30, .int 0, .ref 31, .ref 32, .ref 33, .ref 34, .int 0, .int 0, .int 0, .ref 35, .ref 36, .ref 37, .ref 38, .int 0, .int 0, .int 0, .ref 39, .int 0, .ref 40, .ref 41, .ref 42, .ref 43, .null]) lf_X7_61 rfl dX7_init_148 k375 (fun _ => ⟨rfl, rfl⟩) (Nat.le_of_ble_eq_true rfl) rfl ?_
  show am_W _ _ _ _ _ _ _ _ _ _ _ _ _ _ _ 151 [some (.ref 25), none] [] (am_up T35 25 (.inr (7, [.int 0, .int 0, .ref 26, .ref 27, .ref 28, .ref 29, .ref 30, .int 0, .ref 31, .ref 32, .ref 33, .ref 34, .int 0, .int 0, .int 0, .ref 35, .ref 36, .ref 37, .ref 38, .int 0, .int 0, .int 0, .ref 39, .int 0, .ref 40, .ref 41, .ref 42, .ref 43, .null])), 44) 18 17503
  generalize eT36 : am_up T35 25 (.inr (7, [.int 0, .int 0, .ref 26, .ref 27, .ref 28, .ref 29, .ref 30, .int 0, .ref 31, .ref 32, .ref 33, .ref 34, .int 0, .int 0, .int 0, .ref 35, .ref 36, .ref 37, .ref 38, .int 0, .int 0, .int 0, .ref 39, .int 0, .ref 40, .ref 41, .ref 42, .ref 43, .null])) = T36
  have k395 : T36 25 = (.inr (7, [.int 0, .int 0, .ref 26, .ref 27, .ref 28, .ref 29, .ref 30, .int 0, .ref 31, .ref 32, .ref 33, .ref 34, .int 0, .int 0, .int 0, .ref 35, .ref 36, .ref 37, .ref 38, .int 0, .int 0, .int 0, .ref 39, .int 0, .ref 40, .ref 41, .ref 42, .ref 43, .null])) := by rw [← eT36]; exact am_up_s
  have k396 : ∀ z : Nat, z < 25 → T36 z = h z := fun z q9 => by rw [← eT36]; exact (am_up_n (Nat.ne_of_lt (Nat.lt_of_lt_of_le q9 (by decide)))).trans (k376 z q9)
  have k397 : T36 26 = (.inl (0, 80, .inl (fun _ => 0))) := by rw [← eT36]; exact (am_up_n (by decide)).trans k377
  have k398 : T36 27 = (.inl (0, 50, .inl (fun _ => 0))) := by rw [← eT36]; exact (am_up_n (by decide)).trans k378
  have k399 : T36 28 = (.inl (0, 200, .inl (fun _ => 0))) := by rw [← eT36]; exact (am_up_n (by decide)).trans k379
  have k400 : T36 29 = (.inl (0, 16000, .inl (fun _ => 0))) := by rw [← eT36]; exact (am_up_n (by decide)).trans k380
  have k401 : T36 30 = (.inl (0, 5, .inl (fun _ => 0))) := by rw [← eT36]; exact (am_up_n (by decide)).trans k381
  have k402 : T36 31 = (.inl (0, 41, .inl (fun _ => 0))) := by rw [← eT36]; exact (am_up_n (by decide)).trans k382
  have k403 : T36 32 = (.inl (0, 41, .inl (fun _ => 0))) := by rw [← eT36]; exact (am_up_n (by decide)).trans k383
  have k404 : T36 33 = (.inl (0, 42, .inl (fun _ => 0))) := by rw [← eT36]; exact (am_up_n (by decide)).trans k384
  have k405 : T36 34 = (.inl (0, 42, .inl (fun _ => 0))) := by rw [← eT36]; exact (am_up_n (by decide)).trans k385
  have k406 : T36 35 = (.inl (0, 41, .inl (fun _ => 0))) := by rw [← eT36]; exact (am_up_n (by decide)).trans k386
  have k407 : T36 36 = (.inl (0, 41, .inl (fun _ => 0))) := by rw [← eT36]; exact (am_up_n (by decide)).trans k387
  have k408 : T36 37 = (.inl (0, 36, .inl (fun _ => 0))) := by rw [← eT36]; exact (am_up_n (by decide)).trans k388
  have k409 : T36 38 = (.inl (0, 180, .inl (fun _ => 0))) := by rw [← eT36]; exact (am_up_n (by decide)).trans k389
  have k410 : T36 39 = (.inl (0, 80, .inl (fun _ => 0))) := by rw [← eT36]; exact (am_up_n (by decide)).trans k390
  have k411 : T36 40 = (.inl (0, 16, .inl (fun _ => 0))) := by rw [← eT36]; exact (am_up_n (by decide)).trans k391
  have k412 : T36 41 = (.inl (0, 16, .inl (fun _ => 0))) := by rw [← eT36]; exact (am_up_n (by decide)).trans k392
  have k413 : T36 42 = (.inl (0, 16, .inl (fun _ => 0))) := by rw [← eT36]; exact (am_up_n (by decide)).trans k393
  have k414 : T36 43 = (.inl (3, 576, .inl (fun _ => 0))) := by rw [← eT36]; exact (am_up_n (by decide)).trans k394
  refine am_aload_n (I := iX7_init) (pc := 151) dX7_init_151 rfl rfl ?_
  refine am_bipush (I := iX7_init) (pc := 152) (x := 24) dX7_init_152 (by decide) ?_
  refine am_newarray (I := iX7_init) (pc := 154) (k := 0) (n := 24) (ty := .int) (q0 := .inl (fun _ => 0)) dX7_init_154 rfl rfl la_int (fun _ => rfl) (fun _ => rfl) (fun _ => trivial) (by decide) (by decide) (by decide) (Nat.le_of_ble_eq_true rfl) (Nat.le_of_ble_eq_true rfl) ?_
  show am_W _ _ _ _ _ _ _ _ _ _ _ _ _ _ _ 156 [some (.ref 25), none] [.ref 44, .ref 25] (am_up T36 44 (.inl (0, 24, .inl (fun _ => 0))), 45) 19 17527
  generalize eT37 : am_up T36 44 (.inl (0, 24, .inl (fun _ => 0))) = T37
  have k415 : T37 25 = (.inr (7, [.int 0, .int 0, .ref 26, .ref 27, .ref 28, .ref 29, .ref 30, .int 0, .ref 31, .ref 32, .ref 33, .ref 34, .int 0, .int 0, .int 0, .ref 35, .ref 36, .ref 37, .ref 38, .int 0, .int 0, .int 0, .ref 39, .int 0, .ref 40, .ref 41, .ref 42, .ref 43, .null])) := by rw [← eT37]; exact (am_up_n (by decide)).trans k395
  have k416 : ∀ z : Nat, z < 25 → T37 z = h z := fun z q9 => by rw [← eT37]; exact (am_up_n (Nat.ne_of_lt (Nat.lt_of_lt_of_le q9 (by decide)))).trans (k396 z q9)
  have k417 : T37 26 = (.inl (0, 80, .inl (fun _ => 0))) := by rw [← eT37]; exact (am_up_n (by decide)).trans k397
  have k418 : T37 27 = (.inl (0, 50, .inl (fun _ => 0))) := by rw [← eT37]; exact (am_up_n (by decide)).trans k398
  have k419 : T37 28 = (.inl (0, 200, .inl (fun _ => 0))) := by rw [← eT37]; exact (am_up_n (by decide)).trans k399
  have k420 : T37 29 = (.inl (0, 16000, .inl (fun _ => 0))) := by rw [← eT37]; exact (am_up_n (by decide)).trans k400
  have k421 : T37 30 = (.inl (0, 5, .inl (fun _ => 0))) := by rw [← eT37]; exact (am_up_n (by decide)).trans k401
  have k422 : T37 31 = (.inl (0, 41, .inl (fun _ => 0))) := by rw [← eT37]; exact (am_up_n (by decide)).trans k402
  have k423 : T37 32 = (.inl (0, 41, .inl (fun _ => 0))) := by rw [← eT37]; exact (am_up_n (by decide)).trans k403
  have k424 : T37 33 = (.inl (0, 42, .inl (fun _ => 0))) := by rw [← eT37]; exact (am_up_n (by decide)).trans k404
  have k425 : T37 34 = (.inl (0, 42, .inl (fun _ => 0))) := by rw [← eT37]; exact (am_up_n (by decide)).trans k405
  have k426 : T37 35 = (.inl (0, 41, .inl (fun _ => 0))) := by rw [← eT37]; exact (am_up_n (by decide)).trans k406
  have k427 : T37 36 = (.inl (0, 41, .inl (fun _ => 0))) := by rw [← eT37]; exact (am_up_n (by decide)).trans k407
  have k428 : T37 37 = (.inl (0, 36, .inl (fun _ => 0))) := by rw [← eT37]; exact (am_up_n (by decide)).trans k408
  have k429 : T37 38 = (.inl (0, 180, .inl (fun _ => 0))) := by rw [← eT37]; exact (am_up_n (by decide)).trans k409
  have k430 : T37 39 = (.inl (0, 80, .inl (fun _ => 0))) := by rw [← eT37]; exact (am_up_n (by decide)).trans k410
  have k431 : T37 40 = (.inl (0, 16, .inl (fun _ => 0))) := by rw [← eT37]; exact (am_up_n (by decide)).trans k411
  have k432 : T37 41 = (.inl (0, 16, .inl (fun _ => 0))) := by rw [← eT37]; exact (am_up_n (by decide)).trans k412
  have k433 : T37 42 = (.inl (0, 16, .inl (fun _ => 0))) := by rw [← eT37]; exact (am_up_n (by decide)).trans k413
  have k434 : T37 43 = (.inl (3, 576, .inl (fun _ => 0))) := by rw [← eT37]; exact (am_up_n (by decide)).trans k414
  have k435 : T37 44 = (.inl (0, 24, .inl (fun _ => 0))) := by rw [← eT37]; exact am_up_s
  refine am_putF (I := iX7_init) (pc := 156) (fs' := [.int 0, .int 0, .ref 26, .ref 27, .ref 28, .ref 29, .ref 30, .int 0, .ref 31, .ref 32, .ref 33, .ref 34, .int 0, .int 0, .int 0, .ref 35, .ref 36, .ref 37, .ref 38, .int 0, .int 0, .int 0, .ref 39, .int 0, .ref 40, .ref 41, .ref 42, .ref 43, .ref 44]) lf_X7_65 rfl dX7_init_156 k415 (fun _ => ⟨rfl, rfl⟩) (Nat.le_of_ble_eq_true rfl) rfl ?_
  show am_W _ _ _ _ _ _ _ _ _ _ _ _ _ _ _ 159 [some (.ref 25), none] [] (am_up T37 25 (.inr (7, [.int 0, .int 0, .ref 26, .ref 27, .ref 28, .ref 29, .ref 30, .int 0, .ref 31, .ref 32, .ref 33, .ref 34, .int 0, .int 0, .int 0, .ref 35, .ref 36, .ref 37, .ref 38, .int 0, .int 0, .int 0, .ref 39, .int 0, .ref 40, .ref 41, .ref 42, .ref 43, .ref 44])), 45) 19 17527
  generalize eT38 : am_up T37 25 (.inr (7, [.int 0, .int 0, .ref 26, .ref 27, .ref 28, .ref 29, .ref 30, .int 0, .ref 31, .ref 32, .ref 33, .ref 34, .int 0, .int 0, .int 0, .ref 35, .ref 36, .ref 37, .ref 38, .int 0, .int 0, .int 0, .ref 39, .int 0, .ref 40, .ref 41, .ref 42, .ref 43, .ref 44])) = T38
  have k436 : T38 25 = (.inr (7, [.int 0, .int 0, .ref 26, .ref 27, .ref 28, .ref 29, .ref 30, .int 0, .ref 31, .ref 32, .ref 33, .ref 34, .int 0, .int 0, .int 0, .ref 35, .ref 36, .ref 37, .ref 38, .int 0, .int 0, .int 0, .ref 39, .int 0, .ref 40, .ref 41, .ref 42, .ref 43, .ref 44])) := by rw [← eT38]; exact am_up_s
  have k437 : ∀ z : Nat, z < 25 → T38 z = h z := fun z q9 => by rw [← eT38]; exact (am_up_n (Nat.ne_of_lt (Nat.lt_of_lt_of_le q9 (by decide)))).trans (k416 z q9)
  have k438 : T38 26 = (.inl (0, 80, .inl (fun _ => 0))) := by rw [← eT38]; exact (am_up_n (by decide)).trans k417
  have k439 : T38 27 = (.inl (0, 50, .inl (fun _ => 0))) := by rw [← eT38]; exact (am_up_n (by decide)).trans k418
  have k440 : T38 28 = (.inl (0, 200, .inl (fun _ => 0))) := by rw [← eT38]; exact (am_up_n (by decide)).trans k419
  have k441 : T38 29 = (.inl (0, 16000, .inl (fun _ => 0))) := by rw [← eT38]; exact (am_up_n (by decide)).trans k420
  have k442 : T38 30 = (.inl (0, 5, .inl (fun _ => 0))) := by rw [← eT38]; exact (am_up_n (by decide)).trans k421
  have k443 : T38 31 = (.inl (0, 41, .inl (fun _ => 0))) := by rw [← eT38]; exact (am_up_n (by decide)).trans k422
  have k444 : T38 32 = (.inl (0, 41, .inl (fun _ => 0))) := by rw [← eT38]; exact (am_up_n (by decide)).trans k423
  have k445 : T38 33 = (.inl (0, 42, .inl (fun _ => 0))) := by rw [← eT38]; exact (am_up_n (by decide)).trans k424
  have k446 : T38 34 = (.inl (0, 42, .inl (fun _ => 0))) := by rw [← eT38]; exact (am_up_n (by decide)).trans k425
  have k447 : T38 35 = (.inl (0, 41, .inl (fun _ => 0))) := by rw [← eT38]; exact (am_up_n (by decide)).trans k426
  have k448 : T38 36 = (.inl (0, 41, .inl (fun _ => 0))) := by rw [← eT38]; exact (am_up_n (by decide)).trans k427
  have k449 : T38 37 = (.inl (0, 36, .inl (fun _ => 0))) := by rw [← eT38]; exact (am_up_n (by decide)).trans k428
  have k450 : T38 38 = (.inl (0, 180, .inl (fun _ => 0))) := by rw [← eT38]; exact (am_up_n (by decide)).trans k429
  have k451 : T38 39 = (.inl (0, 80, .inl (fun _ => 0))) := by rw [← eT38]; exact (am_up_n (by decide)).trans k430
  have k452 : T38 40 = (.inl (0, 16, .inl (fun _ => 0))) := by rw [← eT38]; exact (am_up_n (by decide)).trans k431
  have k453 : T38 41 = (.inl (0, 16, .inl (fun _ => 0))) := by rw [← eT38]; exact (am_up_n (by decide)).trans k432
  have k454 : T38 42 = (.inl (0, 16, .inl (fun _ => 0))) := by rw [← eT38]; exact (am_up_n (by decide)).trans k433
  have k455 : T38 43 = (.inl (3, 576, .inl (fun _ => 0))) := by rw [← eT38]; exact (am_up_n (by decide)).trans k434
  have k456 : T38 44 = (.inl (0, 24, .inl (fun _ => 0))) := by rw [← eT38]; exact (am_up_n (by decide)).trans k435
  refine am_iconst (I := iX7_init) (pc := 159) (x := 0) dX7_init_159 (by decide) ?_
  refine am_istore_n (I := iX7_init) (pc := 160) (L' := [some (.ref 25), some (.int 0)]) dX7_init_160 rfl (by decide) rfl ?_
  refine am_iload_n (I := iX7_init) (pc := 161) dX7_init_161 rfl rfl ?_
  refine am_iconst (I := iX7_init) (pc := 162) (x := 5) dX7_init_162 (by decide) ?_
  refine am_icmp_ge (I := iX7_init) (pc := 163) (tgt := 179) dX7_init_163 (by decide) (fun c163 => ?_) (fun c163 => ?_)
  · exact absurd c163 (by decide)
  · refine am_aload_n (I := iX7_init) (pc := 166) dX7_init_166 rfl rfl ?_
    refine am_getf (I := iX7_init) (pc := 167) lf_X7_22 dX7_init_167 k436 rfl ?_
    refine am_iload_n (I := iX7_init) (pc := 170) dX7_init_170 rfl rfl ?_
    refine am_iconst (I := iX7_init) (pc := 171) (x := (-1)) dX7_init_171 (by decide) ?_
    refine am_iastore (I := iX7_init) (pc := 172) dX7_init_172 k442 rfl (vp_in_nI (show 0 < 5 by decide) (by decide)) ?_
    show am_W _ _ _ _ _ _ _ _ _ _ _ _ _ _ _ 173 [some (.ref 25), some (.int 0)] [] (am_up T38 30 (.inl (0, 5, .inl (upd (fun _ => 0) (0 : Int32).toNatClampNeg (-1)))), 45) 19 17527
    generalize eT39 : am_up T38 30 (.inl (0, 5, .inl (upd (fun _ => 0) (0 : Int32).toNatClampNeg (-1)))) = T39
    have k457 : T39 25 = (.inr (7, [.int 0, .int 0, .ref 26, .ref 27, .ref 28, .ref 29, .ref 30, .int 0, .ref 31, .ref 32, .ref 33, .ref 34, .int 0, .int 0, .int 0, .ref 35, .ref 36, .ref 37, .ref 38, .int 0, .int 0, .int 0, .ref 39, .int 0, .ref 40, .ref 41, .ref 42, .ref 43, .ref 44])) := by rw [← eT39]; exact (am_up_n (by decide)).trans k436
    have k458 : ∀ z : Nat, z < 25 → T39 z = h z := fun z q9 => by rw [← eT39]; exact (am_up_n (Nat.ne_of_lt (Nat.lt_of_lt_of_le q9 (by decide)))).trans (k437 z q9)
    have k459 : T39 26 = (.inl (0, 80, .inl (fun _ => 0))) := by rw [← eT39]; exact (am_up_n (by decide)).trans k438
    have k460 : T39 27 = (.inl (0, 50, .inl (fun _ => 0))) := by rw [← eT39]; exact (am_up_n (by decide)).trans k439
    have k461 : T39 28 = (.inl (0, 200, .inl (fun _ => 0))) := by rw [← eT39]; exact (am_up_n (by decide)).trans k440
    have k462 : T39 29 = (.inl (0, 16000, .inl (fun _ => 0))) := by rw [← eT39]; exact (am_up_n (by decide)).trans k441
    have k463 : T39 30 = (.inl (0, 5, .inl (upd (fun _ => 0) (0 : Int32).toNatClampNeg (-1)))) := by rw [← eT39]; exact am_up_s
    have k464 : T39 31 = (.inl (0, 41, .inl (fun _ => 0))) := by rw [← eT39]; exact (am_up_n (by decide)).trans k443
    have k465 : T39 32 = (.inl (0, 41, .inl (fun _ => 0))) := by rw [← eT39]; exact (am_up_n (by decide)).trans k444
    have k466 : T39 33 = (.inl (0, 42, .inl (fun _ => 0))) := by rw [← eT39]; exact (am_up_n (by decide)).trans k445
    have k467 : T39 34 = (.inl (0, 42, .inl (fun _ => 0))) := by rw [← eT39]; exact (am_up_n (by decide)).trans k446
    have k468 : T39 35 = (.inl (0, 41, .inl (fun _ => 0))) := by rw [← eT39]; exact (am_up_n (by decide)).trans k447
    have k469 : T39 36 = (.inl (0, 41, .inl (fun _ => 0))) := by rw [← eT39]; exact (am_up_n (by decide)).trans k448
    have k470 : T39 37 = (.inl (0, 36, .inl (fun _ => 0))) := by rw [← eT39]; exact (am_up_n (by decide)).trans k449
    have k471 : T39 38 = (.inl (0, 180, .inl (fun _ => 0))) := by rw [← eT39]; exact (am_up_n (by decide)).trans k450
    have k472 : T39 39 = (.inl (0, 80, .inl (fun _ => 0))) := by rw [← eT39]; exact (am_up_n (by decide)).trans k451
    have k473 : T39 40 = (.inl (0, 16, .inl (fun _ => 0))) := by rw [← eT39]; exact (am_up_n (by decide)).trans k452
    have k474 : T39 41 = (.inl (0, 16, .inl (fun _ => 0))) := by rw [← eT39]; exact (am_up_n (by decide)).trans k453
    have k475 : T39 42 = (.inl (0, 16, .inl (fun _ => 0))) := by rw [← eT39]; exact (am_up_n (by decide)).trans k454
    have k476 : T39 43 = (.inl (3, 576, .inl (fun _ => 0))) := by rw [← eT39]; exact (am_up_n (by decide)).trans k455
    have k477 : T39 44 = (.inl (0, 24, .inl (fun _ => 0))) := by rw [← eT39]; exact (am_up_n (by decide)).trans k456
    refine am_iinc (I := iX7_init) (pc := 173) (y := 1) (L' := [some (.ref 25), some (.int 1)]) dX7_init_173 rfl (by decide) rfl ?_
    refine am_goto (I := iX7_init) (pc := 176) (tgt := 161) dX7_init_176 (by decide) ?_
    refine am_iload_n (I := iX7_init) (pc := 161) dX7_init_161 rfl rfl ?_
    refine am_iconst (I := iX7_init) (pc := 162) (x := 5) dX7_init_162 (by decide) ?_
    refine am_icmp_ge (I := iX7_init) (pc := 163) (tgt := 179) dX7_init_163 (by decide) (fun c163 => ?_) (fun c163 => ?_)
    · exact absurd c163 (by decide)
    · refine am_aload_n (I := iX7_init) (pc := 166) dX7_init_166 rfl rfl ?_
      refine am_getf (I := iX7_init) (pc := 167) lf_X7_22 dX7_init_167 k457 rfl ?_
      refine am_iload_n (I := iX7_init) (pc := 170) dX7_init_170 rfl rfl ?_
      refine am_iconst (I := iX7_init) (pc := 171) (x := (-1)) dX7_init_171 (by decide) ?_
      refine am_iastore (I := iX7_init) (pc := 172) dX7_init_172 k463 rfl (vp_in_nI (show 1 < 5 by decide) (by decide)) ?_
      show am_W _ _ _ _ _ _ _ _ _ _ _ _ _ _ _ 173 [some (.ref 25), some (.int 1)] [] (am_up T39 30 (.inl (0, 5, .inl (upd (upd (fun _ => 0) (0 : Int32).toNatClampNeg (-1)) (1 : Int32).toNatClampNeg (-1)))), 45) 19 17527
      generalize eT40 : am_up T39 30 (.inl (0, 5, .inl (upd (upd (fun _ => 0) (0 : Int32).toNatClampNeg (-1)) (1 : Int32).toNatClampNeg (-1)))) = T40
      have k478 : T40 25 = (.inr (7, [.int 0, .int 0, .ref 26, .ref 27, .ref 28, .ref 29, .ref 30, .int 0, .ref 31, .ref 32, .ref 33, .ref 34, .int 0, .int 0, .int 0, .ref 35, .ref 36, .ref 37, .ref 38, .int 0, .int 0, .int 0, .ref 39, .int 0, .ref 40, .ref 41, .ref 42, .ref 43, .ref 44])) := by rw [← eT40]; exact (am_up_n (by decide)).trans k457
      have k479 : ∀ z : Nat, z < 25 → T40 z = h z := fun z q9 => by rw [← eT40]; exact (am_up_n (Nat.ne_of_lt (Nat.lt_of_lt_of_le q9 (by decide)))).trans (k458 z q9)
      have k480 : T40 26 = (.inl (0, 80, .inl (fun _ => 0))) := by rw [← eT40]; exact (am_up_n (by decide)).trans k459
      have k481 : T40 27 = (.inl (0, 50, .inl (fun _ => 0))) := by rw [← eT40]; exact (am_up_n (by decide)).trans k460
      have k482 : T40 28 = (.inl (0, 200, .inl (fun _ => 0))) := by rw [← eT40]; exact (am_up_n (by decide)).trans k461
      have k483 : T40 29 = (.inl (0, 16000, .inl (fun _ => 0))) := by rw [← eT40]; exact (am_up_n (by decide)).trans k462
      have k484 : T40 30 = (.inl (0, 5, .inl (upd (upd (fun _ => 0) (0 : Int32).toNatClampNeg (-1)) (1 : Int32).toNatClampNeg (-1)))) := by rw [← eT40]; exact am_up_s
      have k485 : T40 31 = (.inl (0, 41, .inl (fun _ => 0))) := by rw [← eT40]; exact (am_up_n (by decide)).trans k464
      have k486 : T40 32 = (.inl (0, 41, .inl (fun _ => 0))) := by rw [← eT40]; exact (am_up_n (by decide)).trans k465
      have k487 : T40 33 = (.inl (0, 42, .inl (fun _ => 0))) := by rw [← eT40]; exact (am_up_n (by decide)).trans k466
      have k488 : T40 34 = (.inl (0, 42, .inl (fun _ => 0))) := by rw [← eT40]; exact (am_up_n (by decide)).trans k467
      have k489 : T40 35 = (.inl (0, 41, .inl (fun _ => 0))) := by rw [← eT40]; exact (am_up_n (by decide)).trans k468
      have k490 : T40 36 = (.inl (0, 41, .inl (fun _ => 0))) := by rw [← eT40]; exact (am_up_n (by decide)).trans k469
      have k491 : T40 37 = (.inl (0, 36, .inl (fun _ => 0))) := by rw [← eT40]; exact (am_up_n (by decide)).trans k470
      have k492 : T40 38 = (.inl (0, 180, .inl (fun _ => 0))) := by rw [← eT40]; exact (am_up_n (by decide)).trans k471
      have k493 : T40 39 = (.inl (0, 80, .inl (fun _ => 0))) := by rw [← eT40]; exact (am_up_n (by decide)).trans k472
      have k494 : T40 40 = (.inl (0, 16, .inl (fun _ => 0))) := by rw [← eT40]; exact (am_up_n (by decide)).trans k473
      have k495 : T40 41 = (.inl (0, 16, .inl (fun _ => 0))) := by rw [← eT40]; exact (am_up_n (by decide)).trans k474
      have k496 : T40 42 = (.inl (0, 16, .inl (fun _ => 0))) := by rw [← eT40]; exact (am_up_n (by decide)).trans k475
      have k497 : T40 43 = (.inl (3, 576, .inl (fun _ => 0))) := by rw [← eT40]; exact (am_up_n (by decide)).trans k476
      have k498 : T40 44 = (.inl (0, 24, .inl (fun _ => 0))) := by rw [← eT40]; exact (am_up_n (by decide)).trans k477
      refine am_iinc (I := iX7_init) (pc := 173) (y := 2) (L' := [some (.ref 25), some (.int 2)]) dX7_init_173 rfl (by decide) rfl ?_
      refine am_goto (I := iX7_init) (pc := 176) (tgt := 161) dX7_init_176 (by decide) ?_
      refine am_iload_n (I := iX7_init) (pc := 161) dX7_init_161 rfl rfl ?_
      refine am_iconst (I := iX7_init) (pc := 162) (x := 5) dX7_init_162 (by decide) ?_
      refine am_icmp_ge (I := iX7_init) (pc := 163) (tgt := 179) dX7_init_163 (by decide) (fun c163 => ?_) (fun c163 => ?_)
      · exact absurd c163 (by decide)
      · refine am_aload_n (I := iX7_init) (pc := 166) dX7_init_166 rfl rfl ?_
        refine am_getf (I := iX7_init) (pc := 167) lf_X7_22 dX7_init_167 k478 rfl ?_
        refine am_iload_n (I := iX7_init) (pc := 170) dX7_init_170 rfl rfl ?_
        refine am_iconst (I := iX7_init) (pc := 171) (x := (-1)) dX7_init_171 (by decide) ?_
        refine am_iastore (I := iX7_init) (pc := 172) dX7_init_172 k484 rfl (vp_in_nI (show 2 < 5 by decide) (by decide)) ?_
        show am_W _ _ _ _ _ _ _ _ _ _ _ _ _ _ _ 173 [some (.ref 25), some (.int 2)] [] (am_up T40 30 (.inl (0, 5, .inl (upd (upd (upd (fun _ => 0) (0 : Int32).toNatClampNeg (-1)) (1 : Int32).toNatClampNeg (-1)) (2 : Int32).toNatClampNeg (-1)))), 45) 19 17527
        generalize eT41 : am_up T40 30 (.inl (0, 5, .inl (upd (upd (upd (fun _ => 0) (0 : Int32).toNatClampNeg (-1)) (1 : Int32).toNatClampNeg (-1)) (2 : Int32).toNatClampNeg (-1)))) = T41
        have k499 : T41 25 = (.inr (7, [.int 0, .int 0, .ref 26, .ref 27, .ref 28, .ref 29, .ref 30, .int 0, .ref 31, .ref 32, .ref 33, .ref 34, .int 0, .int 0, .int 0, .ref 35, .ref 36, .ref 37, .ref 38, .int 0, .int 0, .int 0, .ref 39, .int 0, .ref 40, .ref 41, .ref 42, .ref 43, .ref 44])) := by rw [← eT41]; exact (am_up_n (by decide)).trans k478
        have k500 : ∀ z : Nat, z < 25 → T41 z = h z := fun z q9 => by rw [← eT41]; exact (am_up_n (Nat.ne_of_lt (Nat.lt_of_lt_of_le q9 (by decide)))).trans (k479 z q9)
        have k501 : T41 26 = (.inl (0, 80, .inl (fun _ => 0))) := by rw [← eT41]; exact (am_up_n (by decide)).trans k480
        have k502 : T41 27 = (.inl (0, 50, .inl (fun _ => 0))) := by rw [← eT41]; exact (am_up_n (by decide)).trans k481
        have k503 : T41 28 = (.inl (0, 200, .inl (fun _ => 0))) := by rw [← eT41]; exact (am_up_n (by decide)).trans k482
        have k504 : T41 29 = (.inl (0, 16000, .inl (fun _ => 0))) := by rw [← eT41]; exact (am_up_n (by decide)).trans k483
        have k505 : T41 30 = (.inl (0, 5, .inl (upd (upd (upd (fun _ => 0) (0 : Int32).toNatClampNeg (-1)) (1 : Int32).toNatClampNeg (-1)) (2 : Int32).toNatClampNeg (-1)))) := by rw [← eT41]; exact am_up_s
        have k506 : T41 31 = (.inl (0, 41, .inl (fun _ => 0))) := by rw [← eT41]; exact (am_up_n (by decide)).trans k485
        have k507 : T41 32 = (.inl (0, 41, .inl (fun _ => 0))) := by rw [← eT41]; exact (am_up_n (by decide)).trans k486
        have k508 : T41 33 = (.inl (0, 42, .inl (fun _ => 0))) := by rw [← eT41]; exact (am_up_n (by decide)).trans k487
        have k509 : T41 34 = (.inl (0, 42, .inl (fun _ => 0))) := by rw [← eT41]; exact (am_up_n (by decide)).trans k488
        have k510 : T41 35 = (.inl (0, 41, .inl (fun _ => 0))) := by rw [← eT41]; exact (am_up_n (by decide)).trans k489
        have k511 : T41 36 = (.inl (0, 41, .inl (fun _ => 0))) := by rw [← eT41]; exact (am_up_n (by decide)).trans k490
        have k512 : T41 37 = (.inl (0, 36, .inl (fun _ => 0))) := by rw [← eT41]; exact (am_up_n (by decide)).trans k491
        have k513 : T41 38 = (.inl (0, 180, .inl (fun _ => 0))) := by rw [← eT41]; exact (am_up_n (by decide)).trans k492
        have k514 : T41 39 = (.inl (0, 80, .inl (fun _ => 0))) := by rw [← eT41]; exact (am_up_n (by decide)).trans k493
        have k515 : T41 40 = (.inl (0, 16, .inl (fun _ => 0))) := by rw [← eT41]; exact (am_up_n (by decide)).trans k494
        have k516 : T41 41 = (.inl (0, 16, .inl (fun _ => 0))) := by rw [← eT41]; exact (am_up_n (by decide)).trans k495
        have k517 : T41 42 = (.inl (0, 16, .inl (fun _ => 0))) := by rw [← eT41]; exact (am_up_n (by decide)).trans k496
        have k518 : T41 43 = (.inl (3, 576, .inl (fun _ => 0))) := by rw [← eT41]; exact (am_up_n (by decide)).trans k497
        have k519 : T41 44 = (.inl (0, 24, .inl (fun _ => 0))) := by rw [← eT41]; exact (am_up_n (by decide)).trans k498
        refine am_iinc (I := iX7_init) (pc := 173) (y := 3) (L' := [some (.ref 25), some (.int 3)]) dX7_init_173 rfl (by decide) rfl ?_
        refine am_goto (I := iX7_init) (pc := 176) (tgt := 161) dX7_init_176 (by decide) ?_
        refine am_iload_n (I := iX7_init) (pc := 161) dX7_init_161 rfl rfl ?_
        refine am_iconst (I := iX7_init) (pc := 162) (x := 5) dX7_init_162 (by decide) ?_
        refine am_icmp_ge (I := iX7_init) (pc := 163) (tgt := 179) dX7_init_163 (by decide) (fun c163 => ?_) (fun c163 => ?_)
        · exact absurd c163 (by decide)
        · refine am_aload_n (I := iX7_init) (pc := 166) dX7_init_166 rfl rfl ?_
          refine am_getf (I := iX7_init) (pc := 167) lf_X7_22 dX7_init_167 k499 rfl ?_
          refine am_iload_n (I := iX7_init) (pc := 170) dX7_init_170 rfl rfl ?_
          refine am_iconst (I := iX7_init) (pc := 171) (x := (-1)) dX7_init_171 (by decide) ?_
          refine am_iastore (I := iX7_init) (pc := 172) dX7_init_172 k505 rfl (vp_in_nI (show 3 < 5 by decide) (by decide)) ?_
          show am_W _ _ _ _ _ _ _ _ _ _ _ _ _ _ _ 173 [some (.ref 25), some (.int 3)] [] (am_up T41 30 (.inl (0, 5, .inl (upd (upd (upd (upd (fun _ => 0) (0 : Int32).toNatClampNeg (-1)) (1 : Int32).toNatClampNeg (-1)) (2 : Int32).toNatClampNeg (-1)) (3 : Int32).toNatClampNeg (-1)))), 45) 19 17527
          generalize eT42 : am_up T41 30 (.inl (0, 5, .inl (upd (upd (upd (upd (fun _ => 0) (0 : Int32).toNatClampNeg (-1)) (1 : Int32).toNatClampNeg (-1)) (2 : Int32).toNatClampNeg (-1)) (3 : Int32).toNatClampNeg (-1)))) = T42
          have k520 : T42 25 = (.inr (7, [.int 0, .int 0, .ref 26, .ref 27, .ref 28, .ref 29, .ref 30, .int 0, .ref 31, .ref 32, .ref 33, .ref 34, .int 0, .int 0, .int 0, .ref 35, .ref 36, .ref 37, .ref 38, .int 0, .int 0, .int 0, .ref 39, .int 0, .ref 40, .ref 41, .ref 42, .ref 43, .ref 44])) := by rw [← eT42]; exact (am_up_n (by decide)).trans k499
          have k521 : ∀ z : Nat, z < 25 → T42 z = h z := fun z q9 => by rw [← eT42]; exact (am_up_n (Nat.ne_of_lt (Nat.lt_of_lt_of_le q9 (by decide)))).trans (k500 z q9)
          have k522 : T42 26 = (.inl (0, 80, .inl (fun _ => 0))) := by rw [← eT42]; exact (am_up_n (by decide)).trans k501
          have k523 : T42 27 = (.inl (0, 50, .inl (fun _ => 0))) := by rw [← eT42]; exact (am_up_n (by decide)).trans k502
          have k524 : T42 28 = (.inl (0, 200, .inl (fun _ => 0))) := by rw [← eT42]; exact (am_up_n (by decide)).trans k503
          have k525 : T42 29 = (.inl (0, 16000, .inl (fun _ => 0))) := by rw [← eT42]; exact (am_up_n (by decide)).trans k504
          have k526 : T42 30 = (.inl (0, 5, .inl (upd (upd (upd (upd (fun _ => 0) (0 : Int32).toNatClampNeg (-1)) (1 : Int32).toNatClampNeg (-1)) (2 : Int32).toNatClampNeg (-1)) (3 : Int32).toNatClampNeg (-1)))) := by rw [← eT42]; exact am_up_s
          have k527 : T42 31 = (.inl (0, 41, .inl (fun _ => 0))) := by rw [← eT42]; exact (am_up_n (by decide)).trans k506
          have k528 : T42 32 = (.inl (0, 41, .inl (fun _ => 0))) := by rw [← eT42]; exact (am_up_n (by decide)).trans k507
          have k529 : T42 33 = (.inl (0, 42, .inl (fun _ => 0))) := by rw [← eT42]; exact (am_up_n (by decide)).trans k508
          have k530 : T42 34 = (.inl (0, 42, .inl (fun _ => 0))) := by rw [← eT42]; exact (am_up_n (by decide)).trans k509
          have k531 : T42 35 = (.inl (0, 41, .inl (fun _ => 0))) := by rw [← eT42]; exact (am_up_n (by decide)).trans k510
          have k532 : T42 36 = (.inl (0, 41, .inl (fun _ => 0))) := by rw [← eT42]; exact (am_up_n (by decide)).trans k511
          have k533 : T42 37 = (.inl (0, 36, .inl (fun _ => 0))) := by rw [← eT42]; exact (am_up_n (by decide)).trans k512
          have k534 : T42 38 = (.inl (0, 180, .inl (fun _ => 0))) := by rw [← eT42]; exact (am_up_n (by decide)).trans k513
          have k535 : T42 39 = (.inl (0, 80, .inl (fun _ => 0))) := by rw [← eT42]; exact (am_up_n (by decide)).trans k514
          have k536 : T42 40 = (.inl (0, 16, .inl (fun _ => 0))) := by rw [← eT42]; exact (am_up_n (by decide)).trans k515
          have k537 : T42 41 = (.inl (0, 16, .inl (fun _ => 0))) := by rw [← eT42]; exact (am_up_n (by decide)).trans k516
          have k538 : T42 42 = (.inl (0, 16, .inl (fun _ => 0))) := by rw [← eT42]; exact (am_up_n (by decide)).trans k517
          have k539 : T42 43 = (.inl (3, 576, .inl (fun _ => 0))) := by rw [← eT42]; exact (am_up_n (by decide)).trans k518
          have k540 : T42 44 = (.inl (0, 24, .inl (fun _ => 0))) := by rw [← eT42]; exact (am_up_n (by decide)).trans k519
          refine am_iinc (I := iX7_init) (pc := 173) (y := 4) (L' := [some (.ref 25), some (.int 4)]) dX7_init_173 rfl (by decide) rfl ?_
          refine am_goto (I := iX7_init) (pc := 176) (tgt := 161) dX7_init_176 (by decide) ?_
          refine am_iload_n (I := iX7_init) (pc := 161) dX7_init_161 rfl rfl ?_
          refine am_iconst (I := iX7_init) (pc := 162) (x := 5) dX7_init_162 (by decide) ?_
          refine am_icmp_ge (I := iX7_init) (pc := 163) (tgt := 179) dX7_init_163 (by decide) (fun c163 => ?_) (fun c163 => ?_)
          · exact absurd c163 (by decide)
          · refine am_aload_n (I := iX7_init) (pc := 166) dX7_init_166 rfl rfl ?_
            refine am_getf (I := iX7_init) (pc := 167) lf_X7_22 dX7_init_167 k520 rfl ?_
            refine am_iload_n (I := iX7_init) (pc := 170) dX7_init_170 rfl rfl ?_
            refine am_iconst (I := iX7_init) (pc := 171) (x := (-1)) dX7_init_171 (by decide) ?_
            refine am_iastore (I := iX7_init) (pc := 172) dX7_init_172 k526 rfl (vp_in_nI (show 4 < 5 by decide) (by decide)) ?_
            show am_W _ _ _ _ _ _ _ _ _ _ _ _ _ _ _ 173 [some (.ref 25), some (.int 4)] [] (am_up T42 30 (.inl (0, 5, .inl (upd (upd (upd (upd (upd (fun _ => 0) (0 : Int32).toNatClampNeg (-1)) (1 : Int32).toNatClampNeg (-1)) (2 : Int32).toNatClampNeg (-1)) (3 : Int32).toNatClampNeg (-1)) (4 : Int32).toNatClampNeg (-1)))), 45) 19 17527
            generalize eT43 : am_up T42 30 (.inl (0, 5, .inl (upd (upd (upd (upd (upd (fun _ => 0) (0 : Int32).toNatClampNeg (-1)) (1 : Int32).toNatClampNeg (-1)) (2 : Int32).toNatClampNeg (-1)) (3 : Int32).toNatClampNeg (-1)) (4 : Int32).toNatClampNeg (-1)))) = T43
            have k541 : T43 25 = (.inr (7, [.int 0, .int 0, .ref 26, .ref 27, .ref 28, .ref 29, .ref 30, .int 0, .ref 31, .ref 32, .ref 33, .ref 34, .int 0, .int 0, .int 0, .ref 35, .ref 36, .ref 37, .ref 38, .int 0, .int 0, .int 0, .ref 39, .int 0, .ref 40, .ref 41, .ref 42, .ref 43, .ref 44])) := by rw [← eT43]; exact (am_up_n (by decide)).trans k520
            have k542 : ∀ z : Nat, z < 25 → T43 z = h z := fun z q9 => by rw [← eT43]; exact (am_up_n (Nat.ne_of_lt (Nat.lt_of_lt_of_le q9 (by decide)))).trans (k521 z q9)
            have k543 : T43 26 = (.inl (0, 80, .inl (fun _ => 0))) := by rw [← eT43]; exact (am_up_n (by decide)).trans k522
            have k544 : T43 27 = (.inl (0, 50, .inl (fun _ => 0))) := by rw [← eT43]; exact (am_up_n (by decide)).trans k523
            have k545 : T43 28 = (.inl (0, 200, .inl (fun _ => 0))) := by rw [← eT43]; exact (am_up_n (by decide)).trans k524
            have k546 : T43 29 = (.inl (0, 16000, .inl (fun _ => 0))) := by rw [← eT43]; exact (am_up_n (by decide)).trans k525
            have k547 : T43 30 = (.inl (0, 5, .inl (upd (upd (upd (upd (upd (fun _ => 0) (0 : Int32).toNatClampNeg (-1)) (1 : Int32).toNatClampNeg (-1)) (2 : Int32).toNatClampNeg (-1)) (3 : Int32).toNatClampNeg (-1)) (4 : Int32).toNatClampNeg (-1)))) := by rw [← eT43]; exact am_up_s
            have k548 : T43 31 = (.inl (0, 41, .inl (fun _ => 0))) := by rw [← eT43]; exact (am_up_n (by decide)).trans k527
            have k549 : T43 32 = (.inl (0, 41, .inl (fun _ => 0))) := by rw [← eT43]; exact (am_up_n (by decide)).trans k528
            have k550 : T43 33 = (.inl (0, 42, .inl (fun _ => 0))) := by rw [← eT43]; exact (am_up_n (by decide)).trans k529
            have k551 : T43 34 = (.inl (0, 42, .inl (fun _ => 0))) := by rw [← eT43]; exact (am_up_n (by decide)).trans k530
            have k552 : T43 35 = (.inl (0, 41, .inl (fun _ => 0))) := by rw [← eT43]; exact (am_up_n (by decide)).trans k531
            have k553 : T43 36 = (.inl (0, 41, .inl (fun _ => 0))) := by rw [← eT43]; exact (am_up_n (by decide)).trans k532
            have k554 : T43 37 = (.inl (0, 36, .inl (fun _ => 0))) := by rw [← eT43]; exact (am_up_n (by decide)).trans k533
            have k555 : T43 38 = (.inl (0, 180, .inl (fun _ => 0))) := by rw [← eT43]; exact (am_up_n (by decide)).trans k534
            have k556 : T43 39 = (.inl (0, 80, .inl (fun _ => 0))) := by rw [← eT43]; exact (am_up_n (by decide)).trans k535
            have k557 : T43 40 = (.inl (0, 16, .inl (fun _ => 0))) := by rw [← eT43]; exact (am_up_n (by decide)).trans k536
            have k558 : T43 41 = (.inl (0, 16, .inl (fun _ => 0))) := by rw [← eT43]; exact (am_up_n (by decide)).trans k537
            have k559 : T43 42 = (.inl (0, 16, .inl (fun _ => 0))) := by rw [← eT43]; exact (am_up_n (by decide)).trans k538
            have k560 : T43 43 = (.inl (3, 576, .inl (fun _ => 0))) := by rw [← eT43]; exact (am_up_n (by decide)).trans k539
            have k561 : T43 44 = (.inl (0, 24, .inl (fun _ => 0))) := by rw [← eT43]; exact (am_up_n (by decide)).trans k540
            refine am_iinc (I := iX7_init) (pc := 173) (y := 5) (L' := [some (.ref 25), some (.int 5)]) dX7_init_173 rfl (by decide) rfl ?_
            refine am_goto (I := iX7_init) (pc := 176) (tgt := 161) dX7_init_176 (by decide) ?_
            refine am_iload_n (I := iX7_init) (pc := 161) dX7_init_161 rfl rfl ?_
            refine am_iconst (I := iX7_init) (pc := 162) (x := 5) dX7_init_162 (by decide) ?_
            refine am_icmp_ge (I := iX7_init) (pc := 163) (tgt := 179) dX7_init_163 (by decide) (fun c163 => ?_) (fun c163 => ?_)
            · exact am_vret (I := iX7_init) (pc := 179) dX7_init_179 rfl (Nat.le_refl _) (Nat.le_refl _) (⟨rfl, rfl, k541, k543, k544, k545, k546, k547, k548, k549, k550, k551, k552, k553, k554, k555, k556, k557, k558, k559, k560, k561, k542⟩)
            · exact absurd c163 (by decide)
