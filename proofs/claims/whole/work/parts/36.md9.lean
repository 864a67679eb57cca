set_option maxRecDepth 100000 in
set_option maxHeartbeats 4000000 in
theorem q_back_x1 {K : am_K} {l : Launch} {S : am_S} {th pd wd ln sq st ct cl zn : Int32} {a26 a27 a28 a29 a30 a31 a32 a33 a34 a35 a36 a37 a38 a39 a40 a41 a42 a43 a44 : Nat → Int32}   : am_M K l iX7_back 1 0 0 [.ref 25] (mdS S th pd wd ln sq st ct cl 0 zn a26 a27 a28 a29 a30 a31 a32 a33 a34 a35 a36 a37 a38 a39 a40 a41 a42 a43 a44) (fun v S' => v = some (.int (0)) ∧ mdS S 1 pd wd ln sq st ct cl 0 zn a26 a27 a28 a29 a30 a31 a32 a33 a34 a35 a36 a37 a38 a39 a40 a41 a42 a43 a44 = S') (fun _ _ => False) := by
  refine am_body (by decide) rfl (by simp [Value.category]) (Nat.le_of_ble_eq_true rfl) (fun xp xe xs xm xa xb xt xc ad0 => ?_)
  show am_W _ _ _ _ _ _ _ _ _ _ _ _ _ _ _ 0 [some (.ref 25), none, none, none, none] [] (mdS S th pd wd ln sq st ct cl 0 zn a26 a27 a28 a29 a30 a31 a32 a33 a34 a35 a36 a37 a38 a39 a40 a41 a42 a43 a44) 0 0
  refine am_aload_n (I := iX7_back) (pc := 0) dX7_back_0 rfl rfl ?_
  refine am_aload_n (I := iX7_back) (pc := 1) dX7_back_1 rfl rfl ?_
  refine am_getf (I := iX7_back) (pc := 2) lf_X7_131 dX7_back_2 md_25 rfl ?_
  refine am_iconst (I := iX7_back) (pc := 5) (x := 1) dX7_back_5 (by decide) ?_
  refine am_callV (I := iX7_back) (pc := 6) (st := []) lv_X7_79 (q_goes1 _) dX7_back_6 md_25 rfl (Nat.le_of_ble_eq_true rfl) ⟨Nat.le_of_ble_eq_true rfl, Nat.le_of_ble_eq_true rfl⟩ (Nat.le_of_ble_eq_true rfl) (Nat.le_of_ble_eq_true rfl) rfl (fun v9 T9 z9 _ => ?_) (fun _ _ h9 => h9.elim)
  obtain ⟨rfl, rfl⟩ := z9
  show am_W _ _ _ _ _ _ _ _ _ _ _ _ _ _ _ 9 [some (.ref 25), none, none, none, none] [.int 0] (mdS S 1 pd wd ln sq st ct cl 0 zn a26 a27 a28 a29 a30 a31 a32 a33 a34 a35 a36 a37 a38 a39 a40 a41 a42 a43 a44) 0 0
  refine am_if_ne (I := iX7_back) (pc := 9) (tgt := 14) dX7_back_9 (by decide) (fun c9 => ?_) (fun c9 => ?_)
  · exact absurd rfl c9
  · refine am_iconst (I := iX7_back) (pc := 12) (x := 0) dX7_back_12 (by decide) ?_
    exact am_iret (I := iX7_back) (pc := 13) dX7_back_13 rfl (Nat.le_refl _) (Nat.le_refl _) (⟨rfl, rfl⟩)
theorem i27 {x : Int32} (h : x < 28) (h2 : ¬ x = 27) : ¬ 27 ≤ x := fun h3 => h2 (Int32.toInt_inj.mp (by
  have h4 := Int32.lt_iff_toInt_lt.mp h
  have h5 := Int32.le_iff_toInt_le.mp h3
  have e1 : (28 : Int32).toInt = 28 := by decide
  have e2 : (27 : Int32).toInt = 27 := by decide
  omega))
set_option maxRecDepth 100000 in
set_option maxHeartbeats 4000000 in
theorem q_back {K : am_K} {l : Launch} {S : am_S} {th pd wd ln sq st ct zn : Int32} {a26 a27 a28 a29 a30 a31 a32 a33 a34 a35 a36 a38 a39 a40 a41 a42 a43 a44 : Nat → Int32} (sz : Nat → Nat) (lt : Nat → Nat → Int32) (cm : Nat) (ck : Nat → Option Nat) (h5 : ∀ k, sz k ≤ 5) (hl : ∀ k i, k < 36 → i < sz k → a38 (k * 5 + i) = lt k i) (hcm : cm ≤ 80) (hck : ∀ k, k < cm → (ck k = none ∧ a39 k < 28) ∨ ∃ j, ck k = some j ∧ a39 k = nI (28 + j) ∧ j < 36 ∧ 0 < sz j) (h80 : rnn ck sz cm ≤ 80) : am_M K l iX7_back 1 0 0 [.ref 25] (mdS S th pd wd ln sq st ct (nI cm) 1 zn a26 a27 a28 a29 a30 a31 a32 a33 a34 a35 a36 (fun k => nI (sz k)) a38 a39 a40 a41 a42 a43 a44) (fun v S' => v = some (.int (nI (rnn ck sz cm))) ∧ mdS S 0 (nI (rnn ck sz cm)) wd ln sq st ct (nI cm) 1 zn (rff ck sz lt a39 a26 cm) a27 a28 a29 a30 a31 a32 a33 a34 a35 a36 (fun k => nI (sz k)) a38 a39 a40 a41 a42 a43 a44 = S') (fun _ _ => False) := by
  refine am_body (by decide) rfl (by simp [Value.category]) (Nat.le_of_ble_eq_true rfl) (fun xp xe xs xm xa xb xt xc ad0 => ?_)
  show am_W _ _ _ _ _ _ _ _ _ _ _ _ _ _ _ 0 [some (.ref 25), none, none, none, none] [] (mdS S th pd wd ln sq st ct (nI cm) 1 zn a26 a27 a28 a29 a30 a31 a32 a33 a34 a35 a36 (fun k => nI (sz k)) a38 a39 a40 a41 a42 a43 a44) 0 0
  refine am_aload_n (I := iX7_back) (pc := 0) dX7_back_0 rfl rfl ?_
  refine am_aload_n (I := iX7_back) (pc := 1) dX7_back_1 rfl rfl ?_
  refine am_getf (I := iX7_back) (pc := 2) lf_X7_131 dX7_back_2 md_25 rfl ?_
  refine am_iconst (I := iX7_back) (pc := 5) (x := 1) dX7_back_5 (by decide) ?_
  refine am_callV (I := iX7_back) (pc := 6) (st := []) lv_X7_79 (q_goes0) dX7_back_6 md_25 rfl (Nat.le_of_ble_eq_true rfl) ⟨Nat.le_of_ble_eq_true rfl, Nat.le_of_ble_eq_true rfl⟩ (Nat.le_of_ble_eq_true rfl) (Nat.le_of_ble_eq_true rfl) rfl (fun v9 T9 z9 _ => ?_) (fun _ _ h9 => h9.elim)
  obtain ⟨rfl, rfl⟩ := z9
  show am_W _ _ _ _ _ _ _ _ _ _ _ _ _ _ _ 9 [some (.ref 25), none, none, none, none] [.int 1] (mdS S 0 pd wd ln sq st ct (nI cm) 1 zn a26 a27 a28 a29 a30 a31 a32 a33 a34 a35 a36 (fun k => nI (sz k)) a38 a39 a40 a41 a42 a43 a44) 0 0
  refine am_if_ne (I := iX7_back) (pc := 9) (tgt := 14) dX7_back_9 (by decide) (fun c9 => ?_) (fun c9 => ?_)
  · refine am_aload_n (I := iX7_back) (pc := 14) dX7_back_14 rfl rfl ?_
    refine am_iconst (I := iX7_back) (pc := 15) (x := 0) dX7_back_15 (by decide) ?_
    refine am_putf (I := iX7_back) (pc := 16) (fs' := [.int 0, .int 0, .ref 26, .ref 27, .ref 28, .ref 29, .ref 30, .int wd, .ref 31, .ref 32, .ref 33, .ref 34, .int ln, .int sq, .int st, .ref 35, .ref 36, .ref 37, .ref 38, .int ct, .int (nI cm), .int 1, .ref 39, .int zn, .ref 40, .ref 41, .ref 42, .ref 43, .ref 44]) lf_X7_72 dX7_back_16 md_25 (fun _ => ⟨rfl, rfl⟩) (Nat.le_of_ble_eq_true rfl) rfl ?_
    refine am_same (S' := mdS S 0 0 wd ln sq st ct (nI cm) 1 zn a26 a27 a28 a29 a30 a31 a32 a33 a34 a35 a36 (fun k => nI (sz k)) a38 a39 a40 a41 a42 a43 a44) rfl rfl rfl mdS_25 rfl rfl ?_
    refine am_iconst (I := iX7_back) (pc := 19) (x := 0) dX7_back_19 (by decide) ?_
    refine am_istore_n (I := iX7_back) (pc := 20) (L' := [some (.ref 25), some (.int 0), none, none, none]) dX7_back_20 rfl (by decide) rfl ?_
    have loop21 : ∀ (k21 : Nat) (k : Nat), cm - k < k21 → (k ≤ cm) → am_W K iX7_back xp l xe (am_room 1 0 0) xs xm xa xb xt xc (mdS S th pd wd ln sq st ct (nI cm) 1 zn a26 a27 a28 a29 a30 a31 a32 a33 a34 a35 a36 (fun k => nI (sz k)) a38 a39 a40 a41 a42 a43 a44) ad0 (am_E K ad0 (mdS S th pd wd ln sq st ct (nI cm) 1 zn a26 a27 a28 a29 a30 a31 a32 a33 a34 a35 a36 (fun k => nI (sz k)) a38 a39 a40 a41 a42 a43 a44) (fun v S' => v = some (.int (nI (rnn ck sz cm))) ∧ mdS S 0 (nI (rnn ck sz cm)) wd ln sq st ct (nI cm) 1 zn (rff ck sz lt a39 a26 cm) a27 a28 a29 a30 a31 a32 a33 a34 a35 a36 (fun k => nI (sz k)) a38 a39 a40 a41 a42 a43 a44 = S') (fun _ _ => False) xb xa xs 0 0) 21 [some (.ref 25), some (.int (nI k)), none, none, none] [] (mdS S 0 (nI (rnn ck sz k)) wd ln sq st ct (nI cm) 1 zn (rff ck sz lt a39 a26 k) a27 a28 a29 a30 a31 a32 a33 a34 a35 a36 (fun k => nI (sz k)) a38 a39 a40 a41 a42 a43 a44) 0 0 := by
      intro k21
      induction k21 with
      | zero => intro k h9; exact absurd h9 (Nat.not_lt_zero _)
      | succ k21 ih21 =>
        intro k hm21 hk
        refine am_iload_n (I := iX7_back) (pc := 21) dX7_back_21 rfl rfl ?_
        refine am_aload_n (I := iX7_back) (pc := 22) dX7_back_22 rfl rfl ?_
        refine am_getf (I := iX7_back) (pc := 23) lf_X7_128 dX7_back_23 md_25 rfl ?_
        refine am_icmp_ge (I := iX7_back) (pc := 26) (tgt := 145) dX7_back_26 (by decide) (fun c26 => ?_) (fun c26 => ?_)
        · have g26 : cm ≤ k := by
            rcases Nat.lt_or_ge k cm with q9 | q9
            · exact absurd c26 (nI_ge (a := k) (b := cm) q9 (by omega))
            · exact q9
          refine am_aload_n (I := iX7_back) (pc := 145) dX7_back_145 rfl rfl ?_
          refine am_getf (I := iX7_back) (pc := 146) lf_X7_72 dX7_back_146 md_25 rfl ?_
          exact am_iret (I := iX7_back) (pc := 149) dX7_back_149 rfl (Nat.le_refl _) (Nat.le_refl _) (⟨by rw [show k = cm by omega], by rw [show k = cm by omega]⟩)
        · have l26 : k < cm := by
            rcases Nat.lt_or_ge k cm with q9 | q9
            · exact q9
            · exact absurd (nI_le (a := cm) (b := k) q9 (by omega)) c26
          refine am_aload_n (I := iX7_back) (pc := 29) dX7_back_29 rfl rfl ?_
          refine am_getf (I := iX7_back) (pc := 30) lf_X7_49 dX7_back_30 md_25 rfl ?_
          refine am_iload_n (I := iX7_back) (pc := 33) dX7_back_33 rfl rfl ?_
          refine am_iaload (I := iX7_back) (pc := 34) dX7_back_34 md_39 rfl (vp_in_nI (show k < 80 by omega) (by decide)) ?_
          rw [nI_clamp (show k < 2 ^ 31 by omega)]
          refine am_istore_n (I := iX7_back) (pc := 35) (L' := [some (.ref 25), some (.int (nI k)), some (.int (a39 k)), none, none]) dX7_back_35 rfl (by decide) rfl ?_
          rcases hck k l26 with ⟨hk1, hk2⟩ | ⟨j, hk1, hk2, hk3, hk4⟩
          · refine am_iload_n (I := iX7_back) (pc := 36) dX7_back_36 rfl rfl ?_
            refine am_bipush (I := iX7_back) (pc := 37) (x := 28) dX7_back_37 (by decide) ?_
            refine am_icmp_ge (I := iX7_back) (pc := 39) (tgt := 46) dX7_back_39 (by decide) (fun c39 => ?_) (fun c39 => ?_)
            · exact absurd hk2 (Int32.not_lt.mpr c39)
            · have hrl : rl ck sz k = 1 := by unfold rl; rw [hk1]
              have hrc : ∀ i, rcn ck lt a39 k i = os (a39 k) := fun i => by unfold rcn; rw [hk1]
              have hrn : rnn ck sz k + rl ck sz k ≤ 80 := Nat.le_trans (rnn_mono (i := k + 1) (j := cm) (by omega)) h80
              refine am_iconst (I := iX7_back) (pc := 42) (x := 1) dX7_back_42 (by decide) ?_
              refine am_goto (I := iX7_back) (pc := 43) (tgt := 55) dX7_back_43 (by decide) ?_
              refine am_istore_n (I := iX7_back) (pc := 55) (L' := [some (.ref 25), some (.int (nI k)), some (.int (a39 k)), some (.int 1), none]) dX7_back_55 rfl (by decide) rfl ?_
              refine am_iconst (I := iX7_back) (pc := 56) (x := 0) dX7_back_56 (by decide) ?_
              refine am_istore (I := iX7_back) (pc := 57) (L' := [some (.ref 25), some (.int (nI k)), some (.int (a39 k)), some (.int 1), some (.int 0)]) dX7_back_57 (by decide) rfl ?_
              have loop59 : ∀ (k59 : Nat) (i : Nat), rl ck sz k - i < k59 → (i ≤ rl ck sz k) → am_W K iX7_back xp l xe (am_room 1 0 0) xs xm xa xb xt xc (mdS S th pd wd ln sq st ct (nI cm) 1 zn a26 a27 a28 a29 a30 a31 a32 a33 a34 a35 a36 (fun k => nI (sz k)) a38 a39 a40 a41 a42 a43 a44) ad0 (am_E K ad0 (mdS S th pd wd ln sq st ct (nI cm) 1 zn a26 a27 a28 a29 a30 a31 a32 a33 a34 a35 a36 (fun k => nI (sz k)) a38 a39 a40 a41 a42 a43 a44) (fun v S' => v = some (.int (nI (rnn ck sz cm))) ∧ mdS S 0 (nI (rnn ck sz cm)) wd ln sq st ct (nI cm) 1 zn (rff ck sz lt a39 a26 cm) a27 a28 a29 a30 a31 a32 a33 a34 a35 a36 (fun k => nI (sz k)) a38 a39 a40 a41 a42 a43 a44 = S') (fun _ _ => False) xb xa xs 0 0) 59 [some (.ref 25), some (.int (nI k)), some (.int (a39 k)), some (.int (nI (rl ck sz k))), some (.int (nI i))] [] (mdS S 0 (nI (rnn ck sz k + i)) wd ln sq st ct (nI cm) 1 zn (rcat (rff ck sz lt a39 a26 k) (rnn ck sz k) (rcn ck lt a39 k) i) a27 a28 a29 a30 a31 a32 a33 a34 a35 a36 (fun k => nI (sz k)) a38 a39 a40 a41 a42 a43 a44) 0 0 := by
                intro k59
                induction k59 with
                | zero => intro i h9; exact absurd h9 (Nat.not_lt_zero _)
                | succ k59 ih59 =>
                  intro i hm59 hi
                  refine am_iload (I := iX7_back) (pc := 59) dX7_back_59 rfl ?_
                  refine am_iload_n (I := iX7_back) (pc := 61) dX7_back_61 rfl rfl ?_
                  refine am_icmp_ge (I := iX7_back) (pc := 62) (tgt := 139) dX7_back_62 (by decide) (fun c62 => ?_) (fun c62 => ?_)
                  · have g62 : rl ck sz k ≤ i := by
                      rcases Nat.lt_or_ge i (rl ck sz k) with q9 | q9
                      · exact absurd c62 (nI_ge (a := i) (b := rl ck sz k) q9 (by have := rnn_mono (ck := ck) (sz := sz) (i := k + 1) (j := cm) (by omega); omega))
                      · exact q9
                    refine am_forget 2 (am_forget 3 (am_forget 4 ?_))
                    refine am_iinc (I := iX7_back) (pc := 139) (y := ((nI k) + 1)) (L' := [some (.ref 25), some (.int ((nI k) + 1)), none, none, none]) dX7_back_139 rfl rfl rfl ?_
                    refine am_goto (I := iX7_back) (pc := 142) (tgt := 21) dX7_back_142 (by decide) ?_
                    exact am_same rfl (by rw [nI_1]) rfl (by rw [show i = rl ck sz k by omega]; rfl) rfl rfl (ih21 (k + 1) (by omega) (by omega))
                  · have l62 : i < rl ck sz k := by
                      rcases Nat.lt_or_ge i (rl ck sz k) with q9 | q9
                      · exact q9
                      · exact absurd (nI_le (a := rl ck sz k) (b := i) q9 (by have := rnn_mono (ck := ck) (sz := sz) (i := k + 1) (j := cm) (by omega); omega)) c62
                    refine am_aload_n (I := iX7_back) (pc := 65) dX7_back_65 rfl rfl ?_
                    refine am_getf (I := iX7_back) (pc := 66) lf_X7_7 dX7_back_66 md_25 rfl ?_
                    refine am_aload_n (I := iX7_back) (pc := 69) dX7_back_69 rfl rfl ?_
                    refine am_getf (I := iX7_back) (pc := 70) lf_X7_72 dX7_back_70 md_25 rfl ?_
                    refine am_iload_n (I := iX7_back) (pc := 73) dX7_back_73 rfl rfl ?_
                    refine am_if_ne (I := iX7_back) (pc := 74) (tgt := 82) dX7_back_74 (by decide) (fun c74 => ?_) (fun c74 => ?_)
                    · refine am_iload_n (I := iX7_back) (pc := 82) dX7_back_82 rfl rfl ?_
                      refine am_bipush (I := iX7_back) (pc := 83) (x := 27) dX7_back_83 (by decide) ?_
                      refine am_icmp_ne (I := iX7_back) (pc := 85) (tgt := 93) dX7_back_85 (by decide) (fun c85 => ?_) (fun c85 => ?_)
                      · refine am_iload_n (I := iX7_back) (pc := 93) dX7_back_93 rfl rfl ?_
                        refine am_bipush (I := iX7_back) (pc := 94) (x := 27) dX7_back_94 (by decide) ?_
                        refine am_icmp_ge (I := iX7_back) (pc := 96) (tgt := 108) dX7_back_96 (by decide) (fun c96 => ?_) (fun c96 => ?_)
                        · exact absurd c96 (i27 hk2 c85)
                        · refine am_bipush (I := iX7_back) (pc := 99) (x := 97) dX7_back_99 (by decide) ?_
                          refine am_iload_n (I := iX7_back) (pc := 101) dX7_back_101 rfl rfl ?_
                          refine am_iadd (I := iX7_back) (pc := 102) dX7_back_102 ?_
                          refine am_iconst (I := iX7_back) (pc := 103) (x := 1) dX7_back_103 (by decide) ?_
                          refine am_isub (I := iX7_back) (pc := 104) dX7_back_104 ?_
                          refine am_goto (I := iX7_back) (pc := 105) (tgt := 122) dX7_back_105 (by decide) ?_
                          refine am_iastore (I := iX7_back) (pc := 122) dX7_back_122 md_26 rfl (vp_in_nI (show rnn ck sz k + i < 80 by omega) (by decide)) ?_
                          rw [nI_clamp (show rnn ck sz k + i < 2 ^ 31 by omega)]
                          refine am_same (S' := mdS S 0 (nI (rnn ck sz k + i)) wd ln sq st ct (nI cm) 1 zn (upd (rcat (rff ck sz lt a39 a26 k) (rnn ck sz k) (rcn ck lt a39 k) i) (rnn ck sz k + i) ((97 + (a39 k)) - 1)) a27 a28 a29 a30 a31 a32 a33 a34 a35 a36 (fun k => nI (sz k)) a38 a39 a40 a41 a42 a43 a44) rfl rfl rfl mdS_26 rfl rfl ?_
                          refine am_aload_n (I := iX7_back) (pc := 123) dX7_back_123 rfl rfl ?_
                          refine am_dup (I := iX7_back) (pc := 124) dX7_back_124 rfl ?_
                          refine am_getf (I := iX7_back) (pc := 125) lf_X7_72 dX7_back_125 md_25 rfl ?_
                          refine am_iconst (I := iX7_back) (pc := 128) (x := 1) dX7_back_128 (by decide) ?_
                          refine am_iadd (I := iX7_back) (pc := 129) dX7_back_129 ?_
                          rw [nI_1]
                          refine am_putf (I := iX7_back) (pc := 130) (fs' := [.int 0, .int (nI (rnn ck sz k + i + 1)), .ref 26, .ref 27, .ref 28, .ref 29, .ref 30, .int wd, .ref 31, .ref 32, .ref 33, .ref 34, .int ln, .int sq, .int st, .ref 35, .ref 36, .ref 37, .ref 38, .int ct, .int (nI cm), .int 1, .ref 39, .int zn, .ref 40, .ref 41, .ref 42, .ref 43, .ref 44]) lf_X7_72 dX7_back_130 md_25 (fun _ => ⟨rfl, rfl⟩) (Nat.le_of_ble_eq_true rfl) rfl ?_
                          refine am_same (S' := mdS S 0 (nI (rnn ck sz k + i + 1)) wd ln sq st ct (nI cm) 1 zn (upd (rcat (rff ck sz lt a39 a26 k) (rnn ck sz k) (rcn ck lt a39 k) i) (rnn ck sz k + i) ((97 + (a39 k)) - 1)) a27 a28 a29 a30 a31 a32 a33 a34 a35 a36 (fun k => nI (sz k)) a38 a39 a40 a41 a42 a43 a44) rfl rfl rfl mdS_25 rfl rfl ?_
                          refine am_iinc (I := iX7_back) (pc := 133) (y := ((nI i) + 1)) (L' := [some (.ref 25), some (.int (nI k)), some (.int (a39 k)), some (.int (nI (rl ck sz k))), some (.int ((nI i) + 1))]) dX7_back_133 rfl rfl rfl ?_
                          refine am_goto (I := iX7_back) (pc := 136) (tgt := 59) dX7_back_136 (by decide) ?_
                          exact am_same rfl (by rw [nI_1]) rfl (by rw [← rcat_s, hrc, os, if_neg c74, if_neg c85]; rfl) rfl rfl (ih59 (i + 1) (by omega) (by omega))
                      · refine am_bipush (I := iX7_back) (pc := 88) (x := 46) dX7_back_88 (by decide) ?_
                        refine am_goto (I := iX7_back) (pc := 90) (tgt := 122) dX7_back_90 (by decide) ?_
                        refine am_iastore (I := iX7_back) (pc := 122) dX7_back_122 md_26 rfl (vp_in_nI (show rnn ck sz k + i < 80 by omega) (by decide)) ?_
                        rw [nI_clamp (show rnn ck sz k + i < 2 ^ 31 by omega)]
                        refine am_same (S' := mdS S 0 (nI (rnn ck sz k + i)) wd ln sq st ct (nI cm) 1 zn (upd (rcat (rff ck sz lt a39 a26 k) (rnn ck sz k) (rcn ck lt a39 k) i) (rnn ck sz k + i) 46) a27 a28 a29 a30 a31 a32 a33 a34 a35 a36 (fun k => nI (sz k)) a38 a39 a40 a41 a42 a43 a44) rfl rfl rfl mdS_26 rfl rfl ?_
                        refine am_aload_n (I := iX7_back) (pc := 123) dX7_back_123 rfl rfl ?_
                        refine am_dup (I := iX7_back) (pc := 124) dX7_back_124 rfl ?_
                        refine am_getf (I := iX7_back) (pc := 125) lf_X7_72 dX7_back_125 md_25 rfl ?_
                        refine am_iconst (I := iX7_back) (pc := 128) (x := 1) dX7_back_128 (by decide) ?_
                        refine am_iadd (I := iX7_back) (pc := 129) dX7_back_129 ?_
                        rw [nI_1]
                        refine am_putf (I := iX7_back) (pc := 130) (fs' := [.int 0, .int (nI (rnn ck sz k + i + 1)), .ref 26, .ref 27, .ref 28, .ref 29, .ref 30, .int wd, .ref 31, .ref 32, .ref 33, .ref 34, .int ln, .int sq, .int st, .ref 35, .ref 36, .ref 37, .ref 38, .int ct, .int (nI cm), .int 1, .ref 39, .int zn, .ref 40, .ref 41, .ref 42, .ref 43, .ref 44]) lf_X7_72 dX7_back_130 md_25 (fun _ => ⟨rfl, rfl⟩) (Nat.le_of_ble_eq_true rfl) rfl ?_
                        refine am_same (S' := mdS S 0 (nI (rnn ck sz k + i + 1)) wd ln sq st ct (nI cm) 1 zn (upd (rcat (rff ck sz lt a39 a26 k) (rnn ck sz k) (rcn ck lt a39 k) i) (rnn ck sz k + i) 46) a27 a28 a29 a30 a31 a32 a33 a34 a35 a36 (fun k => nI (sz k)) a38 a39 a40 a41 a42 a43 a44) rfl rfl rfl mdS_25 rfl rfl ?_
                        refine am_iinc (I := iX7_back) (pc := 133) (y := ((nI i) + 1)) (L' := [some (.ref 25), some (.int (nI k)), some (.int (a39 k)), some (.int (nI (rl ck sz k))), some (.int ((nI i) + 1))]) dX7_back_133 rfl rfl rfl ?_
                        refine am_goto (I := iX7_back) (pc := 136) (tgt := 59) dX7_back_136 (by decide) ?_
                        exact am_same rfl (by rw [nI_1]) rfl (by rw [← rcat_s, hrc, os, if_neg c74, if_pos c85]; rfl) rfl rfl (ih59 (i + 1) (by omega) (by omega))
                    · refine am_bipush (I := iX7_back) (pc := 77) (x := 32) dX7_back_77 (by decide) ?_
                      refine am_goto (I := iX7_back) (pc := 79) (tgt := 122) dX7_back_79 (by decide) ?_
                      refine am_iastore (I := iX7_back) (pc := 122) dX7_back_122 md_26 rfl (vp_in_nI (show rnn ck sz k + i < 80 by omega) (by decide)) ?_
                      rw [nI_clamp (show rnn ck sz k + i < 2 ^ 31 by omega)]
                      refine am_same (S' := mdS S 0 (nI (rnn ck sz k + i)) wd ln sq st ct (nI cm) 1 zn (upd (rcat (rff ck sz lt a39 a26 k) (rnn ck sz k) (rcn ck lt a39 k) i) (rnn ck sz k + i) 32) a27 a28 a29 a30 a31 a32 a33 a34 a35 a36 (fun k => nI (sz k)) a38 a39 a40 a41 a42 a43 a44) rfl rfl rfl mdS_26 rfl rfl ?_
                      refine am_aload_n (I := iX7_back) (pc := 123) dX7_back_123 rfl rfl ?_
                      refine am_dup (I := iX7_back) (pc := 124) dX7_back_124 rfl ?_
                      refine am_getf (I := iX7_back) (pc := 125) lf_X7_72 dX7_back_125 md_25 rfl ?_
                      refine am_iconst (I := iX7_back) (pc := 128) (x := 1) dX7_back_128 (by decide) ?_
                      refine am_iadd (I := iX7_back) (pc := 129) dX7_back_129 ?_
                      rw [nI_1]
                      refine am_putf (I := iX7_back) (pc := 130) (fs' := [.int 0, .int (nI (rnn ck sz k + i + 1)), .ref 26, .ref 27, .ref 28, .ref 29, .ref 30, .int wd, .ref 31, .ref 32, .ref 33, .ref 34, .int ln, .int sq, .int st, .ref 35, .ref 36, .ref 37, .ref 38, .int ct, .int (nI cm), .int 1, .ref 39, .int zn, .ref 40, .ref 41, .ref 42, .ref 43, .ref 44]) lf_X7_72 dX7_back_130 md_25 (fun _ => ⟨rfl, rfl⟩) (Nat.le_of_ble_eq_true rfl) rfl ?_
                      refine am_same (S' := mdS S 0 (nI (rnn ck sz k + i + 1)) wd ln sq st ct (nI cm) 1 zn (upd (rcat (rff ck sz lt a39 a26 k) (rnn ck sz k) (rcn ck lt a39 k) i) (rnn ck sz k + i) 32) a27 a28 a29 a30 a31 a32 a33 a34 a35 a36 (fun k => nI (sz k)) a38 a39 a40 a41 a42 a43 a44) rfl rfl rfl mdS_25 rfl rfl ?_
                      refine am_iinc (I := iX7_back) (pc := 133) (y := ((nI i) + 1)) (L' := [some (.ref 25), some (.int (nI k)), some (.int (a39 k)), some (.int (nI (rl ck sz k))), some (.int ((nI i) + 1))]) dX7_back_133 rfl rfl rfl ?_
                      refine am_goto (I := iX7_back) (pc := 136) (tgt := 59) dX7_back_136 (by decide) ?_
                      exact am_same rfl (by rw [nI_1]) rfl (by rw [← rcat_s, hrc, os, if_pos c74]; rfl) rfl rfl (ih59 (i + 1) (by omega) (by omega))
              exact am_same rfl (by rw [hrl]; rfl) rfl (by rw [rcat_0]; rfl) rfl rfl (loop59 _ 0 (Nat.lt_succ_self _) (Nat.zero_le _))
          · refine am_iload_n (I := iX7_back) (pc := 36) dX7_back_36 rfl rfl ?_
            refine am_bipush (I := iX7_back) (pc := 37) (x := 28) dX7_back_37 (by decide) ?_
            refine am_icmp_ge (I := iX7_back) (pc := 39) (tgt := 46) dX7_back_39 (by decide) (fun c39 => ?_) (fun c39 => ?_)
            · refine am_aload_n (I := iX7_back) (pc := 46) dX7_back_46 rfl rfl ?_
              refine am_getf (I := iX7_back) (pc := 47) lf_X7_43 dX7_back_47 md_25 rfl ?_
              have hrl : rl ck sz k = sz j := by unfold rl; rw [hk1]
              have hrc : ∀ i, rcn ck lt a39 k i = lt j i := fun i => by unfold rcn; rw [hk1]
              have hrn : rnn ck sz k + rl ck sz k ≤ 80 := Nat.le_trans (rnn_mono (i := k + 1) (j := cm) (by omega)) h80
              refine am_iload_n (I := iX7_back) (pc := 50) dX7_back_50 rfl rfl ?_
              refine am_bipush (I := iX7_back) (pc := 51) (x := 28) dX7_back_51 (by decide) ?_
              refine am_isub (I := iX7_back) (pc := 53) dX7_back_53 ?_
              have e28 : a39 k - 28 = nI j := by rw [hk2, ix28]
              rw [e28]
              refine am_iaload (I := iX7_back) (pc := 54) dX7_back_54 md_37 rfl (vp_in_nI (show j < 36 by omega) (by decide)) ?_
              rw [nI_clamp (show j < 2 ^ 31 by omega)]
              refine am_istore_n (I := iX7_back) (pc := 55) (L' := [some (.ref 25), some (.int (nI k)), some (.int (a39 k)), some (.int (nI (sz j))), none]) dX7_back_55 rfl (by decide) rfl ?_
              refine am_iconst (I := iX7_back) (pc := 56) (x := 0) dX7_back_56 (by decide) ?_
              refine am_istore (I := iX7_back) (pc := 57) (L' := [some (.ref 25), some (.int (nI k)), some (.int (a39 k)), some (.int (nI (sz j))), some (.int 0)]) dX7_back_57 (by decide) rfl ?_
              have loop59 : ∀ (k59 : Nat) (i : Nat), rl ck sz k - i < k59 → (i ≤ rl ck sz k) → am_W K iX7_back xp l xe (am_room 1 0 0) xs xm xa xb xt xc (mdS S th pd wd ln sq st ct (nI cm) 1 zn a26 a27 a28 a29 a30 a31 a32 a33 a34 a35 a36 (fun k => nI (sz k)) a38 a39 a40 a41 a42 a43 a44) ad0 (am_E K ad0 (mdS S th pd wd ln sq st ct (nI cm) 1 zn a26 a27 a28 a29 a30 a31 a32 a33 a34 a35 a36 (fun k => nI (sz k)) a38 a39 a40 a41 a42 a43 a44) (fun v S' => v = some (.int (nI (rnn ck sz cm))) ∧ mdS S 0 (nI (rnn ck sz cm)) wd ln sq st ct (nI cm) 1 zn (rff ck sz lt a39 a26 cm) a27 a28 a29 a30 a31 a32 a33 a34 a35 a36 (fun k => nI (sz k)) a38 a39 a40 a41 a42 a43 a44 = S') (fun _ _ => False) xb xa xs 0 0) 59 [some (.ref 25), some (.int (nI k)), some (.int (a39 k)), some (.int (nI (rl ck sz k))), some (.int (nI i))] [] (mdS S 0 (nI (rnn ck sz k + i)) wd ln sq st ct (nI cm) 1 zn (rcat (rff ck sz lt a39 a26 k) (rnn ck sz k) (rcn ck lt a39 k) i) a27 a28 a29 a30 a31 a32 a33 a34 a35 a36 (fun k => nI (sz k)) a38 a39 a40 a41 a42 a43 a44) 0 0 := by
                intro k59
                induction k59 with
                | zero => intro i h9; exact absurd h9 (Nat.not_lt_zero _)
                | succ k59 ih59 =>
                  intro i hm59 hi
                  refine am_iload (I := iX7_back) (pc := 59) dX7_back_59 rfl ?_
                  refine am_iload_n (I := iX7_back) (pc := 61) dX7_back_61 rfl rfl ?_
                  refine am_icmp_ge (I := iX7_back) (pc := 62) (tgt := 139) dX7_back_62 (by decide) (fun c62 => ?_) (fun c62 => ?_)
                  · have g62 : rl ck sz k ≤ i := by
                      rcases Nat.lt_or_ge i (rl ck sz k) with q9 | q9
                      · exact absurd c62 (nI_ge (a := i) (b := rl ck sz k) q9 (by have := rnn_mono (ck := ck) (sz := sz) (i := k + 1) (j := cm) (by omega); omega))
                      · exact q9
                    refine am_forget 2 (am_forget 3 (am_forget 4 ?_))
                    refine am_iinc (I := iX7_back) (pc := 139) (y := ((nI k) + 1)) (L' := [some (.ref 25), some (.int ((nI k) + 1)), none, none, none]) dX7_back_139 rfl rfl rfl ?_
                    refine am_goto (I := iX7_back) (pc := 142) (tgt := 21) dX7_back_142 (by decide) ?_
                    exact am_same rfl (by rw [nI_1]) rfl (by rw [show i = rl ck sz k by omega]; rfl) rfl rfl (ih21 (k + 1) (by omega) (by omega))
                  · have l62 : i < rl ck sz k := by
                      rcases Nat.lt_or_ge i (rl ck sz k) with q9 | q9
                      · exact q9
                      · exact absurd (nI_le (a := rl ck sz k) (b := i) q9 (by have := rnn_mono (ck := ck) (sz := sz) (i := k + 1) (j := cm) (by omega); omega)) c62
                    refine am_aload_n (I := iX7_back) (pc := 65) dX7_back_65 rfl rfl ?_
                    refine am_getf (I := iX7_back) (pc := 66) lf_X7_7 dX7_back_66 md_25 rfl ?_
                    refine am_aload_n (I := iX7_back) (pc := 69) dX7_back_69 rfl rfl ?_
                    refine am_getf (I := iX7_back) (pc := 70) lf_X7_72 dX7_back_70 md_25 rfl ?_
                    refine am_iload_n (I := iX7_back) (pc := 73) dX7_back_73 rfl rfl ?_
                    refine am_if_ne (I := iX7_back) (pc := 74) (tgt := 82) dX7_back_74 (by decide) (fun c74 => ?_) (fun c74 => ?_)
                    · refine am_iload_n (I := iX7_back) (pc := 82) dX7_back_82 rfl rfl ?_
                      refine am_bipush (I := iX7_back) (pc := 83) (x := 27) dX7_back_83 (by decide) ?_
                      refine am_icmp_ne (I := iX7_back) (pc := 85) (tgt := 93) dX7_back_85 (by decide) (fun c85 => ?_) (fun c85 => ?_)
                      · refine am_iload_n (I := iX7_back) (pc := 93) dX7_back_93 rfl rfl ?_
                        refine am_bipush (I := iX7_back) (pc := 94) (x := 27) dX7_back_94 (by decide) ?_
                        refine am_icmp_ge (I := iX7_back) (pc := 96) (tgt := 108) dX7_back_96 (by decide) (fun c96 => ?_) (fun c96 => ?_)
                        · refine am_aload_n (I := iX7_back) (pc := 108) dX7_back_108 rfl rfl ?_
                          refine am_getf (I := iX7_back) (pc := 109) lf_X7_46 dX7_back_109 md_25 rfl ?_
                          refine am_iconst (I := iX7_back) (pc := 112) (x := 5) dX7_back_112 (by decide) ?_
                          refine am_iload_n (I := iX7_back) (pc := 113) dX7_back_113 rfl rfl ?_
                          refine am_bipush (I := iX7_back) (pc := 114) (x := 28) dX7_back_114 (by decide) ?_
                          refine am_isub (I := iX7_back) (pc := 116) dX7_back_116 ?_
                          have e28 : a39 k - 28 = nI j := by rw [hk2, ix28]
                          rw [e28]
                          refine am_imul (I := iX7_back) (pc := 117) dX7_back_117 ?_
                          refine am_iload (I := iX7_back) (pc := 118) dX7_back_118 rfl ?_
                          refine am_iadd (I := iX7_back) (pc := 120) dX7_back_120 ?_
                          have h55 := h5 j
                          rw [ix5]
                          refine am_iaload (I := iX7_back) (pc := 121) dX7_back_121 md_38 rfl (vp_in_nI (show j * 5 + i < 180 by omega) (by decide)) ?_
                          refine am_same (st' := [.int (lt j i), .int (nI (rnn ck sz k + i)), .ref 26]) rfl rfl (by rw [nI_clamp (show j * 5 + i < 2 ^ 31 by omega), hl j i hk3 (by omega)]) rfl rfl rfl ?_
                          refine am_iastore (I := iX7_back) (pc := 122) dX7_back_122 md_26 rfl (vp_in_nI (show rnn ck sz k + i < 80 by omega) (by decide)) ?_
                          rw [nI_clamp (show rnn ck sz k + i < 2 ^ 31 by omega)]
                          refine am_same (S' := mdS S 0 (nI (rnn ck sz k + i)) wd ln sq st ct (nI cm) 1 zn (upd (rcat (rff ck sz lt a39 a26 k) (rnn ck sz k) (rcn ck lt a39 k) i) (rnn ck sz k + i) (lt j i)) a27 a28 a29 a30 a31 a32 a33 a34 a35 a36 (fun k => nI (sz k)) a38 a39 a40 a41 a42 a43 a44) rfl rfl rfl mdS_26 rfl rfl ?_
                          refine am_aload_n (I := iX7_back) (pc := 123) dX7_back_123 rfl rfl ?_
                          refine am_dup (I := iX7_back) (pc := 124) dX7_back_124 rfl ?_
                          refine am_getf (I := iX7_back) (pc := 125) lf_X7_72 dX7_back_125 md_25 rfl ?_
                          refine am_iconst (I := iX7_back) (pc := 128) (x := 1) dX7_back_128 (by decide) ?_
                          refine am_iadd (I := iX7_back) (pc := 129) dX7_back_129 ?_
                          rw [nI_1]
                          refine am_putf (I := iX7_back) (pc := 130) (fs' := [.int 0, .int (nI (rnn ck sz k + i + 1)), .ref 26, .ref 27, .ref 28, .ref 29, .ref 30, .int wd, .ref 31, .ref 32, .ref 33, .ref 34, .int ln, .int sq, .int st, .ref 35, .ref 36, .ref 37, .ref 38, .int ct, .int (nI cm), .int 1, .ref 39, .int zn, .ref 40, .ref 41, .ref 42, .ref 43, .ref 44]) lf_X7_72 dX7_back_130 md_25 (fun _ => ⟨rfl, rfl⟩) (Nat.le_of_ble_eq_true rfl) rfl ?_
                          refine am_same (S' := mdS S 0 (nI (rnn ck sz k + i + 1)) wd ln sq st ct (nI cm) 1 zn (upd (rcat (rff ck sz lt a39 a26 k) (rnn ck sz k) (rcn ck lt a39 k) i) (rnn ck sz k + i) (lt j i)) a27 a28 a29 a30 a31 a32 a33 a34 a35 a36 (fun k => nI (sz k)) a38 a39 a40 a41 a42 a43 a44) rfl rfl rfl mdS_25 rfl rfl ?_
                          refine am_iinc (I := iX7_back) (pc := 133) (y := ((nI i) + 1)) (L' := [some (.ref 25), some (.int (nI k)), some (.int (a39 k)), some (.int (nI (rl ck sz k))), some (.int ((nI i) + 1))]) dX7_back_133 rfl rfl rfl ?_
                          refine am_goto (I := iX7_back) (pc := 136) (tgt := 59) dX7_back_136 (by decide) ?_
                          exact am_same rfl (by rw [nI_1]) rfl (by rw [← rcat_s, hrc]; rfl) rfl rfl (ih59 (i + 1) (by omega) (by omega))
                        · exact absurd (show (27 : Int32) ≤ a39 k by rw [hk2]; exact nI_le (a := 27) (by omega) (by omega)) c96
                      · exact absurd c85 (by rw [hk2]; exact fun e9 => absurd ((nI_eq (b := 27) (by omega) (by decide)).mp e9) (by omega))
                    · exact absurd c74 (by rw [hk2]; exact nI_ne0 (by omega) (by omega))
              exact am_same rfl (by rw [hrl]; rfl) rfl (by rw [rcat_0]; rfl) rfl rfl (loop59 _ 0 (Nat.lt_succ_self _) (Nat.zero_le _))
            · exact absurd (show (28 : Int32) ≤ a39 k by rw [hk2]; exact nI_le (a := 28) (by omega) (by omega)) c39
    exact am_same rfl (by rfl) rfl (by rfl) rfl rfl (loop21 _ 0 (Nat.lt_succ_self _) (Nat.zero_le _))
  · exact absurd c9 (by decide)
def ptb (x y : Int32) : Bool := decide (-10000 ≤ x ∧ x ≤ 10000 ∧ -10000 ≤ y ∧ y ≤ 10000)
set_option maxRecDepth 100000 in
set_option maxHeartbeats 4000000 in
theorem q_isPoint {K : am_K} {l : Launch} {S : am_S} (x y : Int32)  : am_M K l iX7_isPoint 0 0 0 [.int x, .int y] S (fun v S' => v = some (.int (bI (ptb x y))) ∧ S = S') (fun _ _ => False) := by
  refine am_body (by decide) rfl (by simp [Value.category]) (Nat.le_of_ble_eq_true rfl) (fun xp xe xs xm xa xb xt xc ad0 => ?_)
  show am_W _ _ _ _ _ _ _ _ _ _ _ _ _ _ _ 0 [some (.int x), some (.int y)] [] S 0 0
  refine am_iload_n (I := iX7_isPoint) (pc := 0) dX7_isPoint_0 rfl rfl ?_
  refine am_sipush (I := iX7_isPoint) (pc := 1) (x := (-10000)) dX7_isPoint_1 (by decide) ?_
  refine am_icmp_lt (I := iX7_isPoint) (pc := 4) (tgt := 32) dX7_isPoint_4 (by decide) (fun c4 => ?_) (fun c4 => ?_)
  · refine am_iconst (I := iX7_isPoint) (pc := 32) (x := 0) dX7_isPoint_32 (by decide) ?_
    exact am_zret (I := iX7_isPoint) (pc := 33) dX7_isPoint_33 rfl (by decide) (Nat.le_refl _) (Nat.le_refl _) (⟨by rw [bI_f (show ptb x y = false from decide_eq_false (fun q => Int32.not_le.mpr c4 q.1))], rfl⟩)
  · refine am_iload_n (I := iX7_isPoint) (pc := 7) dX7_isPoint_7 rfl rfl ?_
    refine am_sipush (I := iX7_isPoint) (pc := 8) (x := 10000) dX7_isPoint_8 (by decide) ?_
    refine am_icmp_gt (I := iX7_isPoint) (pc := 11) (tgt := 32) dX7_isPoint_11 (by decide) (fun c11 => ?_) (fun c11 => ?_)
    · refine am_iconst (I := iX7_isPoint) (pc := 32) (x := 0) dX7_isPoint_32 (by decide) ?_
      exact am_zret (I := iX7_isPoint) (pc := 33) dX7_isPoint_33 rfl (by decide) (Nat.le_refl _) (Nat.le_refl _) (⟨by rw [bI_f (show ptb x y = false from decide_eq_false (fun q => Int32.not_le.mpr c11 q.2.1))], rfl⟩)
    · refine am_iload_n (I := iX7_isPoint) (pc := 14) dX7_isPoint_14 rfl rfl ?_
      refine am_sipush (I := iX7_isPoint) (pc := 15) (x := (-10000)) dX7_isPoint_15 (by decide) ?_
      refine am_icmp_lt (I := iX7_isPoint) (pc := 18) (tgt := 32) dX7_isPoint_18 (by decide) (fun c18 => ?_) (fun c18 => ?_)
      · refine am_iconst (I := iX7_isPoint) (pc := 32) (x := 0) dX7_isPoint_32 (by decide) ?_
        exact am_zret (I := iX7_isPoint) (pc := 33) dX7_isPoint_33 rfl (by decide) (Nat.le_refl _) (Nat.le_refl _) (⟨by rw [bI_f (show ptb x y = false from decide_eq_false (fun q => Int32.not_le.mpr c18 q.2.2.1))], rfl⟩)
      · refine am_iload_n (I := iX7_isPoint) (pc := 21) dX7_isPoint_21 rfl rfl ?_
        refine am_sipush (I := iX7_isPoint) (pc := 22) (x := 10000) dX7_isPoint_22 (by decide) ?_
        refine am_icmp_gt (I := iX7_isPoint) (pc := 25) (tgt := 32) dX7_isPoint_25 (by decide) (fun c25 => ?_) (fun c25 => ?_)
        · refine am_iconst (I := iX7_isPoint) (pc := 32) (x := 0) dX7_isPoint_32 (by decide) ?_
          exact am_zret (I := iX7_isPoint) (pc := 33) dX7_isPoint_33 rfl (by decide) (Nat.le_refl _) (Nat.le_refl _) (⟨by rw [bI_f (show ptb x y = false from decide_eq_false (fun q => Int32.not_le.mpr c25 q.2.2.2))], rfl⟩)
        · refine am_iconst (I := iX7_isPoint) (pc := 28) (x := 1) dX7_isPoint_28 (by decide) ?_
          refine am_goto (I := iX7_isPoint) (pc := 29) (tgt := 33) dX7_isPoint_29 (by decide) ?_
          exact am_zret (I := iX7_isPoint) (pc := 33) dX7_isPoint_33 rfl (by decide) (Nat.le_refl _) (Nat.le_refl _) (⟨by rw [bI_t (show ptb x y = true from decide_eq_true ⟨Int32.not_lt.mp c4, Int32.not_lt.mp c11, Int32.not_lt.mp c18, Int32.not_lt.mp c25⟩)], rfl⟩)
set_option maxRecDepth 100000 in
set_option maxHeartbeats 4000000 in
theorem q_isNearer {K : am_K} {l : Launch} {S : am_S} (x y r : Int32)  : am_M K l iX7_isNearer 0 0 0 [.int x, .int y, .int r] S (fun v S' => v = some (.int (bI (decide (x * x + y * y < r * r)))) ∧ S = S') (fun _ _ => False) := by
  refine am_body (by decide) rfl (by simp [Value.category]) (Nat.le_of_ble_eq_true rfl) (fun xp xe xs xm xa xb xt xc ad0 => ?_)
  show am_W _ _ _ _ _ _ _ _ _ _ _ _ _ _ _ 0 [some (.int x), some (.int y), some (.int r)] [] S 0 0
  refine am_iload_n (I := iX7_isNearer) (pc := 0) dX7_isNearer_0 rfl rfl ?_
  refine am_iload_n (I := iX7_isNearer) (pc := 1) dX7_isNearer_1 rfl rfl ?_
  refine am_imul (I := iX7_isNearer) (pc := 2) dX7_isNearer_2 ?_
  refine am_iload_n (I := iX7_isNearer) (pc := 3) dX7_isNearer_3 rfl rfl ?_
  refine am_iload_n (I := iX7_isNearer) (pc := 4) dX7_isNearer_4 rfl rfl ?_
  refine am_imul (I := iX7_isNearer) (pc := 5) dX7_isNearer_5 ?_
  refine am_iadd (I := iX7_isNearer) (pc := 6) dX7_isNearer_6 ?_
  refine am_iload_n (I := iX7_isNearer) (pc := 7) dX7_isNearer_7 rfl rfl ?_
  refine am_iload_n (I := iX7_isNearer) (pc := 8) dX7_isNearer_8 rfl rfl ?_
  refine am_imul (I := iX7_isNearer) (pc := 9) dX7_isNearer_9 ?_
  refine am_icmp_ge (I := iX7_isNearer) (pc := 10) (tgt := 17) dX7_isNearer_10 (by decide) (fun c10 => ?_) (fun c10 => ?_)
  · refine am_iconst (I := iX7_isNearer) (pc := 17) (x := 0) dX7_isNearer_17 (by decide) ?_
    exact am_zret (I := iX7_isNearer) (pc := 18) dX7_isNearer_18 rfl (by decide) (Nat.le_refl _) (Nat.le_refl _) (⟨by rw [bI_f (decide_eq_false (Int32.not_lt.mpr c10))], rfl⟩)
  · refine am_iconst (I := iX7_isNearer) (pc := 13) (x := 1) dX7_isNearer_13 (by decide) ?_
    refine am_goto (I := iX7_isNearer) (pc := 14) (tgt := 18) dX7_isNearer_14 (by decide) ?_
    exact am_zret (I := iX7_isNearer) (pc := 18) dX7_isNearer_18 rfl (by decide) (Nat.le_refl _) (Nat.le_refl _) (⟨by rw [bI_t (decide_eq_true (Int32.not_le.mp c10))], rfl⟩)
set_option maxRecDepth 100000 in
set_option maxHeartbeats 4000000 in
theorem q_zone_x1 {K : am_K} {l : Launch} {S : am_S} {th pd wd ln sq st ct cl ft : Int32} {a26 a27 a28 a29 a30 a31 a32 a33 a34 a35 a36 a37 a38 a39 a40 a41 a42 a43 a44 : Nat → Int32} (z : Nat) (x y w : Int32) (h16 : 16 ≤ z) (hz : z ≤ 16) : am_M K l iX7_zone 1 0 0 [.ref 25, .int x, .int y, .int w] (mdS S th pd wd ln sq st ct cl ft (nI z) a26 a27 a28 a29 a30 a31 a32 a33 a34 a35 a36 a37 a38 a39 a40 a41 a42 a43 a44) (fun v S' => v = some (.int (0)) ∧ mdS S 1 pd wd ln sq st ct cl ft (nI z) a26 a27 a28 a29 a30 a31 a32 a33 a34 a35 a36 a37 a38 a39 a40 a41 a42 a43 a44 = S') (fun _ _ => False) := by
  refine am_body (by decide) rfl (by simp [Value.category]) (Nat.le_of_ble_eq_true rfl) (fun xp xe xs xm xa xb xt xc ad0 => ?_)
  show am_W _ _ _ _ _ _ _ _ _ _ _ _ _ _ _ 0 [some (.ref 25), some (.int x), some (.int y), some (.int w), none] [] (mdS S th pd wd ln sq st ct cl ft (nI z) a26 a27 a28 a29 a30 a31 a32 a33 a34 a35 a36 a37 a38 a39 a40 a41 a42 a43 a44) 0 0
  refine am_aload_n (I := iX7_zone) (pc := 0) dX7_zone_0 rfl rfl ?_
  refine am_aload_n (I := iX7_zone) (pc := 1) dX7_zone_1 rfl rfl ?_
  refine am_getf (I := iX7_zone) (pc := 2) lf_X7_138 dX7_zone_2 md_25 rfl ?_
  refine am_bipush (I := iX7_zone) (pc := 5) (x := 16) dX7_zone_5 (by decide) ?_
  refine am_icmp_ge (I := iX7_zone) (pc := 7) (tgt := 14) dX7_zone_7 (by decide) (fun c7 => ?_) (fun c7 => ?_)
  · refine am_iconst (I := iX7_zone) (pc := 14) (x := 0) dX7_zone_14 (by decide) ?_
    refine am_iload_n (I := iX7_zone) (pc := 15) dX7_zone_15 rfl rfl ?_
    refine am_iload_n (I := iX7_zone) (pc := 16) dX7_zone_16 rfl rfl ?_
    refine am_callS (I := iX7_zone) (pc := 17) (st := [.int 0, .ref 25]) lv_X7_141 rfl (q_isPoint x y) dX7_zone_17 rfl (Nat.le_of_ble_eq_true rfl) ⟨Nat.le_of_ble_eq_true rfl, Nat.le_of_ble_eq_true rfl⟩ (Nat.le_of_ble_eq_true rfl) (Nat.le_of_ble_eq_true rfl) rfl (fun v9 T9 z9 _ => ?_) (fun _ _ h9 => h9.elim)
    obtain ⟨rfl, rfl⟩ := z9
    show am_W _ _ _ _ _ _ _ _ _ _ _ _ _ _ _ 20 [some (.ref 25), some (.int x), some (.int y), some (.int w), none] [.int (bI (ptb x y)), .int 0, .ref 25] (mdS S th pd wd ln sq st ct cl ft (nI z) a26 a27 a28 a29 a30 a31 a32 a33 a34 a35 a36 a37 a38 a39 a40 a41 a42 a43 a44) 0 0
    refine am_if_eq (I := iX7_zone) (pc := 20) (tgt := 39) dX7_zone_20 (by decide) (fun c20 => ?_) (fun c20 => ?_)
    · refine am_iconst (I := iX7_zone) (pc := 39) (x := 0) dX7_zone_39 (by decide) ?_
      refine am_callV (I := iX7_zone) (pc := 40) (st := []) lv_X7_79 (q_goes1 _) dX7_zone_40 md_25 rfl (Nat.le_of_ble_eq_true rfl) ⟨Nat.le_of_ble_eq_true rfl, Nat.le_of_ble_eq_true rfl⟩ (Nat.le_of_ble_eq_true rfl) (Nat.le_of_ble_eq_true rfl) rfl (fun v9 T9 z9 _ => ?_) (fun _ _ h9 => h9.elim)
      obtain ⟨rfl, rfl⟩ := z9
      show am_W _ _ _ _ _ _ _ _ _ _ _ _ _ _ _ 43 [some (.ref 25), some (.int x), some (.int y), some (.int w), none] [.int 0] (mdS S 1 pd wd ln sq st ct cl ft (nI z) a26 a27 a28 a29 a30 a31 a32 a33 a34 a35 a36 a37 a38 a39 a40 a41 a42 a43 a44) 0 0
      refine am_if_ne (I := iX7_zone) (pc := 43) (tgt := 48) dX7_zone_43 (by decide) (fun c43 => ?_) (fun c43 => ?_)
      · exact absurd rfl c43
      · refine am_iconst (I := iX7_zone) (pc := 46) (x := 0) dX7_zone_46 (by decide) ?_
        exact am_iret (I := iX7_zone) (pc := 47) dX7_zone_47 rfl (Nat.le_refl _) (Nat.le_refl _) (⟨rfl, rfl⟩)
    · refine am_iload_n (I := iX7_zone) (pc := 23) dX7_zone_23 rfl rfl ?_
      refine am_iconst (I := iX7_zone) (pc := 24) (x := 1) dX7_zone_24 (by decide) ?_
      refine am_icmp_lt (I := iX7_zone) (pc := 25) (tgt := 39) dX7_zone_25 (by decide) (fun c25 => ?_) (fun c25 => ?_)
      · refine am_iconst (I := iX7_zone) (pc := 39) (x := 0) dX7_zone_39 (by decide) ?_
        refine am_callV (I := iX7_zone) (pc := 40) (st := []) lv_X7_79 (q_goes1 _) dX7_zone_40 md_25 rfl (Nat.le_of_ble_eq_true rfl) ⟨Nat.le_of_ble_eq_true rfl, Nat.le_of_ble_eq_true rfl⟩ (Nat.le_of_ble_eq_true rfl) (Nat.le_of_ble_eq_true rfl) rfl (fun v9 T9 z9 _ => ?_) (fun _ _ h9 => h9.elim)
        obtain ⟨rfl, rfl⟩ := z9
        show am_W _ _ _ _ _ _ _ _ _ _ _ _ _ _ _ 43 [some (.ref 25), some (.int x), some (.int y), some (.int w), none] [.int 0] (mdS S 1 pd wd ln sq st ct cl ft (nI z) a26 a27 a28 a29 a30 a31 a32 a33 a34 a35 a36 a37 a38 a39 a40 a41 a42 a43 a44) 0 0
        refine am_if_ne (I := iX7_zone) (pc := 43) (tgt := 48) dX7_zone_43 (by decide) (fun c43 => ?_) (fun c43 => ?_)
        · exact absurd rfl c43
        · refine am_iconst (I := iX7_zone) (pc := 46) (x := 0) dX7_zone_46 (by decide) ?_
          exact am_iret (I := iX7_zone) (pc := 47) dX7_zone_47 rfl (Nat.le_refl _) (Nat.le_refl _) (⟨rfl, rfl⟩)
      · refine am_iload_n (I := iX7_zone) (pc := 28) dX7_zone_28 rfl rfl ?_
        refine am_sipush (I := iX7_zone) (pc := 29) (x := 10000) dX7_zone_29 (by decide) ?_
        refine am_icmp_gt (I := iX7_zone) (pc := 32) (tgt := 39) dX7_zone_32 (by decide) (fun c32 => ?_) (fun c32 => ?_)
        · refine am_iconst (I := iX7_zone) (pc := 39) (x := 0) dX7_zone_39 (by decide) ?_
          refine am_callV (I := iX7_zone) (pc := 40) (st := []) lv_X7_79 (q_goes1 _) dX7_zone_40 md_25 rfl (Nat.le_of_ble_eq_true rfl) ⟨Nat.le_of_ble_eq_true rfl, Nat.le_of_ble_eq_true rfl⟩ (Nat.le_of_ble_eq_true rfl) (Nat.le_of_ble_eq_true rfl) rfl (fun v9 T9 z9 _ => ?_) (fun _ _ h9 => h9.elim)
          obtain ⟨rfl, rfl⟩ := z9
          show am_W _ _ _ _ _ _ _ _ _ _ _ _ _ _ _ 43 [some (.ref 25), some (.int x), some (.int y), some (.int w), none] [.int 0] (mdS S 1 pd wd ln sq st ct cl ft (nI z) a26 a27 a28 a29 a30 a31 a32 a33 a34 a35 a36 a37 a38 a39 a40 a41 a42 a43 a44) 0 0
          refine am_if_ne (I := iX7_zone) (pc := 43) (tgt := 48) dX7_zone_43 (by decide) (fun c43 => ?_) (fun c43 => ?_)
          · exact absurd rfl c43
          · refine am_iconst (I := iX7_zone) (pc := 46) (x := 0) dX7_zone_46 (by decide) ?_
            exact am_iret (I := iX7_zone) (pc := 47) dX7_zone_47 rfl (Nat.le_refl _) (Nat.le_refl _) (⟨rfl, rfl⟩)
        · refine am_iconst (I := iX7_zone) (pc := 35) (x := 1) dX7_zone_35 (by decide) ?_
          refine am_goto (I := iX7_zone) (pc := 36) (tgt := 40) dX7_zone_36 (by decide) ?_
          refine am_callV (I := iX7_zone) (pc := 40) (st := []) lv_X7_79 (q_goes1 _) dX7_zone_40 md_25 rfl (Nat.le_of_ble_eq_true rfl) ⟨Nat.le_of_ble_eq_true rfl, Nat.le_of_ble_eq_true rfl⟩ (Nat.le_of_ble_eq_true rfl) (Nat.le_of_ble_eq_true rfl) rfl (fun v9 T9 z9 _ => ?_) (fun _ _ h9 => h9.elim)
          obtain ⟨rfl, rfl⟩ := z9
          show am_W _ _ _ _ _ _ _ _ _ _ _ _ _ _ _ 43 [some (.ref 25), some (.int x), some (.int y), some (.int w), none] [.int 0] (mdS S 1 pd wd ln sq st ct cl ft (nI z) a26 a27 a28 a29 a30 a31 a32 a33 a34 a35 a36 a37 a38 a39 a40 a41 a42 a43 a44) 0 0
          refine am_if_ne (I := iX7_zone) (pc := 43) (tgt := 48) dX7_zone_43 (by decide) (fun c43 => ?_) (fun c43 => ?_)
          · exact absurd rfl c43
          · refine am_iconst (I := iX7_zone) (pc := 46) (x := 0) dX7_zone_46 (by decide) ?_
            exact am_iret (I := iX7_zone) (pc := 47) dX7_zone_47 rfl (Nat.le_refl _) (Nat.le_refl _) (⟨rfl, rfl⟩)
  · exact absurd (nI_le (a := 16) h16 (by omega)) c7
set_option maxRecDepth 100000 in
set_option maxHeartbeats 4000000 in
theorem q_zone_x2 {K : am_K} {l : Launch} {S : am_S} {th pd wd ln sq st ct cl ft : Int32} {a26 a27 a28 a29 a30 a31 a32 a33 a34 a35 a36 a37 a38 a39 a40 a41 a42 a43 a44 : Nat → Int32} (z : Nat) (x y w : Int32) (h16 : z < 16) (hb : ¬ (-10000 ≤ x ∧ x ≤ 10000 ∧ -10000 ≤ y ∧ y ≤ 10000) ∨ w < 1 ∨ 10000 < w) : am_M K l iX7_zone 1 0 0 [.ref 25, .int x, .int y, .int w] (mdS S th pd wd ln sq st ct cl ft (nI z) a26 a27 a28 a29 a30 a31 a32 a33 a34 a35 a36 a37 a38 a39 a40 a41 a42 a43 a44) (fun v S' => v = some (.int (0)) ∧ mdS S 2 pd wd ln sq st ct cl ft (nI z) a26 a27 a28 a29 a30 a31 a32 a33 a34 a35 a36 a37 a38 a39 a40 a41 a42 a43 a44 = S') (fun _ _ => False) := by
  refine am_body (by decide) rfl (by simp [Value.category]) (Nat.le_of_ble_eq_true rfl) (fun xp xe xs xm xa xb xt xc ad0 => ?_)
  show am_W _ _ _ _ _ _ _ _ _ _ _ _ _ _ _ 0 [some (.ref 25), some (.int x), some (.int y), some (.int w), none] [] (mdS S th pd wd ln sq st ct cl ft (nI z) a26 a27 a28 a29 a30 a31 a32 a33 a34 a35 a36 a37 a38 a39 a40 a41 a42 a43 a44) 0 0
  refine am_aload_n (I := iX7_zone) (pc := 0) dX7_zone_0 rfl rfl ?_
  refine am_aload_n (I := iX7_zone) (pc := 1) dX7_zone_1 rfl rfl ?_
  refine am_getf (I := iX7_zone) (pc := 2) lf_X7_138 dX7_zone_2 md_25 rfl ?_
  refine am_bipush (I := iX7_zone) (pc := 5) (x := 16) dX7_zone_5 (by decide) ?_
  refine am_icmp_ge (I := iX7_zone) (pc := 7) (tgt := 14) dX7_zone_7 (by decide) (fun c7 => ?_) (fun c7 => ?_)
  · exact absurd c7 (nI_ge (b := 16) h16 (by decide))
  · refine am_iconst (I := iX7_zone) (pc := 10) (x := 1) dX7_zone_10 (by decide) ?_
    refine am_goto (I := iX7_zone) (pc := 11) (tgt := 15) dX7_zone_11 (by decide) ?_
    refine am_iload_n (I := iX7_zone) (pc := 15) dX7_zone_15 rfl rfl ?_
    refine am_iload_n (I := iX7_zone) (pc := 16) dX7_zone_16 rfl rfl ?_
    refine am_callS (I := iX7_zone) (pc := 17) (st := [.int 1, .ref 25]) lv_X7_141 rfl (q_isPoint x y) dX7_zone_17 rfl (Nat.le_of_ble_eq_true rfl) ⟨Nat.le_of_ble_eq_true rfl, Nat.le_of_ble_eq_true rfl⟩ (Nat.le_of_ble_eq_true rfl) (Nat.le_of_ble_eq_true rfl) rfl (fun v9 T9 z9 _ => ?_) (fun _ _ h9 => h9.elim)
    obtain ⟨rfl, rfl⟩ := z9
    show am_W _ _ _ _ _ _ _ _ _ _ _ _ _ _ _ 20 [some (.ref 25), some (.int x), some (.int y), some (.int w), none] [.int (bI (ptb x y)), .int 1, .ref 25] (mdS S th pd wd ln sq st ct cl ft (nI z) a26 a27 a28 a29 a30 a31 a32 a33 a34 a35 a36 a37 a38 a39 a40 a41 a42 a43 a44) 0 0
    refine am_if_eq (I := iX7_zone) (pc := 20) (tgt := 39) dX7_zone_20 (by decide) (fun c20 => ?_) (fun c20 => ?_)
    · refine am_iconst (I := iX7_zone) (pc := 39) (x := 0) dX7_zone_39 (by decide) ?_
      refine am_callV (I := iX7_zone) (pc := 40) (st := []) lv_X7_79 (q_goes2) dX7_zone_40 md_25 rfl (Nat.le_of_ble_eq_true rfl) ⟨Nat.le_of_ble_eq_true rfl, Nat.le_of_ble_eq_true rfl⟩ (Nat.le_of_ble_eq_true rfl) (Nat.le_of_ble_eq_true rfl) rfl (fun v9 T9 z9 _ => ?_) (fun _ _ h9 => h9.elim)
      obtain ⟨rfl, rfl⟩ := z9
      show am_W _ _ _ _ _ _ _ _ _ _ _ _ _ _ _ 43 [some (.ref 25), some (.int x), some (.int y), some (.int w), none] [.int 0] (mdS S 2 pd wd ln sq st ct cl ft (nI z) a26 a27 a28 a29 a30 a31 a32 a33 a34 a35 a36 a37 a38 a39 a40 a41 a42 a43 a44) 0 0
      refine am_if_ne (I := iX7_zone) (pc := 43) (tgt := 48) dX7_zone_43 (by decide) (fun c43 => ?_) (fun c43 => ?_)
      · exact absurd rfl c43
      · refine am_iconst (I := iX7_zone) (pc := 46) (x := 0) dX7_zone_46 (by decide) ?_
        exact am_iret (I := iX7_zone) (pc := 47) dX7_zone_47 rfl (Nat.le_refl _) (Nat.le_refl _) (⟨rfl, rfl⟩)
    · refine am_iload_n (I := iX7_zone) (pc := 23) dX7_zone_23 rfl rfl ?_
      refine am_iconst (I := iX7_zone) (pc := 24) (x := 1) dX7_zone_24 (by decide) ?_
      refine am_icmp_lt (I := iX7_zone) (pc := 25) (tgt := 39) dX7_zone_25 (by decide) (fun c25 => ?_) (fun c25 => ?_)
      · refine am_iconst (I := iX7_zone) (pc := 39) (x := 0) dX7_zone_39 (by decide) ?_
        refine am_callV (I := iX7_zone) (pc := 40) (st := []) lv_X7_79 (q_goes2) dX7_zone_40 md_25 rfl (Nat.le_of_ble_eq_true rfl) ⟨Nat.le_of_ble_eq_true rfl, Nat.le_of_ble_eq_true rfl⟩ (Nat.le_of_ble_eq_true rfl) (Nat.le_of_ble_eq_true rfl) rfl (fun v9 T9 z9 _ => ?_) (fun _ _ h9 => h9.elim)
        obtain ⟨rfl, rfl⟩ := z9
        show am_W _ _ _ _ _ _ _ _ _ _ _ _ _ _ _ 43 [some (.ref 25), some (.int x), some (.int y), some (.int w), none] [.int 0] (mdS S 2 pd wd ln sq st ct cl ft (nI z) a26 a27 a28 a29 a30 a31 a32 a33 a34 a35 a36 a37 a38 a39 a40 a41 a42 a43 a44) 0 0
        refine am_if_ne (I := iX7_zone) (pc := 43) (tgt := 48) dX7_zone_43 (by decide) (fun c43 => ?_) (fun c43 => ?_)
        · exact absurd rfl c43
        · refine am_iconst (I := iX7_zone) (pc := 46) (x := 0) dX7_zone_46 (by decide) ?_
          exact am_iret (I := iX7_zone) (pc := 47) dX7_zone_47 rfl (Nat.le_refl _) (Nat.le_refl _) (⟨rfl, rfl⟩)
      · refine am_iload_n (I := iX7_zone) (pc := 28) dX7_zone_28 rfl rfl ?_
        refine am_sipush (I := iX7_zone) (pc := 29) (x := 10000) dX7_zone_29 (by decide) ?_
        refine am_icmp_gt (I := iX7_zone) (pc := 32) (tgt := 39) dX7_zone_32 (by decide) (fun c32 => ?_) (fun c32 => ?_)
        · refine am_iconst (I := iX7_zone) (pc := 39) (x := 0) dX7_zone_39 (by decide) ?_
          refine am_callV (I := iX7_zone) (pc := 40) (st := []) lv_X7_79 (q_goes2) dX7_zone_40 md_25 rfl (Nat.le_of_ble_eq_true rfl) ⟨Nat.le_of_ble_eq_true rfl, Nat.le_of_ble_eq_true rfl⟩ (Nat.le_of_ble_eq_true rfl) (Nat.le_of_ble_eq_true rfl) rfl (fun v9 T9 z9 _ => ?_) (fun _ _ h9 => h9.elim)
          obtain ⟨rfl, rfl⟩ := z9
          show am_W _ _ _ _ _ _ _ _ _ _ _ _ _ _ _ 43 [some (.ref 25), some (.int x), some (.int y), some (.int w), none] [.int 0] (mdS S 2 pd wd ln sq st ct cl ft (nI z) a26 a27 a28 a29 a30 a31 a32 a33 a34 a35 a36 a37 a38 a39 a40 a41 a42 a43 a44) 0 0
          refine am_if_ne (I := iX7_zone) (pc := 43) (tgt := 48) dX7_zone_43 (by decide) (fun c43 => ?_) (fun c43 => ?_)
          · exact absurd rfl c43
          · refine am_iconst (I := iX7_zone) (pc := 46) (x := 0) dX7_zone_46 (by decide) ?_
            exact am_iret (I := iX7_zone) (pc := 47) dX7_zone_47 rfl (Nat.le_refl _) (Nat.le_refl _) (⟨rfl, rfl⟩)
        · exact absurd hb (fun q => q.elim (fun q => q (of_decide_eq_true (bI_1 c20))) (fun q => q.elim c25 c32))
theorem zov_eq {fx fy fr : Nat → Int32} {x y w : Int32} {i : Nat} : decide ((x - fx i) * (x - fx i) + (y - fy i) * (y - fy i) < (w + fr i) * (w + fr i)) = zov fx fy fr x y w i := by
  unfold zov zsq
  rw [show (x - fx i) * (x - fx i) = (fx i - x) * (fx i - x) by grind, show (y - fy i) * (y - fy i) = (fy i - y) * (fy i - y) by grind, Int32.add_comm w]
theorem zin_eq {fx fy fr : Nat → Int32} {x y : Int32} {i : Nat} : decide ((x - fx i) * (x - fx i) + (y - fy i) * (y - fy i) ≤ fr i * fr i) = zin fx fy fr x y i := by
  unfold zin zsq
  rw [show (x - fx i) * (x - fx i) = (fx i - x) * (fx i - x) by grind, show (y - fy i) * (y - fy i) = (fy i - y) * (fy i - y) by grind]
set_option maxRecDepth 100000 in
set_option maxHeartbeats 4000000 in
theorem q_zone_o {K : am_K} {l : Launch} {S : am_S} {th pd wd ln sq st ct cl ft : Int32} {a26 a27 a28 a29 a30 a31 a32 a33 a34 a35 a36 a37 a38 a39 a40 a41 a42 a43 a44 : Nat → Int32} (z : Nat) (x y w : Int32) (h16 : z < 16) (hp : (-10000 ≤ x ∧ x ≤ 10000 ∧ -10000 ≤ y ∧ y ≤ 10000)) (hw : ¬ w < 1 ∧ w ≤ 10000) (ho : ¬ srch (zov a40 a41 a42 x y w) z = -1) : am_M K l iX7_zone 1 0 0 [.ref 25, .int x, .int y, .int w] (mdS S th pd wd ln sq st ct cl ft (nI z) a26 a27 a28 a29 a30 a31 a32 a33 a34 a35 a36 a37 a38 a39 a40 a41 a42 a43 a44) (fun v S' => v = some (.int (-1 - srch (zov a40 a41 a42 x y w) z)) ∧ mdS S 0 pd wd ln sq st ct cl ft (nI z) a26 a27 a28 a29 a30 a31 a32 a33 a34 a35 a36 a37 a38 a39 a40 a41 a42 a43 a44 = S') (fun _ _ => False) := by
  refine am_body (by decide) rfl (by simp [Value.category]) (Nat.le_of_ble_eq_true rfl) (fun xp xe xs xm xa xb xt xc ad0 => ?_)
  show am_W _ _ _ _ _ _ _ _ _ _ _ _ _ _ _ 0 [some (.ref 25), some (.int x), some (.int y), some (.int w), none] [] (mdS S th pd wd ln sq st ct cl ft (nI z) a26 a27 a28 a29 a30 a31 a32 a33 a34 a35 a36 a37 a38 a39 a40 a41 a42 a43 a44) 0 0
  refine am_aload_n (I := iX7_zone) (pc := 0) dX7_zone_0 rfl rfl ?_
  refine am_aload_n (I := iX7_zone) (pc := 1) dX7_zone_1 rfl rfl ?_
  refine am_getf (I := iX7_zone) (pc := 2) lf_X7_138 dX7_zone_2 md_25 rfl ?_
  refine am_bipush (I := iX7_zone) (pc := 5) (x := 16) dX7_zone_5 (by decide) ?_
  refine am_icmp_ge (I := iX7_zone) (pc := 7) (tgt := 14) dX7_zone_7 (by decide) (fun c7 => ?_) (fun c7 => ?_)
  · exact absurd c7 (nI_ge (b := 16) h16 (by decide))
  · refine am_iconst (I := iX7_zone) (pc := 10) (x := 1) dX7_zone_10 (by decide) ?_
    refine am_goto (I := iX7_zone) (pc := 11) (tgt := 15) dX7_zone_11 (by decide) ?_
    refine am_iload_n (I := iX7_zone) (pc := 15) dX7_zone_15 rfl rfl ?_
    refine am_iload_n (I := iX7_zone) (pc := 16) dX7_zone_16 rfl rfl ?_
    refine am_callS (I := iX7_zone) (pc := 17) (st := [.int 1, .ref 25]) lv_X7_141 rfl (q_isPoint x y) dX7_zone_17 rfl (Nat.le_of_ble_eq_true rfl) ⟨Nat.le_of_ble_eq_true rfl, Nat.le_of_ble_eq_true rfl⟩ (Nat.le_of_ble_eq_true rfl) (Nat.le_of_ble_eq_true rfl) rfl (fun v9 T9 z9 _ => ?_) (fun _ _ h9 => h9.elim)
    obtain ⟨rfl, rfl⟩ := z9
    show am_W _ _ _ _ _ _ _ _ _ _ _ _ _ _ _ 20 [some (.ref 25), some (.int x), some (.int y), some (.int w), none] [.int (bI (ptb x y)), .int 1, .ref 25] (mdS S th pd wd ln sq st ct cl ft (nI z) a26 a27 a28 a29 a30 a31 a32 a33 a34 a35 a36 a37 a38 a39 a40 a41 a42 a43 a44) 0 0
    refine am_if_eq (I := iX7_zone) (pc := 20) (tgt := 39) dX7_zone_20 (by decide) (fun c20 => ?_) (fun c20 => ?_)
    · exact absurd c20 (by rw [show ptb x y = true from decide_eq_true hp]; decide)
    · refine am_iload_n (I := iX7_zone) (pc := 23) dX7_zone_23 rfl rfl ?_
      refine am_iconst (I := iX7_zone) (pc := 24) (x := 1) dX7_zone_24 (by decide) ?_
      refine am_icmp_lt (I := iX7_zone) (pc := 25) (tgt := 39) dX7_zone_25 (by decide) (fun c25 => ?_) (fun c25 => ?_)
      · exact absurd c25 hw.1
      · refine am_iload_n (I := iX7_zone) (pc := 28) dX7_zone_28 rfl rfl ?_
        refine am_sipush (I := iX7_zone) (pc := 29) (x := 10000) dX7_zone_29 (by decide) ?_
        refine am_icmp_gt (I := iX7_zone) (pc := 32) (tgt := 39) dX7_zone_32 (by decide) (fun c32 => ?_) (fun c32 => ?_)
        · exact absurd c32 (Int32.not_lt.mpr hw.2)
        · refine am_iconst (I := iX7_zone) (pc := 35) (x := 1) dX7_zone_35 (by decide) ?_
          refine am_goto (I := iX7_zone) (pc := 36) (tgt := 40) dX7_zone_36 (by decide) ?_
          refine am_callV (I := iX7_zone) (pc := 40) (st := []) lv_X7_79 (q_goes0) dX7_zone_40 md_25 rfl (Nat.le_of_ble_eq_true rfl) ⟨Nat.le_of_ble_eq_true rfl, Nat.le_of_ble_eq_true rfl⟩ (Nat.le_of_ble_eq_true rfl) (Nat.le_of_ble_eq_true rfl) rfl (fun v9 T9 z9 _ => ?_) (fun _ _ h9 => h9.elim)
          obtain ⟨rfl, rfl⟩ := z9
          show am_W _ _ _ _ _ _ _ _ _ _ _ _ _ _ _ 43 [some (.ref 25), some (.int x), some (.int y), some (.int w), none] [.int 1] (mdS S 0 pd wd ln sq st ct cl ft (nI z) a26 a27 a28 a29 a30 a31 a32 a33 a34 a35 a36 a37 a38 a39 a40 a41 a42 a43 a44) 0 0
          refine am_if_ne (I := iX7_zone) (pc := 43) (tgt := 48) dX7_zone_43 (by decide) (fun c43 => ?_) (fun c43 => ?_)
          · refine am_iconst (I := iX7_zone) (pc := 48) (x := 0) dX7_zone_48 (by decide) ?_
            refine am_istore (I := iX7_zone) (pc := 49) (L' := [some (.ref 25), some (.int x), some (.int y), some (.int w), some (.int 0)]) dX7_zone_49 (by decide) rfl ?_
            have loop51 : ∀ (k51 : Nat) (i : Nat), z - i < k51 → (i ≤ z) → (∀ j, j < i → zov a40 a41 a42 x y w j = false) → am_W K iX7_zone xp l xe (am_room 1 0 0) xs xm xa xb xt xc (mdS S th pd wd ln sq st ct cl ft (nI z) a26 a27 a28 a29 a30 a31 a32 a33 a34 a35 a36 a37 a38 a39 a40 a41 a42 a43 a44) ad0 (am_E K ad0 (mdS S th pd wd ln sq st ct cl ft (nI z) a26 a27 a28 a29 a30 a31 a32 a33 a34 a35 a36 a37 a38 a39 a40 a41 a42 a43 a44) (fun v S' => v = some (.int (-1 - srch (zov a40 a41 a42 x y w) z)) ∧ mdS S 0 pd wd ln sq st ct cl ft (nI z) a26 a27 a28 a29 a30 a31 a32 a33 a34 a35 a36 a37 a38 a39 a40 a41 a42 a43 a44 = S') (fun _ _ => False) xb xa xs 0 0) 51 [some (.ref 25), some (.int x), some (.int y), some (.int w), some (.int (nI i))] [] (mdS S 0 pd wd ln sq st ct cl ft (nI z) a26 a27 a28 a29 a30 a31 a32 a33 a34 a35 a36 a37 a38 a39 a40 a41 a42 a43 a44) 0 0 := by
              intro k51
              induction k51 with
              | zero => intro i h9; exact absurd h9 (Nat.not_lt_zero _)
              | succ k51 ih51 =>
                intro i hm51 hi hq
                refine am_iload (I := iX7_zone) (pc := 51) dX7_zone_51 rfl ?_
                refine am_aload_n (I := iX7_zone) (pc := 53) dX7_zone_53 rfl rfl ?_
                refine am_getf (I := iX7_zone) (pc := 54) lf_X7_138 dX7_zone_54 md_25 rfl ?_
                refine am_icmp_ge (I := iX7_zone) (pc := 57) (tgt := 104) dX7_zone_57 (by decide) (fun c57 => ?_) (fun c57 => ?_)
                · have g57 : z ≤ i := by
                    rcases Nat.lt_or_ge i z with q9 | q9
                    · exact absurd c57 (nI_ge (a := i) (b := z) q9 (by omega))
                    · exact q9
                  exact absurd (srch_none (fun j hj => hq j (by omega))) ho
                · have l57 : i < z := by
                    rcases Nat.lt_or_ge i z with q9 | q9
                    · exact q9
                    · exact absurd (nI_le (a := z) (b := i) q9 (by omega)) c57
                  refine am_iload_n (I := iX7_zone) (pc := 60) dX7_zone_60 rfl rfl ?_
                  refine am_aload_n (I := iX7_zone) (pc := 61) dX7_zone_61 rfl rfl ?_
                  refine am_getf (I := iX7_zone) (pc := 62) lf_X7_52 dX7_zone_62 md_25 rfl ?_
                  refine am_iload (I := iX7_zone) (pc := 65) dX7_zone_65 rfl ?_
                  refine am_iaload (I := iX7_zone) (pc := 67) dX7_zone_67 md_40 rfl (vp_in_nI (show i < 16 by omega) (by decide)) ?_
                  rw [nI_clamp (show i < 2 ^ 31 by omega)]
                  refine am_isub (I := iX7_zone) (pc := 68) dX7_zone_68 ?_
                  refine am_iload_n (I := iX7_zone) (pc := 69) dX7_zone_69 rfl rfl ?_
                  refine am_aload_n (I := iX7_zone) (pc := 70) dX7_zone_70 rfl rfl ?_
                  refine am_getf (I := iX7_zone) (pc := 71) lf_X7_55 dX7_zone_71 md_25 rfl ?_
                  refine am_iload (I := iX7_zone) (pc := 74) dX7_zone_74 rfl ?_
                  refine am_iaload (I := iX7_zone) (pc := 76) dX7_zone_76 md_41 rfl (vp_in_nI (show i < 16 by omega) (by decide)) ?_
                  rw [nI_clamp (show i < 2 ^ 31 by omega)]
                  refine am_isub (I := iX7_zone) (pc := 77) dX7_zone_77 ?_
                  refine am_iload_n (I := iX7_zone) (pc := 78) dX7_zone_78 rfl rfl ?_
                  refine am_aload_n (I := iX7_zone) (pc := 79) dX7_zone_79 rfl rfl ?_
                  refine am_getf (I := iX7_zone) (pc := 80) lf_X7_58 dX7_zone_80 md_25 rfl ?_
                  refine am_iload (I := iX7_zone) (pc := 83) dX7_zone_83 rfl ?_
                  refine am_iaload (I := iX7_zone) (pc := 85) dX7_zone_85 md_42 rfl (vp_in_nI (show i < 16 by omega) (by decide)) ?_
                  rw [nI_clamp (show i < 2 ^ 31 by omega)]
                  refine am_iadd (I := iX7_zone) (pc := 86) dX7_zone_86 ?_
                  refine am_callS (I := iX7_zone) (pc := 87) (st := []) lv_X7_144 rfl (q_isNearer (x - a40 i) (y - a41 i) (w + a42 i)) dX7_zone_87 rfl (Nat.le_of_ble_eq_true rfl) ⟨Nat.le_of_ble_eq_true rfl, Nat.le_of_ble_eq_true rfl⟩ (Nat.le_of_ble_eq_true rfl) (Nat.le_of_ble_eq_true rfl) rfl (fun v9 T9 z9 _ => ?_) (fun _ _ h9 => h9.elim)
                  obtain ⟨rfl, rfl⟩ := z9
                  show am_W _ _ _ _ _ _ _ _ _ _ _ _ _ _ _ 90 [some (.ref 25), some (.int x), some (.int y), some (.int w), some (.int (nI i))] [.int (bI (decide ((x - a40 i) * (x - a40 i) + (y - a41 i) * (y - a41 i) < (w + a42 i) * (w + a42 i))))] (mdS S 0 pd wd ln sq st ct cl ft (nI z) a26 a27 a28 a29 a30 a31 a32 a33 a34 a35 a36 a37 a38 a39 a40 a41 a42 a43 a44) 0 0
                  refine am_if_eq (I := iX7_zone) (pc := 90) (tgt := 98) dX7_zone_90 (by decide) (fun c90 => ?_) (fun c90 => ?_)
                  · refine am_iinc (I := iX7_zone) (pc := 98) (y := ((nI i) + 1)) (L' := [some (.ref 25), some (.int x), some (.int y), some (.int w), some (.int ((nI i) + 1))]) dX7_zone_98 rfl rfl rfl ?_
                    refine am_goto (I := iX7_zone) (pc := 101) (tgt := 51) dX7_zone_101 (by decide) ?_
                    refine am_same rfl (by rw [nI_1]) rfl rfl rfl rfl (ih51 (i + 1) (by omega) (by omega) (fun j h9 => by
                                rcases Nat.lt_or_ge j i with q9 | q9
                                · exact hq j q9
                                · have e9 : j = i := by omega
                                  subst e9; rw [← zov_eq]; exact bI_0 c90))
                  · refine am_iconst (I := iX7_zone) (pc := 93) (x := (-1)) dX7_zone_93 (by decide) ?_
                    refine am_iload (I := iX7_zone) (pc := 94) dX7_zone_94 rfl ?_
                    refine am_isub (I := iX7_zone) (pc := 96) dX7_zone_96 ?_
                    exact am_iret (I := iX7_zone) (pc := 97) dX7_zone_97 rfl (Nat.le_refl _) (Nat.le_refl _) (⟨by rw [srch_some (p := zov a40 a41 a42 x y w) l57 (by rw [← zov_eq]; exact bI_1 c90) hq], rfl⟩)
            exact am_same rfl (by rfl) rfl rfl rfl rfl (loop51 _ 0 (Nat.lt_succ_self _) (Nat.zero_le _) (fun j h9 => absurd h9 (Nat.not_lt_zero _)))
          · exact absurd c43 (by decide)
set_option maxRecDepth 100000 in
set_option maxHeartbeats 4000000 in
theorem q_zone {K : am_K} {l : Launch} {S : am_S} {th pd wd ln sq st ct cl ft : Int32} {a26 a27 a28 a29 a30 a31 a32 a33 a34 a35 a36 a37 a38 a39 a40 a41 a42 a43 a44 : Nat → Int32} (z : Nat) (x y w : Int32) (h16 : z < 16) (hp : (-10000 ≤ x ∧ x ≤ 10000 ∧ -10000 ≤ y ∧ y ≤ 10000)) (hw : ¬ w < 1 ∧ w ≤ 10000) (ho : srch (zov a40 a41 a42 x y w) z = -1) : am_M K l iX7_zone 1 0 0 [.ref 25, .int x, .int y, .int w] (mdS S th pd wd ln sq st ct cl ft (nI z) a26 a27 a28 a29 a30 a31 a32 a33 a34 a35 a36 a37 a38 a39 a40 a41 a42 a43 a44) (fun v S' => v = some (.int (nI z)) ∧ mdS S 0 pd wd ln sq st ct cl ft (nI (z + 1)) a26 a27 a28 a29 a30 a31 a32 a33 a34 a35 a36 a37 a38 a39 (upd a40 z x) (upd a41 z y) (upd a42 z w) a43 a44 = S') (fun _ _ => False) := by
  refine am_body (by decide) rfl (by simp [Value.category]) (Nat.le_of_ble_eq_true rfl) (fun xp xe xs xm xa xb xt xc ad0 => ?_)
  show am_W _ _ _ _ _ _ _ _ _ _ _ _ _ _ _ 0 [some (.ref 25), some (.int x), some (.int y), some (.int w), none] [] (mdS S th pd wd ln sq st ct cl ft (nI z) a26 a27 a28 a29 a30 a31 a32 a33 a34 a35 a36 a37 a38 a39 a40 a41 a42 a43 a44) 0 0
  refine am_aload_n (I := iX7_zone) (pc := 0) dX7_zone_0 rfl rfl ?_
  refine am_aload_n (I := iX7_zone) (pc := 1) dX7_zone_1 rfl rfl ?_
  refine am_getf (I := iX7_zone) (pc := 2) lf_X7_138 dX7_zone_2 md_25 rfl ?_
  refine am_bipush (I := iX7_zone) (pc := 5) (x := 16) dX7_zone_5 (by decide) ?_
  refine am_icmp_ge (I := iX7_zone) (pc := 7) (tgt := 14) dX7_zone_7 (by decide) (fun c7 => ?_) (fun c7 => ?_)
  · exact absurd c7 (nI_ge (b := 16) h16 (by decide))
  · refine am_iconst (I := iX7_zone) (pc := 10) (x := 1) dX7_zone_10 (by decide) ?_
    refine am_goto (I := iX7_zone) (pc := 11) (tgt := 15) dX7_zone_11 (by decide) ?_
    refine am_iload_n (I := iX7_zone) (pc := 15) dX7_zone_15 rfl rfl ?_
    refine am_iload_n (I := iX7_zone) (pc := 16) dX7_zone_16 rfl rfl ?_
    refine am_callS (I := iX7_zone) (pc := 17) (st := [.int 1, .ref 25]) lv_X7_141 rfl (q_isPoint x y) dX7_zone_17 rfl (Nat.le_of_ble_eq_true rfl) ⟨Nat.le_of_ble_eq_true rfl, Nat.le_of_ble_eq_true rfl⟩ (Nat.le_of_ble_eq_true rfl) (Nat.le_of_ble_eq_true rfl) rfl (fun v9 T9 z9 _ => ?_) (fun _ _ h9 => h9.elim)
    obtain ⟨rfl, rfl⟩ := z9
    show am_W _ _ _ _ _ _ _ _ _ _ _ _ _ _ _ 20 [some (.ref 25), some (.int x), some (.int y), some (.int w), none] [.int (bI (ptb x y)), .int 1, .ref 25] (mdS S th pd wd ln sq st ct cl ft (nI z) a26 a27 a28 a29 a30 a31 a32 a33 a34 a35 a36 a37 a38 a39 a40 a41 a42 a43 a44) 0 0
    refine am_if_eq (I := iX7_zone) (pc := 20) (tgt := 39) dX7_zone_20 (by decide) (fun c20 => ?_) (fun c20 => ?_)
    · exact absurd c20 (by rw [show ptb x y = true from decide_eq_true hp]; decide)
    · refine am_iload_n (I := iX7_zone) (pc := 23) dX7_zone_23 rfl rfl ?_
      refine am_iconst (I := iX7_zone) (pc := 24) (x := 1) dX7_zone_24 (by decide) ?_
      refine am_icmp_lt (I := iX7_zone) (pc := 25) (tgt := 39) dX7_zone_25 (by decide) (fun c25 => ?_) (fun c25 => ?_)
      · exact absurd c25 hw.1
      · refine am_iload_n (I := iX7_zone) (pc := 28) dX7_zone_28 rfl rfl ?_
        refine am_sipush (I := iX7_zone) (pc := 29) (x := 10000) dX7_zone_29 (by decide) ?_
        refine am_icmp_gt (I := iX7_zone) (pc := 32) (tgt := 39) dX7_zone_32 (by decide) (fun c32 => ?_) (fun c32 => ?_)
        · exact absurd c32 (Int32.not_lt.mpr hw.2)
        · refine am_iconst (I := iX7_zone) (pc := 35) (x := 1) dX7_zone_35 (by decide) ?_
          refine am_goto (I := iX7_zone) (pc := 36) (tgt := 40) dX7_zone_36 (by decide) ?_
          refine am_callV (I := iX7_zone) (pc := 40) (st := []) lv_X7_79 (q_goes0) dX7_zone_40 md_25 rfl (Nat.le_of_ble_eq_true rfl) ⟨Nat.le_of_ble_eq_true rfl, Nat.le_of_ble_eq_true rfl⟩ (Nat.le_of_ble_eq_true rfl) (Nat.le_of_ble_eq_true rfl) rfl (fun v9 T9 z9 _ => ?_) (fun _ _ h9 => h9.elim)
          obtain ⟨rfl, rfl⟩ := z9
          show am_W _ _ _ _ _ _ _ _ _ _ _ _ _ _ _ 43 [some (.ref 25), some (.int x), some (.int y), some (.int w), none] [.int 1] (mdS S 0 pd wd ln sq st ct cl ft (nI z) a26 a27 a28 a29 a30 a31 a32 a33 a34 a35 a36 a37 a38 a39 a40 a41 a42 a43 a44) 0 0
          refine am_if_ne (I := iX7_zone) (pc := 43) (tgt := 48) dX7_zone_43 (by decide) (fun c43 => ?_) (fun c43 => ?_)
          · refine am_iconst (I := iX7_zone) (pc := 48) (x := 0) dX7_zone_48 (by decide) ?_
            refine am_istore (I := iX7_zone) (pc := 49) (L' := [some (.ref 25), some (.int x), some (.int y), some (.int w), some (.int 0)]) dX7_zone_49 (by decide) rfl ?_
            have loop51 : ∀ (k51 : Nat) (i : Nat), z - i < k51 → (i ≤ z) → (∀ j, j < i → zov a40 a41 a42 x y w j = false) → am_W K iX7_zone xp l xe (am_room 1 0 0) xs xm xa xb xt xc (mdS S th pd wd ln sq st ct cl ft (nI z) a26 a27 a28 a29 a30 a31 a32 a33 a34 a35 a36 a37 a38 a39 a40 a41 a42 a43 a44) ad0 (am_E K ad0 (mdS S th pd wd ln sq st ct cl ft (nI z) a26 a27 a28 a29 a30 a31 a32 a33 a34 a35 a36 a37 a38 a39 a40 a41 a42 a43 a44) (fun v S' => v = some (.int (nI z)) ∧ mdS S 0 pd wd ln sq st ct cl ft (nI (z + 1)) a26 a27 a28 a29 a30 a31 a32 a33 a34 a35 a36 a37 a38 a39 (upd a40 z x) (upd a41 z y) (upd a42 z w) a43 a44 = S') (fun _ _ => False) xb xa xs 0 0) 51 [some (.ref 25), some (.int x), some (.int y), some (.int w), some (.int (nI i))] [] (mdS S 0 pd wd ln sq st ct cl ft (nI z) a26 a27 a28 a29 a30 a31 a32 a33 a34 a35 a36 a37 a38 a39 a40 a41 a42 a43 a44) 0 0 := by
              intro k51
              induction k51 with
              | zero => intro i h9; exact absurd h9 (Nat.not_lt_zero _)
              | succ k51 ih51 =>
                intro i hm51 hi hq
                refine am_iload (I := iX7_zone) (pc := 51) dX7_zone_51 rfl ?_
                refine am_aload_n (I := iX7_zone) (pc := 53) dX7_zone_53 rfl rfl ?_
                refine am_getf (I := iX7_zone) (pc := 54) lf_X7_138 dX7_zone_54 md_25 rfl ?_
                refine am_icmp_ge (I := iX7_zone) (pc := 57) (tgt := 104) dX7_zone_57 (by decide) (fun c57 => ?_) (fun c57 => ?_)
                · have g57 : z ≤ i := by
                    rcases Nat.lt_or_ge i z with q9 | q9
                    · exact absurd c57 (nI_ge (a := i) (b := z) q9 (by omega))
                    · exact q9
                  refine am_aload_n (I := iX7_zone) (pc := 104) dX7_zone_104 rfl rfl ?_
                  refine am_getf (I := iX7_zone) (pc := 105) lf_X7_52 dX7_zone_105 md_25 rfl ?_
                  refine am_aload_n (I := iX7_zone) (pc := 108) dX7_zone_108 rfl rfl ?_
                  refine am_getf (I := iX7_zone) (pc := 109) lf_X7_138 dX7_zone_109 md_25 rfl ?_
                  refine am_iload_n (I := iX7_zone) (pc := 112) dX7_zone_112 rfl rfl ?_
                  refine am_iastore (I := iX7_zone) (pc := 113) dX7_zone_113 md_40 rfl (vp_in_nI h16 (by decide)) ?_
                  rw [nI_clamp (show z < 2 ^ 31 by omega)]
                  refine am_same (S' := mdS S 0 pd wd ln sq st ct cl ft (nI z) a26 a27 a28 a29 a30 a31 a32 a33 a34 a35 a36 a37 a38 a39 (upd a40 z x) a41 a42 a43 a44) rfl rfl rfl mdS_40 rfl rfl ?_
                  refine am_aload_n (I := iX7_zone) (pc := 114) dX7_zone_114 rfl rfl ?_
                  refine am_getf (I := iX7_zone) (pc := 115) lf_X7_55 dX7_zone_115 md_25 rfl ?_
                  refine am_aload_n (I := iX7_zone) (pc := 118) dX7_zone_118 rfl rfl ?_
                  refine am_getf (I := iX7_zone) (pc := 119) lf_X7_138 dX7_zone_119 md_25 rfl ?_
                  refine am_iload_n (I := iX7_zone) (pc := 122) dX7_zone_122 rfl rfl ?_
                  refine am_iastore (I := iX7_zone) (pc := 123) dX7_zone_123 md_41 rfl (vp_in_nI h16 (by decide)) ?_
                  rw [nI_clamp (show z < 2 ^ 31 by omega)]
                  refine am_same (S' := mdS S 0 pd wd ln sq st ct cl ft (nI z) a26 a27 a28 a29 a30 a31 a32 a33 a34 a35 a36 a37 a38 a39 (upd a40 z x) (upd a41 z y) a42 a43 a44) rfl rfl rfl mdS_41 rfl rfl ?_
                  refine am_aload_n (I := iX7_zone) (pc := 124) dX7_zone_124 rfl rfl ?_
                  refine am_getf (I := iX7_zone) (pc := 125) lf_X7_58 dX7_zone_125 md_25 rfl ?_
                  refine am_aload_n (I := iX7_zone) (pc := 128) dX7_zone_128 rfl rfl ?_
                  refine am_getf (I := iX7_zone) (pc := 129) lf_X7_138 dX7_zone_129 md_25 rfl ?_
                  refine am_iload_n (I := iX7_zone) (pc := 132) dX7_zone_132 rfl rfl ?_
                  refine am_iastore (I := iX7_zone) (pc := 133) dX7_zone_133 md_42 rfl (vp_in_nI h16 (by decide)) ?_
                  rw [nI_clamp (show z < 2 ^ 31 by omega)]
                  refine am_same (S' := mdS S 0 pd wd ln sq st ct cl ft (nI z) a26 a27 a28 a29 a30 a31 a32 a33 a34 a35 a36 a37 a38 a39 (upd a40 z x) (upd a41 z y) (upd a42 z w) a43 a44) rfl rfl rfl mdS_42 rfl rfl ?_
                  refine am_aload_n (I := iX7_zone) (pc := 134) dX7_zone_134 rfl rfl ?_
                  refine am_dup (I := iX7_zone) (pc := 135) dX7_zone_135 rfl ?_
                  refine am_getf (I := iX7_zone) (pc := 136) lf_X7_138 dX7_zone_136 md_25 rfl ?_
                  refine am_iconst (I := iX7_zone) (pc := 139) (x := 1) dX7_zone_139 (by decide) ?_
                  refine am_iadd (I := iX7_zone) (pc := 140) dX7_zone_140 ?_
                  rw [nI_1]
                  refine am_putf (I := iX7_zone) (pc := 141) (fs' := [.int 0, .int pd, .ref 26, .ref 27, .ref 28, .ref 29, .ref 30, .int wd, .ref 31, .ref 32, .ref 33, .ref 34, .int ln, .int sq, .int st, .ref 35, .ref 36, .ref 37, .ref 38, .int ct, .int cl, .int ft, .ref 39, .int (nI (z + 1)), .ref 40, .ref 41, .ref 42, .ref 43, .ref 44]) lf_X7_138 dX7_zone_141 md_25 (fun _ => ⟨rfl, rfl⟩) (Nat.le_of_ble_eq_true rfl) rfl ?_
                  refine am_same (S' := mdS S 0 pd wd ln sq st ct cl ft (nI (z + 1)) a26 a27 a28 a29 a30 a31 a32 a33 a34 a35 a36 a37 a38 a39 (upd a40 z x) (upd a41 z y) (upd a42 z w) a43 a44) rfl rfl rfl mdS_25 rfl rfl ?_
                  refine am_aload_n (I := iX7_zone) (pc := 144) dX7_zone_144 rfl rfl ?_
                  refine am_getf (I := iX7_zone) (pc := 145) lf_X7_138 dX7_zone_145 md_25 rfl ?_
                  refine am_iconst (I := iX7_zone) (pc := 148) (x := 1) dX7_zone_148 (by decide) ?_
                  refine am_isub (I := iX7_zone) (pc := 149) dX7_zone_149 ?_
                  exact am_iret (I := iX7_zone) (pc := 150) dX7_zone_150 rfl (Nat.le_refl _) (Nat.le_refl _) (⟨by rw [nI_pred], rfl⟩)
                · have l57 : i < z := by
                    rcases Nat.lt_or_ge i z with q9 | q9
                    · exact q9
                    · exact absurd (nI_le (a := z) (b := i) q9 (by omega)) c57
                  refine am_iload_n (I := iX7_zone) (pc := 60) dX7_zone_60 rfl rfl ?_
                  refine am_aload_n (I := iX7_zone) (pc := 61) dX7_zone_61 rfl rfl ?_
                  refine am_getf (I := iX7_zone) (pc := 62) lf_X7_52 dX7_zone_62 md_25 rfl ?_
                  refine am_iload (I := iX7_zone) (pc := 65) dX7_zone_65 rfl ?_
                  refine am_iaload (I := iX7_zone) (pc := 67) dX7_zone_67 md_40 rfl (vp_in_nI (show i < 16 by omega) (by decide)) ?_
                  rw [nI_clamp (show i < 2 ^ 31 by omega)]
                  refine am_isub (I := iX7_zone) (pc := 68) dX7_zone_68 ?_
                  refine am_iload_n (I := iX7_zone) (pc := 69) dX7_zone_69 rfl rfl ?_
                  refine am_aload_n (I := iX7_zone) (pc := 70) dX7_zone_70 rfl rfl ?_
                  refine am_getf (I := iX7_zone) (pc := 71) lf_X7_55 dX7_zone_71 md_25 rfl ?_
                  refine am_iload (I := iX7_zone) (pc := 74) dX7_zone_74 rfl ?_
                  refine am_iaload (I := iX7_zone) (pc := 76) dX7_zone_76 md_41 rfl (vp_in_nI (show i < 16 by omega) (by decide)) ?_
                  rw [nI_clamp (show i < 2 ^ 31 by omega)]
                  refine am_isub (I := iX7_zone) (pc := 77) dX7_zone_77 ?_
                  refine am_iload_n (I := iX7_zone) (pc := 78) dX7_zone_78 rfl rfl ?_
                  refine am_aload_n (I := iX7_zone) (pc := 79) dX7_zone_79 rfl rfl ?_
                  refine am_getf (I := iX7_zone) (pc := 80) lf_X7_58 dX7_zone_80 md_25 rfl ?_
                  refine am_iload (I := iX7_zone) (pc := 83) dX7_zone_83 rfl ?_
                  refine am_iaload (I := iX7_zone) (pc := 85) dX7_zone_85 md_42 rfl (vp_in_nI (show i < 16 by omega) (by decide)) ?_
                  rw [nI_clamp (show i < 2 ^ 31 by omega)]
                  refine am_iadd (I := iX7_zone) (pc := 86) dX7_zone_86 ?_
                  refine am_callS (I := iX7_zone) (pc := 87) (st := []) lv_X7_144 rfl (q_isNearer (x - a40 i) (y - a41 i) (w + a42 i)) dX7_zone_87 rfl (Nat.le_of_ble_eq_true rfl) ⟨Nat.le_of_ble_eq_true rfl, Nat.le_of_ble_eq_true rfl⟩ (Nat.le_of_ble_eq_true rfl) (Nat.le_of_ble_eq_true rfl) rfl (fun v9 T9 z9 _ => ?_) (fun _ _ h9 => h9.elim)
                  obtain ⟨rfl, rfl⟩ := z9
                  show am_W _ _ _ _ _ _ _ _ _ _ _ _ _ _ _ 90 [some (.ref 25), some (.int x), some (.int y), some (.int w), some (.int (nI i))] [.int (bI (decide ((x - a40 i) * (x - a40 i) + (y - a41 i) * (y - a41 i) < (w + a42 i) * (w + a42 i))))] (mdS S 0 pd wd ln sq st ct cl ft (nI z) a26 a27 a28 a29 a30 a31 a32 a33 a34 a35 a36 a37 a38 a39 a40 a41 a42 a43 a44) 0 0
                  refine am_if_eq (I := iX7_zone) (pc := 90) (tgt := 98) dX7_zone_90 (by decide) (fun c90 => ?_) (fun c90 => ?_)
                  · refine am_iinc (I := iX7_zone) (pc := 98) (y := ((nI i) + 1)) (L' := [some (.ref 25), some (.int x), some (.int y), some (.int w), some (.int ((nI i) + 1))]) dX7_zone_98 rfl rfl rfl ?_
                    refine am_goto (I := iX7_zone) (pc := 101) (tgt := 51) dX7_zone_101 (by decide) ?_
                    refine am_same rfl (by rw [nI_1]) rfl rfl rfl rfl (ih51 (i + 1) (by omega) (by omega) (fun j h9 => by
                                rcases Nat.lt_or_ge j i with q9 | q9
                                · exact hq j q9
                                · have e9 : j = i := by omega
                                  subst e9; rw [← zov_eq]; exact bI_0 c90))
                  · exact absurd (srch_some (p := zov a40 a41 a42 x y w) l57 (by rw [← zov_eq]; exact bI_1 c90) hq) (by rw [ho]; exact fun e9 => by have h9 := nI_pos (n := i) (by omega); rw [← e9] at h9; exact h9 (by decide))
            exact am_same rfl (by rfl) rfl rfl rfl rfl (loop51 _ 0 (Nat.lt_succ_self _) (Nat.zero_le _) (fun j h9 => absurd h9 (Nat.not_lt_zero _)))
          · exact absurd c43 (by decide)
set_option maxRecDepth 100000 in
set_option maxHeartbeats 4000000 in
theorem q_heard_x1 {K : am_K} {l : Launch} {S : am_S} {th pd wd ln sq st ct cl ft zn : Int32} {a26 a27 a28 a29 a30 a31 a32 a33 a34 a35 a36 a37 a38 a39 a40 a41 a42 a43 a44 : Nat → Int32} (x y : Int32) (hp : ¬ (-10000 ≤ x ∧ x ≤ 10000 ∧ -10000 ≤ y ∧ y ≤ 10000)) : am_M K l iX7_heard 1 0 0 [.ref 25, .int x, .int y] (mdS S th pd wd ln sq st ct cl ft zn a26 a27 a28 a29 a30 a31 a32 a33 a34 a35 a36 a37 a38 a39 a40 a41 a42 a43 a44) (fun v S' => v = some (.int (0)) ∧ mdS S 1 pd wd ln sq st ct cl ft zn a26 a27 a28 a29 a30 a31 a32 a33 a34 a35 a36 a37 a38 a39 a40 a41 a42 a43 a44 = S') (fun _ _ => False) := by
  refine am_body (by decide) rfl (by simp [Value.category]) (Nat.le_of_ble_eq_true rfl) (fun xp xe xs xm xa xb xt xc ad0 => ?_)
  show am_W _ _ _ _ _ _ _ _ _ _ _ _ _ _ _ 0 [some (.ref 25), some (.int x), some (.int y), none, none, none] [] (mdS S th pd wd ln sq st ct cl ft zn a26 a27 a28 a29 a30 a31 a32 a33 a34 a35 a36 a37 a38 a39 a40 a41 a42 a43 a44) 0 0
  refine am_aload_n (I := iX7_heard) (pc := 0) dX7_heard_0 rfl rfl ?_
  refine am_iload_n (I := iX7_heard) (pc := 1) dX7_heard_1 rfl rfl ?_
  refine am_iload_n (I := iX7_heard) (pc := 2) dX7_heard_2 rfl rfl ?_
  refine am_callS (I := iX7_heard) (pc := 3) (st := [.ref 25]) lv_X7_141 rfl (q_isPoint x y) dX7_heard_3 rfl (Nat.le_of_ble_eq_true rfl) ⟨Nat.le_of_ble_eq_true rfl, Nat.le_of_ble_eq_true rfl⟩ (Nat.le_of_ble_eq_true rfl) (Nat.le_of_ble_eq_true rfl) rfl (fun v9 T9 z9 _ => ?_) (fun _ _ h9 => h9.elim)
  obtain ⟨rfl, rfl⟩ := z9
  show am_W _ _ _ _ _ _ _ _ _ _ _ _ _ _ _ 6 [some (.ref 25), some (.int x), some (.int y), none, none, none] [.int (bI (ptb x y)), .ref 25] (mdS S th pd wd ln sq st ct cl ft zn a26 a27 a28 a29 a30 a31 a32 a33 a34 a35 a36 a37 a38 a39 a40 a41 a42 a43 a44) 0 0
  rw [bI_f (show ptb x y = false from decide_eq_false hp)]
  refine am_iconst (I := iX7_heard) (pc := 6) (x := 1) dX7_heard_6 (by decide) ?_
  refine am_callV (I := iX7_heard) (pc := 7) (st := []) lv_X7_79 (q_goes1 _) dX7_heard_7 md_25 rfl (Nat.le_of_ble_eq_true rfl) ⟨Nat.le_of_ble_eq_true rfl, Nat.le_of_ble_eq_true rfl⟩ (Nat.le_of_ble_eq_true rfl) (Nat.le_of_ble_eq_true rfl) rfl (fun v9 T9 z9 _ => ?_) (fun _ _ h9 => h9.elim)
  obtain ⟨rfl, rfl⟩ := z9
  show am_W _ _ _ _ _ _ _ _ _ _ _ _ _ _ _ 10 [some (.ref 25), some (.int x), some (.int y), none, none, none] [.int 0] (mdS S 1 pd wd ln sq st ct cl ft zn a26 a27 a28 a29 a30 a31 a32 a33 a34 a35 a36 a37 a38 a39 a40 a41 a42 a43 a44) 0 0
  refine am_if_ne (I := iX7_heard) (pc := 10) (tgt := 15) dX7_heard_10 (by decide) (fun c10 => ?_) (fun c10 => ?_)
  · exact absurd rfl c10
  · refine am_iconst (I := iX7_heard) (pc := 13) (x := 0) dX7_heard_13 (by decide) ?_
    exact am_iret (I := iX7_heard) (pc := 14) dX7_heard_14 rfl (Nat.le_refl _) (Nat.le_refl _) (⟨rfl, rfl⟩)
set_option maxRecDepth 100000 in
set_option maxHeartbeats 4000000 in
theorem q_heard {K : am_K} {l : Launch} {S : am_S} {th pd wd ln sq st ct cl ft : Int32} {a26 a27 a28 a29 a30 a31 a32 a33 a34 a35 a36 a37 a38 a39 a40 a41 a42 a43 a44 : Nat → Int32} (z : Nat) (x y : Int32) (h16 : z ≤ 16) (hp : (-10000 ≤ x ∧ x ≤ 10000 ∧ -10000 ≤ y ∧ y ≤ 10000)) : am_M K l iX7_heard 1 0 0 [.ref 25, .int x, .int y] (mdS S th pd wd ln sq st ct cl ft (nI z) a26 a27 a28 a29 a30 a31 a32 a33 a34 a35 a36 a37 a38 a39 a40 a41 a42 a43 a44) (fun v S' => v = some (.int (srch (zin a40 a41 a42 x y) z)) ∧ mdS S 0 pd wd ln sq st ct cl ft (nI z) a26 a27 a28 a29 a30 a31 a32 a33 a34 a35 a36 a37 a38 a39 a40 a41 a42 a43 a44 = S') (fun _ _ => False) := by
  refine am_body (by decide) rfl (by simp [Value.category]) (Nat.le_of_ble_eq_true rfl) (fun xp xe xs xm xa xb xt xc ad0 => ?_)
  show am_W _ _ _ _ _ _ _ _ _ _ _ _ _ _ _ 0 [some (.ref 25), some (.int x), some (.int y), none, none, none] [] (mdS S th pd wd ln sq st ct cl ft (nI z) a26 a27 a28 a29 a30 a31 a32 a33 a34 a35 a36 a37 a38 a39 a40 a41 a42 a43 a44) 0 0
  refine am_aload_n (I := iX7_heard) (pc := 0) dX7_heard_0 rfl rfl ?_
  refine am_iload_n (I := iX7_heard) (pc := 1) dX7_heard_1 rfl rfl ?_
  refine am_iload_n (I := iX7_heard) (pc := 2) dX7_heard_2 rfl rfl ?_
  refine am_callS (I := iX7_heard) (pc := 3) (st := [.ref 25]) lv_X7_141 rfl (q_isPoint x y) dX7_heard_3 rfl (Nat.le_of_ble_eq_true rfl) ⟨Nat.le_of_ble_eq_true rfl, Nat.le_of_ble_eq_true rfl⟩ (Nat.le_of_ble_eq_true rfl) (Nat.le_of_ble_eq_true rfl) rfl (fun v9 T9 z9 _ => ?_) (fun _ _ h9 => h9.elim)
  obtain ⟨rfl, rfl⟩ := z9
  show am_W _ _ _ _ _ _ _ _ _ _ _ _ _ _ _ 6 [some (.ref 25), some (.int x), some (.int y), none, none, none] [.int (bI (ptb x y)), .ref 25] (mdS S th pd wd ln sq st ct cl ft (nI z) a26 a27 a28 a29 a30 a31 a32 a33 a34 a35 a36 a37 a38 a39 a40 a41 a42 a43 a44) 0 0
  rw [bI_t (show ptb x y = true from decide_eq_true hp)]
  refine am_iconst (I := iX7_heard) (pc := 6) (x := 1) dX7_heard_6 (by decide) ?_
  refine am_callV (I := iX7_heard) (pc := 7) (st := []) lv_X7_79 (q_goes0) dX7_heard_7 md_25 rfl (Nat.le_of_ble_eq_true rfl) ⟨Nat.le_of_ble_eq_true rfl, Nat.le_of_ble_eq_true rfl⟩ (Nat.le_of_ble_eq_true rfl) (Nat.le_of_ble_eq_true rfl) rfl (fun v9 T9 z9 _ => ?_) (fun _ _ h9 => h9.elim)
  obtain ⟨rfl, rfl⟩ := z9
  show am_W _ _ _ _ _ _ _ _ _ _ _ _ _ _ _ 10 [some (.ref 25), some (.int x), some (.int y), none, none, none] [.int 1] (mdS S 0 pd wd ln sq st ct cl ft (nI z) a26 a27 a28 a29 a30 a31 a32 a33 a34 a35 a36 a37 a38 a39 a40 a41 a42 a43 a44) 0 0
  refine am_if_ne (I := iX7_heard) (pc := 10) (tgt := 15) dX7_heard_10 (by decide) (fun c10 => ?_) (fun c10 => ?_)
  · refine am_iconst (I := iX7_heard) (pc := 15) (x := 0) dX7_heard_15 (by decide) ?_
    refine am_istore_n (I := iX7_heard) (pc := 16) (L' := [some (.ref 25), some (.int x), some (.int y), some (.int 0), none, none]) dX7_heard_16 rfl (by decide) rfl ?_
    have loop17 : ∀ (k17 : Nat) (i : Nat), z - i < k17 → (i ≤ z) → (∀ j, j < i → zin a40 a41 a42 x y j = false) → am_W K iX7_heard xp l xe (am_room 1 0 0) xs xm xa xb xt xc (mdS S th pd wd ln sq st ct cl ft (nI z) a26 a27 a28 a29 a30 a31 a32 a33 a34 a35 a36 a37 a38 a39 a40 a41 a42 a43 a44) ad0 (am_E K ad0 (mdS S th pd wd ln sq st ct cl ft (nI z) a26 a27 a28 a29 a30 a31 a32 a33 a34 a35 a36 a37 a38 a39 a40 a41 a42 a43 a44) (fun v S' => v = some (.int (srch (zin a40 a41 a42 x y) z)) ∧ mdS S 0 pd wd ln sq st ct cl ft (nI z) a26 a27 a28 a29 a30 a31 a32 a33 a34 a35 a36 a37 a38 a39 a40 a41 a42 a43 a44 = S') (fun _ _ => False) xb xa xs 0 0) 17 [some (.ref 25), some (.int x), some (.int y), some (.int (nI i)), none, none] [] (mdS S 0 pd wd ln sq st ct cl ft (nI z) a26 a27 a28 a29 a30 a31 a32 a33 a34 a35 a36 a37 a38 a39 a40 a41 a42 a43 a44) 0 0 := by
      intro k17
      induction k17 with
      | zero => intro i h9; exact absurd h9 (Nat.not_lt_zero _)
      | succ k17 ih17 =>
        intro i hm17 hi hq
        refine am_iload_n (I := iX7_heard) (pc := 17) dX7_heard_17 rfl rfl ?_
        refine am_aload_n (I := iX7_heard) (pc := 18) dX7_heard_18 rfl rfl ?_
        refine am_getf (I := iX7_heard) (pc := 19) lf_X7_138 dX7_heard_19 md_25 rfl ?_
        refine am_icmp_ge (I := iX7_heard) (pc := 22) (tgt := 80) dX7_heard_22 (by decide) (fun c22 => ?_) (fun c22 => ?_)
        · have g22 : z ≤ i := by
            rcases Nat.lt_or_ge i z with q9 | q9
            · exact absurd c22 (nI_ge (a := i) (b := z) q9 (by omega))
            · exact q9
          refine am_iconst (I := iX7_heard) (pc := 80) (x := (-1)) dX7_heard_80 (by decide) ?_
          exact am_iret (I := iX7_heard) (pc := 81) dX7_heard_81 rfl (Nat.le_refl _) (Nat.le_refl _) (⟨by rw [srch_none (p := zin a40 a41 a42 x y) (fun j hj => hq j (by omega))], rfl⟩)
        · have l22 : i < z := by
            rcases Nat.lt_or_ge i z with q9 | q9
            · exact q9
            · exact absurd (nI_le (a := z) (b := i) q9 (by omega)) c22
          refine am_iload_n (I := iX7_heard) (pc := 25) dX7_heard_25 rfl rfl ?_
          refine am_aload_n (I := iX7_heard) (pc := 26) dX7_heard_26 rfl rfl ?_
          refine am_getf (I := iX7_heard) (pc := 27) lf_X7_52 dX7_heard_27 md_25 rfl ?_
          refine am_iload_n (I := iX7_heard) (pc := 30) dX7_heard_30 rfl rfl ?_
          refine am_iaload (I := iX7_heard) (pc := 31) dX7_heard_31 md_40 rfl (vp_in_nI (show i < 16 by omega) (by decide)) ?_
          rw [nI_clamp (show i < 2 ^ 31 by omega)]
          refine am_isub (I := iX7_heard) (pc := 32) dX7_heard_32 ?_
          refine am_istore (I := iX7_heard) (pc := 33) (L' := [some (.ref 25), some (.int x), some (.int y), some (.int (nI i)), some (.int (x - (a40 i))), none]) dX7_heard_33 (by decide) rfl ?_
          refine am_iload_n (I := iX7_heard) (pc := 35) dX7_heard_35 rfl rfl ?_
          refine am_aload_n (I := iX7_heard) (pc := 36) dX7_heard_36 rfl rfl ?_
          refine am_getf (I := iX7_heard) (pc := 37) lf_X7_55 dX7_heard_37 md_25 rfl ?_
          refine am_iload_n (I := iX7_heard) (pc := 40) dX7_heard_40 rfl rfl ?_
          refine am_iaload (I := iX7_heard) (pc := 41) dX7_heard_41 md_41 rfl (vp_in_nI (show i < 16 by omega) (by decide)) ?_
          rw [nI_clamp (show i < 2 ^ 31 by omega)]
          refine am_isub (I := iX7_heard) (pc := 42) dX7_heard_42 ?_
          refine am_istore (I := iX7_heard) (pc := 43) (L' := [some (.ref 25), some (.int x), some (.int y), some (.int (nI i)), some (.int (x - (a40 i))), some (.int (y - (a41 i)))]) dX7_heard_43 (by decide) rfl ?_
          refine am_iload (I := iX7_heard) (pc := 45) dX7_heard_45 rfl ?_
          refine am_iload (I := iX7_heard) (pc := 47) dX7_heard_47 rfl ?_
          refine am_imul (I := iX7_heard) (pc := 49) dX7_heard_49 ?_
          refine am_iload (I := iX7_heard) (pc := 50) dX7_heard_50 rfl ?_
          refine am_iload (I := iX7_heard) (pc := 52) dX7_heard_52 rfl ?_
          refine am_imul (I := iX7_heard) (pc := 54) dX7_heard_54 ?_
          refine am_iadd (I := iX7_heard) (pc := 55) dX7_heard_55 ?_
          refine am_aload_n (I := iX7_heard) (pc := 56) dX7_heard_56 rfl rfl ?_
          refine am_getf (I := iX7_heard) (pc := 57) lf_X7_58 dX7_heard_57 md_25 rfl ?_
          refine am_iload_n (I := iX7_heard) (pc := 60) dX7_heard_60 rfl rfl ?_
          refine am_iaload (I := iX7_heard) (pc := 61) dX7_heard_61 md_42 rfl (vp_in_nI (show i < 16 by omega) (by decide)) ?_
          rw [nI_clamp (show i < 2 ^ 31 by omega)]
          refine am_aload_n (I := iX7_heard) (pc := 62) dX7_heard_62 rfl rfl ?_
          refine am_getf (I := iX7_heard) (pc := 63) lf_X7_58 dX7_heard_63 md_25 rfl ?_
          refine am_iload_n (I := iX7_heard) (pc := 66) dX7_heard_66 rfl rfl ?_
          refine am_iaload (I := iX7_heard) (pc := 67) dX7_heard_67 md_42 rfl (vp_in_nI (show i < 16 by omega) (by decide)) ?_
          rw [nI_clamp (show i < 2 ^ 31 by omega)]
          refine am_imul (I := iX7_heard) (pc := 68) dX7_heard_68 ?_
          refine am_icmp_gt (I := iX7_heard) (pc := 69) (tgt := 74) dX7_heard_69 (by decide) (fun c69 => ?_) (fun c69 => ?_)
          · refine am_forget 4 (am_forget 5 ?_)
            refine am_iinc (I := iX7_heard) (pc := 74) (y := ((nI i) + 1)) (L' := [some (.ref 25), some (.int x), some (.int y), some (.int ((nI i) + 1)), none, none]) dX7_heard_74 rfl rfl rfl ?_
            refine am_goto (I := iX7_heard) (pc := 77) (tgt := 17) dX7_heard_77 (by decide) ?_
            refine am_same rfl (by rw [nI_1]) rfl rfl rfl rfl (ih17 (i + 1) (by omega) (by omega) (fun j h9 => by
                        rcases Nat.lt_or_ge j i with q9 | q9
                        · exact hq j q9
                        · have e9 : j = i := by omega
                          subst e9; rw [← zin_eq]; exact decide_eq_false (Int32.not_le.mpr c69)))
          · refine am_iload_n (I := iX7_heard) (pc := 72) dX7_heard_72 rfl rfl ?_
            exact am_iret (I := iX7_heard) (pc := 73) dX7_heard_73 rfl (Nat.le_refl _) (Nat.le_refl _) (⟨by rw [srch_some (p := zin a40 a41 a42 x y) l22 (by rw [← zin_eq]; exact decide_eq_true (Int32.not_lt.mp c69)) hq], rfl⟩)
    exact am_same rfl (by rfl) rfl rfl rfl rfl (loop17 _ 0 (Nat.lt_succ_self _) (Nat.zero_le _) (fun j h9 => absurd h9 (Nat.not_lt_zero _)))
  · exact absurd c10 (by decide)
