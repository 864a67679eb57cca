def sdm (lt : Nat → Int32) (n : Nat) (g : Nat → Int32) (m t i : Nat) : Bool := decide (t + n ≤ m) && decide (∀ j, j < i → g (t + j) = lt j)
theorem sdm_s {lt : Nat → Int32} {n : Nat} {g : Nat → Int32} {m t i : Nat} : sdm lt n g m t (i + 1) = (sdm lt n g m t i && decide (g (t + i) = lt i)) := by
  unfold sdm
  rw [all_s (p := fun j => g (t + j) = lt j), Bool.and_assoc]
theorem sdm_0 {lt : Nat → Int32} {n : Nat} {g : Nat → Int32} {m t : Nat} : sdm lt n g m t 0 = decide (t + n ≤ m) := by
  unfold sdm
  rw [decide_eq_true (show ∀ j, j < 0 → g (t + j) = lt j from fun j h => absurd h (Nat.not_lt_zero _)), Bool.and_true]
theorem sdm_f {lt : Nat → Int32} {n : Nat} {g : Nat → Int32} {m t i : Nat} (h : sdm lt n g m t i = false) : ∀ {j}, i ≤ j → sdm lt n g m t j = false
  | 0, h2 => by rw [show 0 = i by omega]; exact h
  | j + 1, h2 => by
    rcases Nat.lt_or_ge i (j + 1) with q | q
    · rw [sdm_s, sdm_f h (show i ≤ j by omega), Bool.false_and]
    · rw [show j + 1 = i by omega]; exact h
theorem sdm_le {lt : Nat → Int32} {n : Nat} {g : Nat → Int32} {m t i : Nat} (h : sdm lt n g m t i = true) : t + n ≤ m := by
  unfold sdm at h
  rw [Bool.and_eq_true] at h
  exact of_decide_eq_true h.1
theorem sdm_st {lt : Nat → Int32} {n : Nat} {g : Nat → Int32} {m t : Nat} (hm : m ≤ 80) (ht : t < m) (hn : n ≤ 5) (hne : ∀ j, j < n → ¬ lt j = -1) : sdm lt n g m t n = decide (stands lt n g m (nI t) = 1) := by
  unfold sdm stands
  have e : (t + n ≤ m ∧ ∀ j, j < n → g (t + j) = lt j) ↔ (∀ i, i < n → rv g m (nI t + nI i) = lt i) := by
    constructor
    · intro h i hi
      rw [nI_add, rv_nI (by omega) (by omega)]
      exact h.2 i hi
    · intro h
      have h1 : t + n ≤ m := by
        rcases Nat.lt_or_ge m (t + n) with q | q
        · exfalso
          have h2 := h (m - t) (by omega)
          rw [nI_add, rv_out (by omega) (by omega)] at h2
          exact hne _ (by omega) h2.symm
        · exact q
      refine ⟨h1, fun j hj => ?_⟩
      have h2 := h j hj
      rw [nI_add, rv_nI (by omega) (by omega)] at h2
      exact h2
  rw [← Bool.decide_and]
  by_cases h : ∀ i, i < n → rv g m (nI t + nI i) = lt i
  · rw [if_pos h, decide_eq_true (e.mpr h)]; rfl
  · rw [if_neg h, decide_eq_false (fun q => h (e.mp q))]; rfl
set_option maxRecDepth 100000 in
set_option maxHeartbeats 4000000 in
theorem q_stands {K : am_K} {l : Launch} {S : am_S} {th pd wd ln sq st ct cl ft zn : Int32} {a26 a27 a28 a29 a30 a31 a32 a33 a34 a35 a36 a38 a39 a40 a41 a42 a43 a44 : Nat → Int32} (sz : Nat → Nat) (lt : Nat → Nat → Int32) (iv m : Nat) (g : Nat → Int32) (k t : Nat) (h5 : ∀ k, sz k ≤ 5) (hl : ∀ k i, k < 36 → i < sz k → a38 (k * 5 + i) = lt k i) (hiv : iv < 200) (hm : a28 iv = nI m) (hm8 : m ≤ 80) (hg : ∀ t, t < m → a29 (80 * iv + t) = g t) (hk : k < 36) (hk0 : 0 < sz k) (ht : t < m) (hne : ∀ j, j < sz k → ¬ lt k j = -1) : am_M K l iX7_stands 0 0 0 [.ref 25, .int (nI k), .int (nI iv), .int (nI t)] (mdS S th pd wd ln sq st ct cl ft zn a26 a27 a28 a29 a30 a31 a32 a33 a34 a35 a36 (fun k => nI (sz k)) a38 a39 a40 a41 a42 a43 a44) (fun v S' => v = some (.int (bI (decide (stands (lt k) (sz k) g m (nI t) = 1)))) ∧ mdS S th pd wd ln sq st ct cl ft zn a26 a27 a28 a29 a30 a31 a32 a33 a34 a35 a36 (fun k => nI (sz k)) a38 a39 a40 a41 a42 a43 a44 = S') (fun _ _ => False) := by
  refine am_body (by decide) rfl (by simp [Value.category]) (Nat.le_of_ble_eq_true rfl) (fun xp xe xs xm xa xb xt xc ad0 => ?_)
  show am_W _ _ _ _ _ _ _ _ _ _ _ _ _ _ _ 0 [some (.ref 25), some (.int (nI k)), some (.int (nI iv)), some (.int (nI t)), none, none] [] (mdS S th pd wd ln sq st ct cl ft zn a26 a27 a28 a29 a30 a31 a32 a33 a34 a35 a36 (fun k => nI (sz k)) a38 a39 a40 a41 a42 a43 a44) 0 0
  refine am_aload_n (I := iX7_stands) (pc := 0) dX7_stands_0 rfl rfl ?_
  refine am_getf (I := iX7_stands) (pc := 1) lf_X7_43 dX7_stands_1 md_25 rfl ?_
  refine am_iload_n (I := iX7_stands) (pc := 4) dX7_stands_4 rfl rfl ?_
  refine am_iaload (I := iX7_stands) (pc := 5) dX7_stands_5 md_37 rfl (vp_in_nI (show k < 36 by omega) (by decide)) ?_
  rw [nI_clamp (show k < 2 ^ 31 by omega)]
  refine am_if_le (I := iX7_stands) (pc := 6) (tgt := 30) dX7_stands_6 (by decide) (fun c6 => ?_) (fun c6 => ?_)
  · exact absurd c6 (nI_nle hk0 (by have := h5 k; omega))
  · refine am_iload_n (I := iX7_stands) (pc := 9) dX7_stands_9 rfl rfl ?_
    refine am_aload_n (I := iX7_stands) (pc := 10) dX7_stands_10 rfl rfl ?_
    refine am_getf (I := iX7_stands) (pc := 11) lf_X7_43 dX7_stands_11 md_25 rfl ?_
    refine am_iload_n (I := iX7_stands) (pc := 14) dX7_stands_14 rfl rfl ?_
    refine am_iaload (I := iX7_stands) (pc := 15) dX7_stands_15 md_37 rfl (vp_in_nI (show k < 36 by omega) (by decide)) ?_
    rw [nI_clamp (show k < 2 ^ 31 by omega)]
    refine am_iadd (I := iX7_stands) (pc := 16) dX7_stands_16 ?_
    have h55 := h5 k
    rw [nI_add]
    refine am_aload_n (I := iX7_stands) (pc := 17) dX7_stands_17 rfl rfl ?_
    refine am_getf (I := iX7_stands) (pc := 18) lf_X7_16 dX7_stands_18 md_25 rfl ?_
    refine am_iload_n (I := iX7_stands) (pc := 21) dX7_stands_21 rfl rfl ?_
    refine am_iaload (I := iX7_stands) (pc := 22) dX7_stands_22 md_28 rfl (vp_in_nI hiv (by decide)) ?_
    refine am_same (st' := [.int (nI m), .int (nI (t + sz k))]) rfl rfl (by rw [nI_clamp (show iv < 2 ^ 31 by omega), hm]) rfl rfl rfl ?_
    refine am_icmp_gt (I := iX7_stands) (pc := 23) (tgt := 30) dX7_stands_23 (by decide) (fun c23 => ?_) (fun c23 => ?_)
    · refine am_iconst (I := iX7_stands) (pc := 30) (x := 0) dX7_stands_30 (by decide) ?_
      refine am_istore (I := iX7_stands) (pc := 31) (L' := [some (.ref 25), some (.int (nI k)), some (.int (nI iv)), some (.int (nI t)), some (.int 0), none]) dX7_stands_31 (by decide) rfl ?_
      refine am_iconst (I := iX7_stands) (pc := 33) (x := 0) dX7_stands_33 (by decide) ?_
      refine am_istore (I := iX7_stands) (pc := 34) (L' := [some (.ref 25), some (.int (nI k)), some (.int (nI iv)), some (.int (nI t)), some (.int 0), some (.int 0)]) dX7_stands_34 (by decide) rfl ?_
      have loop36 : ∀ (k36 : Nat) (i : Nat), sz k - i < k36 → (i ≤ sz k) → am_W K iX7_stands xp l xe (am_room 0 0 0) xs xm xa xb xt xc (mdS S th pd wd ln sq st ct cl ft zn a26 a27 a28 a29 a30 a31 a32 a33 a34 a35 a36 (fun k => nI (sz k)) a38 a39 a40 a41 a42 a43 a44) ad0 (am_E K ad0 (mdS S th pd wd ln sq st ct cl ft zn a26 a27 a28 a29 a30 a31 a32 a33 a34 a35 a36 (fun k => nI (sz k)) a38 a39 a40 a41 a42 a43 a44) (fun v S' => v = some (.int (bI (decide (stands (lt k) (sz k) g m (nI t) = 1)))) ∧ mdS S th pd wd ln sq st ct cl ft zn a26 a27 a28 a29 a30 a31 a32 a33 a34 a35 a36 (fun k => nI (sz k)) a38 a39 a40 a41 a42 a43 a44 = S') (fun _ _ => False) xb xa xs 0 0) 36 [some (.ref 25), some (.int (nI k)), some (.int (nI iv)), some (.int (nI t)), some (.int (bI (sdm (lt k) (sz k) g m t i))), some (.int (nI i))] [] (mdS S th pd wd ln sq st ct cl ft zn a26 a27 a28 a29 a30 a31 a32 a33 a34 a35 a36 (fun k => nI (sz k)) a38 a39 a40 a41 a42 a43 a44) 0 0 := by
        intro k36
        induction k36 with
        | zero => intro i h9; exact absurd h9 (Nat.not_lt_zero _)
        | succ k36 ih36 =>
          intro i hm36 hi
          refine am_iload (I := iX7_stands) (pc := 36) dX7_stands_36 rfl ?_
          refine am_aload_n (I := iX7_stands) (pc := 38) dX7_stands_38 rfl rfl ?_
          refine am_getf (I := iX7_stands) (pc := 39) lf_X7_43 dX7_stands_39 md_25 rfl ?_
          refine am_iload_n (I := iX7_stands) (pc := 42) dX7_stands_42 rfl rfl ?_
          refine am_iaload (I := iX7_stands) (pc := 43) dX7_stands_43 md_37 rfl (vp_in_nI (show k < 36 by omega) (by decide)) ?_
          rw [nI_clamp (show k < 2 ^ 31 by omega)]
          refine am_icmp_ge (I := iX7_stands) (pc := 44) (tgt := 93) dX7_stands_44 (by decide) (fun c44 => ?_) (fun c44 => ?_)
          · have g44 : sz k ≤ i := by
              rcases Nat.lt_or_ge i (sz k) with q9 | q9
              · exact absurd c44 (nI_ge (a := i) (b := sz k) q9 (by omega))
              · exact q9
            refine am_iload (I := iX7_stands) (pc := 93) dX7_stands_93 rfl ?_
            exact am_zret (I := iX7_stands) (pc := 95) dX7_stands_95 rfl (bI01 _) (Nat.le_refl _) (Nat.le_refl _) (⟨by rw [← sdm_st hm8 ht (h5 k) hne, show i = sz k by omega], rfl⟩)
          · have l44 : i < sz k := by
              rcases Nat.lt_or_ge i (sz k) with q9 | q9
              · exact q9
              · exact absurd (nI_le (a := sz k) (b := i) q9 (by omega)) c44
            refine am_iload (I := iX7_stands) (pc := 47) dX7_stands_47 rfl ?_
            refine am_if_eq (I := iX7_stands) (pc := 49) (tgt := 93) dX7_stands_49 (by decide) (fun c49 => ?_) (fun c49 => ?_)
            · refine am_iload (I := iX7_stands) (pc := 93) dX7_stands_93 rfl ?_
              exact am_zret (I := iX7_stands) (pc := 95) dX7_stands_95 rfl (bI01 _) (Nat.le_refl _) (Nat.le_refl _) (⟨by rw [← sdm_st hm8 ht (h5 k) hne, bI_0 c49, sdm_f (bI_0 c49) hi], rfl⟩)
            · refine am_aload_n (I := iX7_stands) (pc := 52) dX7_stands_52 rfl rfl ?_
              refine am_getf (I := iX7_stands) (pc := 53) lf_X7_19 dX7_stands_53 md_25 rfl ?_
              refine am_bipush (I := iX7_stands) (pc := 56) (x := 80) dX7_stands_56 (by decide) ?_
              refine am_iload_n (I := iX7_stands) (pc := 58) dX7_stands_58 rfl rfl ?_
              refine am_imul (I := iX7_stands) (pc := 59) dX7_stands_59 ?_
              refine am_iload_n (I := iX7_stands) (pc := 60) dX7_stands_60 rfl rfl ?_
              refine am_iadd (I := iX7_stands) (pc := 61) dX7_stands_61 ?_
              refine am_iload (I := iX7_stands) (pc := 62) dX7_stands_62 rfl ?_
              refine am_iadd (I := iX7_stands) (pc := 64) dX7_stands_64 ?_
              have hle := sdm_le (bI_1 c49)
              rw [ix80, nI_add]
              refine am_iaload (I := iX7_stands) (pc := 65) dX7_stands_65 md_29 rfl (vp_in_nI (show 80 * iv + t + i < 16000 by omega) (by decide)) ?_
              refine am_same (st' := [.int (g (t + i))]) rfl rfl (by rw [nI_clamp (show 80 * iv + t + i < 2 ^ 31 by omega), Nat.add_assoc, hg (t + i) (by omega)]) rfl rfl rfl ?_
              refine am_aload_n (I := iX7_stands) (pc := 66) dX7_stands_66 rfl rfl ?_
              refine am_getf (I := iX7_stands) (pc := 67) lf_X7_46 dX7_stands_67 md_25 rfl ?_
              refine am_iconst (I := iX7_stands) (pc := 70) (x := 5) dX7_stands_70 (by decide) ?_
              refine am_iload_n (I := iX7_stands) (pc := 71) dX7_stands_71 rfl rfl ?_
              refine am_imul (I := iX7_stands) (pc := 72) dX7_stands_72 ?_
              refine am_iload (I := iX7_stands) (pc := 73) dX7_stands_73 rfl ?_
              refine am_iadd (I := iX7_stands) (pc := 75) dX7_stands_75 ?_
              rw [ix5]
              refine am_iaload (I := iX7_stands) (pc := 76) dX7_stands_76 md_38 rfl (vp_in_nI (show k * 5 + i < 180 by omega) (by decide)) ?_
              refine am_same (st' := [.int (lt k i), .int (g (t + i))]) rfl rfl (by rw [nI_clamp (show k * 5 + i < 2 ^ 31 by omega), hl k i hk (by omega)]) rfl rfl rfl ?_
              refine am_icmp_ne (I := iX7_stands) (pc := 77) (tgt := 84) dX7_stands_77 (by decide) (fun c77 => ?_) (fun c77 => ?_)
              · refine am_iconst (I := iX7_stands) (pc := 84) (x := 0) dX7_stands_84 (by decide) ?_
                refine am_istore (I := iX7_stands) (pc := 85) (L' := [some (.ref 25), some (.int (nI k)), some (.int (nI iv)), some (.int (nI t)), some (.int 0), some (.int (nI i))]) dX7_stands_85 (by decide) rfl ?_
                refine am_iinc (I := iX7_stands) (pc := 87) (y := ((nI i) + 1)) (L' := [some (.ref 25), some (.int (nI k)), some (.int (nI iv)), some (.int (nI t)), some (.int 0), some (.int ((nI i) + 1))]) dX7_stands_87 rfl rfl rfl ?_
                refine am_goto (I := iX7_stands) (pc := 90) (tgt := 36) dX7_stands_90 (by decide) ?_
                exact am_same rfl (by rw [nI_1, sdm_s, bI_1 c49, decide_eq_false c77]; rfl) rfl rfl rfl rfl (ih36 (i + 1) (by omega) (by omega))
              · refine am_iconst (I := iX7_stands) (pc := 80) (x := 1) dX7_stands_80 (by decide) ?_
                refine am_goto (I := iX7_stands) (pc := 81) (tgt := 85) dX7_stands_81 (by decide) ?_
                refine am_istore (I := iX7_stands) (pc := 85) (L' := [some (.ref 25), some (.int (nI k)), some (.int (nI iv)), some (.int (nI t)), some (.int 1), some (.int (nI i))]) dX7_stands_85 (by decide) rfl ?_
                refine am_iinc (I := iX7_stands) (pc := 87) (y := ((nI i) + 1)) (L' := [some (.ref 25), some (.int (nI k)), some (.int (nI iv)), some (.int (nI t)), some (.int 1), some (.int ((nI i) + 1))]) dX7_stands_87 rfl rfl rfl ?_
                refine am_goto (I := iX7_stands) (pc := 90) (tgt := 36) dX7_stands_90 (by decide) ?_
                exact am_same rfl (by rw [nI_1, sdm_s, bI_1 c49, decide_eq_true c77]; rfl) rfl rfl rfl rfl (ih36 (i + 1) (by omega) (by omega))
      exact am_same rfl (by rw [sdm_0, decide_eq_false (fun q9 => nI_nlt q9 (by omega) c23)]; rfl) rfl rfl rfl rfl (loop36 _ 0 (Nat.lt_succ_self _) (Nat.zero_le _))
    · refine am_iconst (I := iX7_stands) (pc := 26) (x := 1) dX7_stands_26 (by decide) ?_
      refine am_goto (I := iX7_stands) (pc := 27) (tgt := 31) dX7_stands_27 (by decide) ?_
      refine am_istore (I := iX7_stands) (pc := 31) (L' := [some (.ref 25), some (.int (nI k)), some (.int (nI iv)), some (.int (nI t)), some (.int 1), none]) dX7_stands_31 (by decide) rfl ?_
      refine am_iconst (I := iX7_stands) (pc := 33) (x := 0) dX7_stands_33 (by decide) ?_
      refine am_istore (I := iX7_stands) (pc := 34) (L' := [some (.ref 25), some (.int (nI k)), some (.int (nI iv)), some (.int (nI t)), some (.int 1), some (.int 0)]) dX7_stands_34 (by decide) rfl ?_
      have loop36 : ∀ (k36 : Nat) (i : Nat), sz k - i < k36 → (i ≤ sz k) → am_W K iX7_stands xp l xe (am_room 0 0 0) xs xm xa xb xt xc (mdS S th pd wd ln sq st ct cl ft zn a26 a27 a28 a29 a30 a31 a32 a33 a34 a35 a36 (fun k => nI (sz k)) a38 a39 a40 a41 a42 a43 a44) ad0 (am_E K ad0 (mdS S th pd wd ln sq st ct cl ft zn a26 a27 a28 a29 a30 a31 a32 a33 a34 a35 a36 (fun k => nI (sz k)) a38 a39 a40 a41 a42 a43 a44) (fun v S' => v = some (.int (bI (decide (stands (lt k) (sz k) g m (nI t) = 1)))) ∧ mdS S th pd wd ln sq st ct cl ft zn a26 a27 a28 a29 a30 a31 a32 a33 a34 a35 a36 (fun k => nI (sz k)) a38 a39 a40 a41 a42 a43 a44 = S') (fun _ _ => False) xb xa xs 0 0) 36 [some (.ref 25), some (.int (nI k)), some (.int (nI iv)), some (.int (nI t)), some (.int (bI (sdm (lt k) (sz k) g m t i))), some (.int (nI i))] [] (mdS S th pd wd ln sq st ct cl ft zn a26 a27 a28 a29 a30 a31 a32 a33 a34 a35 a36 (fun k => nI (sz k)) a38 a39 a40 a41 a42 a43 a44) 0 0 := by
        intro k36
        induction k36 with
        | zero => intro i h9; exact absurd h9 (Nat.not_lt_zero _)
        | succ k36 ih36 =>
          intro i hm36 hi
          refine am_iload (I := iX7_stands) (pc := 36) dX7_stands_36 rfl ?_
          refine am_aload_n (I := iX7_stands) (pc := 38) dX7_stands_38 rfl rfl ?_
          refine am_getf (I := iX7_stands) (pc := 39) lf_X7_43 dX7_stands_39 md_25 rfl ?_
          refine am_iload_n (I := iX7_stands) (pc := 42) dX7_stands_42 rfl rfl ?_
          refine am_iaload (I := iX7_stands) (pc := 43) dX7_stands_43 md_37 rfl (vp_in_nI (show k < 36 by omega) (by decide)) ?_
          rw [nI_clamp (show k < 2 ^ 31 by omega)]
          refine am_icmp_ge (I := iX7_stands) (pc := 44) (tgt := 93) dX7_stands_44 (by decide) (fun c44 => ?_) (fun c44 => ?_)
          · have g44 : sz k ≤ i := by
              rcases Nat.lt_or_ge i (sz k) with q9 | q9
              · exact absurd c44 (nI_ge (a := i) (b := sz k) q9 (by omega))
              · exact q9
            refine am_iload (I := iX7_stands) (pc := 93) dX7_stands_93 rfl ?_
            exact am_zret (I := iX7_stands) (pc := 95) dX7_stands_95 rfl (bI01 _) (Nat.le_refl _) (Nat.le_refl _) (⟨by rw [← sdm_st hm8 ht (h5 k) hne, show i = sz k by omega], rfl⟩)
          · have l44 : i < sz k := by
              rcases Nat.lt_or_ge i (sz k) with q9 | q9
              · exact q9
              · exact absurd (nI_le (a := sz k) (b := i) q9 (by omega)) c44
            refine am_iload (I := iX7_stands) (pc := 47) dX7_stands_47 rfl ?_
            refine am_if_eq (I := iX7_stands) (pc := 49) (tgt := 93) dX7_stands_49 (by decide) (fun c49 => ?_) (fun c49 => ?_)
            · refine am_iload (I := iX7_stands) (pc := 93) dX7_stands_93 rfl ?_
              exact am_zret (I := iX7_stands) (pc := 95) dX7_stands_95 rfl (bI01 _) (Nat.le_refl _) (Nat.le_refl _) (⟨by rw [← sdm_st hm8 ht (h5 k) hne, bI_0 c49, sdm_f (bI_0 c49) hi], rfl⟩)
            · refine am_aload_n (I := iX7_stands) (pc := 52) dX7_stands_52 rfl rfl ?_
              refine am_getf (I := iX7_stands) (pc := 53) lf_X7_19 dX7_stands_53 md_25 rfl ?_
              refine am_bipush (I := iX7_stands) (pc := 56) (x := 80) dX7_stands_56 (by decide) ?_
              refine am_iload_n (I := iX7_stands) (pc := 58) dX7_stands_58 rfl rfl ?_
              refine am_imul (I := iX7_stands) (pc := 59) dX7_stands_59 ?_
              refine am_iload_n (I := iX7_stands) (pc := 60) dX7_stands_60 rfl rfl ?_
              refine am_iadd (I := iX7_stands) (pc := 61) dX7_stands_61 ?_
              refine am_iload (I := iX7_stands) (pc := 62) dX7_stands_62 rfl ?_
              refine am_iadd (I := iX7_stands) (pc := 64) dX7_stands_64 ?_
              have hle := sdm_le (bI_1 c49)
              rw [ix80, nI_add]
              refine am_iaload (I := iX7_stands) (pc := 65) dX7_stands_65 md_29 rfl (vp_in_nI (show 80 * iv + t + i < 16000 by omega) (by decide)) ?_
              refine am_same (st' := [.int (g (t + i))]) rfl rfl (by rw [nI_clamp (show 80 * iv + t + i < 2 ^ 31 by omega), Nat.add_assoc, hg (t + i) (by omega)]) rfl rfl rfl ?_
              refine am_aload_n (I := iX7_stands) (pc := 66) dX7_stands_66 rfl rfl ?_
              refine am_getf (I := iX7_stands) (pc := 67) lf_X7_46 dX7_stands_67 md_25 rfl ?_
              refine am_iconst (I := iX7_stands) (pc := 70) (x := 5) dX7_stands_70 (by decide) ?_
              refine am_iload_n (I := iX7_stands) (pc := 71) dX7_stands_71 rfl rfl ?_
              refine am_imul (I := iX7_stands) (pc := 72) dX7_stands_72 ?_
              refine am_iload (I := iX7_stands) (pc := 73) dX7_stands_73 rfl ?_
              refine am_iadd (I := iX7_stands) (pc := 75) dX7_stands_75 ?_
              rw [ix5]
              refine am_iaload (I := iX7_stands) (pc := 76) dX7_stands_76 md_38 rfl (vp_in_nI (show k * 5 + i < 180 by omega) (by decide)) ?_
              refine am_same (st' := [.int (lt k i), .int (g (t + i))]) rfl rfl (by rw [nI_clamp (show k * 5 + i < 2 ^ 31 by omega), hl k i hk (by omega)]) rfl rfl rfl ?_
              refine am_icmp_ne (I := iX7_stands) (pc := 77) (tgt := 84) dX7_stands_77 (by decide) (fun c77 => ?_) (fun c77 => ?_)
              · refine am_iconst (I := iX7_stands) (pc := 84) (x := 0) dX7_stands_84 (by decide) ?_
                refine am_istore (I := iX7_stands) (pc := 85) (L' := [some (.ref 25), some (.int (nI k)), some (.int (nI iv)), some (.int (nI t)), some (.int 0), some (.int (nI i))]) dX7_stands_85 (by decide) rfl ?_
                refine am_iinc (I := iX7_stands) (pc := 87) (y := ((nI i) + 1)) (L' := [some (.ref 25), some (.int (nI k)), some (.int (nI iv)), some (.int (nI t)), some (.int 0), some (.int ((nI i) + 1))]) dX7_stands_87 rfl rfl rfl ?_
                refine am_goto (I := iX7_stands) (pc := 90) (tgt := 36) dX7_stands_90 (by decide) ?_
                exact am_same rfl (by rw [nI_1, sdm_s, bI_1 c49, decide_eq_false c77]; rfl) rfl rfl rfl rfl (ih36 (i + 1) (by omega) (by omega))
              · refine am_iconst (I := iX7_stands) (pc := 80) (x := 1) dX7_stands_80 (by decide) ?_
                refine am_goto (I := iX7_stands) (pc := 81) (tgt := 85) dX7_stands_81 (by decide) ?_
                refine am_istore (I := iX7_stands) (pc := 85) (L' := [some (.ref 25), some (.int (nI k)), some (.int (nI iv)), some (.int (nI t)), some (.int 1), some (.int (nI i))]) dX7_stands_85 (by decide) rfl ?_
                refine am_iinc (I := iX7_stands) (pc := 87) (y := ((nI i) + 1)) (L' := [some (.ref 25), some (.int (nI k)), some (.int (nI iv)), some (.int (nI t)), some (.int 1), some (.int ((nI i) + 1))]) dX7_stands_87 rfl rfl rfl ?_
                refine am_goto (I := iX7_stands) (pc := 90) (tgt := 36) dX7_stands_90 (by decide) ?_
                exact am_same rfl (by rw [nI_1, sdm_s, bI_1 c49, decide_eq_true c77]; rfl) rfl rfl rfl rfl (ih36 (i + 1) (by omega) (by omega))
      exact am_same rfl (by rw [sdm_0, decide_eq_true (show t + sz k ≤ m by rcases Nat.lt_or_ge m (t + sz k) with q9 | q9; exact absurd (nI_lt q9 (by omega)) c23; exact q9)]; rfl) rfl rfl rfl rfl (loop36 _ 0 (Nat.lt_succ_self _) (Nat.zero_le _))
def wk1 (sz : Nat → Nat) (lt : Nat → Nat → Int32) (g : Nat → Int32) (m t k : Nat) : Int32 := if (lg sz lt g m (nI t) k).2 = 0 then oc (g t) else (lg sz lt g m (nI t) k).1
def wk2 (sz : Nat → Nat) (lt : Nat → Nat → Int32) (g : Nat → Int32) (m t k : Nat) : Nat := if (lg sz lt g m (nI t) k).2 = 0 then 1 else (lg sz lt g m (nI t) k).2
theorem wk2_gt {sz : Nat → Nat} {lt : Nat → Nat → Int32} {g : Nat → Int32} {m t k : Nat} (h2 : ∀ k, k < 36 → sz k = 0 ∨ 2 ≤ sz k) (hk : k < 36) : wk2 sz lt g m t k < sz k ↔ (lg sz lt g m (nI t) k).2 < sz k := by
  unfold wk2
  have := h2 k hk
  split <;> omega
theorem wk_t {sz : Nat → Nat} {lt : Nat → Nat → Int32} {g : Nat → Int32} {m t k : Nat} (h2 : ∀ k, k < 36 → sz k = 0 ∨ 2 ≤ sz k) (hk : k < 36) (h : wk2 sz lt g m t k < sz k) (hs : stands (lt k) (sz k) g m (nI t) = 1) : wk1 sz lt g m t (k + 1) = nI (28 + k) ∧ wk2 sz lt g m t (k + 1) = sz k := by
  have e : lg sz lt g m (nI t) (k + 1) = (nI (28 + k), sz k) := by rw [lg, if_pos ⟨(wk2_gt h2 hk).mp h, hs⟩]
  unfold wk1 wk2
  rw [e]
  have : ¬ sz k = 0 := by omega
  exact ⟨if_neg this, if_neg this⟩
theorem wk_f {sz : Nat → Nat} {lt : Nat → Nat → Int32} {g : Nat → Int32} {m t k : Nat} (h2 : ∀ k, k < 36 → sz k = 0 ∨ 2 ≤ sz k) (hk : k < 36) (h : ¬ (wk2 sz lt g m t k < sz k ∧ stands (lt k) (sz k) g m (nI t) = 1)) : wk1 sz lt g m t (k + 1) = wk1 sz lt g m t k ∧ wk2 sz lt g m t (k + 1) = wk2 sz lt g m t k := by
  have e : lg sz lt g m (nI t) (k + 1) = lg sz lt g m (nI t) k := by rw [lg, if_neg (fun q => h ⟨(wk2_gt h2 hk).mpr q.1, q.2⟩)]
  unfold wk1 wk2
  rw [e]
  exact ⟨rfl, rfl⟩
theorem wk2_le {sz : Nat → Nat} {lt : Nat → Nat → Int32} {g : Nat → Int32} {m t k : Nat} (h5 : ∀ k, sz k ≤ 5) : wk2 sz lt g m t k ≤ 5 ∧ 0 < wk2 sz lt g m t k := by
  unfold wk2
  split
  · exact ⟨by decide, by decide⟩
  · rename_i h
    refine ⟨?_, by omega⟩
    rcases lg_or (sz := sz) (lt := lt) (g := g) (m := m) (fr := nI t) k with e | ⟨j, -, e, -⟩
    · rw [e]; decide
    · rw [e]; exact h5 j
set_option maxRecDepth 100000 in
set_option maxHeartbeats 4000000 in
theorem q_fingers_x0 {K : am_K} {l : Launch} {S : am_S} {th pd wd ln sq st ct cl ft zn : Int32} {a26 a27 a28 a29 a30 a31 a32 a33 a34 a35 a36 a37 a38 a39 a40 a41 a42 a43 a44 : Nat → Int32} (x y : Int32) (hb : (x < 0 ∨ 10 ≤ x) ∨ (y < 0 ∨ 5 ≤ y)) : am_M K l iX7_fingers 2 0 0 [.ref 25, .int x, .int y] (mdS S th pd wd ln sq st ct cl ft zn a26 a27 a28 a29 a30 a31 a32 a33 a34 a35 a36 a37 a38 a39 a40 a41 a42 a43 a44) (fun v S' => v = some (.int (0)) ∧ mdS S 1 pd wd ln sq st ct cl ft zn a26 a27 a28 a29 a30 a31 a32 a33 a34 a35 a36 a37 a38 a39 a40 a41 a42 a43 a44 = S') (fun _ _ => False) := by
  refine am_body (by decide) rfl (by simp [Value.category]) (Nat.le_of_ble_eq_true rfl) (fun xp xe xs xm xa xb xt xc ad0 => ?_)
  show am_W _ _ _ _ _ _ _ _ _ _ _ _ _ _ _ 0 [some (.ref 25), some (.int x), some (.int y), none, none, none, none, none, none, none] [] (mdS S th pd wd ln sq st ct cl ft zn a26 a27 a28 a29 a30 a31 a32 a33 a34 a35 a36 a37 a38 a39 a40 a41 a42 a43 a44) 0 0
  refine am_aload_n (I := iX7_fingers) (pc := 0) dX7_fingers_0 rfl rfl ?_
  refine am_iload_n (I := iX7_fingers) (pc := 1) dX7_fingers_1 rfl rfl ?_
  refine am_iload_n (I := iX7_fingers) (pc := 2) dX7_fingers_2 rfl rfl ?_
  refine am_callS (I := iX7_fingers) (pc := 3) (st := [.ref 25]) lv_X7_87 rfl (q_isPair x y) dX7_fingers_3 rfl (Nat.le_of_ble_eq_true rfl) ⟨Nat.le_of_ble_eq_true rfl, Nat.le_of_ble_eq_true rfl⟩ (Nat.le_of_ble_eq_true rfl) (Nat.le_of_ble_eq_true rfl) rfl (fun v9 T9 z9 _ => ?_) (fun _ _ h9 => h9.elim)
  obtain ⟨rfl, rfl⟩ := z9
  show am_W _ _ _ _ _ _ _ _ _ _ _ _ _ _ _ 6 [some (.ref 25), some (.int x), some (.int y), none, none, none, none, none, none, none] [.int (bI (ipr x y)), .ref 25] (mdS S th pd wd ln sq st ct cl ft zn a26 a27 a28 a29 a30 a31 a32 a33 a34 a35 a36 a37 a38 a39 a40 a41 a42 a43 a44) 0 0
  rw [bI_f (ipr_f hb)]
  refine am_iconst (I := iX7_fingers) (pc := 6) (x := 1) dX7_fingers_6 (by decide) ?_
  refine am_callV (I := iX7_fingers) (pc := 7) (st := []) lv_X7_79 (q_goes1 _) dX7_fingers_7 md_25 rfl (Nat.le_of_ble_eq_true rfl) ⟨Nat.le_of_ble_eq_true rfl, Nat.le_of_ble_eq_true rfl⟩ (Nat.le_of_ble_eq_true rfl) (Nat.le_of_ble_eq_true rfl) rfl (fun v9 T9 z9 _ => ?_) (fun _ _ h9 => h9.elim)
  obtain ⟨rfl, rfl⟩ := z9
  show am_W _ _ _ _ _ _ _ _ _ _ _ _ _ _ _ 10 [some (.ref 25), some (.int x), some (.int y), none, none, none, none, none, none, none] [.int 0] (mdS S 1 pd wd ln sq st ct cl ft zn a26 a27 a28 a29 a30 a31 a32 a33 a34 a35 a36 a37 a38 a39 a40 a41 a42 a43 a44) 0 0
  refine am_if_ne (I := iX7_fingers) (pc := 10) (tgt := 15) dX7_fingers_10 (by decide) (fun c10 => ?_) (fun c10 => ?_)
  · exact absurd rfl c10
  · refine am_iconst (I := iX7_fingers) (pc := 13) (x := 0) dX7_fingers_13 (by decide) ?_
    exact am_iret (I := iX7_fingers) (pc := 14) dX7_fingers_14 rfl (Nat.le_refl _) (Nat.le_refl _) (⟨rfl, rfl⟩)
set_option maxRecDepth 100000 in
set_option maxHeartbeats 4000000 in
theorem q_fingers_n {K : am_K} {l : Launch} {S : am_S} {th pd wd ln sq st ct cl ft zn : Int32} {a26 a28 a29 a31 a32 a33 a34 a35 a36 a37 a38 a39 a40 a41 a42 a43 a44 : Nat → Int32} (cn : Nat → Nat) (fb : Nat → Option Nat) (p q : Nat) (h4 : ∀ k, cn k ≤ 4) (hf : ∀ l k, fb l = some k → k < 5) (hp : p < 10) (hq : q < 5) (hen : ends fb 5 (some q)) (hs : sh cn fb p 5 (some q) = none) : am_M K l iX7_fingers 2 0 0 [.ref 25, .int (nI p), .int (nI q)] (mdS S th pd wd ln sq st ct cl ft zn a26 (fun k => nI (cn k)) a28 a29 (fun l => fo (fb l)) a31 a32 a33 a34 a35 a36 a37 a38 a39 a40 a41 a42 a43 a44) (fun v S' => v = some (.int (-1)) ∧ mdS S 0 pd wd ln sq st ct cl ft zn a26 (fun k => nI (cn k)) a28 a29 (fun l => fo (fb l)) a31 a32 a33 a34 a35 a36 a37 a38 a39 a40 a41 a42 a43 a44 = S') (fun _ _ => False) := by
  refine am_body (by decide) rfl (by simp [Value.category]) (Nat.le_of_ble_eq_true rfl) (fun xp xe xs xm xa xb xt xc ad0 => ?_)
  show am_W _ _ _ _ _ _ _ _ _ _ _ _ _ _ _ 0 [some (.ref 25), some (.int (nI p)), some (.int (nI q)), none, none, none, none, none, none, none] [] (mdS S th pd wd ln sq st ct cl ft zn a26 (fun k => nI (cn k)) a28 a29 (fun l => fo (fb l)) a31 a32 a33 a34 a35 a36 a37 a38 a39 a40 a41 a42 a43 a44) 0 0
  refine am_aload_n (I := iX7_fingers) (pc := 0) dX7_fingers_0 rfl rfl ?_
  refine am_iload_n (I := iX7_fingers) (pc := 1) dX7_fingers_1 rfl rfl ?_
  refine am_iload_n (I := iX7_fingers) (pc := 2) dX7_fingers_2 rfl rfl ?_
  refine am_callS (I := iX7_fingers) (pc := 3) (st := [.ref 25]) lv_X7_87 rfl (q_isPair (nI p) (nI q)) dX7_fingers_3 rfl (Nat.le_of_ble_eq_true rfl) ⟨Nat.le_of_ble_eq_true rfl, Nat.le_of_ble_eq_true rfl⟩ (Nat.le_of_ble_eq_true rfl) (Nat.le_of_ble_eq_true rfl) rfl (fun v9 T9 z9 _ => ?_) (fun _ _ h9 => h9.elim)
  obtain ⟨rfl, rfl⟩ := z9
  show am_W _ _ _ _ _ _ _ _ _ _ _ _ _ _ _ 6 [some (.ref 25), some (.int (nI p)), some (.int (nI q)), none, none, none, none, none, none, none] [.int (bI (ipr (nI p) (nI q))), .ref 25] (mdS S th pd wd ln sq st ct cl ft zn a26 (fun k => nI (cn k)) a28 a29 (fun l => fo (fb l)) a31 a32 a33 a34 a35 a36 a37 a38 a39 a40 a41 a42 a43 a44) 0 0
  rw [bI_t (ipr_t hp hq)]
  refine am_iconst (I := iX7_fingers) (pc := 6) (x := 1) dX7_fingers_6 (by decide) ?_
  refine am_callV (I := iX7_fingers) (pc := 7) (st := []) lv_X7_79 (q_goes0) dX7_fingers_7 md_25 rfl (Nat.le_of_ble_eq_true rfl) ⟨Nat.le_of_ble_eq_true rfl, Nat.le_of_ble_eq_true rfl⟩ (Nat.le_of_ble_eq_true rfl) (Nat.le_of_ble_eq_true rfl) rfl (fun v9 T9 z9 _ => ?_) (fun _ _ h9 => h9.elim)
  obtain ⟨rfl, rfl⟩ := z9
  show am_W _ _ _ _ _ _ _ _ _ _ _ _ _ _ _ 10 [some (.ref 25), some (.int (nI p)), some (.int (nI q)), none, none, none, none, none, none, none] [.int 1] (mdS S 0 pd wd ln sq st ct cl ft zn a26 (fun k => nI (cn k)) a28 a29 (fun l => fo (fb l)) a31 a32 a33 a34 a35 a36 a37 a38 a39 a40 a41 a42 a43 a44) 0 0
  refine am_if_ne (I := iX7_fingers) (pc := 10) (tgt := 15) dX7_fingers_10 (by decide) (fun c10 => ?_) (fun c10 => ?_)
  · refine am_aload_n (I := iX7_fingers) (pc := 15) dX7_fingers_15 rfl rfl ?_
    refine am_iload_n (I := iX7_fingers) (pc := 16) dX7_fingers_16 rfl rfl ?_
    refine am_iload_n (I := iX7_fingers) (pc := 17) dX7_fingers_17 rfl rfl ?_
    refine am_callV (I := iX7_fingers) (pc := 18) (st := []) lv_X7_101 (q_latest0 cn fb p q h4 hf hp hq hen hs) dX7_fingers_18 md_25 rfl (Nat.le_of_ble_eq_true rfl) ⟨Nat.le_of_ble_eq_true rfl, Nat.le_of_ble_eq_true rfl⟩ (Nat.le_of_ble_eq_true rfl) (Nat.le_of_ble_eq_true rfl) rfl (fun v9 T9 z9 _ => ?_) (fun _ _ h9 => h9.elim)
    obtain ⟨rfl, rfl⟩ := z9
    show am_W _ _ _ _ _ _ _ _ _ _ _ _ _ _ _ 21 [some (.ref 25), some (.int (nI p)), some (.int (nI q)), none, none, none, none, none, none, none] [.int (-1)] (mdS S 0 pd wd ln sq st ct cl ft zn a26 (fun k => nI (cn k)) a28 a29 (fun l => fo (fb l)) a31 a32 a33 a34 a35 a36 a37 a38 a39 a40 a41 a42 a43 a44) 0 0
    refine am_istore_n (I := iX7_fingers) (pc := 21) (L' := [some (.ref 25), some (.int (nI p)), some (.int (nI q)), some (.int (-1)), none, none, none, none, none, none]) dX7_fingers_21 rfl (by decide) rfl ?_
    refine am_iload_n (I := iX7_fingers) (pc := 22) dX7_fingers_22 rfl rfl ?_
    refine am_iconst (I := iX7_fingers) (pc := 23) (x := (-1)) dX7_fingers_23 (by decide) ?_
    refine am_icmp_ne (I := iX7_fingers) (pc := 24) (tgt := 29) dX7_fingers_24 (by decide) (fun c24 => ?_) (fun c24 => ?_)
    · exact absurd c24 (by decide)
    · refine am_iconst (I := iX7_fingers) (pc := 27) (x := (-1)) dX7_fingers_27 (by decide) ?_
      exact am_iret (I := iX7_fingers) (pc := 28) dX7_fingers_28 rfl (Nat.le_refl _) (Nat.le_refl _) (⟨rfl, rfl⟩)
  · exact absurd c10 (by decide)
set_option maxRecDepth 100000 in
set_option maxHeartbeats 4000000 in
theorem q_fingers {K : am_K} {l : Launch} {S : am_S} {th pd wd ln sq st ct cl ft zn : Int32} {a26 a28 a29 a31 a32 a33 a34 a35 a36 a38 a39 a40 a41 a42 a43 a44 : Nat → Int32} (cn : Nat → Nat) (fb : Nat → Option Nat) (p q : Nat) (r : Nat) (iv m : Nat) (g : Nat → Int32) (sz : Nat → Nat) (lt : Nat → Nat → Int32) (h4 : ∀ k, cn k ≤ 4) (hf : ∀ l k, fb l = some k → k < 5) (hp : p < 10) (hq : q < 5) (hen : ends fb 5 (some q)) (hs : sh cn fb p 5 (some q) = some r) (eiv : iv = ((p * 5 + r) * 4 + (cn (p * 5 + r) - 1))) (hiv : iv < 200) (hm : a28 iv = nI m) (hm8 : m ≤ 80) (hg : ∀ t, t < m → a29 (80 * iv + t) = g t) (h5 : ∀ k, sz k ≤ 5) (hl : ∀ k i, k < 36 → i < sz k → a38 (k * 5 + i) = lt k i) (h2 : ∀ k, k < 36 → sz k = 0 ∨ 2 ≤ sz k) (hne : ∀ k j, k < 36 → j < sz k → ¬ lt k j = -1) : am_M K l iX7_fingers 2 0 0 [.ref 25, .int (nI p), .int (nI q)] (mdS S th pd wd ln sq st ct cl ft zn a26 (fun k => nI (cn k)) a28 a29 (fun l => fo (fb l)) a31 a32 a33 a34 a35 a36 (fun k => nI (sz k)) a38 a39 a40 a41 a42 a43 a44) (fun v S' => v = some (.int (nI (wns (wst sz lt g m) m m 0))) ∧ mdS S 0 pd wd ln sq st ct (nI (wns (wst sz lt g m) m m 0)) 1 zn a26 (fun k => nI (cn k)) a28 a29 (fun l => fo (fb l)) a31 a32 a33 a34 a35 a36 (fun k => nI (sz k)) a38 (rcat a39 0 (fun j => wcl sz lt g m (wps (wst sz lt g m) j)) (wns (wst sz lt g m) m m 0)) a40 a41 a42 a43 a44 = S') (fun _ _ => False) := by
  refine am_body (by decide) rfl (by simp [Value.category]) (Nat.le_of_ble_eq_true rfl) (fun xp xe xs xm xa xb xt xc ad0 => ?_)
  show am_W _ _ _ _ _ _ _ _ _ _ _ _ _ _ _ 0 [some (.ref 25), some (.int (nI p)), some (.int (nI q)), none, none, none, none, none, none, none] [] (mdS S th pd wd ln sq st ct cl ft zn a26 (fun k => nI (cn k)) a28 a29 (fun l => fo (fb l)) a31 a32 a33 a34 a35 a36 (fun k => nI (sz k)) a38 a39 a40 a41 a42 a43 a44) 0 0
  refine am_aload_n (I := iX7_fingers) (pc := 0) dX7_fingers_0 rfl rfl ?_
  refine am_iload_n (I := iX7_fingers) (pc := 1) dX7_fingers_1 rfl rfl ?_
  refine am_iload_n (I := iX7_fingers) (pc := 2) dX7_fingers_2 rfl rfl ?_
  refine am_callS (I := iX7_fingers) (pc := 3) (st := [.ref 25]) lv_X7_87 rfl (q_isPair (nI p) (nI q)) dX7_fingers_3 rfl (Nat.le_of_ble_eq_true rfl) ⟨Nat.le_of_ble_eq_true rfl, Nat.le_of_ble_eq_true rfl⟩ (Nat.le_of_ble_eq_true rfl) (Nat.le_of_ble_eq_true rfl) rfl (fun v9 T9 z9 _ => ?_) (fun _ _ h9 => h9.elim)
  obtain ⟨rfl, rfl⟩ := z9
  show am_W _ _ _ _ _ _ _ _ _ _ _ _ _ _ _ 6 [some (.ref 25), some (.int (nI p)), some (.int (nI q)), none, none, none, none, none, none, none] [.int (bI (ipr (nI p) (nI q))), .ref 25] (mdS S th pd wd ln sq st ct cl ft zn a26 (fun k => nI (cn k)) a28 a29 (fun l => fo (fb l)) a31 a32 a33 a34 a35 a36 (fun k => nI (sz k)) a38 a39 a40 a41 a42 a43 a44) 0 0
  rw [bI_t (ipr_t hp hq)]
  refine am_iconst (I := iX7_fingers) (pc := 6) (x := 1) dX7_fingers_6 (by decide) ?_
  refine am_callV (I := iX7_fingers) (pc := 7) (st := []) lv_X7_79 (q_goes0) dX7_fingers_7 md_25 rfl (Nat.le_of_ble_eq_true rfl) ⟨Nat.le_of_ble_eq_true rfl, Nat.le_of_ble_eq_true rfl⟩ (Nat.le_of_ble_eq_true rfl) (Nat.le_of_ble_eq_true rfl) rfl (fun v9 T9 z9 _ => ?_) (fun _ _ h9 => h9.elim)
  obtain ⟨rfl, rfl⟩ := z9
  show am_W _ _ _ _ _ _ _ _ _ _ _ _ _ _ _ 10 [some (.ref 25), some (.int (nI p)), some (.int (nI q)), none, none, none, none, none, none, none] [.int 1] (mdS S 0 pd wd ln sq st ct cl ft zn a26 (fun k => nI (cn k)) a28 a29 (fun l => fo (fb l)) a31 a32 a33 a34 a35 a36 (fun k => nI (sz k)) a38 a39 a40 a41 a42 a43 a44) 0 0
  refine am_if_ne (I := iX7_fingers) (pc := 10) (tgt := 15) dX7_fingers_10 (by decide) (fun c10 => ?_) (fun c10 => ?_)
  · refine am_aload_n (I := iX7_fingers) (pc := 15) dX7_fingers_15 rfl rfl ?_
    refine am_iload_n (I := iX7_fingers) (pc := 16) dX7_fingers_16 rfl rfl ?_
    refine am_iload_n (I := iX7_fingers) (pc := 17) dX7_fingers_17 rfl rfl ?_
    refine am_callV (I := iX7_fingers) (pc := 18) (st := []) lv_X7_101 (q_latest1 cn fb p q r h4 hf hp hq hen hs) dX7_fingers_18 md_25 rfl (Nat.le_of_ble_eq_true rfl) ⟨Nat.le_of_ble_eq_true rfl, Nat.le_of_ble_eq_true rfl⟩ (Nat.le_of_ble_eq_true rfl) (Nat.le_of_ble_eq_true rfl) rfl (fun v9 T9 z9 _ => ?_) (fun _ _ h9 => h9.elim)
    obtain ⟨rfl, rfl⟩ := z9
    show am_W _ _ _ _ _ _ _ _ _ _ _ _ _ _ _ 21 [some (.ref 25), some (.int (nI p)), some (.int (nI q)), none, none, none, none, none, none, none] [.int (nI ((p * 5 + r) * 4 + (cn (p * 5 + r) - 1)))] (mdS S 0 pd wd ln sq st ct cl ft zn a26 (fun k => nI (cn k)) a28 a29 (fun l => fo (fb l)) a31 a32 a33 a34 a35 a36 (fun k => nI (sz k)) a38 a39 a40 a41 a42 a43 a44) 0 0
    obtain ⟨hr, h0⟩ := sh_lt (cn := cn) (fb := fb) (p := p) hf 5 (some q) (fun j h9 => by cases h9; exact hq) r hs
    rw [← eiv]
    refine am_istore_n (I := iX7_fingers) (pc := 21) (L' := [some (.ref 25), some (.int (nI p)), some (.int (nI q)), some (.int (nI iv)), none, none, none, none, none, none]) dX7_fingers_21 rfl (by decide) rfl ?_
    refine am_iload_n (I := iX7_fingers) (pc := 22) dX7_fingers_22 rfl rfl ?_
    refine am_iconst (I := iX7_fingers) (pc := 23) (x := (-1)) dX7_fingers_23 (by decide) ?_
    refine am_icmp_ne (I := iX7_fingers) (pc := 24) (tgt := 29) dX7_fingers_24 (by decide) (fun c24 => ?_) (fun c24 => ?_)
    · refine am_aload_n (I := iX7_fingers) (pc := 29) dX7_fingers_29 rfl rfl ?_
      refine am_iconst (I := iX7_fingers) (pc := 30) (x := 0) dX7_fingers_30 (by decide) ?_
      refine am_putf (I := iX7_fingers) (pc := 31) (fs' := [.int 0, .int pd, .ref 26, .ref 27, .ref 28, .ref 29, .ref 30, .int wd, .ref 31, .ref 32, .ref 33, .ref 34, .int ln, .int sq, .int st, .ref 35, .ref 36, .ref 37, .ref 38, .int ct, .int 0, .int ft, .ref 39, .int zn, .ref 40, .ref 41, .ref 42, .ref 43, .ref 44]) lf_X7_128 dX7_fingers_31 md_25 (fun _ => ⟨rfl, rfl⟩) (Nat.le_of_ble_eq_true rfl) rfl ?_
      refine am_same (S' := mdS S 0 pd wd ln sq st ct 0 ft zn a26 (fun k => nI (cn k)) a28 a29 (fun l => fo (fb l)) a31 a32 a33 a34 a35 a36 (fun k => nI (sz k)) a38 a39 a40 a41 a42 a43 a44) rfl rfl rfl mdS_25 rfl rfl ?_
      refine am_aload_n (I := iX7_fingers) (pc := 34) dX7_fingers_34 rfl rfl ?_
      refine am_iconst (I := iX7_fingers) (pc := 35) (x := 1) dX7_fingers_35 (by decide) ?_
      refine am_putf (I := iX7_fingers) (pc := 36) (fs' := [.int 0, .int pd, .ref 26, .ref 27, .ref 28, .ref 29, .ref 30, .int wd, .ref 31, .ref 32, .ref 33, .ref 34, .int ln, .int sq, .int st, .ref 35, .ref 36, .ref 37, .ref 38, .int ct, .int 0, .int 1, .ref 39, .int zn, .ref 40, .ref 41, .ref 42, .ref 43, .ref 44]) lf_X7_131 dX7_fingers_36 md_25 (fun _ => ⟨rfl, rfl⟩) (Nat.le_of_ble_eq_true rfl) rfl ?_
      refine am_same (S' := mdS S 0 pd wd ln sq st ct 0 1 zn a26 (fun k => nI (cn k)) a28 a29 (fun l => fo (fb l)) a31 a32 a33 a34 a35 a36 (fun k => nI (sz k)) a38 a39 a40 a41 a42 a43 a44) rfl rfl rfl mdS_25 rfl rfl ?_
      refine am_iconst (I := iX7_fingers) (pc := 39) (x := 0) dX7_fingers_39 (by decide) ?_
      refine am_istore (I := iX7_fingers) (pc := 40) (L' := [some (.ref 25), some (.int (nI p)), some (.int (nI q)), some (.int (nI iv)), some (.int 0), none, none, none, none, none]) dX7_fingers_40 (by decide) rfl ?_
      have loop42 : ∀ (k42 : Nat) (k : Nat), m - (wps (wst sz lt g m) k) < k42 → (k ≤ (wps (wst sz lt g m) k)) → (k ≤ m) → ((wps (wst sz lt g m) k) ≤ m + 5) → (k + wns (wst sz lt g m) m (m - k) (wps (wst sz lt g m) k) = (wns (wst sz lt g m) m m 0)) → am_W K iX7_fingers xp l xe (am_room 2 0 0) xs xm xa xb xt xc (mdS S th pd wd ln sq st ct cl ft zn a26 (fun k => nI (cn k)) a28 a29 (fun l => fo (fb l)) a31 a32 a33 a34 a35 a36 (fun k => nI (sz k)) a38 a39 a40 a41 a42 a43 a44) ad0 (am_E K ad0 (mdS S th pd wd ln sq st ct cl ft zn a26 (fun k => nI (cn k)) a28 a29 (fun l => fo (fb l)) a31 a32 a33 a34 a35 a36 (fun k => nI (sz k)) a38 a39 a40 a41 a42 a43 a44) (fun v S' => v = some (.int (nI (wns (wst sz lt g m) m m 0))) ∧ mdS S 0 pd wd ln sq st ct (nI (wns (wst sz lt g m) m m 0)) 1 zn a26 (fun k => nI (cn k)) a28 a29 (fun l => fo (fb l)) a31 a32 a33 a34 a35 a36 (fun k => nI (sz k)) a38 (rcat a39 0 (fun j => wcl sz lt g m (wps (wst sz lt g m) j)) (wns (wst sz lt g m) m m 0)) a40 a41 a42 a43 a44 = S') (fun _ _ => False) xb xa xs 0 0) 42 [some (.ref 25), some (.int (nI p)), some (.int (nI q)), some (.int (nI iv)), some (.int (nI (wps (wst sz lt g m) k))), none, none, none, none, none] [] (mdS S 0 pd wd ln sq st ct (nI k) 1 zn a26 (fun k => nI (cn k)) a28 a29 (fun l => fo (fb l)) a31 a32 a33 a34 a35 a36 (fun k => nI (sz k)) a38 (rcat a39 0 (fun j => wcl sz lt g m (wps (wst sz lt g m) j)) k) a40 a41 a42 a43 a44) 0 0 := by
        intro k42
        induction k42 with
        | zero => intro k h9; exact absurd h9 (Nat.not_lt_zero _)
        | succ k42 ih42 =>
          intro k hm42 hk hkm hT hN
          refine am_iload (I := iX7_fingers) (pc := 42) dX7_fingers_42 rfl ?_
          refine am_aload_n (I := iX7_fingers) (pc := 44) dX7_fingers_44 rfl rfl ?_
          refine am_getf (I := iX7_fingers) (pc := 45) lf_X7_16 dX7_fingers_45 md_25 rfl ?_
          refine am_iload_n (I := iX7_fingers) (pc := 48) dX7_fingers_48 rfl rfl ?_
          refine am_iaload (I := iX7_fingers) (pc := 49) dX7_fingers_49 md_28 rfl (vp_in_nI hiv (by decide)) ?_
          refine am_same (st' := [.int (nI m), .int (nI (wps (wst sz lt g m) k))]) rfl rfl (by rw [nI_clamp (show iv < 2 ^ 31 by omega), hm]) rfl rfl rfl ?_
          refine am_icmp_ge (I := iX7_fingers) (pc := 50) (tgt := 216) dX7_fingers_50 (by decide) (fun c50 => ?_) (fun c50 => ?_)
          · have g50 : m ≤ (wps (wst sz lt g m) k) := by
              rcases Nat.lt_or_ge (wps (wst sz lt g m) k) m with q9 | q9
              · exact absurd c50 (nI_ge q9 (by omega))
              · exact q9
            refine am_aload_n (I := iX7_fingers) (pc := 216) dX7_fingers_216 rfl rfl ?_
            refine am_getf (I := iX7_fingers) (pc := 217) lf_X7_128 dX7_fingers_217 md_25 rfl ?_
            exact am_iret (I := iX7_fingers) (pc := 220) dX7_fingers_220 rfl (Nat.le_refl _) (Nat.le_refl _) (⟨by rw [← hN, wns_out g50]; rfl, by rw [← hN, wns_out g50]; rfl⟩)
          · have l50 : (wps (wst sz lt g m) k) < m := by
              rcases Nat.lt_or_ge (wps (wst sz lt g m) k) m with q9 | q9
              · exact q9
              · exact absurd (nI_le q9 (show (wps (wst sz lt g m) k) < 2 ^ 31 by omega)) c50
            refine am_aload_n (I := iX7_fingers) (pc := 53) dX7_fingers_53 rfl rfl ?_
            refine am_getf (I := iX7_fingers) (pc := 54) lf_X7_19 dX7_fingers_54 md_25 rfl ?_
            refine am_bipush (I := iX7_fingers) (pc := 57) (x := 80) dX7_fingers_57 (by decide) ?_
            refine am_iload_n (I := iX7_fingers) (pc := 59) dX7_fingers_59 rfl rfl ?_
            refine am_imul (I := iX7_fingers) (pc := 60) dX7_fingers_60 ?_
            refine am_iload (I := iX7_fingers) (pc := 61) dX7_fingers_61 rfl ?_
            refine am_iadd (I := iX7_fingers) (pc := 63) dX7_fingers_63 ?_
            rw [ix80]
            refine am_iaload (I := iX7_fingers) (pc := 64) dX7_fingers_64 md_29 rfl (vp_in_nI (show 80 * iv + (wps (wst sz lt g m) k) < 16000 by omega) (by decide)) ?_
            refine am_same (st' := [.int (g (wps (wst sz lt g m) k))]) rfl rfl (by rw [nI_clamp (show 80 * iv + (wps (wst sz lt g m) k) < 2 ^ 31 by omega), hg (wps (wst sz lt g m) k) l50]) rfl rfl rfl ?_
            refine am_istore (I := iX7_fingers) (pc := 65) (L' := [some (.ref 25), some (.int (nI p)), some (.int (nI q)), some (.int (nI iv)), some (.int (nI (wps (wst sz lt g m) k))), some (.int (g (wps (wst sz lt g m) k))), none, none, none, none]) dX7_fingers_65 (by decide) rfl ?_
            refine am_iload (I := iX7_fingers) (pc := 67) dX7_fingers_67 rfl ?_
            refine am_bipush (I := iX7_fingers) (pc := 69) (x := 32) dX7_fingers_69 (by decide) ?_
            refine am_icmp_ne (I := iX7_fingers) (pc := 71) (tgt := 78) dX7_fingers_71 (by decide) (fun c71 => ?_) (fun c71 => ?_)
            · refine am_iload (I := iX7_fingers) (pc := 78) dX7_fingers_78 rfl ?_
              refine am_bipush (I := iX7_fingers) (pc := 80) (x := 46) dX7_fingers_80 (by decide) ?_
              refine am_icmp_ne (I := iX7_fingers) (pc := 82) (tgt := 90) dX7_fingers_82 (by decide) (fun c82 => ?_) (fun c82 => ?_)
              · refine am_iload (I := iX7_fingers) (pc := 90) dX7_fingers_90 rfl ?_
                refine am_bipush (I := iX7_fingers) (pc := 92) (x := 97) dX7_fingers_92 (by decide) ?_
                refine am_isub (I := iX7_fingers) (pc := 94) dX7_fingers_94 ?_
                refine am_iconst (I := iX7_fingers) (pc := 95) (x := 1) dX7_fingers_95 (by decide) ?_
                refine am_iadd (I := iX7_fingers) (pc := 96) dX7_fingers_96 ?_
                refine am_istore (I := iX7_fingers) (pc := 97) (L' := [some (.ref 25), some (.int (nI p)), some (.int (nI q)), some (.int (nI iv)), some (.int (nI (wps (wst sz lt g m) k))), some (.int (g (wps (wst sz lt g m) k))), some (.int (((g (wps (wst sz lt g m) k)) - 97) + 1)), none, none, none]) dX7_fingers_97 (by decide) rfl ?_
                refine am_iconst (I := iX7_fingers) (pc := 99) (x := 1) dX7_fingers_99 (by decide) ?_
                refine am_istore (I := iX7_fingers) (pc := 100) (L' := [some (.ref 25), some (.int (nI p)), some (.int (nI q)), some (.int (nI iv)), some (.int (nI (wps (wst sz lt g m) k))), some (.int (g (wps (wst sz lt g m) k))), some (.int (((g (wps (wst sz lt g m) k)) - 97) + 1)), some (.int 1), none, none]) dX7_fingers_100 (by decide) rfl ?_
                refine am_iconst (I := iX7_fingers) (pc := 102) (x := 0) dX7_fingers_102 (by decide) ?_
                refine am_istore (I := iX7_fingers) (pc := 103) (L' := [some (.ref 25), some (.int (nI p)), some (.int (nI q)), some (.int (nI iv)), some (.int (nI (wps (wst sz lt g m) k))), some (.int (g (wps (wst sz lt g m) k))), some (.int (((g (wps (wst sz lt g m) k)) - 97) + 1)), some (.int 1), some (.int 0), none]) dX7_fingers_103 (by decide) rfl ?_
                have loop105 : ∀ (k105 : Nat) (i : Nat), 36 - i < k105 → (i ≤ 36) → am_W K iX7_fingers xp l xe (am_room 2 0 0) xs xm xa xb xt xc (mdS S th pd wd ln sq st ct cl ft zn a26 (fun k => nI (cn k)) a28 a29 (fun l => fo (fb l)) a31 a32 a33 a34 a35 a36 (fun k => nI (sz k)) a38 a39 a40 a41 a42 a43 a44) ad0 (am_E K ad0 (mdS S th pd wd ln sq st ct cl ft zn a26 (fun k => nI (cn k)) a28 a29 (fun l => fo (fb l)) a31 a32 a33 a34 a35 a36 (fun k => nI (sz k)) a38 a39 a40 a41 a42 a43 a44) (fun v S' => v = some (.int (nI (wns (wst sz lt g m) m m 0))) ∧ mdS S 0 pd wd ln sq st ct (nI (wns (wst sz lt g m) m m 0)) 1 zn a26 (fun k => nI (cn k)) a28 a29 (fun l => fo (fb l)) a31 a32 a33 a34 a35 a36 (fun k => nI (sz k)) a38 (rcat a39 0 (fun j => wcl sz lt g m (wps (wst sz lt g m) j)) (wns (wst sz lt g m) m m 0)) a40 a41 a42 a43 a44 = S') (fun _ _ => False) xb xa xs 0 0) 105 [some (.ref 25), some (.int (nI p)), some (.int (nI q)), some (.int (nI iv)), some (.int (nI (wps (wst sz lt g m) k))), some (.int (g (wps (wst sz lt g m) k))), some (.int (wk1 sz lt g m (wps (wst sz lt g m) k) i)), some (.int (nI (wk2 sz lt g m (wps (wst sz lt g m) k) i))), some (.int (nI i)), none] [] (mdS S 0 pd wd ln sq st ct (nI k) 1 zn a26 (fun k => nI (cn k)) a28 a29 (fun l => fo (fb l)) a31 a32 a33 a34 a35 a36 (fun k => nI (sz k)) a38 (rcat a39 0 (fun j => wcl sz lt g m (wps (wst sz lt g m) j)) k) a40 a41 a42 a43 a44) 0 0 := by
                  intro k105
                  induction k105 with
                  | zero => intro i h9; exact absurd h9 (Nat.not_lt_zero _)
                  | succ k105 ih105 =>
                    intro i hm105 hi
                    refine am_iload (I := iX7_fingers) (pc := 105) dX7_fingers_105 rfl ?_
                    refine am_bipush (I := iX7_fingers) (pc := 107) (x := 36) dX7_fingers_107 (by decide) ?_
                    refine am_icmp_ge (I := iX7_fingers) (pc := 109) (tgt := 185) dX7_fingers_109 (by decide) (fun c109 => ?_) (fun c109 => ?_)
                    · have g109 : 36 ≤ i := by
                        rcases Nat.lt_or_ge i 36 with q9 | q9
                        · exact absurd c109 (nI_ge (a := i) (b := 36) q9 (by omega))
                        · exact q9
                      have ei : i = 36 := by omega
                      rw [ei]
                      show am_W _ _ _ _ _ _ _ _ _ _ _ _ _ _ _ 185 [some (.ref 25), some (.int (nI p)), some (.int (nI q)), some (.int (nI iv)), some (.int (nI (wps (wst sz lt g m) k))), some (.int (g (wps (wst sz lt g m) k))), some (.int (wcl sz lt g m (wps (wst sz lt g m) k))), some (.int (nI (wst sz lt g m (wps (wst sz lt g m) k)))), some (.int (nI 36)), none] [] _ _ _
                      have hw5 := wk2_le (sz := sz) (lt := lt) (g := g) (m := m) (t := (wps (wst sz lt g m) k)) (k := 36) h5
                      change wst sz lt g m (wps (wst sz lt g m) k) ≤ 5 ∧ 0 < wst sz lt g m (wps (wst sz lt g m) k) at hw5
                      refine am_aload_n (I := iX7_fingers) (pc := 185) dX7_fingers_185 rfl rfl ?_
                      refine am_getf (I := iX7_fingers) (pc := 186) lf_X7_49 dX7_fingers_186 md_25 rfl ?_
                      refine am_aload_n (I := iX7_fingers) (pc := 189) dX7_fingers_189 rfl rfl ?_
                      refine am_getf (I := iX7_fingers) (pc := 190) lf_X7_128 dX7_fingers_190 md_25 rfl ?_
                      refine am_iload (I := iX7_fingers) (pc := 193) dX7_fingers_193 rfl ?_
                      refine am_iastore (I := iX7_fingers) (pc := 195) dX7_fingers_195 md_39 rfl (vp_in_nI (show k < 80 by omega) (by decide)) ?_
                      rw [nI_clamp (show k < 2 ^ 31 by omega)]
                      refine am_same (S' := mdS S 0 pd wd ln sq st ct (nI k) 1 zn a26 (fun k => nI (cn k)) a28 a29 (fun l => fo (fb l)) a31 a32 a33 a34 a35 a36 (fun k => nI (sz k)) a38 (upd (rcat a39 0 (fun j => wcl sz lt g m (wps (wst sz lt g m) j)) k) k (wcl sz lt g m (wps (wst sz lt g m) k))) a40 a41 a42 a43 a44) rfl rfl rfl mdS_39 rfl rfl ?_
                      refine am_aload_n (I := iX7_fingers) (pc := 196) dX7_fingers_196 rfl rfl ?_
                      refine am_dup (I := iX7_fingers) (pc := 197) dX7_fingers_197 rfl ?_
                      refine am_getf (I := iX7_fingers) (pc := 198) lf_X7_128 dX7_fingers_198 md_25 rfl ?_
                      refine am_iconst (I := iX7_fingers) (pc := 201) (x := 1) dX7_fingers_201 (by decide) ?_
                      refine am_iadd (I := iX7_fingers) (pc := 202) dX7_fingers_202 ?_
                      rw [nI_1]
                      refine am_putf (I := iX7_fingers) (pc := 203) (fs' := [.int 0, .int pd, .ref 26, .ref 27, .ref 28, .ref 29, .ref 30, .int wd, .ref 31, .ref 32, .ref 33, .ref 34, .int ln, .int sq, .int st, .ref 35, .ref 36, .ref 37, .ref 38, .int ct, .int (nI (k + 1)), .int 1, .ref 39, .int zn, .ref 40, .ref 41, .ref 42, .ref 43, .ref 44]) lf_X7_128 dX7_fingers_203 md_25 (fun _ => ⟨rfl, rfl⟩) (Nat.le_of_ble_eq_true rfl) rfl ?_
                      refine am_same (S' := mdS S 0 pd wd ln sq st ct (nI (k + 1)) 1 zn a26 (fun k => nI (cn k)) a28 a29 (fun l => fo (fb l)) a31 a32 a33 a34 a35 a36 (fun k => nI (sz k)) a38 (upd (rcat a39 0 (fun j => wcl sz lt g m (wps (wst sz lt g m) j)) k) k (wcl sz lt g m (wps (wst sz lt g m) k))) a40 a41 a42 a43 a44) rfl rfl rfl mdS_25 rfl rfl ?_
                      refine am_iload (I := iX7_fingers) (pc := 206) dX7_fingers_206 rfl ?_
                      refine am_iload (I := iX7_fingers) (pc := 208) dX7_fingers_208 rfl ?_
                      refine am_iadd (I := iX7_fingers) (pc := 210) dX7_fingers_210 ?_
                      refine am_istore (I := iX7_fingers) (pc := 211) (L' := [some (.ref 25), some (.int (nI p)), some (.int (nI q)), some (.int (nI iv)), some (.int ((nI (wps (wst sz lt g m) k)) + (nI (wst sz lt g m (wps (wst sz lt g m) k))))), some (.int (g (wps (wst sz lt g m) k))), some (.int (wcl sz lt g m (wps (wst sz lt g m) k))), some (.int (nI (wst sz lt g m (wps (wst sz lt g m) k)))), some (.int (nI 36)), none]) dX7_fingers_211 (by decide) rfl ?_
                      refine am_forget 5 (am_forget 6 (am_forget 7 (am_forget 8 (am_forget 9 ?_))))
                      refine am_goto (I := iX7_fingers) (pc := 213) (tgt := 42) dX7_fingers_213 (by decide) ?_
                      exact am_same rfl (by rw [nI_add]; rfl) rfl (by rw [← rcat_s (f := a39), Nat.zero_add]) rfl rfl (ih42 (k + 1) (by show m - ((wps (wst sz lt g m) k) + wst sz lt g m (wps (wst sz lt g m) k)) < k42; omega) (by show k + 1 ≤ (wps (wst sz lt g m) k) + wst sz lt g m (wps (wst sz lt g m) k); omega) (by omega) (by show (wps (wst sz lt g m) k) + wst sz lt g m (wps (wst sz lt g m) k) ≤ m + 5; omega) (by rw [← hN, show m - k = (m - (k + 1)) + 1 by omega, wns, if_pos l50]; show k + 1 + wns (wst sz lt g m) m (m - (k + 1)) ((wps (wst sz lt g m) k) + wst sz lt g m (wps (wst sz lt g m) k)) = _; omega))
                    · have l109 : i < 36 := by
                        rcases Nat.lt_or_ge i 36 with q9 | q9
                        · exact q9
                        · exact absurd (nI_le (a := 36) (b := i) q9 (by omega)) c109
                      refine am_aload_n (I := iX7_fingers) (pc := 112) dX7_fingers_112 rfl rfl ?_
                      refine am_getf (I := iX7_fingers) (pc := 113) lf_X7_43 dX7_fingers_113 md_25 rfl ?_
                      refine am_iload (I := iX7_fingers) (pc := 116) dX7_fingers_116 rfl ?_
                      refine am_iaload (I := iX7_fingers) (pc := 118) dX7_fingers_118 md_37 rfl (vp_in_nI (show i < 36 by omega) (by decide)) ?_
                      rw [nI_clamp (show i < 2 ^ 31 by omega)]
                      refine am_iload (I := iX7_fingers) (pc := 119) dX7_fingers_119 rfl ?_
                      refine am_icmp_le (I := iX7_fingers) (pc := 121) (tgt := 140) dX7_fingers_121 (by decide) (fun c121 => ?_) (fun c121 => ?_)
                      · have hlt : ¬ (wk2 sz lt g m (wps (wst sz lt g m) k) i) < sz i := fun q9 => by
                          have h55 := h5 i
                          exact nI_ge q9 (by omega) c121
                        have hw := wk_f (lt := lt) (g := g) (m := m) (t := (wps (wst sz lt g m) k)) h2 l109 (fun q9 => hlt q9.1)
                        refine am_iconst (I := iX7_fingers) (pc := 140) (x := 0) dX7_fingers_140 (by decide) ?_
                        refine am_istore (I := iX7_fingers) (pc := 141) (L' := [some (.ref 25), some (.int (nI p)), some (.int (nI q)), some (.int (nI iv)), some (.int (nI (wps (wst sz lt g m) k))), some (.int (g (wps (wst sz lt g m) k))), some (.int (wk1 sz lt g m (wps (wst sz lt g m) k) i)), some (.int (nI (wk2 sz lt g m (wps (wst sz lt g m) k) i))), some (.int (nI i)), some (.int 0)]) dX7_fingers_141 (by decide) rfl ?_
                        refine am_iload (I := iX7_fingers) (pc := 143) dX7_fingers_143 rfl ?_
                        refine am_if_eq (I := iX7_fingers) (pc := 145) (tgt := 158) dX7_fingers_145 (by decide) (fun c145 => ?_) (fun c145 => ?_)
                        · refine am_iload (I := iX7_fingers) (pc := 158) dX7_fingers_158 rfl ?_
                          refine am_istore (I := iX7_fingers) (pc := 160) (L' := [some (.ref 25), some (.int (nI p)), some (.int (nI q)), some (.int (nI iv)), some (.int (nI (wps (wst sz lt g m) k))), some (.int (g (wps (wst sz lt g m) k))), some (.int (wk1 sz lt g m (wps (wst sz lt g m) k) i)), some (.int (nI (wk2 sz lt g m (wps (wst sz lt g m) k) i))), some (.int (nI i)), some (.int 0)]) dX7_fingers_160 (by decide) rfl ?_
                          refine am_iload (I := iX7_fingers) (pc := 162) dX7_fingers_162 rfl ?_
                          refine am_if_eq (I := iX7_fingers) (pc := 164) (tgt := 175) dX7_fingers_164 (by decide) (fun c164 => ?_) (fun c164 => ?_)
                          · refine am_iload (I := iX7_fingers) (pc := 175) dX7_fingers_175 rfl ?_
                            refine am_istore (I := iX7_fingers) (pc := 177) (L' := [some (.ref 25), some (.int (nI p)), some (.int (nI q)), some (.int (nI iv)), some (.int (nI (wps (wst sz lt g m) k))), some (.int (g (wps (wst sz lt g m) k))), some (.int (wk1 sz lt g m (wps (wst sz lt g m) k) i)), some (.int (nI (wk2 sz lt g m (wps (wst sz lt g m) k) i))), some (.int (nI i)), some (.int 0)]) dX7_fingers_177 (by decide) rfl ?_
                            refine am_forget 9 ?_
                            refine am_iinc (I := iX7_fingers) (pc := 179) (y := ((nI i) + 1)) (L' := [some (.ref 25), some (.int (nI p)), some (.int (nI q)), some (.int (nI iv)), some (.int (nI (wps (wst sz lt g m) k))), some (.int (g (wps (wst sz lt g m) k))), some (.int (wk1 sz lt g m (wps (wst sz lt g m) k) i)), some (.int (nI (wk2 sz lt g m (wps (wst sz lt g m) k) i))), some (.int ((nI i) + 1)), none]) dX7_fingers_179 rfl rfl rfl ?_
                            refine am_goto (I := iX7_fingers) (pc := 182) (tgt := 105) dX7_fingers_182 (by decide) ?_
                            exact am_same rfl (by rw [hw.1, hw.2, nI_1]) rfl rfl rfl rfl (ih105 (i + 1) (by omega) (by omega))
                          · exact absurd rfl c164
                        · exact absurd rfl c145
                      · have hlt : (wk2 sz lt g m (wps (wst sz lt g m) k) i) < sz i := by
                          rcases Nat.lt_or_ge (wk2 sz lt g m (wps (wst sz lt g m) k) i) (sz i) with q9 | q9
                          · exact q9
                          · exact absurd (nI_le q9 (by have := (wk2_le (sz := sz) (lt := lt) (g := g) (m := m) (t := (wps (wst sz lt g m) k)) (k := i) h5).1; omega)) c121
                        refine am_aload_n (I := iX7_fingers) (pc := 124) dX7_fingers_124 rfl rfl ?_
                        refine am_iload (I := iX7_fingers) (pc := 125) dX7_fingers_125 rfl ?_
                        refine am_iload_n (I := iX7_fingers) (pc := 127) dX7_fingers_127 rfl rfl ?_
                        refine am_iload (I := iX7_fingers) (pc := 128) dX7_fingers_128 rfl ?_
                        refine am_callV (I := iX7_fingers) (pc := 130) (st := []) lv_X7_134 (q_stands sz lt iv m g i (wps (wst sz lt g m) k) h5 hl hiv hm hm8 hg l109 (by omega) l50 (fun j hj => hne i j l109 hj)) dX7_fingers_130 md_25 rfl (Nat.le_of_ble_eq_true rfl) ⟨Nat.le_of_ble_eq_true rfl, Nat.le_of_ble_eq_true rfl⟩ (Nat.le_of_ble_eq_true rfl) (Nat.le_of_ble_eq_true rfl) rfl (fun v9 T9 z9 _ => ?_) (fun _ _ h9 => h9.elim)
                        obtain ⟨rfl, rfl⟩ := z9
                        show am_W _ _ _ _ _ _ _ _ _ _ _ _ _ _ _ 133 [some (.ref 25), some (.int (nI p)), some (.int (nI q)), some (.int (nI iv)), some (.int (nI (wps (wst sz lt g m) k))), some (.int (g (wps (wst sz lt g m) k))), some (.int (wk1 sz lt g m (wps (wst sz lt g m) k) i)), some (.int (nI (wk2 sz lt g m (wps (wst sz lt g m) k) i))), some (.int (nI i)), none] [.int (bI (decide (stands (lt i) (sz i) g m (nI (wps (wst sz lt g m) k)) = 1)))] (mdS S 0 pd wd ln sq st ct (nI k) 1 zn a26 (fun k => nI (cn k)) a28 a29 (fun l => fo (fb l)) a31 a32 a33 a34 a35 a36 (fun k => nI (sz k)) a38 (rcat a39 0 (fun j => wcl sz lt g m (wps (wst sz lt g m) j)) k) a40 a41 a42 a43 a44) 0 0
                        refine am_if_eq (I := iX7_fingers) (pc := 133) (tgt := 140) dX7_fingers_133 (by decide) (fun c133 => ?_) (fun c133 => ?_)
                        · have hw := wk_f (lt := lt) (g := g) (m := m) (t := (wps (wst sz lt g m) k)) h2 l109 (fun q9 => of_decide_eq_false (bI_0 c133) q9.2)
                          refine am_iconst (I := iX7_fingers) (pc := 140) (x := 0) dX7_fingers_140 (by decide) ?_
                          refine am_istore (I := iX7_fingers) (pc := 141) (L' := [some (.ref 25), some (.int (nI p)), some (.int (nI q)), some (.int (nI iv)), some (.int (nI (wps (wst sz lt g m) k))), some (.int (g (wps (wst sz lt g m) k))), some (.int (wk1 sz lt g m (wps (wst sz lt g m) k) i)), some (.int (nI (wk2 sz lt g m (wps (wst sz lt g m) k) i))), some (.int (nI i)), some (.int 0)]) dX7_fingers_141 (by decide) rfl ?_
                          refine am_iload (I := iX7_fingers) (pc := 143) dX7_fingers_143 rfl ?_
                          refine am_if_eq (I := iX7_fingers) (pc := 145) (tgt := 158) dX7_fingers_145 (by decide) (fun c145 => ?_) (fun c145 => ?_)
                          · refine am_iload (I := iX7_fingers) (pc := 158) dX7_fingers_158 rfl ?_
                            refine am_istore (I := iX7_fingers) (pc := 160) (L' := [some (.ref 25), some (.int (nI p)), some (.int (nI q)), some (.int (nI iv)), some (.int (nI (wps (wst sz lt g m) k))), some (.int (g (wps (wst sz lt g m) k))), some (.int (wk1 sz lt g m (wps (wst sz lt g m) k) i)), some (.int (nI (wk2 sz lt g m (wps (wst sz lt g m) k) i))), some (.int (nI i)), some (.int 0)]) dX7_fingers_160 (by decide) rfl ?_
                            refine am_iload (I := iX7_fingers) (pc := 162) dX7_fingers_162 rfl ?_
                            refine am_if_eq (I := iX7_fingers) (pc := 164) (tgt := 175) dX7_fingers_164 (by decide) (fun c164 => ?_) (fun c164 => ?_)
                            · refine am_iload (I := iX7_fingers) (pc := 175) dX7_fingers_175 rfl ?_
                              refine am_istore (I := iX7_fingers) (pc := 177) (L' := [some (.ref 25), some (.int (nI p)), some (.int (nI q)), some (.int (nI iv)), some (.int (nI (wps (wst sz lt g m) k))), some (.int (g (wps (wst sz lt g m) k))), some (.int (wk1 sz lt g m (wps (wst sz lt g m) k) i)), some (.int (nI (wk2 sz lt g m (wps (wst sz lt g m) k) i))), some (.int (nI i)), some (.int 0)]) dX7_fingers_177 (by decide) rfl ?_
                              refine am_forget 9 ?_
                              refine am_iinc (I := iX7_fingers) (pc := 179) (y := ((nI i) + 1)) (L' := [some (.ref 25), some (.int (nI p)), some (.int (nI q)), some (.int (nI iv)), some (.int (nI (wps (wst sz lt g m) k))), some (.int (g (wps (wst sz lt g m) k))), some (.int (wk1 sz lt g m (wps (wst sz lt g m) k) i)), some (.int (nI (wk2 sz lt g m (wps (wst sz lt g m) k) i))), some (.int ((nI i) + 1)), none]) dX7_fingers_179 rfl rfl rfl ?_
                              refine am_goto (I := iX7_fingers) (pc := 182) (tgt := 105) dX7_fingers_182 (by decide) ?_
                              exact am_same rfl (by rw [hw.1, hw.2, nI_1]) rfl rfl rfl rfl (ih105 (i + 1) (by omega) (by omega))
                            · exact absurd rfl c164
                          · exact absurd rfl c145
                        · have hw := wk_t (lt := lt) (g := g) (m := m) (t := (wps (wst sz lt g m) k)) h2 l109 hlt (of_decide_eq_true (bI_1 c133))
                          refine am_iconst (I := iX7_fingers) (pc := 136) (x := 1) dX7_fingers_136 (by decide) ?_
                          refine am_goto (I := iX7_fingers) (pc := 137) (tgt := 141) dX7_fingers_137 (by decide) ?_
                          refine am_istore (I := iX7_fingers) (pc := 141) (L' := [some (.ref 25), some (.int (nI p)), some (.int (nI q)), some (.int (nI iv)), some (.int (nI (wps (wst sz lt g m) k))), some (.int (g (wps (wst sz lt g m) k))), some (.int (wk1 sz lt g m (wps (wst sz lt g m) k) i)), some (.int (nI (wk2 sz lt g m (wps (wst sz lt g m) k) i))), some (.int (nI i)), some (.int 1)]) dX7_fingers_141 (by decide) rfl ?_
                          refine am_iload (I := iX7_fingers) (pc := 143) dX7_fingers_143 rfl ?_
                          refine am_if_eq (I := iX7_fingers) (pc := 145) (tgt := 158) dX7_fingers_145 (by decide) (fun c145 => ?_) (fun c145 => ?_)
                          · exact absurd c145 (by decide)
                          · refine am_aload_n (I := iX7_fingers) (pc := 148) dX7_fingers_148 rfl rfl ?_
                            refine am_getf (I := iX7_fingers) (pc := 149) lf_X7_43 dX7_fingers_149 md_25 rfl ?_
                            refine am_iload (I := iX7_fingers) (pc := 152) dX7_fingers_152 rfl ?_
                            refine am_iaload (I := iX7_fingers) (pc := 154) dX7_fingers_154 md_37 rfl (vp_in_nI (show i < 36 by omega) (by decide)) ?_
                            rw [nI_clamp (show i < 2 ^ 31 by omega)]
                            refine am_goto (I := iX7_fingers) (pc := 155) (tgt := 160) dX7_fingers_155 (by decide) ?_
                            refine am_istore (I := iX7_fingers) (pc := 160) (L' := [some (.ref 25), some (.int (nI p)), some (.int (nI q)), some (.int (nI iv)), some (.int (nI (wps (wst sz lt g m) k))), some (.int (g (wps (wst sz lt g m) k))), some (.int (wk1 sz lt g m (wps (wst sz lt g m) k) i)), some (.int (nI (sz i))), some (.int (nI i)), some (.int 1)]) dX7_fingers_160 (by decide) rfl ?_
                            refine am_iload (I := iX7_fingers) (pc := 162) dX7_fingers_162 rfl ?_
                            refine am_if_eq (I := iX7_fingers) (pc := 164) (tgt := 175) dX7_fingers_164 (by decide) (fun c164 => ?_) (fun c164 => ?_)
                            · exact absurd c164 (by decide)
                            · refine am_bipush (I := iX7_fingers) (pc := 167) (x := 28) dX7_fingers_167 (by decide) ?_
                              refine am_iload (I := iX7_fingers) (pc := 169) dX7_fingers_169 rfl ?_
                              refine am_iadd (I := iX7_fingers) (pc := 171) dX7_fingers_171 ?_
                              refine am_goto (I := iX7_fingers) (pc := 172) (tgt := 177) dX7_fingers_172 (by decide) ?_
                              refine am_istore (I := iX7_fingers) (pc := 177) (L' := [some (.ref 25), some (.int (nI p)), some (.int (nI q)), some (.int (nI iv)), some (.int (nI (wps (wst sz lt g m) k))), some (.int (g (wps (wst sz lt g m) k))), some (.int (28 + (nI i))), some (.int (nI (sz i))), some (.int (nI i)), some (.int 1)]) dX7_fingers_177 (by decide) rfl ?_
                              refine am_forget 9 ?_
                              refine am_iinc (I := iX7_fingers) (pc := 179) (y := ((nI i) + 1)) (L' := [some (.ref 25), some (.int (nI p)), some (.int (nI q)), some (.int (nI iv)), some (.int (nI (wps (wst sz lt g m) k))), some (.int (g (wps (wst sz lt g m) k))), some (.int (28 + (nI i))), some (.int (nI (sz i))), some (.int ((nI i) + 1)), none]) dX7_fingers_179 rfl rfl rfl ?_
                              refine am_goto (I := iX7_fingers) (pc := 182) (tgt := 105) dX7_fingers_182 (by decide) ?_
                              exact am_same rfl (by rw [hw.1, hw.2, ← nI_add, nI_1]; rfl) rfl rfl rfl rfl (ih105 (i + 1) (by omega) (by omega))
                exact am_same rfl (by rw [show (wk1 sz lt g m (wps (wst sz lt g m) k) 0) = oc (g (wps (wst sz lt g m) k)) from rfl, show (wk2 sz lt g m (wps (wst sz lt g m) k) 0) = 1 from rfl, oc, if_neg c71, if_neg c82]; rfl) rfl rfl rfl rfl (loop105 _ 0 (Nat.lt_succ_self _) (Nat.zero_le _))
              · refine am_bipush (I := iX7_fingers) (pc := 85) (x := 27) dX7_fingers_85 (by decide) ?_
                refine am_goto (I := iX7_fingers) (pc := 87) (tgt := 97) dX7_fingers_87 (by decide) ?_
                refine am_istore (I := iX7_fingers) (pc := 97) (L' := [some (.ref 25), some (.int (nI p)), some (.int (nI q)), some (.int (nI iv)), some (.int (nI (wps (wst sz lt g m) k))), some (.int (g (wps (wst sz lt g m) k))), some (.int 27), none, none, none]) dX7_fingers_97 (by decide) rfl ?_
                refine am_iconst (I := iX7_fingers) (pc := 99) (x := 1) dX7_fingers_99 (by decide) ?_
                refine am_istore (I := iX7_fingers) (pc := 100) (L' := [some (.ref 25), some (.int (nI p)), some (.int (nI q)), some (.int (nI iv)), some (.int (nI (wps (wst sz lt g m) k))), some (.int (g (wps (wst sz lt g m) k))), some (.int 27), some (.int 1), none, none]) dX7_fingers_100 (by decide) rfl ?_
                refine am_iconst (I := iX7_fingers) (pc := 102) (x := 0) dX7_fingers_102 (by decide) ?_
                refine am_istore (I := iX7_fingers) (pc := 103) (L' := [some (.ref 25), some (.int (nI p)), some (.int (nI q)), some (.int (nI iv)), some (.int (nI (wps (wst sz lt g m) k))), some (.int (g (wps (wst sz lt g m) k))), some (.int 27), some (.int 1), some (.int 0), none]) dX7_fingers_103 (by decide) rfl ?_
                have loop105 : ∀ (k105 : Nat) (i : Nat), 36 - i < k105 → (i ≤ 36) → am_W K iX7_fingers xp l xe (am_room 2 0 0) xs xm xa xb xt xc (mdS S th pd wd ln sq st ct cl ft zn a26 (fun k => nI (cn k)) a28 a29 (fun l => fo (fb l)) a31 a32 a33 a34 a35 a36 (fun k => nI (sz k)) a38 a39 a40 a41 a42 a43 a44) ad0 (am_E K ad0 (mdS S th pd wd ln sq st ct cl ft zn a26 (fun k => nI (cn k)) a28 a29 (fun l => fo (fb l)) a31 a32 a33 a34 a35 a36 (fun k => nI (sz k)) a38 a39 a40 a41 a42 a43 a44) (fun v S' => v = some (.int (nI (wns (wst sz lt g m) m m 0))) ∧ mdS S 0 pd wd ln sq st ct (nI (wns (wst sz lt g m) m m 0)) 1 zn a26 (fun k => nI (cn k)) a28 a29 (fun l => fo (fb l)) a31 a32 a33 a34 a35 a36 (fun k => nI (sz k)) a38 (rcat a39 0 (fun j => wcl sz lt g m (wps (wst sz lt g m) j)) (wns (wst sz lt g m) m m 0)) a40 a41 a42 a43 a44 = S') (fun _ _ => False) xb xa xs 0 0) 105 [some (.ref 25), some (.int (nI p)), some (.int (nI q)), some (.int (nI iv)), some (.int (nI (wps (wst sz lt g m) k))), some (.int (g (wps (wst sz lt g m) k))), some (.int (wk1 sz lt g m (wps (wst sz lt g m) k) i)), some (.int (nI (wk2 sz lt g m (wps (wst sz lt g m) k) i))), some (.int (nI i)), none] [] (mdS S 0 pd wd ln sq st ct (nI k) 1 zn a26 (fun k => nI (cn k)) a28 a29 (fun l => fo (fb l)) a31 a32 a33 a34 a35 a36 (fun k => nI (sz k)) a38 (rcat a39 0 (fun j => wcl sz lt g m (wps (wst sz lt g m) j)) k) a40 a41 a42 a43 a44) 0 0 := by
                  intro k105
                  induction k105 with
                  | zero => intro i h9; exact absurd h9 (Nat.not_lt_zero _)
                  | succ k105 ih105 =>
                    intro i hm105 hi
                    refine am_iload (I := iX7_fingers) (pc := 105) dX7_fingers_105 rfl ?_
                    refine am_bipush (I := iX7_fingers) (pc := 107) (x := 36) dX7_fingers_107 (by decide) ?_
                    refine am_icmp_ge (I := iX7_fingers) (pc := 109) (tgt := 185) dX7_fingers_109 (by decide) (fun c109 => ?_) (fun c109 => ?_)
                    · have g109 : 36 ≤ i := by
                        rcases Nat.lt_or_ge i 36 with q9 | q9
                        · exact absurd c109 (nI_ge (a := i) (b := 36) q9 (by omega))
                        · exact q9
                      have ei : i = 36 := by omega
                      rw [ei]
                      show am_W _ _ _ _ _ _ _ _ _ _ _ _ _ _ _ 185 [some (.ref 25), some (.int (nI p)), some (.int (nI q)), some (.int (nI iv)), some (.int (nI (wps (wst sz lt g m) k))), some (.int (g (wps (wst sz lt g m) k))), some (.int (wcl sz lt g m (wps (wst sz lt g m) k))), some (.int (nI (wst sz lt g m (wps (wst sz lt g m) k)))), some (.int (nI 36)), none] [] _ _ _
                      have hw5 := wk2_le (sz := sz) (lt := lt) (g := g) (m := m) (t := (wps (wst sz lt g m) k)) (k := 36) h5
                      change wst sz lt g m (wps (wst sz lt g m) k) ≤ 5 ∧ 0 < wst sz lt g m (wps (wst sz lt g m) k) at hw5
                      refine am_aload_n (I := iX7_fingers) (pc := 185) dX7_fingers_185 rfl rfl ?_
                      refine am_getf (I := iX7_fingers) (pc := 186) lf_X7_49 dX7_fingers_186 md_25 rfl ?_
                      refine am_aload_n (I := iX7_fingers) (pc := 189) dX7_fingers_189 rfl rfl ?_
                      refine am_getf (I := iX7_fingers) (pc := 190) lf_X7_128 dX7_fingers_190 md_25 rfl ?_
                      refine am_iload (I := iX7_fingers) (pc := 193) dX7_fingers_193 rfl ?_
                      refine am_iastore (I := iX7_fingers) (pc := 195) dX7_fingers_195 md_39 rfl (vp_in_nI (show k < 80 by omega) (by decide)) ?_
                      rw [nI_clamp (show k < 2 ^ 31 by omega)]
                      refine am_same (S' := mdS S 0 pd wd ln sq st ct (nI k) 1 zn a26 (fun k => nI (cn k)) a28 a29 (fun l => fo (fb l)) a31 a32 a33 a34 a35 a36 (fun k => nI (sz k)) a38 (upd (rcat a39 0 (fun j => wcl sz lt g m (wps (wst sz lt g m) j)) k) k (wcl sz lt g m (wps (wst sz lt g m) k))) a40 a41 a42 a43 a44) rfl rfl rfl mdS_39 rfl rfl ?_
                      refine am_aload_n (I := iX7_fingers) (pc := 196) dX7_fingers_196 rfl rfl ?_
                      refine am_dup (I := iX7_fingers) (pc := 197) dX7_fingers_197 rfl ?_
                      refine am_getf (I := iX7_fingers) (pc := 198) lf_X7_128 dX7_fingers_198 md_25 rfl ?_
                      refine am_iconst (I := iX7_fingers) (pc := 201) (x := 1) dX7_fingers_201 (by decide) ?_
                      refine am_iadd (I := iX7_fingers) (pc := 202) dX7_fingers_202 ?_
                      rw [nI_1]
                      refine am_putf (I := iX7_fingers) (pc := 203) (fs' := [.int 0, .int pd, .ref 26, .ref 27, .ref 28, .ref 29, .ref 30, .int wd, .ref 31, .ref 32, .ref 33, .ref 34, .int ln, .int sq, .int st, .ref 35, .ref 36, .ref 37, .ref 38, .int ct, .int (nI (k + 1)), .int 1, .ref 39, .int zn, .ref 40, .ref 41, .ref 42, .ref 43, .ref 44]) lf_X7_128 dX7_fingers_203 md_25 (fun _ => ⟨rfl, rfl⟩) (Nat.le_of_ble_eq_true rfl) rfl ?_
                      refine am_same (S' := mdS S 0 pd wd ln sq st ct (nI (k + 1)) 1 zn a26 (fun k => nI (cn k)) a28 a29 (fun l => fo (fb l)) a31 a32 a33 a34 a35 a36 (fun k => nI (sz k)) a38 (upd (rcat a39 0 (fun j => wcl sz lt g m (wps (wst sz lt g m) j)) k) k (wcl sz lt g m (wps (wst sz lt g m) k))) a40 a41 a42 a43 a44) rfl rfl rfl mdS_25 rfl rfl ?_
                      refine am_iload (I := iX7_fingers) (pc := 206) dX7_fingers_206 rfl ?_
                      refine am_iload (I := iX7_fingers) (pc := 208) dX7_fingers_208 rfl ?_
                      refine am_iadd (I := iX7_fingers) (pc := 210) dX7_fingers_210 ?_
                      refine am_istore (I := iX7_fingers) (pc := 211) (L' := [some (.ref 25), some (.int (nI p)), some (.int (nI q)), some (.int (nI iv)), some (.int ((nI (wps (wst sz lt g m) k)) + (nI (wst sz lt g m (wps (wst sz lt g m) k))))), some (.int (g (wps (wst sz lt g m) k))), some (.int (wcl sz lt g m (wps (wst sz lt g m) k))), some (.int (nI (wst sz lt g m (wps (wst sz lt g m) k)))), some (.int (nI 36)), none]) dX7_fingers_211 (by decide) rfl ?_
                      refine am_forget 5 (am_forget 6 (am_forget 7 (am_forget 8 (am_forget 9 ?_))))
                      refine am_goto (I := iX7_fingers) (pc := 213) (tgt := 42) dX7_fingers_213 (by decide) ?_
                      exact am_same rfl (by rw [nI_add]; rfl) rfl (by rw [← rcat_s (f := a39), Nat.zero_add]) rfl rfl (ih42 (k + 1) (by show m - ((wps (wst sz lt g m) k) + wst sz lt g m (wps (wst sz lt g m) k)) < k42; omega) (by show k + 1 ≤ (wps (wst sz lt g m) k) + wst sz lt g m (wps (wst sz lt g m) k); omega) (by omega) (by show (wps (wst sz lt g m) k) + wst sz lt g m (wps (wst sz lt g m) k) ≤ m + 5; omega) (by rw [← hN, show m - k = (m - (k + 1)) + 1 by omega, wns, if_pos l50]; show k + 1 + wns (wst sz lt g m) m (m - (k + 1)) ((wps (wst sz lt g m) k) + wst sz lt g m (wps (wst sz lt g m) k)) = _; omega))
                    · have l109 : i < 36 := by
                        rcases Nat.lt_or_ge i 36 with q9 | q9
                        · exact q9
                        · exact absurd (nI_le (a := 36) (b := i) q9 (by omega)) c109
                      refine am_aload_n (I := iX7_fingers) (pc := 112) dX7_fingers_112 rfl rfl ?_
                      refine am_getf (I := iX7_fingers) (pc := 113) lf_X7_43 dX7_fingers_113 md_25 rfl ?_
                      refine am_iload (I := iX7_fingers) (pc := 116) dX7_fingers_116 rfl ?_
                      refine am_iaload (I := iX7_fingers) (pc := 118) dX7_fingers_118 md_37 rfl (vp_in_nI (show i < 36 by omega) (by decide)) ?_
                      rw [nI_clamp (show i < 2 ^ 31 by omega)]
                      refine am_iload (I := iX7_fingers) (pc := 119) dX7_fingers_119 rfl ?_
                      refine am_icmp_le (I := iX7_fingers) (pc := 121) (tgt := 140) dX7_fingers_121 (by decide) (fun c121 => ?_) (fun c121 => ?_)
                      · have hlt : ¬ (wk2 sz lt g m (wps (wst sz lt g m) k) i) < sz i := fun q9 => by
                          have h55 := h5 i
                          exact nI_ge q9 (by omega) c121
                        have hw := wk_f (lt := lt) (g := g) (m := m) (t := (wps (wst sz lt g m) k)) h2 l109 (fun q9 => hlt q9.1)
                        refine am_iconst (I := iX7_fingers) (pc := 140) (x := 0) dX7_fingers_140 (by decide) ?_
                        refine am_istore (I := iX7_fingers) (pc := 141) (L' := [some (.ref 25), some (.int (nI p)), some (.int (nI q)), some (.int (nI iv)), some (.int (nI (wps (wst sz lt g m) k))), some (.int (g (wps (wst sz lt g m) k))), some (.int (wk1 sz lt g m (wps (wst sz lt g m) k) i)), some (.int (nI (wk2 sz lt g m (wps (wst sz lt g m) k) i))), some (.int (nI i)), some (.int 0)]) dX7_fingers_141 (by decide) rfl ?_
                        refine am_iload (I := iX7_fingers) (pc := 143) dX7_fingers_143 rfl ?_
                        refine am_if_eq (I := iX7_fingers) (pc := 145) (tgt := 158) dX7_fingers_145 (by decide) (fun c145 => ?_) (fun c145 => ?_)
                        · refine am_iload (I := iX7_fingers) (pc := 158) dX7_fingers_158 rfl ?_
                          refine am_istore (I := iX7_fingers) (pc := 160) (L' := [some (.ref 25), some (.int (nI p)), some (.int (nI q)), some (.int (nI iv)), some (.int (nI (wps (wst sz lt g m) k))), some (.int (g (wps (wst sz lt g m) k))), some (.int (wk1 sz lt g m (wps (wst sz lt g m) k) i)), some (.int (nI (wk2 sz lt g m (wps (wst sz lt g m) k) i))), some (.int (nI i)), some (.int 0)]) dX7_fingers_160 (by decide) rfl ?_
                          refine am_iload (I := iX7_fingers) (pc := 162) dX7_fingers_162 rfl ?_
                          refine am_if_eq (I := iX7_fingers) (pc := 164) (tgt := 175) dX7_fingers_164 (by decide) (fun c164 => ?_) (fun c164 => ?_)
                          · refine am_iload (I := iX7_fingers) (pc := 175) dX7_fingers_175 rfl ?_
                            refine am_istore (I := iX7_fingers) (pc := 177) (L' := [some (.ref 25), some (.int (nI p)), some (.int (nI q)), some (.int (nI iv)), some (.int (nI (wps (wst sz lt g m) k))), some (.int (g (wps (wst sz lt g m) k))), some (.int (wk1 sz lt g m (wps (wst sz lt g m) k) i)), some (.int (nI (wk2 sz lt g m (wps (wst sz lt g m) k) i))), some (.int (nI i)), some (.int 0)]) dX7_fingers_177 (by decide) rfl ?_
                            refine am_forget 9 ?_
                            refine am_iinc (I := iX7_fingers) (pc := 179) (y := ((nI i) + 1)) (L' := [some (.ref 25), some (.int (nI p)), some (.int (nI q)), some (.int (nI iv)), some (.int (nI (wps (wst sz lt g m) k))), some (.int (g (wps (wst sz lt g m) k))), some (.int (wk1 sz lt g m (wps (wst sz lt g m) k) i)), some (.int (nI (wk2 sz lt g m (wps (wst sz lt g m) k) i))), some (.int ((nI i) + 1)), none]) dX7_fingers_179 rfl rfl rfl ?_
                            refine am_goto (I := iX7_fingers) (pc := 182) (tgt := 105) dX7_fingers_182 (by decide) ?_
                            exact am_same rfl (by rw [hw.1, hw.2, nI_1]) rfl rfl rfl rfl (ih105 (i + 1) (by omega) (by omega))
                          · exact absurd rfl c164
                        · exact absurd rfl c145
                      · have hlt : (wk2 sz lt g m (wps (wst sz lt g m) k) i) < sz i := by
                          rcases Nat.lt_or_ge (wk2 sz lt g m (wps (wst sz lt g m) k) i) (sz i) with q9 | q9
                          · exact q9
                          · exact absurd (nI_le q9 (by have := (wk2_le (sz := sz) (lt := lt) (g := g) (m := m) (t := (wps (wst sz lt g m) k)) (k := i) h5).1; omega)) c121
                        refine am_aload_n (I := iX7_fingers) (pc := 124) dX7_fingers_124 rfl rfl ?_
                        refine am_iload (I := iX7_fingers) (pc := 125) dX7_fingers_125 rfl ?_
                        refine am_iload_n (I := iX7_fingers) (pc := 127) dX7_fingers_127 rfl rfl ?_
                        refine am_iload (I := iX7_fingers) (pc := 128) dX7_fingers_128 rfl ?_
                        refine am_callV (I := iX7_fingers) (pc := 130) (st := []) lv_X7_134 (q_stands sz lt iv m g i (wps (wst sz lt g m) k) h5 hl hiv hm hm8 hg l109 (by omega) l50 (fun j hj => hne i j l109 hj)) dX7_fingers_130 md_25 rfl (Nat.le_of_ble_eq_true rfl) ⟨Nat.le_of_ble_eq_true rfl, Nat.le_of_ble_eq_true rfl⟩ (Nat.le_of_ble_eq_true rfl) (Nat.le_of_ble_eq_true rfl) rfl (fun v9 T9 z9 _ => ?_) (fun _ _ h9 => h9.elim)
                        obtain ⟨rfl, rfl⟩ := z9
                        show am_W _ _ _ _ _ _ _ _ _ _ _ _ _ _ _ 133 [some (.ref 25), some (.int (nI p)), some (.int (nI q)), some (.int (nI iv)), some (.int (nI (wps (wst sz lt g m) k))), some (.int (g (wps (wst sz lt g m) k))), some (.int (wk1 sz lt g m (wps (wst sz lt g m) k) i)), some (.int (nI (wk2 sz lt g m (wps (wst sz lt g m) k) i))), some (.int (nI i)), none] [.int (bI (decide (stands (lt i) (sz i) g m (nI (wps (wst sz lt g m) k)) = 1)))] (mdS S 0 pd wd ln sq st ct (nI k) 1 zn a26 (fun k => nI (cn k)) a28 a29 (fun l => fo (fb l)) a31 a32 a33 a34 a35 a36 (fun k => nI (sz k)) a38 (rcat a39 0 (fun j => wcl sz lt g m (wps (wst sz lt g m) j)) k) a40 a41 a42 a43 a44) 0 0
                        refine am_if_eq (I := iX7_fingers) (pc := 133) (tgt := 140) dX7_fingers_133 (by decide) (fun c133 => ?_) (fun c133 => ?_)
                        · have hw := wk_f (lt := lt) (g := g) (m := m) (t := (wps (wst sz lt g m) k)) h2 l109 (fun q9 => of_decide_eq_false (bI_0 c133) q9.2)
                          refine am_iconst (I := iX7_fingers) (pc := 140) (x := 0) dX7_fingers_140 (by decide) ?_
                          refine am_istore (I := iX7_fingers) (pc := 141) (L' := [some (.ref 25), some (.int (nI p)), some (.int (nI q)), some (.int (nI iv)), some (.int (nI (wps (wst sz lt g m) k))), some (.int (g (wps (wst sz lt g m) k))), some (.int (wk1 sz lt g m (wps (wst sz lt g m) k) i)), some (.int (nI (wk2 sz lt g m (wps (wst sz lt g m) k) i))), some (.int (nI i)), some (.int 0)]) dX7_fingers_141 (by decide) rfl ?_
                          refine am_iload (I := iX7_fingers) (pc := 143) dX7_fingers_143 rfl ?_
                          refine am_if_eq (I := iX7_fingers) (pc := 145) (tgt := 158) dX7_fingers_145 (by decide) (fun c145 => ?_) (fun c145 => ?_)
                          · refine am_iload (I := iX7_fingers) (pc := 158) dX7_fingers_158 rfl ?_
                            refine am_istore (I := iX7_fingers) (pc := 160) (L' := [some (.ref 25), some (.int (nI p)), some (.int (nI q)), some (.int (nI iv)), some (.int (nI (wps (wst sz lt g m) k))), some (.int (g (wps (wst sz lt g m) k))), some (.int (wk1 sz lt g m (wps (wst sz lt g m) k) i)), some (.int (nI (wk2 sz lt g m (wps (wst sz lt g m) k) i))), some (.int (nI i)), some (.int 0)]) dX7_fingers_160 (by decide) rfl ?_
                            refine am_iload (I := iX7_fingers) (pc := 162) dX7_fingers_162 rfl ?_
                            refine am_if_eq (I := iX7_fingers) (pc := 164) (tgt := 175) dX7_fingers_164 (by decide) (fun c164 => ?_) (fun c164 => ?_)
                            · refine am_iload (I := iX7_fingers) (pc := 175) dX7_fingers_175 rfl ?_
                              refine am_istore (I := iX7_fingers) (pc := 177) (L' := [some (.ref 25), some (.int (nI p)), some (.int (nI q)), some (.int (nI iv)), some (.int (nI (wps (wst sz lt g m) k))), some (.int (g (wps (wst sz lt g m) k))), some (.int (wk1 sz lt g m (wps (wst sz lt g m) k) i)), some (.int (nI (wk2 sz lt g m (wps (wst sz lt g m) k) i))), some (.int (nI i)), some (.int 0)]) dX7_fingers_177 (by decide) rfl ?_
                              refine am_forget 9 ?_
                              refine am_iinc (I := iX7_fingers) (pc := 179) (y := ((nI i) + 1)) (L' := [some (.ref 25), some (.int (nI p)), some (.int (nI q)), some (.int (nI iv)), some (.int (nI (wps (wst sz lt g m) k))), some (.int (g (wps (wst sz lt g m) k))), some (.int (wk1 sz lt g m (wps (wst sz lt g m) k) i)), some (.int (nI (wk2 sz lt g m (wps (wst sz lt g m) k) i))), some (.int ((nI i) + 1)), none]) dX7_fingers_179 rfl rfl rfl ?_
                              refine am_goto (I := iX7_fingers) (pc := 182) (tgt := 105) dX7_fingers_182 (by decide) ?_
                              exact am_same rfl (by rw [hw.1, hw.2, nI_1]) rfl rfl rfl rfl (ih105 (i + 1) (by omega) (by omega))
                            · exact absurd rfl c164
                          · exact absurd rfl c145
                        · have hw := wk_t (lt := lt) (g := g) (m := m) (t := (wps (wst sz lt g m) k)) h2 l109 hlt (of_decide_eq_true (bI_1 c133))
                          refine am_iconst (I := iX7_fingers) (pc := 136) (x := 1) dX7_fingers_136 (by decide) ?_
                          refine am_goto (I := iX7_fingers) (pc := 137) (tgt := 141) dX7_fingers_137 (by decide) ?_
                          refine am_istore (I := iX7_fingers) (pc := 141) (L' := [some (.ref 25), some (.int (nI p)), some (.int (nI q)), some (.int (nI iv)), some (.int (nI (wps (wst sz lt g m) k))), some (.int (g (wps (wst sz lt g m) k))), some (.int (wk1 sz lt g m (wps (wst sz lt g m) k) i)), some (.int (nI (wk2 sz lt g m (wps (wst sz lt g m) k) i))), some (.int (nI i)), some (.int 1)]) dX7_fingers_141 (by decide) rfl ?_
                          refine am_iload (I := iX7_fingers) (pc := 143) dX7_fingers_143 rfl ?_
                          refine am_if_eq (I := iX7_fingers) (pc := 145) (tgt := 158) dX7_fingers_145 (by decide) (fun c145 => ?_) (fun c145 => ?_)
                          · exact absurd c145 (by decide)
                          · refine am_aload_n (I := iX7_fingers) (pc := 148) dX7_fingers_148 rfl rfl ?_
                            refine am_getf (I := iX7_fingers) (pc := 149) lf_X7_43 dX7_fingers_149 md_25 rfl ?_
                            refine am_iload (I := iX7_fingers) (pc := 152) dX7_fingers_152 rfl ?_
                            refine am_iaload (I := iX7_fingers) (pc := 154) dX7_fingers_154 md_37 rfl (vp_in_nI (show i < 36 by omega) (by decide)) ?_
                            rw [nI_clamp (show i < 2 ^ 31 by omega)]
                            refine am_goto (I := iX7_fingers) (pc := 155) (tgt := 160) dX7_fingers_155 (by decide) ?_
                            refine am_istore (I := iX7_fingers) (pc := 160) (L' := [some (.ref 25), some (.int (nI p)), some (.int (nI q)), some (.int (nI iv)), some (.int (nI (wps (wst sz lt g m) k))), some (.int (g (wps (wst sz lt g m) k))), some (.int (wk1 sz lt g m (wps (wst sz lt g m) k) i)), some (.int (nI (sz i))), some (.int (nI i)), some (.int 1)]) dX7_fingers_160 (by decide) rfl ?_
                            refine am_iload (I := iX7_fingers) (pc := 162) dX7_fingers_162 rfl ?_
                            refine am_if_eq (I := iX7_fingers) (pc := 164) (tgt := 175) dX7_fingers_164 (by decide) (fun c164 => ?_) (fun c164 => ?_)
                            · exact absurd c164 (by decide)
                            · refine am_bipush (I := iX7_fingers) (pc := 167) (x := 28) dX7_fingers_167 (by decide) ?_
                              refine am_iload (I := iX7_fingers) (pc := 169) dX7_fingers_169 rfl ?_
                              refine am_iadd (I := iX7_fingers) (pc := 171) dX7_fingers_171 ?_
                              refine am_goto (I := iX7_fingers) (pc := 172) (tgt := 177) dX7_fingers_172 (by decide) ?_
                              refine am_istore (I := iX7_fingers) (pc := 177) (L' := [some (.ref 25), some (.int (nI p)), some (.int (nI q)), some (.int (nI iv)), some (.int (nI (wps (wst sz lt g m) k))), some (.int (g (wps (wst sz lt g m) k))), some (.int (28 + (nI i))), some (.int (nI (sz i))), some (.int (nI i)), some (.int 1)]) dX7_fingers_177 (by decide) rfl ?_
                              refine am_forget 9 ?_
                              refine am_iinc (I := iX7_fingers) (pc := 179) (y := ((nI i) + 1)) (L' := [some (.ref 25), some (.int (nI p)), some (.int (nI q)), some (.int (nI iv)), some (.int (nI (wps (wst sz lt g m) k))), some (.int (g (wps (wst sz lt g m) k))), some (.int (28 + (nI i))), some (.int (nI (sz i))), some (.int ((nI i) + 1)), none]) dX7_fingers_179 rfl rfl rfl ?_
                              refine am_goto (I := iX7_fingers) (pc := 182) (tgt := 105) dX7_fingers_182 (by decide) ?_
                              exact am_same rfl (by rw [hw.1, hw.2, ← nI_add, nI_1]; rfl) rfl rfl rfl rfl (ih105 (i + 1) (by omega) (by omega))
                exact am_same rfl (by rw [show (wk1 sz lt g m (wps (wst sz lt g m) k) 0) = oc (g (wps (wst sz lt g m) k)) from rfl, show (wk2 sz lt g m (wps (wst sz lt g m) k) 0) = 1 from rfl, oc, if_neg c71, if_pos c82]; rfl) rfl rfl rfl rfl (loop105 _ 0 (Nat.lt_succ_self _) (Nat.zero_le _))
            · refine am_iconst (I := iX7_fingers) (pc := 74) (x := 0) dX7_fingers_74 (by decide) ?_
              refine am_goto (I := iX7_fingers) (pc := 75) (tgt := 97) dX7_fingers_75 (by decide) ?_
              refine am_istore (I := iX7_fingers) (pc := 97) (L' := [some (.ref 25), some (.int (nI p)), some (.int (nI q)), some (.int (nI iv)), some (.int (nI (wps (wst sz lt g m) k))), some (.int (g (wps (wst sz lt g m) k))), some (.int 0), none, none, none]) dX7_fingers_97 (by decide) rfl ?_
              refine am_iconst (I := iX7_fingers) (pc := 99) (x := 1) dX7_fingers_99 (by decide) ?_
              refine am_istore (I := iX7_fingers) (pc := 100) (L' := [some (.ref 25), some (.int (nI p)), some (.int (nI q)), some (.int (nI iv)), some (.int (nI (wps (wst sz lt g m) k))), some (.int (g (wps (wst sz lt g m) k))), some (.int 0), some (.int 1), none, none]) dX7_fingers_100 (by decide) rfl ?_
              refine am_iconst (I := iX7_fingers) (pc := 102) (x := 0) dX7_fingers_102 (by decide) ?_
              refine am_istore (I := iX7_fingers) (pc := 103) (L' := [some (.ref 25), some (.int (nI p)), some (.int (nI q)), some (.int (nI iv)), some (.int (nI (wps (wst sz lt g m) k))), some (.int (g (wps (wst sz lt g m) k))), some (.int 0), some (.int 1), some (.int 0), none]) dX7_fingers_103 (by decide) rfl ?_
              have loop105 : ∀ (k105 : Nat) (i : Nat), 36 - i < k105 → (i ≤ 36) → am_W K iX7_fingers xp l xe (am_room 2 0 0) xs xm xa xb xt xc (mdS S th pd wd ln sq st ct cl ft zn a26 (fun k => nI (cn k)) a28 a29 (fun l => fo (fb l)) a31 a32 a33 a34 a35 a36 (fun k => nI (sz k)) a38 a39 a40 a41 a42 a43 a44) ad0 (am_E K ad0 (mdS S th pd wd ln sq st ct cl ft zn a26 (fun k => nI (cn k)) a28 a29 (fun l => fo (fb l)) a31 a32 a33 a34 a35 a36 (fun k => nI (sz k)) a38 a39 a40 a41 a42 a43 a44) (fun v S' => v = some (.int (nI (wns (wst sz lt g m) m m 0))) ∧ mdS S 0 pd wd ln sq st ct (nI (wns (wst sz lt g m) m m 0)) 1 zn a26 (fun k => nI (cn k)) a28 a29 (fun l => fo (fb l)) a31 a32 a33 a34 a35 a36 (fun k => nI (sz k)) a38 (rcat a39 0 (fun j => wcl sz lt g m (wps (wst sz lt g m) j)) (wns (wst sz lt g m) m m 0)) a40 a41 a42 a43 a44 = S') (fun _ _ => False) xb xa xs 0 0) 105 [some (.ref 25), some (.int (nI p)), some (.int (nI q)), some (.int (nI iv)), some (.int (nI (wps (wst sz lt g m) k))), some (.int (g (wps (wst sz lt g m) k))), some (.int (wk1 sz lt g m (wps (wst sz lt g m) k) i)), some (.int (nI (wk2 sz lt g m (wps (wst sz lt g m) k) i))), some (.int (nI i)), none] [] (mdS S 0 pd wd ln sq st ct (nI k) 1 zn a26 (fun k => nI (cn k)) a28 a29 (fun l => fo (fb l)) a31 a32 a33 a34 a35 a36 (fun k => nI (sz k)) a38 (rcat a39 0 (fun j => wcl sz lt g m (wps (wst sz lt g m) j)) k) a40 a41 a42 a43 a44) 0 0 := by
                intro k105
                induction k105 with
                | zero => intro i h9; exact absurd h9 (Nat.not_lt_zero _)
                | succ k105 ih105 =>
                  intro i hm105 hi
                  refine am_iload (I := iX7_fingers) (pc := 105) dX7_fingers_105 rfl ?_
                  refine am_bipush (I := iX7_fingers) (pc := 107) (x := 36) dX7_fingers_107 (by decide) ?_
                  refine am_icmp_ge (I := iX7_fingers) (pc := 109) (tgt := 185) dX7_fingers_109 (by decide) (fun c109 => ?_) (fun c109 => ?_)
                  · have g109 : 36 ≤ i := by
                      rcases Nat.lt_or_ge i 36 with q9 | q9
                      · exact absurd c109 (nI_ge (a := i) (b := 36) q9 (by omega))
                      · exact q9
                    have ei : i = 36 := by omega
                    rw [ei]
                    show am_W _ _ _ _ _ _ _ _ _ _ _ _ _ _ _ 185 [some (.ref 25), some (.int (nI p)), some (.int (nI q)), some (.int (nI iv)), some (.int (nI (wps (wst sz lt g m) k))), some (.int (g (wps (wst sz lt g m) k))), some (.int (wcl sz lt g m (wps (wst sz lt g m) k))), some (.int (nI (wst sz lt g m (wps (wst sz lt g m) k)))), some (.int (nI 36)), none] [] _ _ _
                    have hw5 := wk2_le (sz := sz) (lt := lt) (g := g) (m := m) (t := (wps (wst sz lt g m) k)) (k := 36) h5
                    change wst sz lt g m (wps (wst sz lt g m) k) ≤ 5 ∧ 0 < wst sz lt g m (wps (wst sz lt g m) k) at hw5
                    refine am_aload_n (I := iX7_fingers) (pc := 185) dX7_fingers_185 rfl rfl ?_
                    refine am_getf (I := iX7_fingers) (pc := 186) lf_X7_49 dX7_fingers_186 md_25 rfl ?_
                    refine am_aload_n (I := iX7_fingers) (pc := 189) dX7_fingers_189 rfl rfl ?_
                    refine am_getf (I := iX7_fingers) (pc := 190) lf_X7_128 dX7_fingers_190 md_25 rfl ?_
                    refine am_iload (I := iX7_fingers) (pc := 193) dX7_fingers_193 rfl ?_
                    refine am_iastore (I := iX7_fingers) (pc := 195) dX7_fingers_195 md_39 rfl (vp_in_nI (show k < 80 by omega) (by decide)) ?_
                    rw [nI_clamp (show k < 2 ^ 31 by omega)]
                    refine am_same (S' := mdS S 0 pd wd ln sq st ct (nI k) 1 zn a26 (fun k => nI (cn k)) a28 a29 (fun l => fo (fb l)) a31 a32 a33 a34 a35 a36 (fun k => nI (sz k)) a38 (upd (rcat a39 0 (fun j => wcl sz lt g m (wps (wst sz lt g m) j)) k) k (wcl sz lt g m (wps (wst sz lt g m) k))) a40 a41 a42 a43 a44) rfl rfl rfl mdS_39 rfl rfl ?_
                    refine am_aload_n (I := iX7_fingers) (pc := 196) dX7_fingers_196 rfl rfl ?_
                    refine am_dup (I := iX7_fingers) (pc := 197) dX7_fingers_197 rfl ?_
                    refine am_getf (I := iX7_fingers) (pc := 198) lf_X7_128 dX7_fingers_198 md_25 rfl ?_
                    refine am_iconst (I := iX7_fingers) (pc := 201) (x := 1) dX7_fingers_201 (by decide) ?_
                    refine am_iadd (I := iX7_fingers) (pc := 202) dX7_fingers_202 ?_
                    rw [nI_1]
                    refine am_putf (I := iX7_fingers) (pc := 203) (fs' := [.int 0, .int pd, .ref 26, .ref 27, .ref 28, .ref 29, .ref 30, .int wd, .ref 31, .ref 32, .ref 33, .ref 34, .int ln, .int sq, .int st, .ref 35, .ref 36, .ref 37, .ref 38, .int ct, .int (nI (k + 1)), .int 1, .ref 39, .int zn, .ref 40, .ref 41, .ref 42, .ref 43, .ref 44]) lf_X7_128 dX7_fingers_203 md_25 (fun _ => ⟨rfl, rfl⟩) (Nat.le_of_ble_eq_true rfl) rfl ?_
                    refine am_same (S' := mdS S 0 pd wd ln sq st ct (nI (k + 1)) 1 zn a26 (fun k => nI (cn k)) a28 a29 (fun l => fo (fb l)) a31 a32 a33 a34 a35 a36 (fun k => nI (sz k)) a38 (upd (rcat a39 0 (fun j => wcl sz lt g m (wps (wst sz lt g m) j)) k) k (wcl sz lt g m (wps (wst sz lt g m) k))) a40 a41 a42 a43 a44) rfl rfl rfl mdS_25 rfl rfl ?_
                    refine am_iload (I := iX7_fingers) (pc := 206) dX7_fingers_206 rfl ?_
                    refine am_iload (I := iX7_fingers) (pc := 208) dX7_fingers_208 rfl ?_
                    refine am_iadd (I := iX7_fingers) (pc := 210) dX7_fingers_210 ?_
                    refine am_istore (I := iX7_fingers) (pc := 211) (L' := [some (.ref 25), some (.int (nI p)), some (.int (nI q)), some (.int (nI iv)), some (.int ((nI (wps (wst sz lt g m) k)) + (nI (wst sz lt g m (wps (wst sz lt g m) k))))), some (.int (g (wps (wst sz lt g m) k))), some (.int (wcl sz lt g m (wps (wst sz lt g m) k))), some (.int (nI (wst sz lt g m (wps (wst sz lt g m) k)))), some (.int (nI 36)), none]) dX7_fingers_211 (by decide) rfl ?_
                    refine am_forget 5 (am_forget 6 (am_forget 7 (am_forget 8 (am_forget 9 ?_))))
                    refine am_goto (I := iX7_fingers) (pc := 213) (tgt := 42) dX7_fingers_213 (by decide) ?_
                    exact am_same rfl (by rw [nI_add]; rfl) rfl (by rw [← rcat_s (f := a39), Nat.zero_add]) rfl rfl (ih42 (k + 1) (by show m - ((wps (wst sz lt g m) k) + wst sz lt g m (wps (wst sz lt g m) k)) < k42; omega) (by show k + 1 ≤ (wps (wst sz lt g m) k) + wst sz lt g m (wps (wst sz lt g m) k); omega) (by omega) (by show (wps (wst sz lt g m) k) + wst sz lt g m (wps (wst sz lt g m) k) ≤ m + 5; omega) (by rw [← hN, show m - k = (m - (k + 1)) + 1 by omega, wns, if_pos l50]; show k + 1 + wns (wst sz lt g m) m (m - (k + 1)) ((wps (wst sz lt g m) k) + wst sz lt g m (wps (wst sz lt g m) k)) = _; omega))
                  · have l109 : i < 36 := by
                      rcases Nat.lt_or_ge i 36 with q9 | q9
                      · exact q9
                      · exact absurd (nI_le (a := 36) (b := i) q9 (by omega)) c109
                    refine am_aload_n (I := iX7_fingers) (pc := 112) dX7_fingers_112 rfl rfl ?_
                    refine am_getf (I := iX7_fingers) (pc := 113) lf_X7_43 dX7_fingers_113 md_25 rfl ?_
                    refine am_iload (I := iX7_fingers) (pc := 116) dX7_fingers_116 rfl ?_
                    refine am_iaload (I := iX7_fingers) (pc := 118) dX7_fingers_118 md_37 rfl (vp_in_nI (show i < 36 by omega) (by decide)) ?_
                    rw [nI_clamp (show i < 2 ^ 31 by omega)]
                    refine am_iload (I := iX7_fingers) (pc := 119) dX7_fingers_119 rfl ?_
                    refine am_icmp_le (I := iX7_fingers) (pc := 121) (tgt := 140) dX7_fingers_121 (by decide) (fun c121 => ?_) (fun c121 => ?_)
                    · have hlt : ¬ (wk2 sz lt g m (wps (wst sz lt g m) k) i) < sz i := fun q9 => by
                        have h55 := h5 i
                        exact nI_ge q9 (by omega) c121
                      have hw := wk_f (lt := lt) (g := g) (m := m) (t := (wps (wst sz lt g m) k)) h2 l109 (fun q9 => hlt q9.1)
                      refine am_iconst (I := iX7_fingers) (pc := 140) (x := 0) dX7_fingers_140 (by decide) ?_
                      refine am_istore (I := iX7_fingers) (pc := 141) (L' := [some (.ref 25), some (.int (nI p)), some (.int (nI q)), some (.int (nI iv)), some (.int (nI (wps (wst sz lt g m) k))), some (.int (g (wps (wst sz lt g m) k))), some (.int (wk1 sz lt g m (wps (wst sz lt g m) k) i)), some (.int (nI (wk2 sz lt g m (wps (wst sz lt g m) k) i))), some (.int (nI i)), some (.int 0)]) dX7_fingers_141 (by decide) rfl ?_
                      refine am_iload (I := iX7_fingers) (pc := 143) dX7_fingers_143 rfl ?_
                      refine am_if_eq (I := iX7_fingers) (pc := 145) (tgt := 158) dX7_fingers_145 (by decide) (fun c145 => ?_) (fun c145 => ?_)
                      · refine am_iload (I := iX7_fingers) (pc := 158) dX7_fingers_158 rfl ?_
                        refine am_istore (I := iX7_fingers) (pc := 160) (L' := [some (.ref 25), some (.int (nI p)), some (.int (nI q)), some (.int (nI iv)), some (.int (nI (wps (wst sz lt g m) k))), some (.int (g (wps (wst sz lt g m) k))), some (.int (wk1 sz lt g m (wps (wst sz lt g m) k) i)), some (.int (nI (wk2 sz lt g m (wps (wst sz lt g m) k) i))), some (.int (nI i)), some (.int 0)]) dX7_fingers_160 (by decide) rfl ?_
                        refine am_iload (I := iX7_fingers) (pc := 162) dX7_fingers_162 rfl ?_
                        refine am_if_eq (I := iX7_fingers) (pc := 164) (tgt := 175) dX7_fingers_164 (by decide) (fun c164 => ?_) (fun c164 => ?_)
                        · refine am_iload (I := iX7_fingers) (pc := 175) dX7_fingers_175 rfl ?_
                          refine am_istore (I := iX7_fingers) (pc := 177) (L' := [some (.ref 25), some (.int (nI p)), some (.int (nI q)), some (.int (nI iv)), some (.int (nI (wps (wst sz lt g m) k))), some (.int (g (wps (wst sz lt g m) k))), some (.int (wk1 sz lt g m (wps (wst sz lt g m) k) i)), some (.int (nI (wk2 sz lt g m (wps (wst sz lt g m) k) i))), some (.int (nI i)), some (.int 0)]) dX7_fingers_177 (by decide) rfl ?_
                          refine am_forget 9 ?_
                          refine am_iinc (I := iX7_fingers) (pc := 179) (y := ((nI i) + 1)) (L' := [some (.ref 25), some (.int (nI p)), some (.int (nI q)), some (.int (nI iv)), some (.int (nI (wps (wst sz lt g m) k))), some (.int (g (wps (wst sz lt g m) k))), some (.int (wk1 sz lt g m (wps (wst sz lt g m) k) i)), some (.int (nI (wk2 sz lt g m (wps (wst sz lt g m) k) i))), some (.int ((nI i) + 1)), none]) dX7_fingers_179 rfl rfl rfl ?_
                          refine am_goto (I := iX7_fingers) (pc := 182) (tgt := 105) dX7_fingers_182 (by decide) ?_
                          exact am_same rfl (by rw [hw.1, hw.2, nI_1]) rfl rfl rfl rfl (ih105 (i + 1) (by omega) (by omega))
                        · exact absurd rfl c164
                      · exact absurd rfl c145
                    · have hlt : (wk2 sz lt g m (wps (wst sz lt g m) k) i) < sz i := by
                        rcases Nat.lt_or_ge (wk2 sz lt g m (wps (wst sz lt g m) k) i) (sz i) with q9 | q9
                        · exact q9
                        · exact absurd (nI_le q9 (by have := (wk2_le (sz := sz) (lt := lt) (g := g) (m := m) (t := (wps (wst sz lt g m) k)) (k := i) h5).1; omega)) c121
                      refine am_aload_n (I := iX7_fingers) (pc := 124) dX7_fingers_124 rfl rfl ?_
                      refine am_iload (I := iX7_fingers) (pc := 125) dX7_fingers_125 rfl ?_
                      refine am_iload_n (I := iX7_fingers) (pc := 127) dX7_fingers_127 rfl rfl ?_
                      refine am_iload (I := iX7_fingers) (pc := 128) dX7_fingers_128 rfl ?_
                      refine am_callV (I := iX7_fingers) (pc := 130) (st := []) lv_X7_134 (q_stands sz lt iv m g i (wps (wst sz lt g m) k) h5 hl hiv hm hm8 hg l109 (by omega) l50 (fun j hj => hne i j l109 hj)) dX7_fingers_130 md_25 rfl (Nat.le_of_ble_eq_true rfl) ⟨Nat.le_of_ble_eq_true rfl, Nat.le_of_ble_eq_true rfl⟩ (Nat.le_of_ble_eq_true rfl) (Nat.le_of_ble_eq_true rfl) rfl (fun v9 T9 z9 _ => ?_) (fun _ _ h9 => h9.elim)
                      obtain ⟨rfl, rfl⟩ := z9
                      show am_W _ _ _ _ _ _ _ _ _ _ _ _ _ _ _ 133 [some (.ref 25), some (.int (nI p)), some (.int (nI q)), some (.int (nI iv)), some (.int (nI (wps (wst sz lt g m) k))), some (.int (g (wps (wst sz lt g m) k))), some (.int (wk1 sz lt g m (wps (wst sz lt g m) k) i)), some (.int (nI (wk2 sz lt g m (wps (wst sz lt g m) k) i))), some (.int (nI i)), none] [.int (bI (decide (stands (lt i) (sz i) g m (nI (wps (wst sz lt g m) k)) = 1)))] (mdS S 0 pd wd ln sq st ct (nI k) 1 zn a26 (fun k => nI (cn k)) a28 a29 (fun l => fo (fb l)) a31 a32 a33 a34 a35 a36 (fun k => nI (sz k)) a38 (rcat a39 0 (fun j => wcl sz lt g m (wps (wst sz lt g m) j)) k) a40 a41 a42 a43 a44) 0 0
                      refine am_if_eq (I := iX7_fingers) (pc := 133) (tgt := 140) dX7_fingers_133 (by decide) (fun c133 => ?_) (fun c133 => ?_)
                      · have hw := wk_f (lt := lt) (g := g) (m := m) (t := (wps (wst sz lt g m) k)) h2 l109 (fun q9 => of_decide_eq_false (bI_0 c133) q9.2)
                        refine am_iconst (I := iX7_fingers) (pc := 140) (x := 0) dX7_fingers_140 (by decide) ?_
                        refine am_istore (I := iX7_fingers) (pc := 141) (L' := [some (.ref 25), some (.int (nI p)), some (.int (nI q)), some (.int (nI iv)), some (.int (nI (wps (wst sz lt g m) k))), some (.int (g (wps (wst sz lt g m) k))), some (.int (wk1 sz lt g m (wps (wst sz lt g m) k) i)), some (.int (nI (wk2 sz lt g m (wps (wst sz lt g m) k) i))), some (.int (nI i)), some (.int 0)]) dX7_fingers_141 (by decide) rfl ?_
                        refine am_iload (I := iX7_fingers) (pc := 143) dX7_fingers_143 rfl ?_
                        refine am_if_eq (I := iX7_fingers) (pc := 145) (tgt := 158) dX7_fingers_145 (by decide) (fun c145 => ?_) (fun c145 => ?_)
                        · refine am_iload (I := iX7_fingers) (pc := 158) dX7_fingers_158 rfl ?_
                          refine am_istore (I := iX7_fingers) (pc := 160) (L' := [some (.ref 25), some (.int (nI p)), some (.int (nI q)), some (.int (nI iv)), some (.int (nI (wps (wst sz lt g m) k))), some (.int (g (wps (wst sz lt g m) k))), some (.int (wk1 sz lt g m (wps (wst sz lt g m) k) i)), some (.int (nI (wk2 sz lt g m (wps (wst sz lt g m) k) i))), some (.int (nI i)), some (.int 0)]) dX7_fingers_160 (by decide) rfl ?_
                          refine am_iload (I := iX7_fingers) (pc := 162) dX7_fingers_162 rfl ?_
                          refine am_if_eq (I := iX7_fingers) (pc := 164) (tgt := 175) dX7_fingers_164 (by decide) (fun c164 => ?_) (fun c164 => ?_)
                          · refine am_iload (I := iX7_fingers) (pc := 175) dX7_fingers_175 rfl ?_
                            refine am_istore (I := iX7_fingers) (pc := 177) (L' := [some (.ref 25), some (.int (nI p)), some (.int (nI q)), some (.int (nI iv)), some (.int (nI (wps (wst sz lt g m) k))), some (.int (g (wps (wst sz lt g m) k))), some (.int (wk1 sz lt g m (wps (wst sz lt g m) k) i)), some (.int (nI (wk2 sz lt g m (wps (wst sz lt g m) k) i))), some (.int (nI i)), some (.int 0)]) dX7_fingers_177 (by decide) rfl ?_
                            refine am_forget 9 ?_
                            refine am_iinc (I := iX7_fingers) (pc := 179) (y := ((nI i) + 1)) (L' := [some (.ref 25), some (.int (nI p)), some (.int (nI q)), some (.int (nI iv)), some (.int (nI (wps (wst sz lt g m) k))), some (.int (g (wps (wst sz lt g m) k))), some (.int (wk1 sz lt g m (wps (wst sz lt g m) k) i)), some (.int (nI (wk2 sz lt g m (wps (wst sz lt g m) k) i))), some (.int ((nI i) + 1)), none]) dX7_fingers_179 rfl rfl rfl ?_
                            refine am_goto (I := iX7_fingers) (pc := 182) (tgt := 105) dX7_fingers_182 (by decide) ?_
                            exact am_same rfl (by rw [hw.1, hw.2, nI_1]) rfl rfl rfl rfl (ih105 (i + 1) (by omega) (by omega))
                          · exact absurd rfl c164
                        · exact absurd rfl c145
                      · have hw := wk_t (lt := lt) (g := g) (m := m) (t := (wps (wst sz lt g m) k)) h2 l109 hlt (of_decide_eq_true (bI_1 c133))
                        refine am_iconst (I := iX7_fingers) (pc := 136) (x := 1) dX7_fingers_136 (by decide) ?_
                        refine am_goto (I := iX7_fingers) (pc := 137) (tgt := 141) dX7_fingers_137 (by decide) ?_
                        refine am_istore (I := iX7_fingers) (pc := 141) (L' := [some (.ref 25), some (.int (nI p)), some (.int (nI q)), some (.int (nI iv)), some (.int (nI (wps (wst sz lt g m) k))), some (.int (g (wps (wst sz lt g m) k))), some (.int (wk1 sz lt g m (wps (wst sz lt g m) k) i)), some (.int (nI (wk2 sz lt g m (wps (wst sz lt g m) k) i))), some (.int (nI i)), some (.int 1)]) dX7_fingers_141 (by decide) rfl ?_
                        refine am_iload (I := iX7_fingers) (pc := 143) dX7_fingers_143 rfl ?_
                        refine am_if_eq (I := iX7_fingers) (pc := 145) (tgt := 158) dX7_fingers_145 (by decide) (fun c145 => ?_) (fun c145 => ?_)
                        · exact absurd c145 (by decide)
                        · refine am_aload_n (I := iX7_fingers) (pc := 148) dX7_fingers_148 rfl rfl ?_
                          refine am_getf (I := iX7_fingers) (pc := 149) lf_X7_43 dX7_fingers_149 md_25 rfl ?_
                          refine am_iload (I := iX7_fingers) (pc := 152) dX7_fingers_152 rfl ?_
                          refine am_iaload (I := iX7_fingers) (pc := 154) dX7_fingers_154 md_37 rfl (vp_in_nI (show i < 36 by omega) (by decide)) ?_
                          rw [nI_clamp (show i < 2 ^ 31 by omega)]
                          refine am_goto (I := iX7_fingers) (pc := 155) (tgt := 160) dX7_fingers_155 (by decide) ?_
                          refine am_istore (I := iX7_fingers) (pc := 160) (L' := [some (.ref 25), some (.int (nI p)), some (.int (nI q)), some (.int (nI iv)), some (.int (nI (wps (wst sz lt g m) k))), some (.int (g (wps (wst sz lt g m) k))), some (.int (wk1 sz lt g m (wps (wst sz lt g m) k) i)), some (.int (nI (sz i))), some (.int (nI i)), some (.int 1)]) dX7_fingers_160 (by decide) rfl ?_
                          refine am_iload (I := iX7_fingers) (pc := 162) dX7_fingers_162 rfl ?_
                          refine am_if_eq (I := iX7_fingers) (pc := 164) (tgt := 175) dX7_fingers_164 (by decide) (fun c164 => ?_) (fun c164 => ?_)
                          · exact absurd c164 (by decide)
                          · refine am_bipush (I := iX7_fingers) (pc := 167) (x := 28) dX7_fingers_167 (by decide) ?_
                            refine am_iload (I := iX7_fingers) (pc := 169) dX7_fingers_169 rfl ?_
                            refine am_iadd (I := iX7_fingers) (pc := 171) dX7_fingers_171 ?_
                            refine am_goto (I := iX7_fingers) (pc := 172) (tgt := 177) dX7_fingers_172 (by decide) ?_
                            refine am_istore (I := iX7_fingers) (pc := 177) (L' := [some (.ref 25), some (.int (nI p)), some (.int (nI q)), some (.int (nI iv)), some (.int (nI (wps (wst sz lt g m) k))), some (.int (g (wps (wst sz lt g m) k))), some (.int (28 + (nI i))), some (.int (nI (sz i))), some (.int (nI i)), some (.int 1)]) dX7_fingers_177 (by decide) rfl ?_
                            refine am_forget 9 ?_
                            refine am_iinc (I := iX7_fingers) (pc := 179) (y := ((nI i) + 1)) (L' := [some (.ref 25), some (.int (nI p)), some (.int (nI q)), some (.int (nI iv)), some (.int (nI (wps (wst sz lt g m) k))), some (.int (g (wps (wst sz lt g m) k))), some (.int (28 + (nI i))), some (.int (nI (sz i))), some (.int ((nI i) + 1)), none]) dX7_fingers_179 rfl rfl rfl ?_
                            refine am_goto (I := iX7_fingers) (pc := 182) (tgt := 105) dX7_fingers_182 (by decide) ?_
                            exact am_same rfl (by rw [hw.1, hw.2, ← nI_add, nI_1]; rfl) rfl rfl rfl rfl (ih105 (i + 1) (by omega) (by omega))
              exact am_same rfl (by rw [show (wk1 sz lt g m (wps (wst sz lt g m) k) 0) = oc (g (wps (wst sz lt g m) k)) from rfl, show (wk2 sz lt g m (wps (wst sz lt g m) k) 0) = 1 from rfl, oc, if_pos c71]; rfl) rfl rfl rfl rfl (loop105 _ 0 (Nat.lt_succ_self _) (Nat.zero_le _))
      exact am_same rfl (by rfl) rfl (by rw [rcat_0]; rfl) rfl rfl (loop42 _ 0 (Nat.lt_succ_self _) (Nat.zero_le _) (Nat.zero_le _) (Nat.zero_le _) (by rw [Nat.zero_add, Nat.sub_zero]; rfl))
    · exact absurd c24 (fun e9 => by have h9 := nI_pos (n := iv) (by omega); rw [e9] at h9; exact h9 (by decide))
  · exact absurd c10 (by decide)
set_option maxRecDepth 100000 in
set_option maxHeartbeats 4000000 in
theorem q_cell_x0 {K : am_K} {l : Launch} {S : am_S} {th pd wd ln sq st ct ft zn : Int32} {a26 a27 a28 a29 a30 a31 a32 a33 a34 a35 a36 a37 a38 a39 a40 a41 a42 a43 a44 : Nat → Int32} (n : Nat) (x : Int32) (hb : x < 0 ∨ nI n ≤ x) : am_M K l iX7_cell 1 0 0 [.ref 25, .int x] (mdS S th pd wd ln sq st ct (nI n) ft zn a26 a27 a28 a29 a30 a31 a32 a33 a34 a35 a36 a37 a38 a39 a40 a41 a42 a43 a44) (fun v S' => v = some (.int (0)) ∧ mdS S 1 pd wd ln sq st ct (nI n) ft zn a26 a27 a28 a29 a30 a31 a32 a33 a34 a35 a36 a37 a38 a39 a40 a41 a42 a43 a44 = S') (fun _ _ => False) := by
  refine am_body (by decide) rfl (by simp [Value.category]) (Nat.le_of_ble_eq_true rfl) (fun xp xe xs xm xa xb xt xc ad0 => ?_)
  show am_W _ _ _ _ _ _ _ _ _ _ _ _ _ _ _ 0 [some (.ref 25), some (.int x)] [] (mdS S th pd wd ln sq st ct (nI n) ft zn a26 a27 a28 a29 a30 a31 a32 a33 a34 a35 a36 a37 a38 a39 a40 a41 a42 a43 a44) 0 0
  refine am_aload_n (I := iX7_cell) (pc := 0) dX7_cell_0 rfl rfl ?_
  refine am_iload_n (I := iX7_cell) (pc := 1) dX7_cell_1 rfl rfl ?_
  refine am_aload_n (I := iX7_cell) (pc := 2) dX7_cell_2 rfl rfl ?_
  refine am_getf (I := iX7_cell) (pc := 3) lf_X7_128 dX7_cell_3 md_25 rfl ?_
  refine am_callS (I := iX7_cell) (pc := 6) (st := [.ref 25]) lv_X7_83 rfl (q_below x (nI n)) dX7_cell_6 rfl (Nat.le_of_ble_eq_true rfl) ⟨Nat.le_of_ble_eq_true rfl, Nat.le_of_ble_eq_true rfl⟩ (Nat.le_of_ble_eq_true rfl) (Nat.le_of_ble_eq_true rfl) rfl (fun v9 T9 z9 _ => ?_) (fun _ _ h9 => h9.elim)
  obtain ⟨rfl, rfl⟩ := z9
  show am_W _ _ _ _ _ _ _ _ _ _ _ _ _ _ _ 9 [some (.ref 25), some (.int x)] [.int (bI (blw x (nI n))), .ref 25] (mdS S th pd wd ln sq st ct (nI n) ft zn a26 a27 a28 a29 a30 a31 a32 a33 a34 a35 a36 a37 a38 a39 a40 a41 a42 a43 a44) 0 0
  rw [bI_f (blw_f hb)]
  refine am_iconst (I := iX7_cell) (pc := 9) (x := 1) dX7_cell_9 (by decide) ?_
  refine am_callV (I := iX7_cell) (pc := 10) (st := []) lv_X7_79 (q_goes1 _) dX7_cell_10 md_25 rfl (Nat.le_of_ble_eq_true rfl) ⟨Nat.le_of_ble_eq_true rfl, Nat.le_of_ble_eq_true rfl⟩ (Nat.le_of_ble_eq_true rfl) (Nat.le_of_ble_eq_true rfl) rfl (fun v9 T9 z9 _ => ?_) (fun _ _ h9 => h9.elim)
  obtain ⟨rfl, rfl⟩ := z9
  show am_W _ _ _ _ _ _ _ _ _ _ _ _ _ _ _ 13 [some (.ref 25), some (.int x)] [.int 0] (mdS S 1 pd wd ln sq st ct (nI n) ft zn a26 a27 a28 a29 a30 a31 a32 a33 a34 a35 a36 a37 a38 a39 a40 a41 a42 a43 a44) 0 0
  refine am_if_eq (I := iX7_cell) (pc := 13) (tgt := 25) dX7_cell_13 (by decide) (fun c13 => ?_) (fun c13 => ?_)
  · refine am_iconst (I := iX7_cell) (pc := 25) (x := 0) dX7_cell_25 (by decide) ?_
    exact am_iret (I := iX7_cell) (pc := 26) dX7_cell_26 rfl (Nat.le_refl _) (Nat.le_refl _) (⟨rfl, rfl⟩)
  · exact absurd rfl c13
set_option maxRecDepth 100000 in
set_option maxHeartbeats 4000000 in
theorem q_cell {K : am_K} {l : Launch} {S : am_S} {th pd wd ln sq st ct ft zn : Int32} {a26 a27 a28 a29 a30 a31 a32 a33 a34 a35 a36 a37 a38 a39 a40 a41 a42 a43 a44 : Nat → Int32} (n k : Nat) (hn : n ≤ 80) (hk : k < n) : am_M K l iX7_cell 1 0 0 [.ref 25, .int (nI k)] (mdS S th pd wd ln sq st ct (nI n) ft zn a26 a27 a28 a29 a30 a31 a32 a33 a34 a35 a36 a37 a38 a39 a40 a41 a42 a43 a44) (fun v S' => v = some (.int (a39 k)) ∧ mdS S 0 pd wd ln sq st ct (nI n) ft zn a26 a27 a28 a29 a30 a31 a32 a33 a34 a35 a36 a37 a38 a39 a40 a41 a42 a43 a44 = S') (fun _ _ => False) := by
  refine am_body (by decide) rfl (by simp [Value.category]) (Nat.le_of_ble_eq_true rfl) (fun xp xe xs xm xa xb xt xc ad0 => ?_)
  show am_W _ _ _ _ _ _ _ _ _ _ _ _ _ _ _ 0 [some (.ref 25), some (.int (nI k))] [] (mdS S th pd wd ln sq st ct (nI n) ft zn a26 a27 a28 a29 a30 a31 a32 a33 a34 a35 a36 a37 a38 a39 a40 a41 a42 a43 a44) 0 0
  refine am_aload_n (I := iX7_cell) (pc := 0) dX7_cell_0 rfl rfl ?_
  refine am_iload_n (I := iX7_cell) (pc := 1) dX7_cell_1 rfl rfl ?_
  refine am_aload_n (I := iX7_cell) (pc := 2) dX7_cell_2 rfl rfl ?_
  refine am_getf (I := iX7_cell) (pc := 3) lf_X7_128 dX7_cell_3 md_25 rfl ?_
  refine am_callS (I := iX7_cell) (pc := 6) (st := [.ref 25]) lv_X7_83 rfl (q_below (nI k) (nI n)) dX7_cell_6 rfl (Nat.le_of_ble_eq_true rfl) ⟨Nat.le_of_ble_eq_true rfl, Nat.le_of_ble_eq_true rfl⟩ (Nat.le_of_ble_eq_true rfl) (Nat.le_of_ble_eq_true rfl) rfl (fun v9 T9 z9 _ => ?_) (fun _ _ h9 => h9.elim)
  obtain ⟨rfl, rfl⟩ := z9
  show am_W _ _ _ _ _ _ _ _ _ _ _ _ _ _ _ 9 [some (.ref 25), some (.int (nI k))] [.int (bI (blw (nI k) (nI n))), .ref 25] (mdS S th pd wd ln sq st ct (nI n) ft zn a26 a27 a28 a29 a30 a31 a32 a33 a34 a35 a36 a37 a38 a39 a40 a41 a42 a43 a44) 0 0
  rw [bI_t (blw_t hk (by omega))]
  refine am_iconst (I := iX7_cell) (pc := 9) (x := 1) dX7_cell_9 (by decide) ?_
  refine am_callV (I := iX7_cell) (pc := 10) (st := []) lv_X7_79 (q_goes0) dX7_cell_10 md_25 rfl (Nat.le_of_ble_eq_true rfl) ⟨Nat.le_of_ble_eq_true rfl, Nat.le_of_ble_eq_true rfl⟩ (Nat.le_of_ble_eq_true rfl) (Nat.le_of_ble_eq_true rfl) rfl (fun v9 T9 z9 _ => ?_) (fun _ _ h9 => h9.elim)
  obtain ⟨rfl, rfl⟩ := z9
  show am_W _ _ _ _ _ _ _ _ _ _ _ _ _ _ _ 13 [some (.ref 25), some (.int (nI k))] [.int 1] (mdS S 0 pd wd ln sq st ct (nI n) ft zn a26 a27 a28 a29 a30 a31 a32 a33 a34 a35 a36 a37 a38 a39 a40 a41 a42 a43 a44) 0 0
  refine am_if_eq (I := iX7_cell) (pc := 13) (tgt := 25) dX7_cell_13 (by decide) (fun c13 => ?_) (fun c13 => ?_)
  · exact absurd c13 (by decide)
  · refine am_aload_n (I := iX7_cell) (pc := 16) dX7_cell_16 rfl rfl ?_
    refine am_getf (I := iX7_cell) (pc := 17) lf_X7_49 dX7_cell_17 md_25 rfl ?_
    refine am_iload_n (I := iX7_cell) (pc := 20) dX7_cell_20 rfl rfl ?_
    refine am_iaload (I := iX7_cell) (pc := 21) dX7_cell_21 md_39 rfl (vp_in_nI (show k < 80 by omega) (by decide)) ?_
    rw [nI_clamp (show k < 2 ^ 31 by omega)]
    refine am_goto (I := iX7_cell) (pc := 22) (tgt := 26) dX7_cell_22 (by decide) ?_
    exact am_iret (I := iX7_cell) (pc := 26) dX7_cell_26 rfl (Nat.le_refl _) (Nat.le_refl _) (⟨rfl, rfl⟩)
