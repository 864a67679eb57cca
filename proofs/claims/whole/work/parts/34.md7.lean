def ipd (sz : Nat → Nat) (lt : Nat → Nat → Int32) (f : Nat → Int32) (n k i : Nat) : Bool := decide (sz k = n) && decide (∀ j, j < i → lt k j = f j)
theorem ipd_0 {sz : Nat → Nat} {lt : Nat → Nat → Int32} {f : Nat → Int32} {n k : Nat} : ipd sz lt f n k 0 = decide (sz k = n) := by
  unfold ipd
  rw [decide_eq_true (show ∀ j, j < 0 → lt k j = f j from fun j h => absurd h (Nat.not_lt_zero _)), Bool.and_true]
theorem all_s {p : Nat → Prop} [DecidablePred p] {i : Nat} : decide (∀ j, j < i + 1 → p j) = (decide (∀ j, j < i → p j) && decide (p i)) := by
  by_cases h : ∀ j, j < i → p j
  · rw [decide_eq_true h, Bool.true_and]
    by_cases h2 : p i
    · rw [decide_eq_true h2]
      exact decide_eq_true (fun j hj => by
        rcases Nat.lt_or_ge j i with q | q
        · exact h j q
        · rw [show j = i by omega]; exact h2)
    · rw [decide_eq_false h2]
      exact decide_eq_false (fun q => h2 (q i (Nat.lt_succ_self i)))
  · rw [decide_eq_false h, Bool.false_and]
    exact decide_eq_false (fun q => h (fun j hj => q j (Nat.lt_succ_of_lt hj)))
theorem ipd_s {sz : Nat → Nat} {lt : Nat → Nat → Int32} {f : Nat → Int32} {n k i : Nat} : ipd sz lt f n k (i + 1) = (ipd sz lt f n k i && decide (lt k i = f i)) := by
  unfold ipd
  rw [all_s (p := fun j => lt k j = f j), Bool.and_assoc]
theorem ipd_f {sz : Nat → Nat} {lt : Nat → Nat → Int32} {f : Nat → Int32} {n k i : Nat} (h : ipd sz lt f n k i = false) : ∀ {j}, i ≤ j → ipd sz lt f n k j = false
  | 0, h2 => by rw [show 0 = i by omega]; exact h
  | j + 1, h2 => by
    rcases Nat.lt_or_ge i (j + 1) with q | q
    · rw [ipd_s, ipd_f h (show i ≤ j by omega), Bool.false_and]
    · rw [show j + 1 = i by omega]; exact h
theorem ipd_n {sz : Nat → Nat} {lt : Nat → Nat → Int32} {f : Nat → Int32} {n k i : Nat} (h : ipd sz lt f n k i = true) : sz k = n := by
  unfold ipd at h
  rw [Bool.and_eq_true] at h
  exact of_decide_eq_true h.1
set_option maxRecDepth 100000 in
set_option maxHeartbeats 4000000 in
theorem q_isPad {K : am_K} {l : Launch} {S : am_S} {th wd ln sq st ct cl ft zn : Int32} {a26 a27 a28 a29 a30 a31 a32 a33 a34 a35 a36 a38 a39 a40 a41 a42 a43 a44 : Nat → Int32} (sz : Nat → Nat) (lt : Nat → Nat → Int32) (n k : Nat) (h5 : ∀ k, sz k ≤ 5) (hl : ∀ k i, k < 36 → i < sz k → a38 (k * 5 + i) = lt k i) (hn : n ≤ 80) (hk : k < 36) : am_M K l iX7_isPad 0 0 0 [.ref 25, .int (nI k)] (mdS S th (nI n) wd ln sq st ct cl ft zn a26 a27 a28 a29 a30 a31 a32 a33 a34 a35 a36 (fun k => nI (sz k)) a38 a39 a40 a41 a42 a43 a44) (fun v S' => v = some (.int (bI (ipd sz lt a26 n k n))) ∧ mdS S th (nI n) wd ln sq st ct cl ft zn a26 a27 a28 a29 a30 a31 a32 a33 a34 a35 a36 (fun k => nI (sz k)) a38 a39 a40 a41 a42 a43 a44 = S') (fun _ _ => False) := by
  refine am_body (by decide) rfl (by simp [Value.category]) (Nat.le_of_ble_eq_true rfl) (fun xp xe xs xm xa xb xt xc ad0 => ?_)
  show am_W _ _ _ _ _ _ _ _ _ _ _ _ _ _ _ 0 [some (.ref 25), some (.int (nI k)), none, none] [] (mdS S th (nI n) wd ln sq st ct cl ft zn a26 a27 a28 a29 a30 a31 a32 a33 a34 a35 a36 (fun k => nI (sz k)) a38 a39 a40 a41 a42 a43 a44) 0 0
  refine am_aload_n (I := iX7_isPad) (pc := 0) dX7_isPad_0 rfl rfl ?_
  refine am_getf (I := iX7_isPad) (pc := 1) lf_X7_43 dX7_isPad_1 md_25 rfl ?_
  refine am_iload_n (I := iX7_isPad) (pc := 4) dX7_isPad_4 rfl rfl ?_
  refine am_iaload (I := iX7_isPad) (pc := 5) dX7_isPad_5 md_37 rfl (vp_in_nI hk (by decide)) ?_
  rw [nI_clamp (show k < 2 ^ 31 by omega)]
  refine am_aload_n (I := iX7_isPad) (pc := 6) dX7_isPad_6 rfl rfl ?_
  refine am_getf (I := iX7_isPad) (pc := 7) lf_X7_72 dX7_isPad_7 md_25 rfl ?_
  refine am_icmp_ne (I := iX7_isPad) (pc := 10) (tgt := 17) dX7_isPad_10 (by decide) (fun c10 => ?_) (fun c10 => ?_)
  · refine am_iconst (I := iX7_isPad) (pc := 17) (x := 0) dX7_isPad_17 (by decide) ?_
    refine am_istore_n (I := iX7_isPad) (pc := 18) (L' := [some (.ref 25), some (.int (nI k)), some (.int 0), none]) dX7_isPad_18 rfl (by decide) rfl ?_
    refine am_iconst (I := iX7_isPad) (pc := 19) (x := 0) dX7_isPad_19 (by decide) ?_
    refine am_istore_n (I := iX7_isPad) (pc := 20) (L' := [some (.ref 25), some (.int (nI k)), some (.int 0), some (.int 0)]) dX7_isPad_20 rfl (by decide) rfl ?_
    have loop21 : ∀ (k21 : Nat) (i : Nat), n - i < k21 → (i ≤ n) → am_W K iX7_isPad xp l xe (am_room 0 0 0) xs xm xa xb xt xc (mdS S th (nI n) wd ln sq st ct cl ft zn a26 a27 a28 a29 a30 a31 a32 a33 a34 a35 a36 (fun k => nI (sz k)) a38 a39 a40 a41 a42 a43 a44) ad0 (am_E K ad0 (mdS S th (nI n) wd ln sq st ct cl ft zn a26 a27 a28 a29 a30 a31 a32 a33 a34 a35 a36 (fun k => nI (sz k)) a38 a39 a40 a41 a42 a43 a44) (fun v S' => v = some (.int (bI (ipd sz lt a26 n k n))) ∧ mdS S th (nI n) wd ln sq st ct cl ft zn a26 a27 a28 a29 a30 a31 a32 a33 a34 a35 a36 (fun k => nI (sz k)) a38 a39 a40 a41 a42 a43 a44 = S') (fun _ _ => False) xb xa xs 0 0) 21 [some (.ref 25), some (.int (nI k)), some (.int (bI (ipd sz lt a26 n k i))), some (.int (nI i))] [] (mdS S th (nI n) wd ln sq st ct cl ft zn a26 a27 a28 a29 a30 a31 a32 a33 a34 a35 a36 (fun k => nI (sz k)) a38 a39 a40 a41 a42 a43 a44) 0 0 := by
      intro k21
      induction k21 with
      | zero => intro i h9; exact absurd h9 (Nat.not_lt_zero _)
      | succ k21 ih21 =>
        intro i hm21 hi
        refine am_iload_n (I := iX7_isPad) (pc := 21) dX7_isPad_21 rfl rfl ?_
        refine am_aload_n (I := iX7_isPad) (pc := 22) dX7_isPad_22 rfl rfl ?_
        refine am_getf (I := iX7_isPad) (pc := 23) lf_X7_72 dX7_isPad_23 md_25 rfl ?_
        refine am_icmp_ge (I := iX7_isPad) (pc := 26) (tgt := 64) dX7_isPad_26 (by decide) (fun c26 => ?_) (fun c26 => ?_)
        · have g26 : n ≤ i := by
            rcases Nat.lt_or_ge i n with q9 | q9
            · exact absurd c26 (nI_ge (a := i) (b := n) q9 (by omega))
            · exact q9
          refine am_iload_n (I := iX7_isPad) (pc := 64) dX7_isPad_64 rfl rfl ?_
          exact am_zret (I := iX7_isPad) (pc := 65) dX7_isPad_65 rfl (bI01 _) (Nat.le_refl _) (Nat.le_refl _) (⟨by rw [show i = n by omega], rfl⟩)
        · have l26 : i < n := by
            rcases Nat.lt_or_ge i n with q9 | q9
            · exact q9
            · exact absurd (nI_le (a := n) (b := i) q9 (by omega)) c26
          refine am_iload_n (I := iX7_isPad) (pc := 29) dX7_isPad_29 rfl rfl ?_
          refine am_if_eq (I := iX7_isPad) (pc := 30) (tgt := 64) dX7_isPad_30 (by decide) (fun c30 => ?_) (fun c30 => ?_)
          · refine am_iload_n (I := iX7_isPad) (pc := 64) dX7_isPad_64 rfl rfl ?_
            exact am_zret (I := iX7_isPad) (pc := 65) dX7_isPad_65 rfl (bI01 _) (Nat.le_refl _) (Nat.le_refl _) (⟨by rw [bI_0 c30, ipd_f (bI_0 c30) hi], rfl⟩)
          · refine am_aload_n (I := iX7_isPad) (pc := 33) dX7_isPad_33 rfl rfl ?_
            refine am_getf (I := iX7_isPad) (pc := 34) lf_X7_46 dX7_isPad_34 md_25 rfl ?_
            refine am_iconst (I := iX7_isPad) (pc := 37) (x := 5) dX7_isPad_37 (by decide) ?_
            refine am_iload_n (I := iX7_isPad) (pc := 38) dX7_isPad_38 rfl rfl ?_
            refine am_imul (I := iX7_isPad) (pc := 39) dX7_isPad_39 ?_
            refine am_iload_n (I := iX7_isPad) (pc := 40) dX7_isPad_40 rfl rfl ?_
            refine am_iadd (I := iX7_isPad) (pc := 41) dX7_isPad_41 ?_
            have hsz : sz k = n := ipd_n (bI_1 c30)
            have h55 := h5 k
            rw [ix5]
            refine am_iaload (I := iX7_isPad) (pc := 42) dX7_isPad_42 md_38 rfl (vp_in_nI (show k * 5 + i < 180 by omega) (by decide)) ?_
            refine am_same (st' := [.int (lt k i)]) rfl rfl (by rw [nI_clamp (show k * 5 + i < 2 ^ 31 by omega), hl k i hk (by omega)]) rfl rfl rfl ?_
            refine am_aload_n (I := iX7_isPad) (pc := 43) dX7_isPad_43 rfl rfl ?_
            refine am_getf (I := iX7_isPad) (pc := 44) lf_X7_7 dX7_isPad_44 md_25 rfl ?_
            refine am_iload_n (I := iX7_isPad) (pc := 47) dX7_isPad_47 rfl rfl ?_
            refine am_iaload (I := iX7_isPad) (pc := 48) dX7_isPad_48 md_26 rfl (vp_in_nI (show i < 80 by omega) (by decide)) ?_
            rw [nI_clamp (show i < 2 ^ 31 by omega)]
            refine am_icmp_ne (I := iX7_isPad) (pc := 49) (tgt := 56) dX7_isPad_49 (by decide) (fun c49 => ?_) (fun c49 => ?_)
            · refine am_iconst (I := iX7_isPad) (pc := 56) (x := 0) dX7_isPad_56 (by decide) ?_
              refine am_istore_n (I := iX7_isPad) (pc := 57) (L' := [some (.ref 25), some (.int (nI k)), some (.int 0), some (.int (nI i))]) dX7_isPad_57 rfl (by decide) rfl ?_
              refine am_iinc (I := iX7_isPad) (pc := 58) (y := ((nI i) + 1)) (L' := [some (.ref 25), some (.int (nI k)), some (.int 0), some (.int ((nI i) + 1))]) dX7_isPad_58 rfl rfl rfl ?_
              refine am_goto (I := iX7_isPad) (pc := 61) (tgt := 21) dX7_isPad_61 (by decide) ?_
              exact am_same rfl (by rw [nI_1, ipd_s, bI_1 c30, decide_eq_false c49]; rfl) rfl rfl rfl rfl (ih21 (i + 1) (by omega) (by omega))
            · refine am_iconst (I := iX7_isPad) (pc := 52) (x := 1) dX7_isPad_52 (by decide) ?_
              refine am_goto (I := iX7_isPad) (pc := 53) (tgt := 57) dX7_isPad_53 (by decide) ?_
              refine am_istore_n (I := iX7_isPad) (pc := 57) (L' := [some (.ref 25), some (.int (nI k)), some (.int 1), some (.int (nI i))]) dX7_isPad_57 rfl (by decide) rfl ?_
              refine am_iinc (I := iX7_isPad) (pc := 58) (y := ((nI i) + 1)) (L' := [some (.ref 25), some (.int (nI k)), some (.int 1), some (.int ((nI i) + 1))]) dX7_isPad_58 rfl rfl rfl ?_
              refine am_goto (I := iX7_isPad) (pc := 61) (tgt := 21) dX7_isPad_61 (by decide) ?_
              exact am_same rfl (by rw [nI_1, ipd_s, bI_1 c30, decide_eq_true c49]; rfl) rfl rfl rfl rfl (ih21 (i + 1) (by omega) (by omega))
    exact am_same rfl (by rw [ipd_0, decide_eq_false (fun e9 => c10 (by rw [e9]))]; rfl) rfl rfl rfl rfl (loop21 _ 0 (Nat.lt_succ_self _) (Nat.zero_le _))
  · refine am_iconst (I := iX7_isPad) (pc := 13) (x := 1) dX7_isPad_13 (by decide) ?_
    refine am_goto (I := iX7_isPad) (pc := 14) (tgt := 18) dX7_isPad_14 (by decide) ?_
    refine am_istore_n (I := iX7_isPad) (pc := 18) (L' := [some (.ref 25), some (.int (nI k)), some (.int 1), none]) dX7_isPad_18 rfl (by decide) rfl ?_
    refine am_iconst (I := iX7_isPad) (pc := 19) (x := 0) dX7_isPad_19 (by decide) ?_
    refine am_istore_n (I := iX7_isPad) (pc := 20) (L' := [some (.ref 25), some (.int (nI k)), some (.int 1), some (.int 0)]) dX7_isPad_20 rfl (by decide) rfl ?_
    have loop21 : ∀ (k21 : Nat) (i : Nat), n - i < k21 → (i ≤ n) → am_W K iX7_isPad xp l xe (am_room 0 0 0) xs xm xa xb xt xc (mdS S th (nI n) wd ln sq st ct cl ft zn a26 a27 a28 a29 a30 a31 a32 a33 a34 a35 a36 (fun k => nI (sz k)) a38 a39 a40 a41 a42 a43 a44) ad0 (am_E K ad0 (mdS S th (nI n) wd ln sq st ct cl ft zn a26 a27 a28 a29 a30 a31 a32 a33 a34 a35 a36 (fun k => nI (sz k)) a38 a39 a40 a41 a42 a43 a44) (fun v S' => v = some (.int (bI (ipd sz lt a26 n k n))) ∧ mdS S th (nI n) wd ln sq st ct cl ft zn a26 a27 a28 a29 a30 a31 a32 a33 a34 a35 a36 (fun k => nI (sz k)) a38 a39 a40 a41 a42 a43 a44 = S') (fun _ _ => False) xb xa xs 0 0) 21 [some (.ref 25), some (.int (nI k)), some (.int (bI (ipd sz lt a26 n k i))), some (.int (nI i))] [] (mdS S th (nI n) wd ln sq st ct cl ft zn a26 a27 a28 a29 a30 a31 a32 a33 a34 a35 a36 (fun k => nI (sz k)) a38 a39 a40 a41 a42 a43 a44) 0 0 := by
      intro k21
      induction k21 with
      | zero => intro i h9; exact absurd h9 (Nat.not_lt_zero _)
      | succ k21 ih21 =>
        intro i hm21 hi
        refine am_iload_n (I := iX7_isPad) (pc := 21) dX7_isPad_21 rfl rfl ?_
        refine am_aload_n (I := iX7_isPad) (pc := 22) dX7_isPad_22 rfl rfl ?_
        refine am_getf (I := iX7_isPad) (pc := 23) lf_X7_72 dX7_isPad_23 md_25 rfl ?_
        refine am_icmp_ge (I := iX7_isPad) (pc := 26) (tgt := 64) dX7_isPad_26 (by decide) (fun c26 => ?_) (fun c26 => ?_)
        · have g26 : n ≤ i := by
            rcases Nat.lt_or_ge i n with q9 | q9
            · exact absurd c26 (nI_ge (a := i) (b := n) q9 (by omega))
            · exact q9
          refine am_iload_n (I := iX7_isPad) (pc := 64) dX7_isPad_64 rfl rfl ?_
          exact am_zret (I := iX7_isPad) (pc := 65) dX7_isPad_65 rfl (bI01 _) (Nat.le_refl _) (Nat.le_refl _) (⟨by rw [show i = n by omega], rfl⟩)
        · have l26 : i < n := by
            rcases Nat.lt_or_ge i n with q9 | q9
            · exact q9
            · exact absurd (nI_le (a := n) (b := i) q9 (by omega)) c26
          refine am_iload_n (I := iX7_isPad) (pc := 29) dX7_isPad_29 rfl rfl ?_
          refine am_if_eq (I := iX7_isPad) (pc := 30) (tgt := 64) dX7_isPad_30 (by decide) (fun c30 => ?_) (fun c30 => ?_)
          · refine am_iload_n (I := iX7_isPad) (pc := 64) dX7_isPad_64 rfl rfl ?_
            exact am_zret (I := iX7_isPad) (pc := 65) dX7_isPad_65 rfl (bI01 _) (Nat.le_refl _) (Nat.le_refl _) (⟨by rw [bI_0 c30, ipd_f (bI_0 c30) hi], rfl⟩)
          · refine am_aload_n (I := iX7_isPad) (pc := 33) dX7_isPad_33 rfl rfl ?_
            refine am_getf (I := iX7_isPad) (pc := 34) lf_X7_46 dX7_isPad_34 md_25 rfl ?_
            refine am_iconst (I := iX7_isPad) (pc := 37) (x := 5) dX7_isPad_37 (by decide) ?_
            refine am_iload_n (I := iX7_isPad) (pc := 38) dX7_isPad_38 rfl rfl ?_
            refine am_imul (I := iX7_isPad) (pc := 39) dX7_isPad_39 ?_
            refine am_iload_n (I := iX7_isPad) (pc := 40) dX7_isPad_40 rfl rfl ?_
            refine am_iadd (I := iX7_isPad) (pc := 41) dX7_isPad_41 ?_
            have hsz : sz k = n := ipd_n (bI_1 c30)
            have h55 := h5 k
            rw [ix5]
            refine am_iaload (I := iX7_isPad) (pc := 42) dX7_isPad_42 md_38 rfl (vp_in_nI (show k * 5 + i < 180 by omega) (by decide)) ?_
            refine am_same (st' := [.int (lt k i)]) rfl rfl (by rw [nI_clamp (show k * 5 + i < 2 ^ 31 by omega), hl k i hk (by omega)]) rfl rfl rfl ?_
            refine am_aload_n (I := iX7_isPad) (pc := 43) dX7_isPad_43 rfl rfl ?_
            refine am_getf (I := iX7_isPad) (pc := 44) lf_X7_7 dX7_isPad_44 md_25 rfl ?_
            refine am_iload_n (I := iX7_isPad) (pc := 47) dX7_isPad_47 rfl rfl ?_
            refine am_iaload (I := iX7_isPad) (pc := 48) dX7_isPad_48 md_26 rfl (vp_in_nI (show i < 80 by omega) (by decide)) ?_
            rw [nI_clamp (show i < 2 ^ 31 by omega)]
            refine am_icmp_ne (I := iX7_isPad) (pc := 49) (tgt := 56) dX7_isPad_49 (by decide) (fun c49 => ?_) (fun c49 => ?_)
            · refine am_iconst (I := iX7_isPad) (pc := 56) (x := 0) dX7_isPad_56 (by decide) ?_
              refine am_istore_n (I := iX7_isPad) (pc := 57) (L' := [some (.ref 25), some (.int (nI k)), some (.int 0), some (.int (nI i))]) dX7_isPad_57 rfl (by decide) rfl ?_
              refine am_iinc (I := iX7_isPad) (pc := 58) (y := ((nI i) + 1)) (L' := [some (.ref 25), some (.int (nI k)), some (.int 0), some (.int ((nI i) + 1))]) dX7_isPad_58 rfl rfl rfl ?_
              refine am_goto (I := iX7_isPad) (pc := 61) (tgt := 21) dX7_isPad_61 (by decide) ?_
              exact am_same rfl (by rw [nI_1, ipd_s, bI_1 c30, decide_eq_false c49]; rfl) rfl rfl rfl rfl (ih21 (i + 1) (by omega) (by omega))
            · refine am_iconst (I := iX7_isPad) (pc := 52) (x := 1) dX7_isPad_52 (by decide) ?_
              refine am_goto (I := iX7_isPad) (pc := 53) (tgt := 57) dX7_isPad_53 (by decide) ?_
              refine am_istore_n (I := iX7_isPad) (pc := 57) (L' := [some (.ref 25), some (.int (nI k)), some (.int 1), some (.int (nI i))]) dX7_isPad_57 rfl (by decide) rfl ?_
              refine am_iinc (I := iX7_isPad) (pc := 58) (y := ((nI i) + 1)) (L' := [some (.ref 25), some (.int (nI k)), some (.int 1), some (.int ((nI i) + 1))]) dX7_isPad_58 rfl rfl rfl ?_
              refine am_goto (I := iX7_isPad) (pc := 61) (tgt := 21) dX7_isPad_61 (by decide) ?_
              exact am_same rfl (by rw [nI_1, ipd_s, bI_1 c30, decide_eq_true c49]; rfl) rfl rfl rfl rfl (ih21 (i + 1) (by omega) (by omega))
    exact am_same rfl (by rw [ipd_0, decide_eq_true ((nI_eq (by have := h5 k; omega) (by omega)).mp c10)]; rfl) rfl rfl rfl rfl (loop21 _ 0 (Nat.lt_succ_self _) (Nat.zero_le _))
def cbi (f : Nat → Int32) (n i : Nat) : Bool := decide (2 ≤ n) && decide (n ≤ 5) && decide (∀ j, j < i → isl (f j) = true)
theorem cbi_s {f : Nat → Int32} {n i : Nat} : cbi f n (i + 1) = (cbi f n i && isl (f i)) := by
  unfold cbi
  rw [all_s (p := fun j => isl (f j) = true), Bool.and_assoc, Bool.and_assoc, Bool.and_assoc]
  congr 1
  cases isl (f i) <;> rfl
theorem cbi_n {f : Nat → Int32} {n : Nat} : cbi f n n = cbc f n := rfl
theorem cbi_0 {f : Nat → Int32} {n : Nat} : cbi f n 0 = (decide (2 ≤ n) && decide (n ≤ 5)) := by
  unfold cbi
  rw [decide_eq_true (show ∀ j, j < 0 → isl (f j) = true from fun j h => absurd h (Nat.not_lt_zero _)), Bool.and_true]
def apd (sz : Nat → Nat) (lt : Nat → Nat → Int32) (f : Nat → Int32) (n k : Nat) : Nat → Bool
  | 0 => decide (0 < sz k)
  | i + 1 => apd sz lt f n k i || ipd sz lt f n i n
theorem ix28 {k : Nat} : nI (28 + k) - 28 = nI k := by
  rw [← nI_add, Int32.add_comm, show nI 28 = (28 : Int32) from rfl, Int32.add_sub_cancel]
set_option maxRecDepth 100000 in
set_option maxHeartbeats 4000000 in
theorem q_contract_x1 {K : am_K} {l : Launch} {S : am_S} {th wd ln sq st ct cl ft zn : Int32} {a26 a27 a28 a29 a30 a31 a32 a33 a34 a35 a36 a37 a38 a39 a40 a41 a42 a43 a44 : Nat → Int32} (n : Nat) (x : Int32) (hn : n ≤ 80) (hb : cbc a26 n = false) : am_M K l iX7_contract 2 0 0 [.ref 25, .int x] (mdS S th (nI n) wd ln sq st ct cl ft zn a26 a27 a28 a29 a30 a31 a32 a33 a34 a35 a36 a37 a38 a39 a40 a41 a42 a43 a44) (fun v S' => v = some (.int (0)) ∧ mdS S 1 (nI n) wd ln sq st ct cl ft zn a26 a27 a28 a29 a30 a31 a32 a33 a34 a35 a36 a37 a38 a39 a40 a41 a42 a43 a44 = S') (fun _ _ => False) := by
  refine am_body (by decide) rfl (by simp [Value.category]) (Nat.le_of_ble_eq_true rfl) (fun xp xe xs xm xa xb xt xc ad0 => ?_)
  show am_W _ _ _ _ _ _ _ _ _ _ _ _ _ _ _ 0 [some (.ref 25), some (.int x), none, none, none] [] (mdS S th (nI n) wd ln sq st ct cl ft zn a26 a27 a28 a29 a30 a31 a32 a33 a34 a35 a36 a37 a38 a39 a40 a41 a42 a43 a44) 0 0
  refine am_aload_n (I := iX7_contract) (pc := 0) dX7_contract_0 rfl rfl ?_
  refine am_getf (I := iX7_contract) (pc := 1) lf_X7_72 dX7_contract_1 md_25 rfl ?_
  refine am_iconst (I := iX7_contract) (pc := 4) (x := 2) dX7_contract_4 (by decide) ?_
  refine am_icmp_lt (I := iX7_contract) (pc := 5) (tgt := 20) dX7_contract_5 (by decide) (fun c5 => ?_) (fun c5 => ?_)
  · refine am_iconst (I := iX7_contract) (pc := 20) (x := 0) dX7_contract_20 (by decide) ?_
    refine am_istore_n (I := iX7_contract) (pc := 21) (L' := [some (.ref 25), some (.int x), some (.int 0), none, none]) dX7_contract_21 rfl (by decide) rfl ?_
    refine am_iconst (I := iX7_contract) (pc := 22) (x := 0) dX7_contract_22 (by decide) ?_
    refine am_istore_n (I := iX7_contract) (pc := 23) (L' := [some (.ref 25), some (.int x), some (.int 0), some (.int 0), none]) dX7_contract_23 rfl (by decide) rfl ?_
    have loop24 : ∀ (k24 : Nat) (i : Nat), n - i < k24 → (i ≤ n) → am_W K iX7_contract xp l xe (am_room 2 0 0) xs xm xa xb xt xc (mdS S th (nI n) wd ln sq st ct cl ft zn a26 a27 a28 a29 a30 a31 a32 a33 a34 a35 a36 a37 a38 a39 a40 a41 a42 a43 a44) ad0 (am_E K ad0 (mdS S th (nI n) wd ln sq st ct cl ft zn a26 a27 a28 a29 a30 a31 a32 a33 a34 a35 a36 a37 a38 a39 a40 a41 a42 a43 a44) (fun v S' => v = some (.int (0)) ∧ mdS S 1 (nI n) wd ln sq st ct cl ft zn a26 a27 a28 a29 a30 a31 a32 a33 a34 a35 a36 a37 a38 a39 a40 a41 a42 a43 a44 = S') (fun _ _ => False) xb xa xs 0 0) 24 [some (.ref 25), some (.int x), some (.int (bI (cbi a26 n i))), some (.int (nI i)), none] [] (mdS S th (nI n) wd ln sq st ct cl ft zn a26 a27 a28 a29 a30 a31 a32 a33 a34 a35 a36 a37 a38 a39 a40 a41 a42 a43 a44) 0 0 := by
      intro k24
      induction k24 with
      | zero => intro i h9; exact absurd h9 (Nat.not_lt_zero _)
      | succ k24 ih24 =>
        intro i hm24 hi
        refine am_iload_n (I := iX7_contract) (pc := 24) dX7_contract_24 rfl rfl ?_
        refine am_aload_n (I := iX7_contract) (pc := 25) dX7_contract_25 rfl rfl ?_
        refine am_getf (I := iX7_contract) (pc := 26) lf_X7_72 dX7_contract_26 md_25 rfl ?_
        refine am_icmp_ge (I := iX7_contract) (pc := 29) (tgt := 60) dX7_contract_29 (by decide) (fun c29 => ?_) (fun c29 => ?_)
        · have g29 : n ≤ i := by
            rcases Nat.lt_or_ge i n with q9 | q9
            · exact absurd c29 (nI_ge (a := i) (b := n) q9 (by omega))
            · exact q9
          have ein : i = n := by omega
          rw [ein, cbi_n, hb]
          show am_W _ _ _ _ _ _ _ _ _ _ _ _ _ _ _ 60 [some (.ref 25), some (.int x), some (.int 0), some (.int (nI n)), none] [] _ _ _
          refine am_aload_n (I := iX7_contract) (pc := 60) dX7_contract_60 rfl rfl ?_
          refine am_iload_n (I := iX7_contract) (pc := 61) dX7_contract_61 rfl rfl ?_
          refine am_iload_n (I := iX7_contract) (pc := 62) dX7_contract_62 rfl rfl ?_
          refine am_bipush (I := iX7_contract) (pc := 63) (x := 28) dX7_contract_63 (by decide) ?_
          refine am_icmp_lt (I := iX7_contract) (pc := 65) (tgt := 78) dX7_contract_65 (by decide) (fun c65 => ?_) (fun c65 => ?_)
          · refine am_iconst (I := iX7_contract) (pc := 78) (x := 0) dX7_contract_78 (by decide) ?_
            refine am_callV (I := iX7_contract) (pc := 79) (st := []) lv_X7_79 (q_goes1 _) dX7_contract_79 md_25 rfl (Nat.le_of_ble_eq_true rfl) ⟨Nat.le_of_ble_eq_true rfl, Nat.le_of_ble_eq_true rfl⟩ (Nat.le_of_ble_eq_true rfl) (Nat.le_of_ble_eq_true rfl) rfl (fun v9 T9 z9 _ => ?_) (fun _ _ h9 => h9.elim)
            obtain ⟨rfl, rfl⟩ := z9
            show am_W _ _ _ _ _ _ _ _ _ _ _ _ _ _ _ 82 [some (.ref 25), some (.int x), some (.int 0), some (.int (nI n)), none] [.int 0] (mdS S 1 (nI n) wd ln sq st ct cl ft zn a26 a27 a28 a29 a30 a31 a32 a33 a34 a35 a36 a37 a38 a39 a40 a41 a42 a43 a44) 0 0
            refine am_if_ne (I := iX7_contract) (pc := 82) (tgt := 87) dX7_contract_82 (by decide) (fun c82 => ?_) (fun c82 => ?_)
            · exact absurd rfl c82
            · refine am_iconst (I := iX7_contract) (pc := 85) (x := 0) dX7_contract_85 (by decide) ?_
              exact am_zret (I := iX7_contract) (pc := 86) dX7_contract_86 rfl (by decide) (Nat.le_refl _) (Nat.le_refl _) (⟨rfl, rfl⟩)
          · refine am_iload_n (I := iX7_contract) (pc := 68) dX7_contract_68 rfl rfl ?_
            refine am_bipush (I := iX7_contract) (pc := 69) (x := 63) dX7_contract_69 (by decide) ?_
            refine am_icmp_gt (I := iX7_contract) (pc := 71) (tgt := 78) dX7_contract_71 (by decide) (fun c71 => ?_) (fun c71 => ?_)
            · refine am_iconst (I := iX7_contract) (pc := 78) (x := 0) dX7_contract_78 (by decide) ?_
              refine am_callV (I := iX7_contract) (pc := 79) (st := []) lv_X7_79 (q_goes1 _) dX7_contract_79 md_25 rfl (Nat.le_of_ble_eq_true rfl) ⟨Nat.le_of_ble_eq_true rfl, Nat.le_of_ble_eq_true rfl⟩ (Nat.le_of_ble_eq_true rfl) (Nat.le_of_ble_eq_true rfl) rfl (fun v9 T9 z9 _ => ?_) (fun _ _ h9 => h9.elim)
              obtain ⟨rfl, rfl⟩ := z9
              show am_W _ _ _ _ _ _ _ _ _ _ _ _ _ _ _ 82 [some (.ref 25), some (.int x), some (.int 0), some (.int (nI n)), none] [.int 0] (mdS S 1 (nI n) wd ln sq st ct cl ft zn a26 a27 a28 a29 a30 a31 a32 a33 a34 a35 a36 a37 a38 a39 a40 a41 a42 a43 a44) 0 0
              refine am_if_ne (I := iX7_contract) (pc := 82) (tgt := 87) dX7_contract_82 (by decide) (fun c82 => ?_) (fun c82 => ?_)
              · exact absurd rfl c82
              · refine am_iconst (I := iX7_contract) (pc := 85) (x := 0) dX7_contract_85 (by decide) ?_
                exact am_zret (I := iX7_contract) (pc := 86) dX7_contract_86 rfl (by decide) (Nat.le_refl _) (Nat.le_refl _) (⟨rfl, rfl⟩)
            · refine am_iconst (I := iX7_contract) (pc := 74) (x := 1) dX7_contract_74 (by decide) ?_
              refine am_goto (I := iX7_contract) (pc := 75) (tgt := 79) dX7_contract_75 (by decide) ?_
              refine am_callV (I := iX7_contract) (pc := 79) (st := []) lv_X7_79 (q_goes1 _) dX7_contract_79 md_25 rfl (Nat.le_of_ble_eq_true rfl) ⟨Nat.le_of_ble_eq_true rfl, Nat.le_of_ble_eq_true rfl⟩ (Nat.le_of_ble_eq_true rfl) (Nat.le_of_ble_eq_true rfl) rfl (fun v9 T9 z9 _ => ?_) (fun _ _ h9 => h9.elim)
              obtain ⟨rfl, rfl⟩ := z9
              show am_W _ _ _ _ _ _ _ _ _ _ _ _ _ _ _ 82 [some (.ref 25), some (.int x), some (.int 0), some (.int (nI n)), none] [.int 0] (mdS S 1 (nI n) wd ln sq st ct cl ft zn a26 a27 a28 a29 a30 a31 a32 a33 a34 a35 a36 a37 a38 a39 a40 a41 a42 a43 a44) 0 0
              refine am_if_ne (I := iX7_contract) (pc := 82) (tgt := 87) dX7_contract_82 (by decide) (fun c82 => ?_) (fun c82 => ?_)
              · exact absurd rfl c82
              · refine am_iconst (I := iX7_contract) (pc := 85) (x := 0) dX7_contract_85 (by decide) ?_
                exact am_zret (I := iX7_contract) (pc := 86) dX7_contract_86 rfl (by decide) (Nat.le_refl _) (Nat.le_refl _) (⟨rfl, rfl⟩)
        · have l29 : i < n := by
            rcases Nat.lt_or_ge i n with q9 | q9
            · exact q9
            · exact absurd (nI_le (a := n) (b := i) q9 (by omega)) c29
          refine am_iload_n (I := iX7_contract) (pc := 32) dX7_contract_32 rfl rfl ?_
          refine am_if_eq (I := iX7_contract) (pc := 33) (tgt := 52) dX7_contract_33 (by decide) (fun c33 => ?_) (fun c33 => ?_)
          · refine am_iconst (I := iX7_contract) (pc := 52) (x := 0) dX7_contract_52 (by decide) ?_
            refine am_istore_n (I := iX7_contract) (pc := 53) (L' := [some (.ref 25), some (.int x), some (.int 0), some (.int (nI i)), none]) dX7_contract_53 rfl (by decide) rfl ?_
            refine am_iinc (I := iX7_contract) (pc := 54) (y := ((nI i) + 1)) (L' := [some (.ref 25), some (.int x), some (.int 0), some (.int ((nI i) + 1)), none]) dX7_contract_54 rfl rfl rfl ?_
            refine am_goto (I := iX7_contract) (pc := 57) (tgt := 24) dX7_contract_57 (by decide) ?_
            exact am_same rfl (by rw [nI_1, cbi_s, bI_0 c33, Bool.false_and]; rfl) rfl rfl rfl rfl (ih24 (i + 1) (by omega) (by omega))
          · refine am_aload_n (I := iX7_contract) (pc := 36) dX7_contract_36 rfl rfl ?_
            refine am_getf (I := iX7_contract) (pc := 37) lf_X7_7 dX7_contract_37 md_25 rfl ?_
            refine am_iload_n (I := iX7_contract) (pc := 40) dX7_contract_40 rfl rfl ?_
            refine am_iaload (I := iX7_contract) (pc := 41) dX7_contract_41 md_26 rfl (vp_in_nI (show i < 80 by omega) (by decide)) ?_
            rw [nI_clamp (show i < 2 ^ 31 by omega)]
            refine am_callS (I := iX7_contract) (pc := 42) (st := []) lv_X7_75 rfl (q_isLetter (a26 i)) dX7_contract_42 rfl (Nat.le_of_ble_eq_true rfl) ⟨Nat.le_of_ble_eq_true rfl, Nat.le_of_ble_eq_true rfl⟩ (Nat.le_of_ble_eq_true rfl) (Nat.le_of_ble_eq_true rfl) rfl (fun v9 T9 z9 _ => ?_) (fun _ _ h9 => h9.elim)
            obtain ⟨rfl, rfl⟩ := z9
            show am_W _ _ _ _ _ _ _ _ _ _ _ _ _ _ _ 45 [some (.ref 25), some (.int x), some (.int (bI (cbi a26 n i))), some (.int (nI i)), none] [.int (bI (isl (a26 i)))] (mdS S th (nI n) wd ln sq st ct cl ft zn a26 a27 a28 a29 a30 a31 a32 a33 a34 a35 a36 a37 a38 a39 a40 a41 a42 a43 a44) 0 0
            refine am_if_eq (I := iX7_contract) (pc := 45) (tgt := 52) dX7_contract_45 (by decide) (fun c45 => ?_) (fun c45 => ?_)
            · refine am_iconst (I := iX7_contract) (pc := 52) (x := 0) dX7_contract_52 (by decide) ?_
              refine am_istore_n (I := iX7_contract) (pc := 53) (L' := [some (.ref 25), some (.int x), some (.int 0), some (.int (nI i)), none]) dX7_contract_53 rfl (by decide) rfl ?_
              refine am_iinc (I := iX7_contract) (pc := 54) (y := ((nI i) + 1)) (L' := [some (.ref 25), some (.int x), some (.int 0), some (.int ((nI i) + 1)), none]) dX7_contract_54 rfl rfl rfl ?_
              refine am_goto (I := iX7_contract) (pc := 57) (tgt := 24) dX7_contract_57 (by decide) ?_
              exact am_same rfl (by rw [nI_1, cbi_s, bI_0 c45, Bool.and_false]; rfl) rfl rfl rfl rfl (ih24 (i + 1) (by omega) (by omega))
            · refine am_iconst (I := iX7_contract) (pc := 48) (x := 1) dX7_contract_48 (by decide) ?_
              refine am_goto (I := iX7_contract) (pc := 49) (tgt := 53) dX7_contract_49 (by decide) ?_
              refine am_istore_n (I := iX7_contract) (pc := 53) (L' := [some (.ref 25), some (.int x), some (.int 1), some (.int (nI i)), none]) dX7_contract_53 rfl (by decide) rfl ?_
              refine am_iinc (I := iX7_contract) (pc := 54) (y := ((nI i) + 1)) (L' := [some (.ref 25), some (.int x), some (.int 1), some (.int ((nI i) + 1)), none]) dX7_contract_54 rfl rfl rfl ?_
              refine am_goto (I := iX7_contract) (pc := 57) (tgt := 24) dX7_contract_57 (by decide) ?_
              exact am_same rfl (by rw [nI_1, cbi_s, bI_1 c33, bI_1 c45]; rfl) rfl rfl rfl rfl (ih24 (i + 1) (by omega) (by omega))
    exact am_same rfl (by rw [cbi_0, decide_eq_false (fun q9 => nI_nlt (b := 2) q9 (by omega) c5), Bool.false_and]; rfl) rfl rfl rfl rfl (loop24 _ 0 (Nat.lt_succ_self _) (Nat.zero_le _))
  · refine am_aload_n (I := iX7_contract) (pc := 8) dX7_contract_8 rfl rfl ?_
    refine am_getf (I := iX7_contract) (pc := 9) lf_X7_72 dX7_contract_9 md_25 rfl ?_
    refine am_iconst (I := iX7_contract) (pc := 12) (x := 5) dX7_contract_12 (by decide) ?_
    refine am_icmp_gt (I := iX7_contract) (pc := 13) (tgt := 20) dX7_contract_13 (by decide) (fun c13 => ?_) (fun c13 => ?_)
    · refine am_iconst (I := iX7_contract) (pc := 20) (x := 0) dX7_contract_20 (by decide) ?_
      refine am_istore_n (I := iX7_contract) (pc := 21) (L' := [some (.ref 25), some (.int x), some (.int 0), none, none]) dX7_contract_21 rfl (by decide) rfl ?_
      refine am_iconst (I := iX7_contract) (pc := 22) (x := 0) dX7_contract_22 (by decide) ?_
      refine am_istore_n (I := iX7_contract) (pc := 23) (L' := [some (.ref 25), some (.int x), some (.int 0), some (.int 0), none]) dX7_contract_23 rfl (by decide) rfl ?_
      have loop24 : ∀ (k24 : Nat) (i : Nat), n - i < k24 → (i ≤ n) → am_W K iX7_contract xp l xe (am_room 2 0 0) xs xm xa xb xt xc (mdS S th (nI n) wd ln sq st ct cl ft zn a26 a27 a28 a29 a30 a31 a32 a33 a34 a35 a36 a37 a38 a39 a40 a41 a42 a43 a44) ad0 (am_E K ad0 (mdS S th (nI n) wd ln sq st ct cl ft zn a26 a27 a28 a29 a30 a31 a32 a33 a34 a35 a36 a37 a38 a39 a40 a41 a42 a43 a44) (fun v S' => v = some (.int (0)) ∧ mdS S 1 (nI n) wd ln sq st ct cl ft zn a26 a27 a28 a29 a30 a31 a32 a33 a34 a35 a36 a37 a38 a39 a40 a41 a42 a43 a44 = S') (fun _ _ => False) xb xa xs 0 0) 24 [some (.ref 25), some (.int x), some (.int (bI (cbi a26 n i))), some (.int (nI i)), none] [] (mdS S th (nI n) wd ln sq st ct cl ft zn a26 a27 a28 a29 a30 a31 a32 a33 a34 a35 a36 a37 a38 a39 a40 a41 a42 a43 a44) 0 0 := by
        intro k24
        induction k24 with
        | zero => intro i h9; exact absurd h9 (Nat.not_lt_zero _)
        | succ k24 ih24 =>
          intro i hm24 hi
          refine am_iload_n (I := iX7_contract) (pc := 24) dX7_contract_24 rfl rfl ?_
          refine am_aload_n (I := iX7_contract) (pc := 25) dX7_contract_25 rfl rfl ?_
          refine am_getf (I := iX7_contract) (pc := 26) lf_X7_72 dX7_contract_26 md_25 rfl ?_
          refine am_icmp_ge (I := iX7_contract) (pc := 29) (tgt := 60) dX7_contract_29 (by decide) (fun c29 => ?_) (fun c29 => ?_)
          · have g29 : n ≤ i := by
              rcases Nat.lt_or_ge i n with q9 | q9
              · exact absurd c29 (nI_ge (a := i) (b := n) q9 (by omega))
              · exact q9
            have ein : i = n := by omega
            rw [ein, cbi_n, hb]
            show am_W _ _ _ _ _ _ _ _ _ _ _ _ _ _ _ 60 [some (.ref 25), some (.int x), some (.int 0), some (.int (nI n)), none] [] _ _ _
            refine am_aload_n (I := iX7_contract) (pc := 60) dX7_contract_60 rfl rfl ?_
            refine am_iload_n (I := iX7_contract) (pc := 61) dX7_contract_61 rfl rfl ?_
            refine am_iload_n (I := iX7_contract) (pc := 62) dX7_contract_62 rfl rfl ?_
            refine am_bipush (I := iX7_contract) (pc := 63) (x := 28) dX7_contract_63 (by decide) ?_
            refine am_icmp_lt (I := iX7_contract) (pc := 65) (tgt := 78) dX7_contract_65 (by decide) (fun c65 => ?_) (fun c65 => ?_)
            · refine am_iconst (I := iX7_contract) (pc := 78) (x := 0) dX7_contract_78 (by decide) ?_
              refine am_callV (I := iX7_contract) (pc := 79) (st := []) lv_X7_79 (q_goes1 _) dX7_contract_79 md_25 rfl (Nat.le_of_ble_eq_true rfl) ⟨Nat.le_of_ble_eq_true rfl, Nat.le_of_ble_eq_true rfl⟩ (Nat.le_of_ble_eq_true rfl) (Nat.le_of_ble_eq_true rfl) rfl (fun v9 T9 z9 _ => ?_) (fun _ _ h9 => h9.elim)
              obtain ⟨rfl, rfl⟩ := z9
              show am_W _ _ _ _ _ _ _ _ _ _ _ _ _ _ _ 82 [some (.ref 25), some (.int x), some (.int 0), some (.int (nI n)), none] [.int 0] (mdS S 1 (nI n) wd ln sq st ct cl ft zn a26 a27 a28 a29 a30 a31 a32 a33 a34 a35 a36 a37 a38 a39 a40 a41 a42 a43 a44) 0 0
              refine am_if_ne (I := iX7_contract) (pc := 82) (tgt := 87) dX7_contract_82 (by decide) (fun c82 => ?_) (fun c82 => ?_)
              · exact absurd rfl c82
              · refine am_iconst (I := iX7_contract) (pc := 85) (x := 0) dX7_contract_85 (by decide) ?_
                exact am_zret (I := iX7_contract) (pc := 86) dX7_contract_86 rfl (by decide) (Nat.le_refl _) (Nat.le_refl _) (⟨rfl, rfl⟩)
            · refine am_iload_n (I := iX7_contract) (pc := 68) dX7_contract_68 rfl rfl ?_
              refine am_bipush (I := iX7_contract) (pc := 69) (x := 63) dX7_contract_69 (by decide) ?_
              refine am_icmp_gt (I := iX7_contract) (pc := 71) (tgt := 78) dX7_contract_71 (by decide) (fun c71 => ?_) (fun c71 => ?_)
              · refine am_iconst (I := iX7_contract) (pc := 78) (x := 0) dX7_contract_78 (by decide) ?_
                refine am_callV (I := iX7_contract) (pc := 79) (st := []) lv_X7_79 (q_goes1 _) dX7_contract_79 md_25 rfl (Nat.le_of_ble_eq_true rfl) ⟨Nat.le_of_ble_eq_true rfl, Nat.le_of_ble_eq_true rfl⟩ (Nat.le_of_ble_eq_true rfl) (Nat.le_of_ble_eq_true rfl) rfl (fun v9 T9 z9 _ => ?_) (fun _ _ h9 => h9.elim)
                obtain ⟨rfl, rfl⟩ := z9
                show am_W _ _ _ _ _ _ _ _ _ _ _ _ _ _ _ 82 [some (.ref 25), some (.int x), some (.int 0), some (.int (nI n)), none] [.int 0] (mdS S 1 (nI n) wd ln sq st ct cl ft zn a26 a27 a28 a29 a30 a31 a32 a33 a34 a35 a36 a37 a38 a39 a40 a41 a42 a43 a44) 0 0
                refine am_if_ne (I := iX7_contract) (pc := 82) (tgt := 87) dX7_contract_82 (by decide) (fun c82 => ?_) (fun c82 => ?_)
                · exact absurd rfl c82
                · refine am_iconst (I := iX7_contract) (pc := 85) (x := 0) dX7_contract_85 (by decide) ?_
                  exact am_zret (I := iX7_contract) (pc := 86) dX7_contract_86 rfl (by decide) (Nat.le_refl _) (Nat.le_refl _) (⟨rfl, rfl⟩)
              · refine am_iconst (I := iX7_contract) (pc := 74) (x := 1) dX7_contract_74 (by decide) ?_
                refine am_goto (I := iX7_contract) (pc := 75) (tgt := 79) dX7_contract_75 (by decide) ?_
                refine am_callV (I := iX7_contract) (pc := 79) (st := []) lv_X7_79 (q_goes1 _) dX7_contract_79 md_25 rfl (Nat.le_of_ble_eq_true rfl) ⟨Nat.le_of_ble_eq_true rfl, Nat.le_of_ble_eq_true rfl⟩ (Nat.le_of_ble_eq_true rfl) (Nat.le_of_ble_eq_true rfl) rfl (fun v9 T9 z9 _ => ?_) (fun _ _ h9 => h9.elim)
                obtain ⟨rfl, rfl⟩ := z9
                show am_W _ _ _ _ _ _ _ _ _ _ _ _ _ _ _ 82 [some (.ref 25), some (.int x), some (.int 0), some (.int (nI n)), none] [.int 0] (mdS S 1 (nI n) wd ln sq st ct cl ft zn a26 a27 a28 a29 a30 a31 a32 a33 a34 a35 a36 a37 a38 a39 a40 a41 a42 a43 a44) 0 0
                refine am_if_ne (I := iX7_contract) (pc := 82) (tgt := 87) dX7_contract_82 (by decide) (fun c82 => ?_) (fun c82 => ?_)
                · exact absurd rfl c82
                · refine am_iconst (I := iX7_contract) (pc := 85) (x := 0) dX7_contract_85 (by decide) ?_
                  exact am_zret (I := iX7_contract) (pc := 86) dX7_contract_86 rfl (by decide) (Nat.le_refl _) (Nat.le_refl _) (⟨rfl, rfl⟩)
          · have l29 : i < n := by
              rcases Nat.lt_or_ge i n with q9 | q9
              · exact q9
              · exact absurd (nI_le (a := n) (b := i) q9 (by omega)) c29
            refine am_iload_n (I := iX7_contract) (pc := 32) dX7_contract_32 rfl rfl ?_
            refine am_if_eq (I := iX7_contract) (pc := 33) (tgt := 52) dX7_contract_33 (by decide) (fun c33 => ?_) (fun c33 => ?_)
            · refine am_iconst (I := iX7_contract) (pc := 52) (x := 0) dX7_contract_52 (by decide) ?_
              refine am_istore_n (I := iX7_contract) (pc := 53) (L' := [some (.ref 25), some (.int x), some (.int 0), some (.int (nI i)), none]) dX7_contract_53 rfl (by decide) rfl ?_
              refine am_iinc (I := iX7_contract) (pc := 54) (y := ((nI i) + 1)) (L' := [some (.ref 25), some (.int x), some (.int 0), some (.int ((nI i) + 1)), none]) dX7_contract_54 rfl rfl rfl ?_
              refine am_goto (I := iX7_contract) (pc := 57) (tgt := 24) dX7_contract_57 (by decide) ?_
              exact am_same rfl (by rw [nI_1, cbi_s, bI_0 c33, Bool.false_and]; rfl) rfl rfl rfl rfl (ih24 (i + 1) (by omega) (by omega))
            · refine am_aload_n (I := iX7_contract) (pc := 36) dX7_contract_36 rfl rfl ?_
              refine am_getf (I := iX7_contract) (pc := 37) lf_X7_7 dX7_contract_37 md_25 rfl ?_
              refine am_iload_n (I := iX7_contract) (pc := 40) dX7_contract_40 rfl rfl ?_
              refine am_iaload (I := iX7_contract) (pc := 41) dX7_contract_41 md_26 rfl (vp_in_nI (show i < 80 by omega) (by decide)) ?_
              rw [nI_clamp (show i < 2 ^ 31 by omega)]
              refine am_callS (I := iX7_contract) (pc := 42) (st := []) lv_X7_75 rfl (q_isLetter (a26 i)) dX7_contract_42 rfl (Nat.le_of_ble_eq_true rfl) ⟨Nat.le_of_ble_eq_true rfl, Nat.le_of_ble_eq_true rfl⟩ (Nat.le_of_ble_eq_true rfl) (Nat.le_of_ble_eq_true rfl) rfl (fun v9 T9 z9 _ => ?_) (fun _ _ h9 => h9.elim)
              obtain ⟨rfl, rfl⟩ := z9
              show am_W _ _ _ _ _ _ _ _ _ _ _ _ _ _ _ 45 [some (.ref 25), some (.int x), some (.int (bI (cbi a26 n i))), some (.int (nI i)), none] [.int (bI (isl (a26 i)))] (mdS S th (nI n) wd ln sq st ct cl ft zn a26 a27 a28 a29 a30 a31 a32 a33 a34 a35 a36 a37 a38 a39 a40 a41 a42 a43 a44) 0 0
              refine am_if_eq (I := iX7_contract) (pc := 45) (tgt := 52) dX7_contract_45 (by decide) (fun c45 => ?_) (fun c45 => ?_)
              · refine am_iconst (I := iX7_contract) (pc := 52) (x := 0) dX7_contract_52 (by decide) ?_
                refine am_istore_n (I := iX7_contract) (pc := 53) (L' := [some (.ref 25), some (.int x), some (.int 0), some (.int (nI i)), none]) dX7_contract_53 rfl (by decide) rfl ?_
                refine am_iinc (I := iX7_contract) (pc := 54) (y := ((nI i) + 1)) (L' := [some (.ref 25), some (.int x), some (.int 0), some (.int ((nI i) + 1)), none]) dX7_contract_54 rfl rfl rfl ?_
                refine am_goto (I := iX7_contract) (pc := 57) (tgt := 24) dX7_contract_57 (by decide) ?_
                exact am_same rfl (by rw [nI_1, cbi_s, bI_0 c45, Bool.and_false]; rfl) rfl rfl rfl rfl (ih24 (i + 1) (by omega) (by omega))
              · refine am_iconst (I := iX7_contract) (pc := 48) (x := 1) dX7_contract_48 (by decide) ?_
                refine am_goto (I := iX7_contract) (pc := 49) (tgt := 53) dX7_contract_49 (by decide) ?_
                refine am_istore_n (I := iX7_contract) (pc := 53) (L' := [some (.ref 25), some (.int x), some (.int 1), some (.int (nI i)), none]) dX7_contract_53 rfl (by decide) rfl ?_
                refine am_iinc (I := iX7_contract) (pc := 54) (y := ((nI i) + 1)) (L' := [some (.ref 25), some (.int x), some (.int 1), some (.int ((nI i) + 1)), none]) dX7_contract_54 rfl rfl rfl ?_
                refine am_goto (I := iX7_contract) (pc := 57) (tgt := 24) dX7_contract_57 (by decide) ?_
                exact am_same rfl (by rw [nI_1, cbi_s, bI_1 c33, bI_1 c45]; rfl) rfl rfl rfl rfl (ih24 (i + 1) (by omega) (by omega))
      exact am_same rfl (by rw [cbi_0, decide_eq_true (show 2 ≤ n by rcases Nat.lt_or_ge n 2 with q9 | q9; exact absurd (nI_lt (b := 2) q9 (by decide)) c5; exact q9), Bool.true_and, decide_eq_false (fun q9 => nI_nlt (a := 5) q9 (by decide) c13)]; rfl) rfl rfl rfl rfl (loop24 _ 0 (Nat.lt_succ_self _) (Nat.zero_le _))
    · refine am_iconst (I := iX7_contract) (pc := 16) (x := 1) dX7_contract_16 (by decide) ?_
      refine am_goto (I := iX7_contract) (pc := 17) (tgt := 21) dX7_contract_17 (by decide) ?_
      refine am_istore_n (I := iX7_contract) (pc := 21) (L' := [some (.ref 25), some (.int x), some (.int 1), none, none]) dX7_contract_21 rfl (by decide) rfl ?_
      refine am_iconst (I := iX7_contract) (pc := 22) (x := 0) dX7_contract_22 (by decide) ?_
      refine am_istore_n (I := iX7_contract) (pc := 23) (L' := [some (.ref 25), some (.int x), some (.int 1), some (.int 0), none]) dX7_contract_23 rfl (by decide) rfl ?_
      have loop24 : ∀ (k24 : Nat) (i : Nat), n - i < k24 → (i ≤ n) → am_W K iX7_contract xp l xe (am_room 2 0 0) xs xm xa xb xt xc (mdS S th (nI n) wd ln sq st ct cl ft zn a26 a27 a28 a29 a30 a31 a32 a33 a34 a35 a36 a37 a38 a39 a40 a41 a42 a43 a44) ad0 (am_E K ad0 (mdS S th (nI n) wd ln sq st ct cl ft zn a26 a27 a28 a29 a30 a31 a32 a33 a34 a35 a36 a37 a38 a39 a40 a41 a42 a43 a44) (fun v S' => v = some (.int (0)) ∧ mdS S 1 (nI n) wd ln sq st ct cl ft zn a26 a27 a28 a29 a30 a31 a32 a33 a34 a35 a36 a37 a38 a39 a40 a41 a42 a43 a44 = S') (fun _ _ => False) xb xa xs 0 0) 24 [some (.ref 25), some (.int x), some (.int (bI (cbi a26 n i))), some (.int (nI i)), none] [] (mdS S th (nI n) wd ln sq st ct cl ft zn a26 a27 a28 a29 a30 a31 a32 a33 a34 a35 a36 a37 a38 a39 a40 a41 a42 a43 a44) 0 0 := by
        intro k24
        induction k24 with
        | zero => intro i h9; exact absurd h9 (Nat.not_lt_zero _)
        | succ k24 ih24 =>
          intro i hm24 hi
          refine am_iload_n (I := iX7_contract) (pc := 24) dX7_contract_24 rfl rfl ?_
          refine am_aload_n (I := iX7_contract) (pc := 25) dX7_contract_25 rfl rfl ?_
          refine am_getf (I := iX7_contract) (pc := 26) lf_X7_72 dX7_contract_26 md_25 rfl ?_
          refine am_icmp_ge (I := iX7_contract) (pc := 29) (tgt := 60) dX7_contract_29 (by decide) (fun c29 => ?_) (fun c29 => ?_)
          · have g29 : n ≤ i := by
              rcases Nat.lt_or_ge i n with q9 | q9
              · exact absurd c29 (nI_ge (a := i) (b := n) q9 (by omega))
              · exact q9
            have ein : i = n := by omega
            rw [ein, cbi_n, hb]
            show am_W _ _ _ _ _ _ _ _ _ _ _ _ _ _ _ 60 [some (.ref 25), some (.int x), some (.int 0), some (.int (nI n)), none] [] _ _ _
            refine am_aload_n (I := iX7_contract) (pc := 60) dX7_contract_60 rfl rfl ?_
            refine am_iload_n (I := iX7_contract) (pc := 61) dX7_contract_61 rfl rfl ?_
            refine am_iload_n (I := iX7_contract) (pc := 62) dX7_contract_62 rfl rfl ?_
            refine am_bipush (I := iX7_contract) (pc := 63) (x := 28) dX7_contract_63 (by decide) ?_
            refine am_icmp_lt (I := iX7_contract) (pc := 65) (tgt := 78) dX7_contract_65 (by decide) (fun c65 => ?_) (fun c65 => ?_)
            · refine am_iconst (I := iX7_contract) (pc := 78) (x := 0) dX7_contract_78 (by decide) ?_
              refine am_callV (I := iX7_contract) (pc := 79) (st := []) lv_X7_79 (q_goes1 _) dX7_contract_79 md_25 rfl (Nat.le_of_ble_eq_true rfl) ⟨Nat.le_of_ble_eq_true rfl, Nat.le_of_ble_eq_true rfl⟩ (Nat.le_of_ble_eq_true rfl) (Nat.le_of_ble_eq_true rfl) rfl (fun v9 T9 z9 _ => ?_) (fun _ _ h9 => h9.elim)
              obtain ⟨rfl, rfl⟩ := z9
              show am_W _ _ _ _ _ _ _ _ _ _ _ _ _ _ _ 82 [some (.ref 25), some (.int x), some (.int 0), some (.int (nI n)), none] [.int 0] (mdS S 1 (nI n) wd ln sq st ct cl ft zn a26 a27 a28 a29 a30 a31 a32 a33 a34 a35 a36 a37 a38 a39 a40 a41 a42 a43 a44) 0 0
              refine am_if_ne (I := iX7_contract) (pc := 82) (tgt := 87) dX7_contract_82 (by decide) (fun c82 => ?_) (fun c82 => ?_)
              · exact absurd rfl c82
              · refine am_iconst (I := iX7_contract) (pc := 85) (x := 0) dX7_contract_85 (by decide) ?_
                exact am_zret (I := iX7_contract) (pc := 86) dX7_contract_86 rfl (by decide) (Nat.le_refl _) (Nat.le_refl _) (⟨rfl, rfl⟩)
            · refine am_iload_n (I := iX7_contract) (pc := 68) dX7_contract_68 rfl rfl ?_
              refine am_bipush (I := iX7_contract) (pc := 69) (x := 63) dX7_contract_69 (by decide) ?_
              refine am_icmp_gt (I := iX7_contract) (pc := 71) (tgt := 78) dX7_contract_71 (by decide) (fun c71 => ?_) (fun c71 => ?_)
              · refine am_iconst (I := iX7_contract) (pc := 78) (x := 0) dX7_contract_78 (by decide) ?_
                refine am_callV (I := iX7_contract) (pc := 79) (st := []) lv_X7_79 (q_goes1 _) dX7_contract_79 md_25 rfl (Nat.le_of_ble_eq_true rfl) ⟨Nat.le_of_ble_eq_true rfl, Nat.le_of_ble_eq_true rfl⟩ (Nat.le_of_ble_eq_true rfl) (Nat.le_of_ble_eq_true rfl) rfl (fun v9 T9 z9 _ => ?_) (fun _ _ h9 => h9.elim)
                obtain ⟨rfl, rfl⟩ := z9
                show am_W _ _ _ _ _ _ _ _ _ _ _ _ _ _ _ 82 [some (.ref 25), some (.int x), some (.int 0), some (.int (nI n)), none] [.int 0] (mdS S 1 (nI n) wd ln sq st ct cl ft zn a26 a27 a28 a29 a30 a31 a32 a33 a34 a35 a36 a37 a38 a39 a40 a41 a42 a43 a44) 0 0
                refine am_if_ne (I := iX7_contract) (pc := 82) (tgt := 87) dX7_contract_82 (by decide) (fun c82 => ?_) (fun c82 => ?_)
                · exact absurd rfl c82
                · refine am_iconst (I := iX7_contract) (pc := 85) (x := 0) dX7_contract_85 (by decide) ?_
                  exact am_zret (I := iX7_contract) (pc := 86) dX7_contract_86 rfl (by decide) (Nat.le_refl _) (Nat.le_refl _) (⟨rfl, rfl⟩)
              · refine am_iconst (I := iX7_contract) (pc := 74) (x := 1) dX7_contract_74 (by decide) ?_
                refine am_goto (I := iX7_contract) (pc := 75) (tgt := 79) dX7_contract_75 (by decide) ?_
                refine am_callV (I := iX7_contract) (pc := 79) (st := []) lv_X7_79 (q_goes1 _) dX7_contract_79 md_25 rfl (Nat.le_of_ble_eq_true rfl) ⟨Nat.le_of_ble_eq_true rfl, Nat.le_of_ble_eq_true rfl⟩ (Nat.le_of_ble_eq_true rfl) (Nat.le_of_ble_eq_true rfl) rfl (fun v9 T9 z9 _ => ?_) (fun _ _ h9 => h9.elim)
                obtain ⟨rfl, rfl⟩ := z9
                show am_W _ _ _ _ _ _ _ _ _ _ _ _ _ _ _ 82 [some (.ref 25), some (.int x), some (.int 0), some (.int (nI n)), none] [.int 0] (mdS S 1 (nI n) wd ln sq st ct cl ft zn a26 a27 a28 a29 a30 a31 a32 a33 a34 a35 a36 a37 a38 a39 a40 a41 a42 a43 a44) 0 0
                refine am_if_ne (I := iX7_contract) (pc := 82) (tgt := 87) dX7_contract_82 (by decide) (fun c82 => ?_) (fun c82 => ?_)
                · exact absurd rfl c82
                · refine am_iconst (I := iX7_contract) (pc := 85) (x := 0) dX7_contract_85 (by decide) ?_
                  exact am_zret (I := iX7_contract) (pc := 86) dX7_contract_86 rfl (by decide) (Nat.le_refl _) (Nat.le_refl _) (⟨rfl, rfl⟩)
          · have l29 : i < n := by
              rcases Nat.lt_or_ge i n with q9 | q9
              · exact q9
              · exact absurd (nI_le (a := n) (b := i) q9 (by omega)) c29
            refine am_iload_n (I := iX7_contract) (pc := 32) dX7_contract_32 rfl rfl ?_
            refine am_if_eq (I := iX7_contract) (pc := 33) (tgt := 52) dX7_contract_33 (by decide) (fun c33 => ?_) (fun c33 => ?_)
            · refine am_iconst (I := iX7_contract) (pc := 52) (x := 0) dX7_contract_52 (by decide) ?_
              refine am_istore_n (I := iX7_contract) (pc := 53) (L' := [some (.ref 25), some (.int x), some (.int 0), some (.int (nI i)), none]) dX7_contract_53 rfl (by decide) rfl ?_
              refine am_iinc (I := iX7_contract) (pc := 54) (y := ((nI i) + 1)) (L' := [some (.ref 25), some (.int x), some (.int 0), some (.int ((nI i) + 1)), none]) dX7_contract_54 rfl rfl rfl ?_
              refine am_goto (I := iX7_contract) (pc := 57) (tgt := 24) dX7_contract_57 (by decide) ?_
              exact am_same rfl (by rw [nI_1, cbi_s, bI_0 c33, Bool.false_and]; rfl) rfl rfl rfl rfl (ih24 (i + 1) (by omega) (by omega))
            · refine am_aload_n (I := iX7_contract) (pc := 36) dX7_contract_36 rfl rfl ?_
              refine am_getf (I := iX7_contract) (pc := 37) lf_X7_7 dX7_contract_37 md_25 rfl ?_
              refine am_iload_n (I := iX7_contract) (pc := 40) dX7_contract_40 rfl rfl ?_
              refine am_iaload (I := iX7_contract) (pc := 41) dX7_contract_41 md_26 rfl (vp_in_nI (show i < 80 by omega) (by decide)) ?_
              rw [nI_clamp (show i < 2 ^ 31 by omega)]
              refine am_callS (I := iX7_contract) (pc := 42) (st := []) lv_X7_75 rfl (q_isLetter (a26 i)) dX7_contract_42 rfl (Nat.le_of_ble_eq_true rfl) ⟨Nat.le_of_ble_eq_true rfl, Nat.le_of_ble_eq_true rfl⟩ (Nat.le_of_ble_eq_true rfl) (Nat.le_of_ble_eq_true rfl) rfl (fun v9 T9 z9 _ => ?_) (fun _ _ h9 => h9.elim)
              obtain ⟨rfl, rfl⟩ := z9
              show am_W _ _ _ _ _ _ _ _ _ _ _ _ _ _ _ 45 [some (.ref 25), some (.int x), some (.int (bI (cbi a26 n i))), some (.int (nI i)), none] [.int (bI (isl (a26 i)))] (mdS S th (nI n) wd ln sq st ct cl ft zn a26 a27 a28 a29 a30 a31 a32 a33 a34 a35 a36 a37 a38 a39 a40 a41 a42 a43 a44) 0 0
              refine am_if_eq (I := iX7_contract) (pc := 45) (tgt := 52) dX7_contract_45 (by decide) (fun c45 => ?_) (fun c45 => ?_)
              · refine am_iconst (I := iX7_contract) (pc := 52) (x := 0) dX7_contract_52 (by decide) ?_
                refine am_istore_n (I := iX7_contract) (pc := 53) (L' := [some (.ref 25), some (.int x), some (.int 0), some (.int (nI i)), none]) dX7_contract_53 rfl (by decide) rfl ?_
                refine am_iinc (I := iX7_contract) (pc := 54) (y := ((nI i) + 1)) (L' := [some (.ref 25), some (.int x), some (.int 0), some (.int ((nI i) + 1)), none]) dX7_contract_54 rfl rfl rfl ?_
                refine am_goto (I := iX7_contract) (pc := 57) (tgt := 24) dX7_contract_57 (by decide) ?_
                exact am_same rfl (by rw [nI_1, cbi_s, bI_0 c45, Bool.and_false]; rfl) rfl rfl rfl rfl (ih24 (i + 1) (by omega) (by omega))
              · refine am_iconst (I := iX7_contract) (pc := 48) (x := 1) dX7_contract_48 (by decide) ?_
                refine am_goto (I := iX7_contract) (pc := 49) (tgt := 53) dX7_contract_49 (by decide) ?_
                refine am_istore_n (I := iX7_contract) (pc := 53) (L' := [some (.ref 25), some (.int x), some (.int 1), some (.int (nI i)), none]) dX7_contract_53 rfl (by decide) rfl ?_
                refine am_iinc (I := iX7_contract) (pc := 54) (y := ((nI i) + 1)) (L' := [some (.ref 25), some (.int x), some (.int 1), some (.int ((nI i) + 1)), none]) dX7_contract_54 rfl rfl rfl ?_
                refine am_goto (I := iX7_contract) (pc := 57) (tgt := 24) dX7_contract_57 (by decide) ?_
                exact am_same rfl (by rw [nI_1, cbi_s, bI_1 c33, bI_1 c45]; rfl) rfl rfl rfl rfl (ih24 (i + 1) (by omega) (by omega))
      exact am_same rfl (by rw [cbi_0, decide_eq_true (show 2 ≤ n by rcases Nat.lt_or_ge n 2 with q9 | q9; exact absurd (nI_lt (b := 2) q9 (by decide)) c5; exact q9), Bool.true_and, decide_eq_true (show n ≤ 5 by rcases Nat.lt_or_ge 5 n with q9 | q9; exact absurd (nI_lt (a := 5) q9 (by omega)) c13; exact q9)]; rfl) rfl rfl rfl rfl (loop24 _ 0 (Nat.lt_succ_self _) (Nat.zero_le _))
set_option maxRecDepth 100000 in
set_option maxHeartbeats 4000000 in
theorem q_contract_x2 {K : am_K} {l : Launch} {S : am_S} {th wd ln sq st ct cl ft zn : Int32} {a26 a27 a28 a29 a30 a31 a32 a33 a34 a35 a36 a37 a38 a39 a40 a41 a42 a43 a44 : Nat → Int32} (n : Nat) (x : Int32) (hn : n ≤ 80) (hb : cbc a26 n = true) (hx : x < 28 ∨ 63 < x) : am_M K l iX7_contract 2 0 0 [.ref 25, .int x] (mdS S th (nI n) wd ln sq st ct cl ft zn a26 a27 a28 a29 a30 a31 a32 a33 a34 a35 a36 a37 a38 a39 a40 a41 a42 a43 a44) (fun v S' => v = some (.int (0)) ∧ mdS S 2 (nI n) wd ln sq st ct cl ft zn a26 a27 a28 a29 a30 a31 a32 a33 a34 a35 a36 a37 a38 a39 a40 a41 a42 a43 a44 = S') (fun _ _ => False) := by
  refine am_body (by decide) rfl (by simp [Value.category]) (Nat.le_of_ble_eq_true rfl) (fun xp xe xs xm xa xb xt xc ad0 => ?_)
  show am_W _ _ _ _ _ _ _ _ _ _ _ _ _ _ _ 0 [some (.ref 25), some (.int x), none, none, none] [] (mdS S th (nI n) wd ln sq st ct cl ft zn a26 a27 a28 a29 a30 a31 a32 a33 a34 a35 a36 a37 a38 a39 a40 a41 a42 a43 a44) 0 0
  refine am_aload_n (I := iX7_contract) (pc := 0) dX7_contract_0 rfl rfl ?_
  refine am_getf (I := iX7_contract) (pc := 1) lf_X7_72 dX7_contract_1 md_25 rfl ?_
  refine am_iconst (I := iX7_contract) (pc := 4) (x := 2) dX7_contract_4 (by decide) ?_
  refine am_icmp_lt (I := iX7_contract) (pc := 5) (tgt := 20) dX7_contract_5 (by decide) (fun c5 => ?_) (fun c5 => ?_)
  · refine am_iconst (I := iX7_contract) (pc := 20) (x := 0) dX7_contract_20 (by decide) ?_
    refine am_istore_n (I := iX7_contract) (pc := 21) (L' := [some (.ref 25), some (.int x), some (.int 0), none, none]) dX7_contract_21 rfl (by decide) rfl ?_
    refine am_iconst (I := iX7_contract) (pc := 22) (x := 0) dX7_contract_22 (by decide) ?_
    refine am_istore_n (I := iX7_contract) (pc := 23) (L' := [some (.ref 25), some (.int x), some (.int 0), some (.int 0), none]) dX7_contract_23 rfl (by decide) rfl ?_
    have loop24 : ∀ (k24 : Nat) (i : Nat), n - i < k24 → (i ≤ n) → am_W K iX7_contract xp l xe (am_room 2 0 0) xs xm xa xb xt xc (mdS S th (nI n) wd ln sq st ct cl ft zn a26 a27 a28 a29 a30 a31 a32 a33 a34 a35 a36 a37 a38 a39 a40 a41 a42 a43 a44) ad0 (am_E K ad0 (mdS S th (nI n) wd ln sq st ct cl ft zn a26 a27 a28 a29 a30 a31 a32 a33 a34 a35 a36 a37 a38 a39 a40 a41 a42 a43 a44) (fun v S' => v = some (.int (0)) ∧ mdS S 2 (nI n) wd ln sq st ct cl ft zn a26 a27 a28 a29 a30 a31 a32 a33 a34 a35 a36 a37 a38 a39 a40 a41 a42 a43 a44 = S') (fun _ _ => False) xb xa xs 0 0) 24 [some (.ref 25), some (.int x), some (.int (bI (cbi a26 n i))), some (.int (nI i)), none] [] (mdS S th (nI n) wd ln sq st ct cl ft zn a26 a27 a28 a29 a30 a31 a32 a33 a34 a35 a36 a37 a38 a39 a40 a41 a42 a43 a44) 0 0 := by
      intro k24
      induction k24 with
      | zero => intro i h9; exact absurd h9 (Nat.not_lt_zero _)
      | succ k24 ih24 =>
        intro i hm24 hi
        refine am_iload_n (I := iX7_contract) (pc := 24) dX7_contract_24 rfl rfl ?_
        refine am_aload_n (I := iX7_contract) (pc := 25) dX7_contract_25 rfl rfl ?_
        refine am_getf (I := iX7_contract) (pc := 26) lf_X7_72 dX7_contract_26 md_25 rfl ?_
        refine am_icmp_ge (I := iX7_contract) (pc := 29) (tgt := 60) dX7_contract_29 (by decide) (fun c29 => ?_) (fun c29 => ?_)
        · have g29 : n ≤ i := by
            rcases Nat.lt_or_ge i n with q9 | q9
            · exact absurd c29 (nI_ge (a := i) (b := n) q9 (by omega))
            · exact q9
          have ein : i = n := by omega
          rw [ein, cbi_n, hb]
          show am_W _ _ _ _ _ _ _ _ _ _ _ _ _ _ _ 60 [some (.ref 25), some (.int x), some (.int 1), some (.int (nI n)), none] [] _ _ _
          refine am_aload_n (I := iX7_contract) (pc := 60) dX7_contract_60 rfl rfl ?_
          refine am_iload_n (I := iX7_contract) (pc := 61) dX7_contract_61 rfl rfl ?_
          refine am_iload_n (I := iX7_contract) (pc := 62) dX7_contract_62 rfl rfl ?_
          refine am_bipush (I := iX7_contract) (pc := 63) (x := 28) dX7_contract_63 (by decide) ?_
          refine am_icmp_lt (I := iX7_contract) (pc := 65) (tgt := 78) dX7_contract_65 (by decide) (fun c65 => ?_) (fun c65 => ?_)
          · refine am_iconst (I := iX7_contract) (pc := 78) (x := 0) dX7_contract_78 (by decide) ?_
            refine am_callV (I := iX7_contract) (pc := 79) (st := []) lv_X7_79 (q_goes2) dX7_contract_79 md_25 rfl (Nat.le_of_ble_eq_true rfl) ⟨Nat.le_of_ble_eq_true rfl, Nat.le_of_ble_eq_true rfl⟩ (Nat.le_of_ble_eq_true rfl) (Nat.le_of_ble_eq_true rfl) rfl (fun v9 T9 z9 _ => ?_) (fun _ _ h9 => h9.elim)
            obtain ⟨rfl, rfl⟩ := z9
            show am_W _ _ _ _ _ _ _ _ _ _ _ _ _ _ _ 82 [some (.ref 25), some (.int x), some (.int 1), some (.int (nI n)), none] [.int 0] (mdS S 2 (nI n) wd ln sq st ct cl ft zn a26 a27 a28 a29 a30 a31 a32 a33 a34 a35 a36 a37 a38 a39 a40 a41 a42 a43 a44) 0 0
            refine am_if_ne (I := iX7_contract) (pc := 82) (tgt := 87) dX7_contract_82 (by decide) (fun c82 => ?_) (fun c82 => ?_)
            · exact absurd rfl c82
            · refine am_iconst (I := iX7_contract) (pc := 85) (x := 0) dX7_contract_85 (by decide) ?_
              exact am_zret (I := iX7_contract) (pc := 86) dX7_contract_86 rfl (by decide) (Nat.le_refl _) (Nat.le_refl _) (⟨rfl, rfl⟩)
          · refine am_iload_n (I := iX7_contract) (pc := 68) dX7_contract_68 rfl rfl ?_
            refine am_bipush (I := iX7_contract) (pc := 69) (x := 63) dX7_contract_69 (by decide) ?_
            refine am_icmp_gt (I := iX7_contract) (pc := 71) (tgt := 78) dX7_contract_71 (by decide) (fun c71 => ?_) (fun c71 => ?_)
            · refine am_iconst (I := iX7_contract) (pc := 78) (x := 0) dX7_contract_78 (by decide) ?_
              refine am_callV (I := iX7_contract) (pc := 79) (st := []) lv_X7_79 (q_goes2) dX7_contract_79 md_25 rfl (Nat.le_of_ble_eq_true rfl) ⟨Nat.le_of_ble_eq_true rfl, Nat.le_of_ble_eq_true rfl⟩ (Nat.le_of_ble_eq_true rfl) (Nat.le_of_ble_eq_true rfl) rfl (fun v9 T9 z9 _ => ?_) (fun _ _ h9 => h9.elim)
              obtain ⟨rfl, rfl⟩ := z9
              show am_W _ _ _ _ _ _ _ _ _ _ _ _ _ _ _ 82 [some (.ref 25), some (.int x), some (.int 1), some (.int (nI n)), none] [.int 0] (mdS S 2 (nI n) wd ln sq st ct cl ft zn a26 a27 a28 a29 a30 a31 a32 a33 a34 a35 a36 a37 a38 a39 a40 a41 a42 a43 a44) 0 0
              refine am_if_ne (I := iX7_contract) (pc := 82) (tgt := 87) dX7_contract_82 (by decide) (fun c82 => ?_) (fun c82 => ?_)
              · exact absurd rfl c82
              · refine am_iconst (I := iX7_contract) (pc := 85) (x := 0) dX7_contract_85 (by decide) ?_
                exact am_zret (I := iX7_contract) (pc := 86) dX7_contract_86 rfl (by decide) (Nat.le_refl _) (Nat.le_refl _) (⟨rfl, rfl⟩)
            · exact absurd hx (fun q => q.elim c65 c71)
        · have l29 : i < n := by
            rcases Nat.lt_or_ge i n with q9 | q9
            · exact q9
            · exact absurd (nI_le (a := n) (b := i) q9 (by omega)) c29
          refine am_iload_n (I := iX7_contract) (pc := 32) dX7_contract_32 rfl rfl ?_
          refine am_if_eq (I := iX7_contract) (pc := 33) (tgt := 52) dX7_contract_33 (by decide) (fun c33 => ?_) (fun c33 => ?_)
          · refine am_iconst (I := iX7_contract) (pc := 52) (x := 0) dX7_contract_52 (by decide) ?_
            refine am_istore_n (I := iX7_contract) (pc := 53) (L' := [some (.ref 25), some (.int x), some (.int 0), some (.int (nI i)), none]) dX7_contract_53 rfl (by decide) rfl ?_
            refine am_iinc (I := iX7_contract) (pc := 54) (y := ((nI i) + 1)) (L' := [some (.ref 25), some (.int x), some (.int 0), some (.int ((nI i) + 1)), none]) dX7_contract_54 rfl rfl rfl ?_
            refine am_goto (I := iX7_contract) (pc := 57) (tgt := 24) dX7_contract_57 (by decide) ?_
            exact am_same rfl (by rw [nI_1, cbi_s, bI_0 c33, Bool.false_and]; rfl) rfl rfl rfl rfl (ih24 (i + 1) (by omega) (by omega))
          · refine am_aload_n (I := iX7_contract) (pc := 36) dX7_contract_36 rfl rfl ?_
            refine am_getf (I := iX7_contract) (pc := 37) lf_X7_7 dX7_contract_37 md_25 rfl ?_
            refine am_iload_n (I := iX7_contract) (pc := 40) dX7_contract_40 rfl rfl ?_
            refine am_iaload (I := iX7_contract) (pc := 41) dX7_contract_41 md_26 rfl (vp_in_nI (show i < 80 by omega) (by decide)) ?_
            rw [nI_clamp (show i < 2 ^ 31 by omega)]
            refine am_callS (I := iX7_contract) (pc := 42) (st := []) lv_X7_75 rfl (q_isLetter (a26 i)) dX7_contract_42 rfl (Nat.le_of_ble_eq_true rfl) ⟨Nat.le_of_ble_eq_true rfl, Nat.le_of_ble_eq_true rfl⟩ (Nat.le_of_ble_eq_true rfl) (Nat.le_of_ble_eq_true rfl) rfl (fun v9 T9 z9 _ => ?_) (fun _ _ h9 => h9.elim)
            obtain ⟨rfl, rfl⟩ := z9
            show am_W _ _ _ _ _ _ _ _ _ _ _ _ _ _ _ 45 [some (.ref 25), some (.int x), some (.int (bI (cbi a26 n i))), some (.int (nI i)), none] [.int (bI (isl (a26 i)))] (mdS S th (nI n) wd ln sq st ct cl ft zn a26 a27 a28 a29 a30 a31 a32 a33 a34 a35 a36 a37 a38 a39 a40 a41 a42 a43 a44) 0 0
            refine am_if_eq (I := iX7_contract) (pc := 45) (tgt := 52) dX7_contract_45 (by decide) (fun c45 => ?_) (fun c45 => ?_)
            · refine am_iconst (I := iX7_contract) (pc := 52) (x := 0) dX7_contract_52 (by decide) ?_
              refine am_istore_n (I := iX7_contract) (pc := 53) (L' := [some (.ref 25), some (.int x), some (.int 0), some (.int (nI i)), none]) dX7_contract_53 rfl (by decide) rfl ?_
              refine am_iinc (I := iX7_contract) (pc := 54) (y := ((nI i) + 1)) (L' := [some (.ref 25), some (.int x), some (.int 0), some (.int ((nI i) + 1)), none]) dX7_contract_54 rfl rfl rfl ?_
              refine am_goto (I := iX7_contract) (pc := 57) (tgt := 24) dX7_contract_57 (by decide) ?_
              exact am_same rfl (by rw [nI_1, cbi_s, bI_0 c45, Bool.and_false]; rfl) rfl rfl rfl rfl (ih24 (i + 1) (by omega) (by omega))
            · refine am_iconst (I := iX7_contract) (pc := 48) (x := 1) dX7_contract_48 (by decide) ?_
              refine am_goto (I := iX7_contract) (pc := 49) (tgt := 53) dX7_contract_49 (by decide) ?_
              refine am_istore_n (I := iX7_contract) (pc := 53) (L' := [some (.ref 25), some (.int x), some (.int 1), some (.int (nI i)), none]) dX7_contract_53 rfl (by decide) rfl ?_
              refine am_iinc (I := iX7_contract) (pc := 54) (y := ((nI i) + 1)) (L' := [some (.ref 25), some (.int x), some (.int 1), some (.int ((nI i) + 1)), none]) dX7_contract_54 rfl rfl rfl ?_
              refine am_goto (I := iX7_contract) (pc := 57) (tgt := 24) dX7_contract_57 (by decide) ?_
              exact am_same rfl (by rw [nI_1, cbi_s, bI_1 c33, bI_1 c45]; rfl) rfl rfl rfl rfl (ih24 (i + 1) (by omega) (by omega))
    exact am_same rfl (by rw [cbi_0, decide_eq_false (fun q9 => nI_nlt (b := 2) q9 (by omega) c5), Bool.false_and]; rfl) rfl rfl rfl rfl (loop24 _ 0 (Nat.lt_succ_self _) (Nat.zero_le _))
  · refine am_aload_n (I := iX7_contract) (pc := 8) dX7_contract_8 rfl rfl ?_
    refine am_getf (I := iX7_contract) (pc := 9) lf_X7_72 dX7_contract_9 md_25 rfl ?_
    refine am_iconst (I := iX7_contract) (pc := 12) (x := 5) dX7_contract_12 (by decide) ?_
    refine am_icmp_gt (I := iX7_contract) (pc := 13) (tgt := 20) dX7_contract_13 (by decide) (fun c13 => ?_) (fun c13 => ?_)
    · refine am_iconst (I := iX7_contract) (pc := 20) (x := 0) dX7_contract_20 (by decide) ?_
      refine am_istore_n (I := iX7_contract) (pc := 21) (L' := [some (.ref 25), some (.int x), some (.int 0), none, none]) dX7_contract_21 rfl (by decide) rfl ?_
      refine am_iconst (I := iX7_contract) (pc := 22) (x := 0) dX7_contract_22 (by decide) ?_
      refine am_istore_n (I := iX7_contract) (pc := 23) (L' := [some (.ref 25), some (.int x), some (.int 0), some (.int 0), none]) dX7_contract_23 rfl (by decide) rfl ?_
      have loop24 : ∀ (k24 : Nat) (i : Nat), n - i < k24 → (i ≤ n) → am_W K iX7_contract xp l xe (am_room 2 0 0) xs xm xa xb xt xc (mdS S th (nI n) wd ln sq st ct cl ft zn a26 a27 a28 a29 a30 a31 a32 a33 a34 a35 a36 a37 a38 a39 a40 a41 a42 a43 a44) ad0 (am_E K ad0 (mdS S th (nI n) wd ln sq st ct cl ft zn a26 a27 a28 a29 a30 a31 a32 a33 a34 a35 a36 a37 a38 a39 a40 a41 a42 a43 a44) (fun v S' => v = some (.int (0)) ∧ mdS S 2 (nI n) wd ln sq st ct cl ft zn a26 a27 a28 a29 a30 a31 a32 a33 a34 a35 a36 a37 a38 a39 a40 a41 a42 a43 a44 = S') (fun _ _ => False) xb xa xs 0 0) 24 [some (.ref 25), some (.int x), some (.int (bI (cbi a26 n i))), some (.int (nI i)), none] [] (mdS S th (nI n) wd ln sq st ct cl ft zn a26 a27 a28 a29 a30 a31 a32 a33 a34 a35 a36 a37 a38 a39 a40 a41 a42 a43 a44) 0 0 := by
        intro k24
        induction k24 with
        | zero => intro i h9; exact absurd h9 (Nat.not_lt_zero _)
        | succ k24 ih24 =>
          intro i hm24 hi
          refine am_iload_n (I := iX7_contract) (pc := 24) dX7_contract_24 rfl rfl ?_
          refine am_aload_n (I := iX7_contract) (pc := 25) dX7_contract_25 rfl rfl ?_
          refine am_getf (I := iX7_contract) (pc := 26) lf_X7_72 dX7_contract_26 md_25 rfl ?_
          refine am_icmp_ge (I := iX7_contract) (pc := 29) (tgt := 60) dX7_contract_29 (by decide) (fun c29 => ?_) (fun c29 => ?_)
          · have g29 : n ≤ i := by
              rcases Nat.lt_or_ge i n with q9 | q9
              · exact absurd c29 (nI_ge (a := i) (b := n) q9 (by omega))
              · exact q9
            have ein : i = n := by omega
            rw [ein, cbi_n, hb]
            show am_W _ _ _ _ _ _ _ _ _ _ _ _ _ _ _ 60 [some (.ref 25), some (.int x), some (.int 1), some (.int (nI n)), none] [] _ _ _
            refine am_aload_n (I := iX7_contract) (pc := 60) dX7_contract_60 rfl rfl ?_
            refine am_iload_n (I := iX7_contract) (pc := 61) dX7_contract_61 rfl rfl ?_
            refine am_iload_n (I := iX7_contract) (pc := 62) dX7_contract_62 rfl rfl ?_
            refine am_bipush (I := iX7_contract) (pc := 63) (x := 28) dX7_contract_63 (by decide) ?_
            refine am_icmp_lt (I := iX7_contract) (pc := 65) (tgt := 78) dX7_contract_65 (by decide) (fun c65 => ?_) (fun c65 => ?_)
            · refine am_iconst (I := iX7_contract) (pc := 78) (x := 0) dX7_contract_78 (by decide) ?_
              refine am_callV (I := iX7_contract) (pc := 79) (st := []) lv_X7_79 (q_goes2) dX7_contract_79 md_25 rfl (Nat.le_of_ble_eq_true rfl) ⟨Nat.le_of_ble_eq_true rfl, Nat.le_of_ble_eq_true rfl⟩ (Nat.le_of_ble_eq_true rfl) (Nat.le_of_ble_eq_true rfl) rfl (fun v9 T9 z9 _ => ?_) (fun _ _ h9 => h9.elim)
              obtain ⟨rfl, rfl⟩ := z9
              show am_W _ _ _ _ _ _ _ _ _ _ _ _ _ _ _ 82 [some (.ref 25), some (.int x), some (.int 1), some (.int (nI n)), none] [.int 0] (mdS S 2 (nI n) wd ln sq st ct cl ft zn a26 a27 a28 a29 a30 a31 a32 a33 a34 a35 a36 a37 a38 a39 a40 a41 a42 a43 a44) 0 0
              refine am_if_ne (I := iX7_contract) (pc := 82) (tgt := 87) dX7_contract_82 (by decide) (fun c82 => ?_) (fun c82 => ?_)
              · exact absurd rfl c82
              · refine am_iconst (I := iX7_contract) (pc := 85) (x := 0) dX7_contract_85 (by decide) ?_
                exact am_zret (I := iX7_contract) (pc := 86) dX7_contract_86 rfl (by decide) (Nat.le_refl _) (Nat.le_refl _) (⟨rfl, rfl⟩)
            · refine am_iload_n (I := iX7_contract) (pc := 68) dX7_contract_68 rfl rfl ?_
              refine am_bipush (I := iX7_contract) (pc := 69) (x := 63) dX7_contract_69 (by decide) ?_
              refine am_icmp_gt (I := iX7_contract) (pc := 71) (tgt := 78) dX7_contract_71 (by decide) (fun c71 => ?_) (fun c71 => ?_)
              · refine am_iconst (I := iX7_contract) (pc := 78) (x := 0) dX7_contract_78 (by decide) ?_
                refine am_callV (I := iX7_contract) (pc := 79) (st := []) lv_X7_79 (q_goes2) dX7_contract_79 md_25 rfl (Nat.le_of_ble_eq_true rfl) ⟨Nat.le_of_ble_eq_true rfl, Nat.le_of_ble_eq_true rfl⟩ (Nat.le_of_ble_eq_true rfl) (Nat.le_of_ble_eq_true rfl) rfl (fun v9 T9 z9 _ => ?_) (fun _ _ h9 => h9.elim)
                obtain ⟨rfl, rfl⟩ := z9
                show am_W _ _ _ _ _ _ _ _ _ _ _ _ _ _ _ 82 [some (.ref 25), some (.int x), some (.int 1), some (.int (nI n)), none] [.int 0] (mdS S 2 (nI n) wd ln sq st ct cl ft zn a26 a27 a28 a29 a30 a31 a32 a33 a34 a35 a36 a37 a38 a39 a40 a41 a42 a43 a44) 0 0
                refine am_if_ne (I := iX7_contract) (pc := 82) (tgt := 87) dX7_contract_82 (by decide) (fun c82 => ?_) (fun c82 => ?_)
                · exact absurd rfl c82
                · refine am_iconst (I := iX7_contract) (pc := 85) (x := 0) dX7_contract_85 (by decide) ?_
                  exact am_zret (I := iX7_contract) (pc := 86) dX7_contract_86 rfl (by decide) (Nat.le_refl _) (Nat.le_refl _) (⟨rfl, rfl⟩)
              · exact absurd hx (fun q => q.elim c65 c71)
          · have l29 : i < n := by
              rcases Nat.lt_or_ge i n with q9 | q9
              · exact q9
              · exact absurd (nI_le (a := n) (b := i) q9 (by omega)) c29
            refine am_iload_n (I := iX7_contract) (pc := 32) dX7_contract_32 rfl rfl ?_
            refine am_if_eq (I := iX7_contract) (pc := 33) (tgt := 52) dX7_contract_33 (by decide) (fun c33 => ?_) (fun c33 => ?_)
            · refine am_iconst (I := iX7_contract) (pc := 52) (x := 0) dX7_contract_52 (by decide) ?_
              refine am_istore_n (I := iX7_contract) (pc := 53) (L' := [some (.ref 25), some (.int x), some (.int 0), some (.int (nI i)), none]) dX7_contract_53 rfl (by decide) rfl ?_
              refine am_iinc (I := iX7_contract) (pc := 54) (y := ((nI i) + 1)) (L' := [some (.ref 25), some (.int x), some (.int 0), some (.int ((nI i) + 1)), none]) dX7_contract_54 rfl rfl rfl ?_
              refine am_goto (I := iX7_contract) (pc := 57) (tgt := 24) dX7_contract_57 (by decide) ?_
              exact am_same rfl (by rw [nI_1, cbi_s, bI_0 c33, Bool.false_and]; rfl) rfl rfl rfl rfl (ih24 (i + 1) (by omega) (by omega))
            · refine am_aload_n (I := iX7_contract) (pc := 36) dX7_contract_36 rfl rfl ?_
              refine am_getf (I := iX7_contract) (pc := 37) lf_X7_7 dX7_contract_37 md_25 rfl ?_
              refine am_iload_n (I := iX7_contract) (pc := 40) dX7_contract_40 rfl rfl ?_
              refine am_iaload (I := iX7_contract) (pc := 41) dX7_contract_41 md_26 rfl (vp_in_nI (show i < 80 by omega) (by decide)) ?_
              rw [nI_clamp (show i < 2 ^ 31 by omega)]
              refine am_callS (I := iX7_contract) (pc := 42) (st := []) lv_X7_75 rfl (q_isLetter (a26 i)) dX7_contract_42 rfl (Nat.le_of_ble_eq_true rfl) ⟨Nat.le_of_ble_eq_true rfl, Nat.le_of_ble_eq_true rfl⟩ (Nat.le_of_ble_eq_true rfl) (Nat.le_of_ble_eq_true rfl) rfl (fun v9 T9 z9 _ => ?_) (fun _ _ h9 => h9.elim)
              obtain ⟨rfl, rfl⟩ := z9
              show am_W _ _ _ _ _ _ _ _ _ _ _ _ _ _ _ 45 [some (.ref 25), some (.int x), some (.int (bI (cbi a26 n i))), some (.int (nI i)), none] [.int (bI (isl (a26 i)))] (mdS S th (nI n) wd ln sq st ct cl ft zn a26 a27 a28 a29 a30 a31 a32 a33 a34 a35 a36 a37 a38 a39 a40 a41 a42 a43 a44) 0 0
              refine am_if_eq (I := iX7_contract) (pc := 45) (tgt := 52) dX7_contract_45 (by decide) (fun c45 => ?_) (fun c45 => ?_)
              · refine am_iconst (I := iX7_contract) (pc := 52) (x := 0) dX7_contract_52 (by decide) ?_
                refine am_istore_n (I := iX7_contract) (pc := 53) (L' := [some (.ref 25), some (.int x), some (.int 0), some (.int (nI i)), none]) dX7_contract_53 rfl (by decide) rfl ?_
                refine am_iinc (I := iX7_contract) (pc := 54) (y := ((nI i) + 1)) (L' := [some (.ref 25), some (.int x), some (.int 0), some (.int ((nI i) + 1)), none]) dX7_contract_54 rfl rfl rfl ?_
                refine am_goto (I := iX7_contract) (pc := 57) (tgt := 24) dX7_contract_57 (by decide) ?_
                exact am_same rfl (by rw [nI_1, cbi_s, bI_0 c45, Bool.and_false]; rfl) rfl rfl rfl rfl (ih24 (i + 1) (by omega) (by omega))
              · refine am_iconst (I := iX7_contract) (pc := 48) (x := 1) dX7_contract_48 (by decide) ?_
                refine am_goto (I := iX7_contract) (pc := 49) (tgt := 53) dX7_contract_49 (by decide) ?_
                refine am_istore_n (I := iX7_contract) (pc := 53) (L' := [some (.ref 25), some (.int x), some (.int 1), some (.int (nI i)), none]) dX7_contract_53 rfl (by decide) rfl ?_
                refine am_iinc (I := iX7_contract) (pc := 54) (y := ((nI i) + 1)) (L' := [some (.ref 25), some (.int x), some (.int 1), some (.int ((nI i) + 1)), none]) dX7_contract_54 rfl rfl rfl ?_
                refine am_goto (I := iX7_contract) (pc := 57) (tgt := 24) dX7_contract_57 (by decide) ?_
                exact am_same rfl (by rw [nI_1, cbi_s, bI_1 c33, bI_1 c45]; rfl) rfl rfl rfl rfl (ih24 (i + 1) (by omega) (by omega))
      exact am_same rfl (by rw [cbi_0, decide_eq_true (show 2 ≤ n by rcases Nat.lt_or_ge n 2 with q9 | q9; exact absurd (nI_lt (b := 2) q9 (by decide)) c5; exact q9), Bool.true_and, decide_eq_false (fun q9 => nI_nlt (a := 5) q9 (by decide) c13)]; rfl) rfl rfl rfl rfl (loop24 _ 0 (Nat.lt_succ_self _) (Nat.zero_le _))
    · refine am_iconst (I := iX7_contract) (pc := 16) (x := 1) dX7_contract_16 (by decide) ?_
      refine am_goto (I := iX7_contract) (pc := 17) (tgt := 21) dX7_contract_17 (by decide) ?_
      refine am_istore_n (I := iX7_contract) (pc := 21) (L' := [some (.ref 25), some (.int x), some (.int 1), none, none]) dX7_contract_21 rfl (by decide) rfl ?_
      refine am_iconst (I := iX7_contract) (pc := 22) (x := 0) dX7_contract_22 (by decide) ?_
      refine am_istore_n (I := iX7_contract) (pc := 23) (L' := [some (.ref 25), some (.int x), some (.int 1), some (.int 0), none]) dX7_contract_23 rfl (by decide) rfl ?_
      have loop24 : ∀ (k24 : Nat) (i : Nat), n - i < k24 → (i ≤ n) → am_W K iX7_contract xp l xe (am_room 2 0 0) xs xm xa xb xt xc (mdS S th (nI n) wd ln sq st ct cl ft zn a26 a27 a28 a29 a30 a31 a32 a33 a34 a35 a36 a37 a38 a39 a40 a41 a42 a43 a44) ad0 (am_E K ad0 (mdS S th (nI n) wd ln sq st ct cl ft zn a26 a27 a28 a29 a30 a31 a32 a33 a34 a35 a36 a37 a38 a39 a40 a41 a42 a43 a44) (fun v S' => v = some (.int (0)) ∧ mdS S 2 (nI n) wd ln sq st ct cl ft zn a26 a27 a28 a29 a30 a31 a32 a33 a34 a35 a36 a37 a38 a39 a40 a41 a42 a43 a44 = S') (fun _ _ => False) xb xa xs 0 0) 24 [some (.ref 25), some (.int x), some (.int (bI (cbi a26 n i))), some (.int (nI i)), none] [] (mdS S th (nI n) wd ln sq st ct cl ft zn a26 a27 a28 a29 a30 a31 a32 a33 a34 a35 a36 a37 a38 a39 a40 a41 a42 a43 a44) 0 0 := by
        intro k24
        induction k24 with
        | zero => intro i h9; exact absurd h9 (Nat.not_lt_zero _)
        | succ k24 ih24 =>
          intro i hm24 hi
          refine am_iload_n (I := iX7_contract) (pc := 24) dX7_contract_24 rfl rfl ?_
          refine am_aload_n (I := iX7_contract) (pc := 25) dX7_contract_25 rfl rfl ?_
          refine am_getf (I := iX7_contract) (pc := 26) lf_X7_72 dX7_contract_26 md_25 rfl ?_
          refine am_icmp_ge (I := iX7_contract) (pc := 29) (tgt := 60) dX7_contract_29 (by decide) (fun c29 => ?_) (fun c29 => ?_)
          · have g29 : n ≤ i := by
              rcases Nat.lt_or_ge i n with q9 | q9
              · exact absurd c29 (nI_ge (a := i) (b := n) q9 (by omega))
              · exact q9
            have ein : i = n := by omega
            rw [ein, cbi_n, hb]
            show am_W _ _ _ _ _ _ _ _ _ _ _ _ _ _ _ 60 [some (.ref 25), some (.int x), some (.int 1), some (.int (nI n)), none] [] _ _ _
            refine am_aload_n (I := iX7_contract) (pc := 60) dX7_contract_60 rfl rfl ?_
            refine am_iload_n (I := iX7_contract) (pc := 61) dX7_contract_61 rfl rfl ?_
            refine am_iload_n (I := iX7_contract) (pc := 62) dX7_contract_62 rfl rfl ?_
            refine am_bipush (I := iX7_contract) (pc := 63) (x := 28) dX7_contract_63 (by decide) ?_
            refine am_icmp_lt (I := iX7_contract) (pc := 65) (tgt := 78) dX7_contract_65 (by decide) (fun c65 => ?_) (fun c65 => ?_)
            · refine am_iconst (I := iX7_contract) (pc := 78) (x := 0) dX7_contract_78 (by decide) ?_
              refine am_callV (I := iX7_contract) (pc := 79) (st := []) lv_X7_79 (q_goes2) dX7_contract_79 md_25 rfl (Nat.le_of_ble_eq_true rfl) ⟨Nat.le_of_ble_eq_true rfl, Nat.le_of_ble_eq_true rfl⟩ (Nat.le_of_ble_eq_true rfl) (Nat.le_of_ble_eq_true rfl) rfl (fun v9 T9 z9 _ => ?_) (fun _ _ h9 => h9.elim)
              obtain ⟨rfl, rfl⟩ := z9
              show am_W _ _ _ _ _ _ _ _ _ _ _ _ _ _ _ 82 [some (.ref 25), some (.int x), some (.int 1), some (.int (nI n)), none] [.int 0] (mdS S 2 (nI n) wd ln sq st ct cl ft zn a26 a27 a28 a29 a30 a31 a32 a33 a34 a35 a36 a37 a38 a39 a40 a41 a42 a43 a44) 0 0
              refine am_if_ne (I := iX7_contract) (pc := 82) (tgt := 87) dX7_contract_82 (by decide) (fun c82 => ?_) (fun c82 => ?_)
              · exact absurd rfl c82
              · refine am_iconst (I := iX7_contract) (pc := 85) (x := 0) dX7_contract_85 (by decide) ?_
                exact am_zret (I := iX7_contract) (pc := 86) dX7_contract_86 rfl (by decide) (Nat.le_refl _) (Nat.le_refl _) (⟨rfl, rfl⟩)
            · refine am_iload_n (I := iX7_contract) (pc := 68) dX7_contract_68 rfl rfl ?_
              refine am_bipush (I := iX7_contract) (pc := 69) (x := 63) dX7_contract_69 (by decide) ?_
              refine am_icmp_gt (I := iX7_contract) (pc := 71) (tgt := 78) dX7_contract_71 (by decide) (fun c71 => ?_) (fun c71 => ?_)
              · refine am_iconst (I := iX7_contract) (pc := 78) (x := 0) dX7_contract_78 (by decide) ?_
                refine am_callV (I := iX7_contract) (pc := 79) (st := []) lv_X7_79 (q_goes2) dX7_contract_79 md_25 rfl (Nat.le_of_ble_eq_true rfl) ⟨Nat.le_of_ble_eq_true rfl, Nat.le_of_ble_eq_true rfl⟩ (Nat.le_of_ble_eq_true rfl) (Nat.le_of_ble_eq_true rfl) rfl (fun v9 T9 z9 _ => ?_) (fun _ _ h9 => h9.elim)
                obtain ⟨rfl, rfl⟩ := z9
                show am_W _ _ _ _ _ _ _ _ _ _ _ _ _ _ _ 82 [some (.ref 25), some (.int x), some (.int 1), some (.int (nI n)), none] [.int 0] (mdS S 2 (nI n) wd ln sq st ct cl ft zn a26 a27 a28 a29 a30 a31 a32 a33 a34 a35 a36 a37 a38 a39 a40 a41 a42 a43 a44) 0 0
                refine am_if_ne (I := iX7_contract) (pc := 82) (tgt := 87) dX7_contract_82 (by decide) (fun c82 => ?_) (fun c82 => ?_)
                · exact absurd rfl c82
                · refine am_iconst (I := iX7_contract) (pc := 85) (x := 0) dX7_contract_85 (by decide) ?_
                  exact am_zret (I := iX7_contract) (pc := 86) dX7_contract_86 rfl (by decide) (Nat.le_refl _) (Nat.le_refl _) (⟨rfl, rfl⟩)
              · exact absurd hx (fun q => q.elim c65 c71)
          · have l29 : i < n := by
              rcases Nat.lt_or_ge i n with q9 | q9
              · exact q9
              · exact absurd (nI_le (a := n) (b := i) q9 (by omega)) c29
            refine am_iload_n (I := iX7_contract) (pc := 32) dX7_contract_32 rfl rfl ?_
            refine am_if_eq (I := iX7_contract) (pc := 33) (tgt := 52) dX7_contract_33 (by decide) (fun c33 => ?_) (fun c33 => ?_)
            · refine am_iconst (I := iX7_contract) (pc := 52) (x := 0) dX7_contract_52 (by decide) ?_
              refine am_istore_n (I := iX7_contract) (pc := 53) (L' := [some (.ref 25), some (.int x), some (.int 0), some (.int (nI i)), none]) dX7_contract_53 rfl (by decide) rfl ?_
              refine am_iinc (I := iX7_contract) (pc := 54) (y := ((nI i) + 1)) (L' := [some (.ref 25), some (.int x), some (.int 0), some (.int ((nI i) + 1)), none]) dX7_contract_54 rfl rfl rfl ?_
              refine am_goto (I := iX7_contract) (pc := 57) (tgt := 24) dX7_contract_57 (by decide) ?_
              exact am_same rfl (by rw [nI_1, cbi_s, bI_0 c33, Bool.false_and]; rfl) rfl rfl rfl rfl (ih24 (i + 1) (by omega) (by omega))
            · refine am_aload_n (I := iX7_contract) (pc := 36) dX7_contract_36 rfl rfl ?_
              refine am_getf (I := iX7_contract) (pc := 37) lf_X7_7 dX7_contract_37 md_25 rfl ?_
              refine am_iload_n (I := iX7_contract) (pc := 40) dX7_contract_40 rfl rfl ?_
              refine am_iaload (I := iX7_contract) (pc := 41) dX7_contract_41 md_26 rfl (vp_in_nI (show i < 80 by omega) (by decide)) ?_
              rw [nI_clamp (show i < 2 ^ 31 by omega)]
              refine am_callS (I := iX7_contract) (pc := 42) (st := []) lv_X7_75 rfl (q_isLetter (a26 i)) dX7_contract_42 rfl (Nat.le_of_ble_eq_true rfl) ⟨Nat.le_of_ble_eq_true rfl, Nat.le_of_ble_eq_true rfl⟩ (Nat.le_of_ble_eq_true rfl) (Nat.le_of_ble_eq_true rfl) rfl (fun v9 T9 z9 _ => ?_) (fun _ _ h9 => h9.elim)
              obtain ⟨rfl, rfl⟩ := z9
              show am_W _ _ _ _ _ _ _ _ _ _ _ _ _ _ _ 45 [some (.ref 25), some (.int x), some (.int (bI (cbi a26 n i))), some (.int (nI i)), none] [.int (bI (isl (a26 i)))] (mdS S th (nI n) wd ln sq st ct cl ft zn a26 a27 a28 a29 a30 a31 a32 a33 a34 a35 a36 a37 a38 a39 a40 a41 a42 a43 a44) 0 0
              refine am_if_eq (I := iX7_contract) (pc := 45) (tgt := 52) dX7_contract_45 (by decide) (fun c45 => ?_) (fun c45 => ?_)
              · refine am_iconst (I := iX7_contract) (pc := 52) (x := 0) dX7_contract_52 (by decide) ?_
                refine am_istore_n (I := iX7_contract) (pc := 53) (L' := [some (.ref 25), some (.int x), some (.int 0), some (.int (nI i)), none]) dX7_contract_53 rfl (by decide) rfl ?_
                refine am_iinc (I := iX7_contract) (pc := 54) (y := ((nI i) + 1)) (L' := [some (.ref 25), some (.int x), some (.int 0), some (.int ((nI i) + 1)), none]) dX7_contract_54 rfl rfl rfl ?_
                refine am_goto (I := iX7_contract) (pc := 57) (tgt := 24) dX7_contract_57 (by decide) ?_
                exact am_same rfl (by rw [nI_1, cbi_s, bI_0 c45, Bool.and_false]; rfl) rfl rfl rfl rfl (ih24 (i + 1) (by omega) (by omega))
              · refine am_iconst (I := iX7_contract) (pc := 48) (x := 1) dX7_contract_48 (by decide) ?_
                refine am_goto (I := iX7_contract) (pc := 49) (tgt := 53) dX7_contract_49 (by decide) ?_
                refine am_istore_n (I := iX7_contract) (pc := 53) (L' := [some (.ref 25), some (.int x), some (.int 1), some (.int (nI i)), none]) dX7_contract_53 rfl (by decide) rfl ?_
                refine am_iinc (I := iX7_contract) (pc := 54) (y := ((nI i) + 1)) (L' := [some (.ref 25), some (.int x), some (.int 1), some (.int ((nI i) + 1)), none]) dX7_contract_54 rfl rfl rfl ?_
                refine am_goto (I := iX7_contract) (pc := 57) (tgt := 24) dX7_contract_57 (by decide) ?_
                exact am_same rfl (by rw [nI_1, cbi_s, bI_1 c33, bI_1 c45]; rfl) rfl rfl rfl rfl (ih24 (i + 1) (by omega) (by omega))
      exact am_same rfl (by rw [cbi_0, decide_eq_true (show 2 ≤ n by rcases Nat.lt_or_ge n 2 with q9 | q9; exact absurd (nI_lt (b := 2) q9 (by decide)) c5; exact q9), Bool.true_and, decide_eq_true (show n ≤ 5 by rcases Nat.lt_or_ge 5 n with q9 | q9; exact absurd (nI_lt (a := 5) q9 (by omega)) c13; exact q9)]; rfl) rfl rfl rfl rfl (loop24 _ 0 (Nat.lt_succ_self _) (Nat.zero_le _))
set_option maxRecDepth 100000 in
set_option maxHeartbeats 4000000 in
theorem q_contract0 {K : am_K} {l : Launch} {S : am_S} {th wd ln sq st ct cl ft zn : Int32} {a26 a27 a28 a29 a30 a31 a32 a33 a34 a35 a36 a38 a39 a40 a41 a42 a43 a44 : Nat → Int32} (sz : Nat → Nat) (lt : Nat → Nat → Int32) (n k : Nat) (h5 : ∀ k, sz k ≤ 5) (hl : ∀ k i, k < 36 → i < sz k → a38 (k * 5 + i) = lt k i) (hn : n ≤ 80) (hb : cbc a26 n = true) (hk : k < 36) (hd : apd sz lt a26 n k 36 = true) : am_M K l iX7_contract 2 0 0 [.ref 25, .int (nI (28 + k))] (mdS S th (nI n) wd ln sq st ct cl ft zn a26 a27 a28 a29 a30 a31 a32 a33 a34 a35 a36 (fun k => nI (sz k)) a38 a39 a40 a41 a42 a43 a44) (fun v S' => v = some (.int (0)) ∧ mdS S 0 (nI n) wd ln sq st ct cl ft zn a26 a27 a28 a29 a30 a31 a32 a33 a34 a35 a36 (fun k => nI (sz k)) a38 a39 a40 a41 a42 a43 a44 = S') (fun _ _ => False) := by
  refine am_body (by decide) rfl (by simp [Value.category]) (Nat.le_of_ble_eq_true rfl) (fun xp xe xs xm xa xb xt xc ad0 => ?_)
  show am_W _ _ _ _ _ _ _ _ _ _ _ _ _ _ _ 0 [some (.ref 25), some (.int (nI (28 + k))), none, none, none] [] (mdS S th (nI n) wd ln sq st ct cl ft zn a26 a27 a28 a29 a30 a31 a32 a33 a34 a35 a36 (fun k => nI (sz k)) a38 a39 a40 a41 a42 a43 a44) 0 0
  refine am_aload_n (I := iX7_contract) (pc := 0) dX7_contract_0 rfl rfl ?_
  refine am_getf (I := iX7_contract) (pc := 1) lf_X7_72 dX7_contract_1 md_25 rfl ?_
  refine am_iconst (I := iX7_contract) (pc := 4) (x := 2) dX7_contract_4 (by decide) ?_
  refine am_icmp_lt (I := iX7_contract) (pc := 5) (tgt := 20) dX7_contract_5 (by decide) (fun c5 => ?_) (fun c5 => ?_)
  · refine am_iconst (I := iX7_contract) (pc := 20) (x := 0) dX7_contract_20 (by decide) ?_
    refine am_istore_n (I := iX7_contract) (pc := 21) (L' := [some (.ref 25), some (.int (nI (28 + k))), some (.int 0), none, none]) dX7_contract_21 rfl (by decide) rfl ?_
    refine am_iconst (I := iX7_contract) (pc := 22) (x := 0) dX7_contract_22 (by decide) ?_
    refine am_istore_n (I := iX7_contract) (pc := 23) (L' := [some (.ref 25), some (.int (nI (28 + k))), some (.int 0), some (.int 0), none]) dX7_contract_23 rfl (by decide) rfl ?_
    have loop24 : ∀ (k24 : Nat) (i : Nat), n - i < k24 → (i ≤ n) → am_W K iX7_contract xp l xe (am_room 2 0 0) xs xm xa xb xt xc (mdS S th (nI n) wd ln sq st ct cl ft zn a26 a27 a28 a29 a30 a31 a32 a33 a34 a35 a36 (fun k => nI (sz k)) a38 a39 a40 a41 a42 a43 a44) ad0 (am_E K ad0 (mdS S th (nI n) wd ln sq st ct cl ft zn a26 a27 a28 a29 a30 a31 a32 a33 a34 a35 a36 (fun k => nI (sz k)) a38 a39 a40 a41 a42 a43 a44) (fun v S' => v = some (.int (0)) ∧ mdS S 0 (nI n) wd ln sq st ct cl ft zn a26 a27 a28 a29 a30 a31 a32 a33 a34 a35 a36 (fun k => nI (sz k)) a38 a39 a40 a41 a42 a43 a44 = S') (fun _ _ => False) xb xa xs 0 0) 24 [some (.ref 25), some (.int (nI (28 + k))), some (.int (bI (cbi a26 n i))), some (.int (nI i)), none] [] (mdS S th (nI n) wd ln sq st ct cl ft zn a26 a27 a28 a29 a30 a31 a32 a33 a34 a35 a36 (fun k => nI (sz k)) a38 a39 a40 a41 a42 a43 a44) 0 0 := by
      intro k24
      induction k24 with
      | zero => intro i h9; exact absurd h9 (Nat.not_lt_zero _)
      | succ k24 ih24 =>
        intro i hm24 hi
        refine am_iload_n (I := iX7_contract) (pc := 24) dX7_contract_24 rfl rfl ?_
        refine am_aload_n (I := iX7_contract) (pc := 25) dX7_contract_25 rfl rfl ?_
        refine am_getf (I := iX7_contract) (pc := 26) lf_X7_72 dX7_contract_26 md_25 rfl ?_
        refine am_icmp_ge (I := iX7_contract) (pc := 29) (tgt := 60) dX7_contract_29 (by decide) (fun c29 => ?_) (fun c29 => ?_)
        · have g29 : n ≤ i := by
            rcases Nat.lt_or_ge i n with q9 | q9
            · exact absurd c29 (nI_ge (a := i) (b := n) q9 (by omega))
            · exact q9
          have ein : i = n := by omega
          rw [ein, cbi_n, hb]
          show am_W _ _ _ _ _ _ _ _ _ _ _ _ _ _ _ 60 [some (.ref 25), some (.int (nI (28 + k))), some (.int 1), some (.int (nI n)), none] [] _ _ _
          refine am_aload_n (I := iX7_contract) (pc := 60) dX7_contract_60 rfl rfl ?_
          refine am_iload_n (I := iX7_contract) (pc := 61) dX7_contract_61 rfl rfl ?_
          refine am_iload_n (I := iX7_contract) (pc := 62) dX7_contract_62 rfl rfl ?_
          refine am_bipush (I := iX7_contract) (pc := 63) (x := 28) dX7_contract_63 (by decide) ?_
          refine am_icmp_lt (I := iX7_contract) (pc := 65) (tgt := 78) dX7_contract_65 (by decide) (fun c65 => ?_) (fun c65 => ?_)
          · exact absurd c65 (nI_nlt (a := 28 + k) (b := 28) (by omega) (by omega))
          · refine am_iload_n (I := iX7_contract) (pc := 68) dX7_contract_68 rfl rfl ?_
            refine am_bipush (I := iX7_contract) (pc := 69) (x := 63) dX7_contract_69 (by decide) ?_
            refine am_icmp_gt (I := iX7_contract) (pc := 71) (tgt := 78) dX7_contract_71 (by decide) (fun c71 => ?_) (fun c71 => ?_)
            · exact absurd c71 (nI_nlt (a := 63) (b := 28 + k) (by omega) (by decide))
            · refine am_iconst (I := iX7_contract) (pc := 74) (x := 1) dX7_contract_74 (by decide) ?_
              refine am_goto (I := iX7_contract) (pc := 75) (tgt := 79) dX7_contract_75 (by decide) ?_
              refine am_callV (I := iX7_contract) (pc := 79) (st := []) lv_X7_79 (q_goes0) dX7_contract_79 md_25 rfl (Nat.le_of_ble_eq_true rfl) ⟨Nat.le_of_ble_eq_true rfl, Nat.le_of_ble_eq_true rfl⟩ (Nat.le_of_ble_eq_true rfl) (Nat.le_of_ble_eq_true rfl) rfl (fun v9 T9 z9 _ => ?_) (fun _ _ h9 => h9.elim)
              obtain ⟨rfl, rfl⟩ := z9
              show am_W _ _ _ _ _ _ _ _ _ _ _ _ _ _ _ 82 [some (.ref 25), some (.int (nI (28 + k))), some (.int 1), some (.int (nI n)), none] [.int 1] (mdS S 0 (nI n) wd ln sq st ct cl ft zn a26 a27 a28 a29 a30 a31 a32 a33 a34 a35 a36 (fun k => nI (sz k)) a38 a39 a40 a41 a42 a43 a44) 0 0
              refine am_if_ne (I := iX7_contract) (pc := 82) (tgt := 87) dX7_contract_82 (by decide) (fun c82 => ?_) (fun c82 => ?_)
              · refine am_aload_n (I := iX7_contract) (pc := 87) dX7_contract_87 rfl rfl ?_
                refine am_getf (I := iX7_contract) (pc := 88) lf_X7_43 dX7_contract_88 md_25 rfl ?_
                refine am_iload_n (I := iX7_contract) (pc := 91) dX7_contract_91 rfl rfl ?_
                refine am_bipush (I := iX7_contract) (pc := 92) (x := 28) dX7_contract_92 (by decide) ?_
                refine am_isub (I := iX7_contract) (pc := 94) dX7_contract_94 ?_
                rw [ix28]
                refine am_iaload (I := iX7_contract) (pc := 95) dX7_contract_95 md_37 rfl (vp_in_nI hk (by decide)) ?_
                rw [nI_clamp (show k < 2 ^ 31 by omega)]
                refine am_if_le (I := iX7_contract) (pc := 96) (tgt := 103) dX7_contract_96 (by decide) (fun c96 => ?_) (fun c96 => ?_)
                · refine am_iconst (I := iX7_contract) (pc := 103) (x := 0) dX7_contract_103 (by decide) ?_
                  refine am_istore_n (I := iX7_contract) (pc := 104) (L' := [some (.ref 25), some (.int (nI (28 + k))), some (.int 1), some (.int 0), none]) dX7_contract_104 rfl (by decide) rfl ?_
                  refine am_iconst (I := iX7_contract) (pc := 105) (x := 0) dX7_contract_105 (by decide) ?_
                  refine am_istore (I := iX7_contract) (pc := 106) (L' := [some (.ref 25), some (.int (nI (28 + k))), some (.int 1), some (.int 0), some (.int 0)]) dX7_contract_106 (by decide) rfl ?_
                  have loop108 : ∀ (k108 : Nat) (i : Nat), 36 - i < k108 → (i ≤ 36) → am_W K iX7_contract xp l xe (am_room 2 0 0) xs xm xa xb xt xc (mdS S th (nI n) wd ln sq st ct cl ft zn a26 a27 a28 a29 a30 a31 a32 a33 a34 a35 a36 (fun k => nI (sz k)) a38 a39 a40 a41 a42 a43 a44) ad0 (am_E K ad0 (mdS S th (nI n) wd ln sq st ct cl ft zn a26 a27 a28 a29 a30 a31 a32 a33 a34 a35 a36 (fun k => nI (sz k)) a38 a39 a40 a41 a42 a43 a44) (fun v S' => v = some (.int (0)) ∧ mdS S 0 (nI n) wd ln sq st ct cl ft zn a26 a27 a28 a29 a30 a31 a32 a33 a34 a35 a36 (fun k => nI (sz k)) a38 a39 a40 a41 a42 a43 a44 = S') (fun _ _ => False) xb xa xs 0 0) 108 [some (.ref 25), some (.int (nI (28 + k))), some (.int 1), some (.int (bI (apd sz lt a26 n k i))), some (.int (nI i))] [] (mdS S 0 (nI n) wd ln sq st ct cl ft zn a26 a27 a28 a29 a30 a31 a32 a33 a34 a35 a36 (fun k => nI (sz k)) a38 a39 a40 a41 a42 a43 a44) 0 0 := by
                    intro k108
                    induction k108 with
                    | zero => intro i h9; exact absurd h9 (Nat.not_lt_zero _)
                    | succ k108 ih108 =>
                      intro i hm108 hi
                      refine am_iload (I := iX7_contract) (pc := 108) dX7_contract_108 rfl ?_
                      refine am_bipush (I := iX7_contract) (pc := 110) (x := 36) dX7_contract_110 (by decide) ?_
                      refine am_icmp_ge (I := iX7_contract) (pc := 112) (tgt := 140) dX7_contract_112 (by decide) (fun c112 => ?_) (fun c112 => ?_)
                      · have g112 : 36 ≤ i := by
                          rcases Nat.lt_or_ge i 36 with q9 | q9
                          · exact absurd c112 (nI_ge (a := i) (b := 36) q9 (by omega))
                          · exact q9
                        have ei : i = 36 := by omega
                        rw [ei, hd]
                        show am_W _ _ _ _ _ _ _ _ _ _ _ _ _ _ _ 140 [some (.ref 25), some (.int (nI (28 + k))), some (.int 1), some (.int 1), some (.int (nI 36))] [] _ _ _
                        refine am_iload_n (I := iX7_contract) (pc := 140) dX7_contract_140 rfl rfl ?_
                        refine am_if_eq (I := iX7_contract) (pc := 141) (tgt := 146) dX7_contract_141 (by decide) (fun c141 => ?_) (fun c141 => ?_)
                        · exact absurd c141 (by decide)
                        · refine am_iconst (I := iX7_contract) (pc := 144) (x := 0) dX7_contract_144 (by decide) ?_
                          exact am_zret (I := iX7_contract) (pc := 145) dX7_contract_145 rfl (by decide) (Nat.le_refl _) (Nat.le_refl _) (⟨rfl, rfl⟩)
                      · have l112 : i < 36 := by
                          rcases Nat.lt_or_ge i 36 with q9 | q9
                          · exact q9
                          · exact absurd (nI_le (a := 36) (b := i) q9 (by omega)) c112
                        refine am_iload_n (I := iX7_contract) (pc := 115) dX7_contract_115 rfl rfl ?_
                        refine am_if_ne (I := iX7_contract) (pc := 116) (tgt := 128) dX7_contract_116 (by decide) (fun c116 => ?_) (fun c116 => ?_)
                        · refine am_iconst (I := iX7_contract) (pc := 128) (x := 1) dX7_contract_128 (by decide) ?_
                          refine am_goto (I := iX7_contract) (pc := 129) (tgt := 133) dX7_contract_129 (by decide) ?_
                          refine am_istore_n (I := iX7_contract) (pc := 133) (L' := [some (.ref 25), some (.int (nI (28 + k))), some (.int 1), some (.int 1), some (.int (nI i))]) dX7_contract_133 rfl (by decide) rfl ?_
                          refine am_iinc (I := iX7_contract) (pc := 134) (y := ((nI i) + 1)) (L' := [some (.ref 25), some (.int (nI (28 + k))), some (.int 1), some (.int 1), some (.int ((nI i) + 1))]) dX7_contract_134 rfl rfl rfl ?_
                          refine am_goto (I := iX7_contract) (pc := 137) (tgt := 108) dX7_contract_137 (by decide) ?_
                          exact am_same rfl (by rw [nI_1, apd, bI_1 c116, Bool.true_or]; rfl) rfl rfl rfl rfl (ih108 (i + 1) (by omega) (by omega))
                        · refine am_aload_n (I := iX7_contract) (pc := 119) dX7_contract_119 rfl rfl ?_
                          refine am_iload (I := iX7_contract) (pc := 120) dX7_contract_120 rfl ?_
                          refine am_callV (I := iX7_contract) (pc := 122) (st := []) lv_X7_122 (q_isPad sz lt n i h5 hl hn (by omega)) dX7_contract_122 md_25 rfl (Nat.le_of_ble_eq_true rfl) ⟨Nat.le_of_ble_eq_true rfl, Nat.le_of_ble_eq_true rfl⟩ (Nat.le_of_ble_eq_true rfl) (Nat.le_of_ble_eq_true rfl) rfl (fun v9 T9 z9 _ => ?_) (fun _ _ h9 => h9.elim)
                          obtain ⟨rfl, rfl⟩ := z9
                          show am_W _ _ _ _ _ _ _ _ _ _ _ _ _ _ _ 125 [some (.ref 25), some (.int (nI (28 + k))), some (.int 1), some (.int (bI (apd sz lt a26 n k i))), some (.int (nI i))] [.int (bI (ipd sz lt a26 n i n))] (mdS S 0 (nI n) wd ln sq st ct cl ft zn a26 a27 a28 a29 a30 a31 a32 a33 a34 a35 a36 (fun k => nI (sz k)) a38 a39 a40 a41 a42 a43 a44) 0 0
                          refine am_if_eq (I := iX7_contract) (pc := 125) (tgt := 132) dX7_contract_125 (by decide) (fun c125 => ?_) (fun c125 => ?_)
                          · refine am_iconst (I := iX7_contract) (pc := 132) (x := 0) dX7_contract_132 (by decide) ?_
                            refine am_istore_n (I := iX7_contract) (pc := 133) (L' := [some (.ref 25), some (.int (nI (28 + k))), some (.int 1), some (.int 0), some (.int (nI i))]) dX7_contract_133 rfl (by decide) rfl ?_
                            refine am_iinc (I := iX7_contract) (pc := 134) (y := ((nI i) + 1)) (L' := [some (.ref 25), some (.int (nI (28 + k))), some (.int 1), some (.int 0), some (.int ((nI i) + 1))]) dX7_contract_134 rfl rfl rfl ?_
                            refine am_goto (I := iX7_contract) (pc := 137) (tgt := 108) dX7_contract_137 (by decide) ?_
                            exact am_same rfl (by rw [nI_1, apd, bI_0 c116, bI_0 c125]; rfl) rfl rfl rfl rfl (ih108 (i + 1) (by omega) (by omega))
                          · refine am_iconst (I := iX7_contract) (pc := 128) (x := 1) dX7_contract_128 (by decide) ?_
                            refine am_goto (I := iX7_contract) (pc := 129) (tgt := 133) dX7_contract_129 (by decide) ?_
                            refine am_istore_n (I := iX7_contract) (pc := 133) (L' := [some (.ref 25), some (.int (nI (28 + k))), some (.int 1), some (.int 1), some (.int (nI i))]) dX7_contract_133 rfl (by decide) rfl ?_
                            refine am_iinc (I := iX7_contract) (pc := 134) (y := ((nI i) + 1)) (L' := [some (.ref 25), some (.int (nI (28 + k))), some (.int 1), some (.int 1), some (.int ((nI i) + 1))]) dX7_contract_134 rfl rfl rfl ?_
                            refine am_goto (I := iX7_contract) (pc := 137) (tgt := 108) dX7_contract_137 (by decide) ?_
                            exact am_same rfl (by rw [nI_1, apd, bI_1 c125, Bool.or_true]; rfl) rfl rfl rfl rfl (ih108 (i + 1) (by omega) (by omega))
                  exact am_same rfl (by rw [apd, decide_eq_false (fun q9 => nI_nle q9 (by have := h5 k; omega) c96)]; rfl) rfl rfl rfl rfl (loop108 _ 0 (Nat.lt_succ_self _) (Nat.zero_le _))
                · refine am_iconst (I := iX7_contract) (pc := 99) (x := 1) dX7_contract_99 (by decide) ?_
                  refine am_goto (I := iX7_contract) (pc := 100) (tgt := 104) dX7_contract_100 (by decide) ?_
                  refine am_istore_n (I := iX7_contract) (pc := 104) (L' := [some (.ref 25), some (.int (nI (28 + k))), some (.int 1), some (.int 1), none]) dX7_contract_104 rfl (by decide) rfl ?_
                  refine am_iconst (I := iX7_contract) (pc := 105) (x := 0) dX7_contract_105 (by decide) ?_
                  refine am_istore (I := iX7_contract) (pc := 106) (L' := [some (.ref 25), some (.int (nI (28 + k))), some (.int 1), some (.int 1), some (.int 0)]) dX7_contract_106 (by decide) rfl ?_
                  have loop108 : ∀ (k108 : Nat) (i : Nat), 36 - i < k108 → (i ≤ 36) → am_W K iX7_contract xp l xe (am_room 2 0 0) xs xm xa xb xt xc (mdS S th (nI n) wd ln sq st ct cl ft zn a26 a27 a28 a29 a30 a31 a32 a33 a34 a35 a36 (fun k => nI (sz k)) a38 a39 a40 a41 a42 a43 a44) ad0 (am_E K ad0 (mdS S th (nI n) wd ln sq st ct cl ft zn a26 a27 a28 a29 a30 a31 a32 a33 a34 a35 a36 (fun k => nI (sz k)) a38 a39 a40 a41 a42 a43 a44) (fun v S' => v = some (.int (0)) ∧ mdS S 0 (nI n) wd ln sq st ct cl ft zn a26 a27 a28 a29 a30 a31 a32 a33 a34 a35 a36 (fun k => nI (sz k)) a38 a39 a40 a41 a42 a43 a44 = S') (fun _ _ => False) xb xa xs 0 0) 108 [some (.ref 25), some (.int (nI (28 + k))), some (.int 1), some (.int (bI (apd sz lt a26 n k i))), some (.int (nI i))] [] (mdS S 0 (nI n) wd ln sq st ct cl ft zn a26 a27 a28 a29 a30 a31 a32 a33 a34 a35 a36 (fun k => nI (sz k)) a38 a39 a40 a41 a42 a43 a44) 0 0 := by
                    intro k108
                    induction k108 with
                    | zero => intro i h9; exact absurd h9 (Nat.not_lt_zero _)
                    | succ k108 ih108 =>
                      intro i hm108 hi
                      refine am_iload (I := iX7_contract) (pc := 108) dX7_contract_108 rfl ?_
                      refine am_bipush (I := iX7_contract) (pc := 110) (x := 36) dX7_contract_110 (by decide) ?_
                      refine am_icmp_ge (I := iX7_contract) (pc := 112) (tgt := 140) dX7_contract_112 (by decide) (fun c112 => ?_) (fun c112 => ?_)
                      · have g112 : 36 ≤ i := by
                          rcases Nat.lt_or_ge i 36 with q9 | q9
                          · exact absurd c112 (nI_ge (a := i) (b := 36) q9 (by omega))
                          · exact q9
                        have ei : i = 36 := by omega
                        rw [ei, hd]
                        show am_W _ _ _ _ _ _ _ _ _ _ _ _ _ _ _ 140 [some (.ref 25), some (.int (nI (28 + k))), some (.int 1), some (.int 1), some (.int (nI 36))] [] _ _ _
                        refine am_iload_n (I := iX7_contract) (pc := 140) dX7_contract_140 rfl rfl ?_
                        refine am_if_eq (I := iX7_contract) (pc := 141) (tgt := 146) dX7_contract_141 (by decide) (fun c141 => ?_) (fun c141 => ?_)
                        · exact absurd c141 (by decide)
                        · refine am_iconst (I := iX7_contract) (pc := 144) (x := 0) dX7_contract_144 (by decide) ?_
                          exact am_zret (I := iX7_contract) (pc := 145) dX7_contract_145 rfl (by decide) (Nat.le_refl _) (Nat.le_refl _) (⟨rfl, rfl⟩)
                      · have l112 : i < 36 := by
                          rcases Nat.lt_or_ge i 36 with q9 | q9
                          · exact q9
                          · exact absurd (nI_le (a := 36) (b := i) q9 (by omega)) c112
                        refine am_iload_n (I := iX7_contract) (pc := 115) dX7_contract_115 rfl rfl ?_
                        refine am_if_ne (I := iX7_contract) (pc := 116) (tgt := 128) dX7_contract_116 (by decide) (fun c116 => ?_) (fun c116 => ?_)
                        · refine am_iconst (I := iX7_contract) (pc := 128) (x := 1) dX7_contract_128 (by decide) ?_
                          refine am_goto (I := iX7_contract) (pc := 129) (tgt := 133) dX7_contract_129 (by decide) ?_
                          refine am_istore_n (I := iX7_contract) (pc := 133) (L' := [some (.ref 25), some (.int (nI (28 + k))), some (.int 1), some (.int 1), some (.int (nI i))]) dX7_contract_133 rfl (by decide) rfl ?_
                          refine am_iinc (I := iX7_contract) (pc := 134) (y := ((nI i) + 1)) (L' := [some (.ref 25), some (.int (nI (28 + k))), some (.int 1), some (.int 1), some (.int ((nI i) + 1))]) dX7_contract_134 rfl rfl rfl ?_
                          refine am_goto (I := iX7_contract) (pc := 137) (tgt := 108) dX7_contract_137 (by decide) ?_
                          exact am_same rfl (by rw [nI_1, apd, bI_1 c116, Bool.true_or]; rfl) rfl rfl rfl rfl (ih108 (i + 1) (by omega) (by omega))
                        · refine am_aload_n (I := iX7_contract) (pc := 119) dX7_contract_119 rfl rfl ?_
                          refine am_iload (I := iX7_contract) (pc := 120) dX7_contract_120 rfl ?_
                          refine am_callV (I := iX7_contract) (pc := 122) (st := []) lv_X7_122 (q_isPad sz lt n i h5 hl hn (by omega)) dX7_contract_122 md_25 rfl (Nat.le_of_ble_eq_true rfl) ⟨Nat.le_of_ble_eq_true rfl, Nat.le_of_ble_eq_true rfl⟩ (Nat.le_of_ble_eq_true rfl) (Nat.le_of_ble_eq_true rfl) rfl (fun v9 T9 z9 _ => ?_) (fun _ _ h9 => h9.elim)
                          obtain ⟨rfl, rfl⟩ := z9
                          show am_W _ _ _ _ _ _ _ _ _ _ _ _ _ _ _ 125 [some (.ref 25), some (.int (nI (28 + k))), some (.int 1), some (.int (bI (apd sz lt a26 n k i))), some (.int (nI i))] [.int (bI (ipd sz lt a26 n i n))] (mdS S 0 (nI n) wd ln sq st ct cl ft zn a26 a27 a28 a29 a30 a31 a32 a33 a34 a35 a36 (fun k => nI (sz k)) a38 a39 a40 a41 a42 a43 a44) 0 0
                          refine am_if_eq (I := iX7_contract) (pc := 125) (tgt := 132) dX7_contract_125 (by decide) (fun c125 => ?_) (fun c125 => ?_)
                          · refine am_iconst (I := iX7_contract) (pc := 132) (x := 0) dX7_contract_132 (by decide) ?_
                            refine am_istore_n (I := iX7_contract) (pc := 133) (L' := [some (.ref 25), some (.int (nI (28 + k))), some (.int 1), some (.int 0), some (.int (nI i))]) dX7_contract_133 rfl (by decide) rfl ?_
                            refine am_iinc (I := iX7_contract) (pc := 134) (y := ((nI i) + 1)) (L' := [some (.ref 25), some (.int (nI (28 + k))), some (.int 1), some (.int 0), some (.int ((nI i) + 1))]) dX7_contract_134 rfl rfl rfl ?_
                            refine am_goto (I := iX7_contract) (pc := 137) (tgt := 108) dX7_contract_137 (by decide) ?_
                            exact am_same rfl (by rw [nI_1, apd, bI_0 c116, bI_0 c125]; rfl) rfl rfl rfl rfl (ih108 (i + 1) (by omega) (by omega))
                          · refine am_iconst (I := iX7_contract) (pc := 128) (x := 1) dX7_contract_128 (by decide) ?_
                            refine am_goto (I := iX7_contract) (pc := 129) (tgt := 133) dX7_contract_129 (by decide) ?_
                            refine am_istore_n (I := iX7_contract) (pc := 133) (L' := [some (.ref 25), some (.int (nI (28 + k))), some (.int 1), some (.int 1), some (.int (nI i))]) dX7_contract_133 rfl (by decide) rfl ?_
                            refine am_iinc (I := iX7_contract) (pc := 134) (y := ((nI i) + 1)) (L' := [some (.ref 25), some (.int (nI (28 + k))), some (.int 1), some (.int 1), some (.int ((nI i) + 1))]) dX7_contract_134 rfl rfl rfl ?_
                            refine am_goto (I := iX7_contract) (pc := 137) (tgt := 108) dX7_contract_137 (by decide) ?_
                            exact am_same rfl (by rw [nI_1, apd, bI_1 c125, Bool.or_true]; rfl) rfl rfl rfl rfl (ih108 (i + 1) (by omega) (by omega))
                  exact am_same rfl (by rw [apd, decide_eq_true (Nat.pos_of_ne_zero (fun e9 => c96 (by rw [e9]; decide)))]; rfl) rfl rfl rfl rfl (loop108 _ 0 (Nat.lt_succ_self _) (Nat.zero_le _))
              · exact absurd c82 (by decide)
        · have l29 : i < n := by
            rcases Nat.lt_or_ge i n with q9 | q9
            · exact q9
            · exact absurd (nI_le (a := n) (b := i) q9 (by omega)) c29
          refine am_iload_n (I := iX7_contract) (pc := 32) dX7_contract_32 rfl rfl ?_
          refine am_if_eq (I := iX7_contract) (pc := 33) (tgt := 52) dX7_contract_33 (by decide) (fun c33 => ?_) (fun c33 => ?_)
          · refine am_iconst (I := iX7_contract) (pc := 52) (x := 0) dX7_contract_52 (by decide) ?_
            refine am_istore_n (I := iX7_contract) (pc := 53) (L' := [some (.ref 25), some (.int (nI (28 + k))), some (.int 0), some (.int (nI i)), none]) dX7_contract_53 rfl (by decide) rfl ?_
            refine am_iinc (I := iX7_contract) (pc := 54) (y := ((nI i) + 1)) (L' := [some (.ref 25), some (.int (nI (28 + k))), some (.int 0), some (.int ((nI i) + 1)), none]) dX7_contract_54 rfl rfl rfl ?_
            refine am_goto (I := iX7_contract) (pc := 57) (tgt := 24) dX7_contract_57 (by decide) ?_
            exact am_same rfl (by rw [nI_1, cbi_s, bI_0 c33, Bool.false_and]; rfl) rfl rfl rfl rfl (ih24 (i + 1) (by omega) (by omega))
          · refine am_aload_n (I := iX7_contract) (pc := 36) dX7_contract_36 rfl rfl ?_
            refine am_getf (I := iX7_contract) (pc := 37) lf_X7_7 dX7_contract_37 md_25 rfl ?_
            refine am_iload_n (I := iX7_contract) (pc := 40) dX7_contract_40 rfl rfl ?_
            refine am_iaload (I := iX7_contract) (pc := 41) dX7_contract_41 md_26 rfl (vp_in_nI (show i < 80 by omega) (by decide)) ?_
            rw [nI_clamp (show i < 2 ^ 31 by omega)]
            refine am_callS (I := iX7_contract) (pc := 42) (st := []) lv_X7_75 rfl (q_isLetter (a26 i)) dX7_contract_42 rfl (Nat.le_of_ble_eq_true rfl) ⟨Nat.le_of_ble_eq_true rfl, Nat.le_of_ble_eq_true rfl⟩ (Nat.le_of_ble_eq_true rfl) (Nat.le_of_ble_eq_true rfl) rfl (fun v9 T9 z9 _ => ?_) (fun _ _ h9 => h9.elim)
            obtain ⟨rfl, rfl⟩ := z9
            show am_W _ _ _ _ _ _ _ _ _ _ _ _ _ _ _ 45 [some (.ref 25), some (.int (nI (28 + k))), some (.int (bI (cbi a26 n i))), some (.int (nI i)), none] [.int (bI (isl (a26 i)))] (mdS S th (nI n) wd ln sq st ct cl ft zn a26 a27 a28 a29 a30 a31 a32 a33 a34 a35 a36 (fun k => nI (sz k)) a38 a39 a40 a41 a42 a43 a44) 0 0
            refine am_if_eq (I := iX7_contract) (pc := 45) (tgt := 52) dX7_contract_45 (by decide) (fun c45 => ?_) (fun c45 => ?_)
            · refine am_iconst (I := iX7_contract) (pc := 52) (x := 0) dX7_contract_52 (by decide) ?_
              refine am_istore_n (I := iX7_contract) (pc := 53) (L' := [some (.ref 25), some (.int (nI (28 + k))), some (.int 0), some (.int (nI i)), none]) dX7_contract_53 rfl (by decide) rfl ?_
              refine am_iinc (I := iX7_contract) (pc := 54) (y := ((nI i) + 1)) (L' := [some (.ref 25), some (.int (nI (28 + k))), some (.int 0), some (.int ((nI i) + 1)), none]) dX7_contract_54 rfl rfl rfl ?_
              refine am_goto (I := iX7_contract) (pc := 57) (tgt := 24) dX7_contract_57 (by decide) ?_
              exact am_same rfl (by rw [nI_1, cbi_s, bI_0 c45, Bool.and_false]; rfl) rfl rfl rfl rfl (ih24 (i + 1) (by omega) (by omega))
            · refine am_iconst (I := iX7_contract) (pc := 48) (x := 1) dX7_contract_48 (by decide) ?_
              refine am_goto (I := iX7_contract) (pc := 49) (tgt := 53) dX7_contract_49 (by decide) ?_
              refine am_istore_n (I := iX7_contract) (pc := 53) (L' := [some (.ref 25), some (.int (nI (28 + k))), some (.int 1), some (.int (nI i)), none]) dX7_contract_53 rfl (by decide) rfl ?_
              refine am_iinc (I := iX7_contract) (pc := 54) (y := ((nI i) + 1)) (L' := [some (.ref 25), some (.int (nI (28 + k))), some (.int 1), some (.int ((nI i) + 1)), none]) dX7_contract_54 rfl rfl rfl ?_
              refine am_goto (I := iX7_contract) (pc := 57) (tgt := 24) dX7_contract_57 (by decide) ?_
              exact am_same rfl (by rw [nI_1, cbi_s, bI_1 c33, bI_1 c45]; rfl) rfl rfl rfl rfl (ih24 (i + 1) (by omega) (by omega))
    exact am_same rfl (by rw [cbi_0, decide_eq_false (fun q9 => nI_nlt (b := 2) q9 (by omega) c5), Bool.false_and]; rfl) rfl rfl rfl rfl (loop24 _ 0 (Nat.lt_succ_self _) (Nat.zero_le _))
  · refine am_aload_n (I := iX7_contract) (pc := 8) dX7_contract_8 rfl rfl ?_
    refine am_getf (I := iX7_contract) (pc := 9) lf_X7_72 dX7_contract_9 md_25 rfl ?_
    refine am_iconst (I := iX7_contract) (pc := 12) (x := 5) dX7_contract_12 (by decide) ?_
    refine am_icmp_gt (I := iX7_contract) (pc := 13) (tgt := 20) dX7_contract_13 (by decide) (fun c13 => ?_) (fun c13 => ?_)
    · refine am_iconst (I := iX7_contract) (pc := 20) (x := 0) dX7_contract_20 (by decide) ?_
      refine am_istore_n (I := iX7_contract) (pc := 21) (L' := [some (.ref 25), some (.int (nI (28 + k))), some (.int 0), none, none]) dX7_contract_21 rfl (by decide) rfl ?_
      refine am_iconst (I := iX7_contract) (pc := 22) (x := 0) dX7_contract_22 (by decide) ?_
      refine am_istore_n (I := iX7_contract) (pc := 23) (L' := [some (.ref 25), some (.int (nI (28 + k))), some (.int 0), some (.int 0), none]) dX7_contract_23 rfl (by decide) rfl ?_
      have loop24 : ∀ (k24 : Nat) (i : Nat), n - i < k24 → (i ≤ n) → am_W K iX7_contract xp l xe (am_room 2 0 0) xs xm xa xb xt xc (mdS S th (nI n) wd ln sq st ct cl ft zn a26 a27 a28 a29 a30 a31 a32 a33 a34 a35 a36 (fun k => nI (sz k)) a38 a39 a40 a41 a42 a43 a44) ad0 (am_E K ad0 (mdS S th (nI n) wd ln sq st ct cl ft zn a26 a27 a28 a29 a30 a31 a32 a33 a34 a35 a36 (fun k => nI (sz k)) a38 a39 a40 a41 a42 a43 a44) (fun v S' => v = some (.int (0)) ∧ mdS S 0 (nI n) wd ln sq st ct cl ft zn a26 a27 a28 a29 a30 a31 a32 a33 a34 a35 a36 (fun k => nI (sz k)) a38 a39 a40 a41 a42 a43 a44 = S') (fun _ _ => False) xb xa xs 0 0) 24 [some (.ref 25), some (.int (nI (28 + k))), some (.int (bI (cbi a26 n i))), some (.int (nI i)), none] [] (mdS S th (nI n) wd ln sq st ct cl ft zn a26 a27 a28 a29 a30 a31 a32 a33 a34 a35 a36 (fun k => nI (sz k)) a38 a39 a40 a41 a42 a43 a44) 0 0 := by
        intro k24
        induction k24 with
        | zero => intro i h9; exact absurd h9 (Nat.not_lt_zero _)
        | succ k24 ih24 =>
          intro i hm24 hi
          refine am_iload_n (I := iX7_contract) (pc := 24) dX7_contract_24 rfl rfl ?_
          refine am_aload_n (I := iX7_contract) (pc := 25) dX7_contract_25 rfl rfl ?_
          refine am_getf (I := iX7_contract) (pc := 26) lf_X7_72 dX7_contract_26 md_25 rfl ?_
          refine am_icmp_ge (I := iX7_contract) (pc := 29) (tgt := 60) dX7_contract_29 (by decide) (fun c29 => ?_) (fun c29 => ?_)
          · have g29 : n ≤ i := by
              rcases Nat.lt_or_ge i n with q9 | q9
              · exact absurd c29 (nI_ge (a := i) (b := n) q9 (by omega))
              · exact q9
            have ein : i = n := by omega
            rw [ein, cbi_n, hb]
            show am_W _ _ _ _ _ _ _ _ _ _ _ _ _ _ _ 60 [some (.ref 25), some (.int (nI (28 + k))), some (.int 1), some (.int (nI n)), none] [] _ _ _
            refine am_aload_n (I := iX7_contract) (pc := 60) dX7_contract_60 rfl rfl ?_
            refine am_iload_n (I := iX7_contract) (pc := 61) dX7_contract_61 rfl rfl ?_
            refine am_iload_n (I := iX7_contract) (pc := 62) dX7_contract_62 rfl rfl ?_
            refine am_bipush (I := iX7_contract) (pc := 63) (x := 28) dX7_contract_63 (by decide) ?_
            refine am_icmp_lt (I := iX7_contract) (pc := 65) (tgt := 78) dX7_contract_65 (by decide) (fun c65 => ?_) (fun c65 => ?_)
            · exact absurd c65 (nI_nlt (a := 28 + k) (b := 28) (by omega) (by omega))
            · refine am_iload_n (I := iX7_contract) (pc := 68) dX7_contract_68 rfl rfl ?_
              refine am_bipush (I := iX7_contract) (pc := 69) (x := 63) dX7_contract_69 (by decide) ?_
              refine am_icmp_gt (I := iX7_contract) (pc := 71) (tgt := 78) dX7_contract_71 (by decide) (fun c71 => ?_) (fun c71 => ?_)
              · exact absurd c71 (nI_nlt (a := 63) (b := 28 + k) (by omega) (by decide))
              · refine am_iconst (I := iX7_contract) (pc := 74) (x := 1) dX7_contract_74 (by decide) ?_
                refine am_goto (I := iX7_contract) (pc := 75) (tgt := 79) dX7_contract_75 (by decide) ?_
                refine am_callV (I := iX7_contract) (pc := 79) (st := []) lv_X7_79 (q_goes0) dX7_contract_79 md_25 rfl (Nat.le_of_ble_eq_true rfl) ⟨Nat.le_of_ble_eq_true rfl, Nat.le_of_ble_eq_true rfl⟩ (Nat.le_of_ble_eq_true rfl) (Nat.le_of_ble_eq_true rfl) rfl (fun v9 T9 z9 _ => ?_) (fun _ _ h9 => h9.elim)
                obtain ⟨rfl, rfl⟩ := z9
                show am_W _ _ _ _ _ _ _ _ _ _ _ _ _ _ _ 82 [some (.ref 25), some (.int (nI (28 + k))), some (.int 1), some (.int (nI n)), none] [.int 1] (mdS S 0 (nI n) wd ln sq st ct cl ft zn a26 a27 a28 a29 a30 a31 a32 a33 a34 a35 a36 (fun k => nI (sz k)) a38 a39 a40 a41 a42 a43 a44) 0 0
                refine am_if_ne (I := iX7_contract) (pc := 82) (tgt := 87) dX7_contract_82 (by decide) (fun c82 => ?_) (fun c82 => ?_)
                · refine am_aload_n (I := iX7_contract) (pc := 87) dX7_contract_87 rfl rfl ?_
                  refine am_getf (I := iX7_contract) (pc := 88) lf_X7_43 dX7_contract_88 md_25 rfl ?_
                  refine am_iload_n (I := iX7_contract) (pc := 91) dX7_contract_91 rfl rfl ?_
                  refine am_bipush (I := iX7_contract) (pc := 92) (x := 28) dX7_contract_92 (by decide) ?_
                  refine am_isub (I := iX7_contract) (pc := 94) dX7_contract_94 ?_
                  rw [ix28]
                  refine am_iaload (I := iX7_contract) (pc := 95) dX7_contract_95 md_37 rfl (vp_in_nI hk (by decide)) ?_
                  rw [nI_clamp (show k < 2 ^ 31 by omega)]
                  refine am_if_le (I := iX7_contract) (pc := 96) (tgt := 103) dX7_contract_96 (by decide) (fun c96 => ?_) (fun c96 => ?_)
                  · refine am_iconst (I := iX7_contract) (pc := 103) (x := 0) dX7_contract_103 (by decide) ?_
                    refine am_istore_n (I := iX7_contract) (pc := 104) (L' := [some (.ref 25), some (.int (nI (28 + k))), some (.int 1), some (.int 0), none]) dX7_contract_104 rfl (by decide) rfl ?_
                    refine am_iconst (I := iX7_contract) (pc := 105) (x := 0) dX7_contract_105 (by decide) ?_
                    refine am_istore (I := iX7_contract) (pc := 106) (L' := [some (.ref 25), some (.int (nI (28 + k))), some (.int 1), some (.int 0), some (.int 0)]) dX7_contract_106 (by decide) rfl ?_
                    have loop108 : ∀ (k108 : Nat) (i : Nat), 36 - i < k108 → (i ≤ 36) → am_W K iX7_contract xp l xe (am_room 2 0 0) xs xm xa xb xt xc (mdS S th (nI n) wd ln sq st ct cl ft zn a26 a27 a28 a29 a30 a31 a32 a33 a34 a35 a36 (fun k => nI (sz k)) a38 a39 a40 a41 a42 a43 a44) ad0 (am_E K ad0 (mdS S th (nI n) wd ln sq st ct cl ft zn a26 a27 a28 a29 a30 a31 a32 a33 a34 a35 a36 (fun k => nI (sz k)) a38 a39 a40 a41 a42 a43 a44) (fun v S' => v = some (.int (0)) ∧ mdS S 0 (nI n) wd ln sq st ct cl ft zn a26 a27 a28 a29 a30 a31 a32 a33 a34 a35 a36 (fun k => nI (sz k)) a38 a39 a40 a41 a42 a43 a44 = S') (fun _ _ => False) xb xa xs 0 0) 108 [some (.ref 25), some (.int (nI (28 + k))), some (.int 1), some (.int (bI (apd sz lt a26 n k i))), some (.int (nI i))] [] (mdS S 0 (nI n) wd ln sq st ct cl ft zn a26 a27 a28 a29 a30 a31 a32 a33 a34 a35 a36 (fun k => nI (sz k)) a38 a39 a40 a41 a42 a43 a44) 0 0 := by
                      intro k108
                      induction k108 with
                      | zero => intro i h9; exact absurd h9 (Nat.not_lt_zero _)
                      | succ k108 ih108 =>
                        intro i hm108 hi
                        refine am_iload (I := iX7_contract) (pc := 108) dX7_contract_108 rfl ?_
                        refine am_bipush (I := iX7_contract) (pc := 110) (x := 36) dX7_contract_110 (by decide) ?_
                        refine am_icmp_ge (I := iX7_contract) (pc := 112) (tgt := 140) dX7_contract_112 (by decide) (fun c112 => ?_) (fun c112 => ?_)
                        · have g112 : 36 ≤ i := by
                            rcases Nat.lt_or_ge i 36 with q9 | q9
                            · exact absurd c112 (nI_ge (a := i) (b := 36) q9 (by omega))
                            · exact q9
                          have ei : i = 36 := by omega
                          rw [ei, hd]
                          show am_W _ _ _ _ _ _ _ _ _ _ _ _ _ _ _ 140 [some (.ref 25), some (.int (nI (28 + k))), some (.int 1), some (.int 1), some (.int (nI 36))] [] _ _ _
                          refine am_iload_n (I := iX7_contract) (pc := 140) dX7_contract_140 rfl rfl ?_
                          refine am_if_eq (I := iX7_contract) (pc := 141) (tgt := 146) dX7_contract_141 (by decide) (fun c141 => ?_) (fun c141 => ?_)
                          · exact absurd c141 (by decide)
                          · refine am_iconst (I := iX7_contract) (pc := 144) (x := 0) dX7_contract_144 (by decide) ?_
                            exact am_zret (I := iX7_contract) (pc := 145) dX7_contract_145 rfl (by decide) (Nat.le_refl _) (Nat.le_refl _) (⟨rfl, rfl⟩)
                        · have l112 : i < 36 := by
                            rcases Nat.lt_or_ge i 36 with q9 | q9
                            · exact q9
                            · exact absurd (nI_le (a := 36) (b := i) q9 (by omega)) c112
                          refine am_iload_n (I := iX7_contract) (pc := 115) dX7_contract_115 rfl rfl ?_
                          refine am_if_ne (I := iX7_contract) (pc := 116) (tgt := 128) dX7_contract_116 (by decide) (fun c116 => ?_) (fun c116 => ?_)
                          · refine am_iconst (I := iX7_contract) (pc := 128) (x := 1) dX7_contract_128 (by decide) ?_
                            refine am_goto (I := iX7_contract) (pc := 129) (tgt := 133) dX7_contract_129 (by decide) ?_
                            refine am_istore_n (I := iX7_contract) (pc := 133) (L' := [some (.ref 25), some (.int (nI (28 + k))), some (.int 1), some (.int 1), some (.int (nI i))]) dX7_contract_133 rfl (by decide) rfl ?_
                            refine am_iinc (I := iX7_contract) (pc := 134) (y := ((nI i) + 1)) (L' := [some (.ref 25), some (.int (nI (28 + k))), some (.int 1), some (.int 1), some (.int ((nI i) + 1))]) dX7_contract_134 rfl rfl rfl ?_
                            refine am_goto (I := iX7_contract) (pc := 137) (tgt := 108) dX7_contract_137 (by decide) ?_
                            exact am_same rfl (by rw [nI_1, apd, bI_1 c116, Bool.true_or]; rfl) rfl rfl rfl rfl (ih108 (i + 1) (by omega) (by omega))
                          · refine am_aload_n (I := iX7_contract) (pc := 119) dX7_contract_119 rfl rfl ?_
                            refine am_iload (I := iX7_contract) (pc := 120) dX7_contract_120 rfl ?_
                            refine am_callV (I := iX7_contract) (pc := 122) (st := []) lv_X7_122 (q_isPad sz lt n i h5 hl hn (by omega)) dX7_contract_122 md_25 rfl (Nat.le_of_ble_eq_true rfl) ⟨Nat.le_of_ble_eq_true rfl, Nat.le_of_ble_eq_true rfl⟩ (Nat.le_of_ble_eq_true rfl) (Nat.le_of_ble_eq_true rfl) rfl (fun v9 T9 z9 _ => ?_) (fun _ _ h9 => h9.elim)
                            obtain ⟨rfl, rfl⟩ := z9
                            show am_W _ _ _ _ _ _ _ _ _ _ _ _ _ _ _ 125 [some (.ref 25), some (.int (nI (28 + k))), some (.int 1), some (.int (bI (apd sz lt a26 n k i))), some (.int (nI i))] [.int (bI (ipd sz lt a26 n i n))] (mdS S 0 (nI n) wd ln sq st ct cl ft zn a26 a27 a28 a29 a30 a31 a32 a33 a34 a35 a36 (fun k => nI (sz k)) a38 a39 a40 a41 a42 a43 a44) 0 0
                            refine am_if_eq (I := iX7_contract) (pc := 125) (tgt := 132) dX7_contract_125 (by decide) (fun c125 => ?_) (fun c125 => ?_)
                            · refine am_iconst (I := iX7_contract) (pc := 132) (x := 0) dX7_contract_132 (by decide) ?_
                              refine am_istore_n (I := iX7_contract) (pc := 133) (L' := [some (.ref 25), some (.int (nI (28 + k))), some (.int 1), some (.int 0), some (.int (nI i))]) dX7_contract_133 rfl (by decide) rfl ?_
                              refine am_iinc (I := iX7_contract) (pc := 134) (y := ((nI i) + 1)) (L' := [some (.ref 25), some (.int (nI (28 + k))), some (.int 1), some (.int 0), some (.int ((nI i) + 1))]) dX7_contract_134 rfl rfl rfl ?_
                              refine am_goto (I := iX7_contract) (pc := 137) (tgt := 108) dX7_contract_137 (by decide) ?_
                              exact am_same rfl (by rw [nI_1, apd, bI_0 c116, bI_0 c125]; rfl) rfl rfl rfl rfl (ih108 (i + 1) (by omega) (by omega))
                            · refine am_iconst (I := iX7_contract) (pc := 128) (x := 1) dX7_contract_128 (by decide) ?_
                              refine am_goto (I := iX7_contract) (pc := 129) (tgt := 133) dX7_contract_129 (by decide) ?_
                              refine am_istore_n (I := iX7_contract) (pc := 133) (L' := [some (.ref 25), some (.int (nI (28 + k))), some (.int 1), some (.int 1), some (.int (nI i))]) dX7_contract_133 rfl (by decide) rfl ?_
                              refine am_iinc (I := iX7_contract) (pc := 134) (y := ((nI i) + 1)) (L' := [some (.ref 25), some (.int (nI (28 + k))), some (.int 1), some (.int 1), some (.int ((nI i) + 1))]) dX7_contract_134 rfl rfl rfl ?_
                              refine am_goto (I := iX7_contract) (pc := 137) (tgt := 108) dX7_contract_137 (by decide) ?_
                              exact am_same rfl (by rw [nI_1, apd, bI_1 c125, Bool.or_true]; rfl) rfl rfl rfl rfl (ih108 (i + 1) (by omega) (by omega))
                    exact am_same rfl (by rw [apd, decide_eq_false (fun q9 => nI_nle q9 (by have := h5 k; omega) c96)]; rfl) rfl rfl rfl rfl (loop108 _ 0 (Nat.lt_succ_self _) (Nat.zero_le _))
                  · refine am_iconst (I := iX7_contract) (pc := 99) (x := 1) dX7_contract_99 (by decide) ?_
                    refine am_goto (I := iX7_contract) (pc := 100) (tgt := 104) dX7_contract_100 (by decide) ?_
                    refine am_istore_n (I := iX7_contract) (pc := 104) (L' := [some (.ref 25), some (.int (nI (28 + k))), some (.int 1), some (.int 1), none]) dX7_contract_104 rfl (by decide) rfl ?_
                    refine am_iconst (I := iX7_contract) (pc := 105) (x := 0) dX7_contract_105 (by decide) ?_
                    refine am_istore (I := iX7_contract) (pc := 106) (L' := [some (.ref 25), some (.int (nI (28 + k))), some (.int 1), some (.int 1), some (.int 0)]) dX7_contract_106 (by decide) rfl ?_
                    have loop108 : ∀ (k108 : Nat) (i : Nat), 36 - i < k108 → (i ≤ 36) → am_W K iX7_contract xp l xe (am_room 2 0 0) xs xm xa xb xt xc (mdS S th (nI n) wd ln sq st ct cl ft zn a26 a27 a28 a29 a30 a31 a32 a33 a34 a35 a36 (fun k => nI (sz k)) a38 a39 a40 a41 a42 a43 a44) ad0 (am_E K ad0 (mdS S th (nI n) wd ln sq st ct cl ft zn a26 a27 a28 a29 a30 a31 a32 a33 a34 a35 a36 (fun k => nI (sz k)) a38 a39 a40 a41 a42 a43 a44) (fun v S' => v = some (.int (0)) ∧ mdS S 0 (nI n) wd ln sq st ct cl ft zn a26 a27 a28 a29 a30 a31 a32 a33 a34 a35 a36 (fun k => nI (sz k)) a38 a39 a40 a41 a42 a43 a44 = S') (fun _ _ => False) xb xa xs 0 0) 108 [some (.ref 25), some (.int (nI (28 + k))), some (.int 1), some (.int (bI (apd sz lt a26 n k i))), some (.int (nI i))] [] (mdS S 0 (nI n) wd ln sq st ct cl ft zn a26 a27 a28 a29 a30 a31 a32 a33 a34 a35 a36 (fun k => nI (sz k)) a38 a39 a40 a41 a42 a43 a44) 0 0 := by
                      intro k108
                      induction k108 with
                      | zero => intro i h9; exact absurd h9 (Nat.not_lt_zero _)
                      | succ k108 ih108 =>
                        intro i hm108 hi
                        refine am_iload (I := iX7_contract) (pc := 108) dX7_contract_108 rfl ?_
                        refine am_bipush (I := iX7_contract) (pc := 110) (x := 36) dX7_contract_110 (by decide) ?_
                        refine am_icmp_ge (I := iX7_contract) (pc := 112) (tgt := 140) dX7_contract_112 (by decide) (fun c112 => ?_) (fun c112 => ?_)
                        · have g112 : 36 ≤ i := by
                            rcases Nat.lt_or_ge i 36 with q9 | q9
                            · exact absurd c112 (nI_ge (a := i) (b := 36) q9 (by omega))
                            · exact q9
                          have ei : i = 36 := by omega
                          rw [ei, hd]
                          show am_W _ _ _ _ _ _ _ _ _ _ _ _ _ _ _ 140 [some (.ref 25), some (.int (nI (28 + k))), some (.int 1), some (.int 1), some (.int (nI 36))] [] _ _ _
                          refine am_iload_n (I := iX7_contract) (pc := 140) dX7_contract_140 rfl rfl ?_
                          refine am_if_eq (I := iX7_contract) (pc := 141) (tgt := 146) dX7_contract_141 (by decide) (fun c141 => ?_) (fun c141 => ?_)
                          · exact absurd c141 (by decide)
                          · refine am_iconst (I := iX7_contract) (pc := 144) (x := 0) dX7_contract_144 (by decide) ?_
                            exact am_zret (I := iX7_contract) (pc := 145) dX7_contract_145 rfl (by decide) (Nat.le_refl _) (Nat.le_refl _) (⟨rfl, rfl⟩)
                        · have l112 : i < 36 := by
                            rcases Nat.lt_or_ge i 36 with q9 | q9
                            · exact q9
                            · exact absurd (nI_le (a := 36) (b := i) q9 (by omega)) c112
                          refine am_iload_n (I := iX7_contract) (pc := 115) dX7_contract_115 rfl rfl ?_
                          refine am_if_ne (I := iX7_contract) (pc := 116) (tgt := 128) dX7_contract_116 (by decide) (fun c116 => ?_) (fun c116 => ?_)
                          · refine am_iconst (I := iX7_contract) (pc := 128) (x := 1) dX7_contract_128 (by decide) ?_
                            refine am_goto (I := iX7_contract) (pc := 129) (tgt := 133) dX7_contract_129 (by decide) ?_
                            refine am_istore_n (I := iX7_contract) (pc := 133) (L' := [some (.ref 25), some (.int (nI (28 + k))), some (.int 1), some (.int 1), some (.int (nI i))]) dX7_contract_133 rfl (by decide) rfl ?_
                            refine am_iinc (I := iX7_contract) (pc := 134) (y := ((nI i) + 1)) (L' := [some (.ref 25), some (.int (nI (28 + k))), some (.int 1), some (.int 1), some (.int ((nI i) + 1))]) dX7_contract_134 rfl rfl rfl ?_
                            refine am_goto (I := iX7_contract) (pc := 137) (tgt := 108) dX7_contract_137 (by decide) ?_
                            exact am_same rfl (by rw [nI_1, apd, bI_1 c116, Bool.true_or]; rfl) rfl rfl rfl rfl (ih108 (i + 1) (by omega) (by omega))
                          · refine am_aload_n (I := iX7_contract) (pc := 119) dX7_contract_119 rfl rfl ?_
                            refine am_iload (I := iX7_contract) (pc := 120) dX7_contract_120 rfl ?_
                            refine am_callV (I := iX7_contract) (pc := 122) (st := []) lv_X7_122 (q_isPad sz lt n i h5 hl hn (by omega)) dX7_contract_122 md_25 rfl (Nat.le_of_ble_eq_true rfl) ⟨Nat.le_of_ble_eq_true rfl, Nat.le_of_ble_eq_true rfl⟩ (Nat.le_of_ble_eq_true rfl) (Nat.le_of_ble_eq_true rfl) rfl (fun v9 T9 z9 _ => ?_) (fun _ _ h9 => h9.elim)
                            obtain ⟨rfl, rfl⟩ := z9
                            show am_W _ _ _ _ _ _ _ _ _ _ _ _ _ _ _ 125 [some (.ref 25), some (.int (nI (28 + k))), some (.int 1), some (.int (bI (apd sz lt a26 n k i))), some (.int (nI i))] [.int (bI (ipd sz lt a26 n i n))] (mdS S 0 (nI n) wd ln sq st ct cl ft zn a26 a27 a28 a29 a30 a31 a32 a33 a34 a35 a36 (fun k => nI (sz k)) a38 a39 a40 a41 a42 a43 a44) 0 0
                            refine am_if_eq (I := iX7_contract) (pc := 125) (tgt := 132) dX7_contract_125 (by decide) (fun c125 => ?_) (fun c125 => ?_)
                            · refine am_iconst (I := iX7_contract) (pc := 132) (x := 0) dX7_contract_132 (by decide) ?_
                              refine am_istore_n (I := iX7_contract) (pc := 133) (L' := [some (.ref 25), some (.int (nI (28 + k))), some (.int 1), some (.int 0), some (.int (nI i))]) dX7_contract_133 rfl (by decide) rfl ?_
                              refine am_iinc (I := iX7_contract) (pc := 134) (y := ((nI i) + 1)) (L' := [some (.ref 25), some (.int (nI (28 + k))), some (.int 1), some (.int 0), some (.int ((nI i) + 1))]) dX7_contract_134 rfl rfl rfl ?_
                              refine am_goto (I := iX7_contract) (pc := 137) (tgt := 108) dX7_contract_137 (by decide) ?_
                              exact am_same rfl (by rw [nI_1, apd, bI_0 c116, bI_0 c125]; rfl) rfl rfl rfl rfl (ih108 (i + 1) (by omega) (by omega))
                            · refine am_iconst (I := iX7_contract) (pc := 128) (x := 1) dX7_contract_128 (by decide) ?_
                              refine am_goto (I := iX7_contract) (pc := 129) (tgt := 133) dX7_contract_129 (by decide) ?_
                              refine am_istore_n (I := iX7_contract) (pc := 133) (L' := [some (.ref 25), some (.int (nI (28 + k))), some (.int 1), some (.int 1), some (.int (nI i))]) dX7_contract_133 rfl (by decide) rfl ?_
                              refine am_iinc (I := iX7_contract) (pc := 134) (y := ((nI i) + 1)) (L' := [some (.ref 25), some (.int (nI (28 + k))), some (.int 1), some (.int 1), some (.int ((nI i) + 1))]) dX7_contract_134 rfl rfl rfl ?_
                              refine am_goto (I := iX7_contract) (pc := 137) (tgt := 108) dX7_contract_137 (by decide) ?_
                              exact am_same rfl (by rw [nI_1, apd, bI_1 c125, Bool.or_true]; rfl) rfl rfl rfl rfl (ih108 (i + 1) (by omega) (by omega))
                    exact am_same rfl (by rw [apd, decide_eq_true (Nat.pos_of_ne_zero (fun e9 => c96 (by rw [e9]; decide)))]; rfl) rfl rfl rfl rfl (loop108 _ 0 (Nat.lt_succ_self _) (Nat.zero_le _))
                · exact absurd c82 (by decide)
          · have l29 : i < n := by
              rcases Nat.lt_or_ge i n with q9 | q9
              · exact q9
              · exact absurd (nI_le (a := n) (b := i) q9 (by omega)) c29
            refine am_iload_n (I := iX7_contract) (pc := 32) dX7_contract_32 rfl rfl ?_
            refine am_if_eq (I := iX7_contract) (pc := 33) (tgt := 52) dX7_contract_33 (by decide) (fun c33 => ?_) (fun c33 => ?_)
            · refine am_iconst (I := iX7_contract) (pc := 52) (x := 0) dX7_contract_52 (by decide) ?_
              refine am_istore_n (I := iX7_contract) (pc := 53) (L' := [some (.ref 25), some (.int (nI (28 + k))), some (.int 0), some (.int (nI i)), none]) dX7_contract_53 rfl (by decide) rfl ?_
              refine am_iinc (I := iX7_contract) (pc := 54) (y := ((nI i) + 1)) (L' := [some (.ref 25), some (.int (nI (28 + k))), some (.int 0), some (.int ((nI i) + 1)), none]) dX7_contract_54 rfl rfl rfl ?_
              refine am_goto (I := iX7_contract) (pc := 57) (tgt := 24) dX7_contract_57 (by decide) ?_
              exact am_same rfl (by rw [nI_1, cbi_s, bI_0 c33, Bool.false_and]; rfl) rfl rfl rfl rfl (ih24 (i + 1) (by omega) (by omega))
            · refine am_aload_n (I := iX7_contract) (pc := 36) dX7_contract_36 rfl rfl ?_
              refine am_getf (I := iX7_contract) (pc := 37) lf_X7_7 dX7_contract_37 md_25 rfl ?_
              refine am_iload_n (I := iX7_contract) (pc := 40) dX7_contract_40 rfl rfl ?_
              refine am_iaload (I := iX7_contract) (pc := 41) dX7_contract_41 md_26 rfl (vp_in_nI (show i < 80 by omega) (by decide)) ?_
              rw [nI_clamp (show i < 2 ^ 31 by omega)]
              refine am_callS (I := iX7_contract) (pc := 42) (st := []) lv_X7_75 rfl (q_isLetter (a26 i)) dX7_contract_42 rfl (Nat.le_of_ble_eq_true rfl) ⟨Nat.le_of_ble_eq_true rfl, Nat.le_of_ble_eq_true rfl⟩ (Nat.le_of_ble_eq_true rfl) (Nat.le_of_ble_eq_true rfl) rfl (fun v9 T9 z9 _ => ?_) (fun _ _ h9 => h9.elim)
              obtain ⟨rfl, rfl⟩ := z9
              show am_W _ _ _ _ _ _ _ _ _ _ _ _ _ _ _ 45 [some (.ref 25), some (.int (nI (28 + k))), some (.int (bI (cbi a26 n i))), some (.int (nI i)), none] [.int (bI (isl (a26 i)))] (mdS S th (nI n) wd ln sq st ct cl ft zn a26 a27 a28 a29 a30 a31 a32 a33 a34 a35 a36 (fun k => nI (sz k)) a38 a39 a40 a41 a42 a43 a44) 0 0
              refine am_if_eq (I := iX7_contract) (pc := 45) (tgt := 52) dX7_contract_45 (by decide) (fun c45 => ?_) (fun c45 => ?_)
              · refine am_iconst (I := iX7_contract) (pc := 52) (x := 0) dX7_contract_52 (by decide) ?_
                refine am_istore_n (I := iX7_contract) (pc := 53) (L' := [some (.ref 25), some (.int (nI (28 + k))), some (.int 0), some (.int (nI i)), none]) dX7_contract_53 rfl (by decide) rfl ?_
                refine am_iinc (I := iX7_contract) (pc := 54) (y := ((nI i) + 1)) (L' := [some (.ref 25), some (.int (nI (28 + k))), some (.int 0), some (.int ((nI i) + 1)), none]) dX7_contract_54 rfl rfl rfl ?_
                refine am_goto (I := iX7_contract) (pc := 57) (tgt := 24) dX7_contract_57 (by decide) ?_
                exact am_same rfl (by rw [nI_1, cbi_s, bI_0 c45, Bool.and_false]; rfl) rfl rfl rfl rfl (ih24 (i + 1) (by omega) (by omega))
              · refine am_iconst (I := iX7_contract) (pc := 48) (x := 1) dX7_contract_48 (by decide) ?_
                refine am_goto (I := iX7_contract) (pc := 49) (tgt := 53) dX7_contract_49 (by decide) ?_
                refine am_istore_n (I := iX7_contract) (pc := 53) (L' := [some (.ref 25), some (.int (nI (28 + k))), some (.int 1), some (.int (nI i)), none]) dX7_contract_53 rfl (by decide) rfl ?_
                refine am_iinc (I := iX7_contract) (pc := 54) (y := ((nI i) + 1)) (L' := [some (.ref 25), some (.int (nI (28 + k))), some (.int 1), some (.int ((nI i) + 1)), none]) dX7_contract_54 rfl rfl rfl ?_
                refine am_goto (I := iX7_contract) (pc := 57) (tgt := 24) dX7_contract_57 (by decide) ?_
                exact am_same rfl (by rw [nI_1, cbi_s, bI_1 c33, bI_1 c45]; rfl) rfl rfl rfl rfl (ih24 (i + 1) (by omega) (by omega))
      exact am_same rfl (by rw [cbi_0, decide_eq_true (show 2 ≤ n by rcases Nat.lt_or_ge n 2 with q9 | q9; exact absurd (nI_lt (b := 2) q9 (by decide)) c5; exact q9), Bool.true_and, decide_eq_false (fun q9 => nI_nlt (a := 5) q9 (by decide) c13)]; rfl) rfl rfl rfl rfl (loop24 _ 0 (Nat.lt_succ_self _) (Nat.zero_le _))
    · refine am_iconst (I := iX7_contract) (pc := 16) (x := 1) dX7_contract_16 (by decide) ?_
      refine am_goto (I := iX7_contract) (pc := 17) (tgt := 21) dX7_contract_17 (by decide) ?_
      refine am_istore_n (I := iX7_contract) (pc := 21) (L' := [some (.ref 25), some (.int (nI (28 + k))), some (.int 1), none, none]) dX7_contract_21 rfl (by decide) rfl ?_
      refine am_iconst (I := iX7_contract) (pc := 22) (x := 0) dX7_contract_22 (by decide) ?_
      refine am_istore_n (I := iX7_contract) (pc := 23) (L' := [some (.ref 25), some (.int (nI (28 + k))), some (.int 1), some (.int 0), none]) dX7_contract_23 rfl (by decide) rfl ?_
      have loop24 : ∀ (k24 : Nat) (i : Nat), n - i < k24 → (i ≤ n) → am_W K iX7_contract xp l xe (am_room 2 0 0) xs xm xa xb xt xc (mdS S th (nI n) wd ln sq st ct cl ft zn a26 a27 a28 a29 a30 a31 a32 a33 a34 a35 a36 (fun k => nI (sz k)) a38 a39 a40 a41 a42 a43 a44) ad0 (am_E K ad0 (mdS S th (nI n) wd ln sq st ct cl ft zn a26 a27 a28 a29 a30 a31 a32 a33 a34 a35 a36 (fun k => nI (sz k)) a38 a39 a40 a41 a42 a43 a44) (fun v S' => v = some (.int (0)) ∧ mdS S 0 (nI n) wd ln sq st ct cl ft zn a26 a27 a28 a29 a30 a31 a32 a33 a34 a35 a36 (fun k => nI (sz k)) a38 a39 a40 a41 a42 a43 a44 = S') (fun _ _ => False) xb xa xs 0 0) 24 [some (.ref 25), some (.int (nI (28 + k))), some (.int (bI (cbi a26 n i))), some (.int (nI i)), none] [] (mdS S th (nI n) wd ln sq st ct cl ft zn a26 a27 a28 a29 a30 a31 a32 a33 a34 a35 a36 (fun k => nI (sz k)) a38 a39 a40 a41 a42 a43 a44) 0 0 := by
        intro k24
        induction k24 with
        | zero => intro i h9; exact absurd h9 (Nat.not_lt_zero _)
        | succ k24 ih24 =>
          intro i hm24 hi
          refine am_iload_n (I := iX7_contract) (pc := 24) dX7_contract_24 rfl rfl ?_
          refine am_aload_n (I := iX7_contract) (pc := 25) dX7_contract_25 rfl rfl ?_
          refine am_getf (I := iX7_contract) (pc := 26) lf_X7_72 dX7_contract_26 md_25 rfl ?_
          refine am_icmp_ge (I := iX7_contract) (pc := 29) (tgt := 60) dX7_contract_29 (by decide) (fun c29 => ?_) (fun c29 => ?_)
          · have g29 : n ≤ i := by
              rcases Nat.lt_or_ge i n with q9 | q9
              · exact absurd c29 (nI_ge (a := i) (b := n) q9 (by omega))
              · exact q9
            have ein : i = n := by omega
            rw [ein, cbi_n, hb]
            show am_W _ _ _ _ _ _ _ _ _ _ _ _ _ _ _ 60 [some (.ref 25), some (.int (nI (28 + k))), some (.int 1), some (.int (nI n)), none] [] _ _ _
            refine am_aload_n (I := iX7_contract) (pc := 60) dX7_contract_60 rfl rfl ?_
            refine am_iload_n (I := iX7_contract) (pc := 61) dX7_contract_61 rfl rfl ?_
            refine am_iload_n (I := iX7_contract) (pc := 62) dX7_contract_62 rfl rfl ?_
            refine am_bipush (I := iX7_contract) (pc := 63) (x := 28) dX7_contract_63 (by decide) ?_
            refine am_icmp_lt (I := iX7_contract) (pc := 65) (tgt := 78) dX7_contract_65 (by decide) (fun c65 => ?_) (fun c65 => ?_)
            · exact absurd c65 (nI_nlt (a := 28 + k) (b := 28) (by omega) (by omega))
            · refine am_iload_n (I := iX7_contract) (pc := 68) dX7_contract_68 rfl rfl ?_
              refine am_bipush (I := iX7_contract) (pc := 69) (x := 63) dX7_contract_69 (by decide) ?_
              refine am_icmp_gt (I := iX7_contract) (pc := 71) (tgt := 78) dX7_contract_71 (by decide) (fun c71 => ?_) (fun c71 => ?_)
              · exact absurd c71 (nI_nlt (a := 63) (b := 28 + k) (by omega) (by decide))
              · refine am_iconst (I := iX7_contract) (pc := 74) (x := 1) dX7_contract_74 (by decide) ?_
                refine am_goto (I := iX7_contract) (pc := 75) (tgt := 79) dX7_contract_75 (by decide) ?_
                refine am_callV (I := iX7_contract) (pc := 79) (st := []) lv_X7_79 (q_goes0) dX7_contract_79 md_25 rfl (Nat.le_of_ble_eq_true rfl) ⟨Nat.le_of_ble_eq_true rfl, Nat.le_of_ble_eq_true rfl⟩ (Nat.le_of_ble_eq_true rfl) (Nat.le_of_ble_eq_true rfl) rfl (fun v9 T9 z9 _ => ?_) (fun _ _ h9 => h9.elim)
                obtain ⟨rfl, rfl⟩ := z9
                show am_W _ _ _ _ _ _ _ _ _ _ _ _ _ _ _ 82 [some (.ref 25), some (.int (nI (28 + k))), some (.int 1), some (.int (nI n)), none] [.int 1] (mdS S 0 (nI n) wd ln sq st ct cl ft zn a26 a27 a28 a29 a30 a31 a32 a33 a34 a35 a36 (fun k => nI (sz k)) a38 a39 a40 a41 a42 a43 a44) 0 0
                refine am_if_ne (I := iX7_contract) (pc := 82) (tgt := 87) dX7_contract_82 (by decide) (fun c82 => ?_) (fun c82 => ?_)
                · refine am_aload_n (I := iX7_contract) (pc := 87) dX7_contract_87 rfl rfl ?_
                  refine am_getf (I := iX7_contract) (pc := 88) lf_X7_43 dX7_contract_88 md_25 rfl ?_
                  refine am_iload_n (I := iX7_contract) (pc := 91) dX7_contract_91 rfl rfl ?_
                  refine am_bipush (I := iX7_contract) (pc := 92) (x := 28) dX7_contract_92 (by decide) ?_
                  refine am_isub (I := iX7_contract) (pc := 94) dX7_contract_94 ?_
                  rw [ix28]
                  refine am_iaload (I := iX7_contract) (pc := 95) dX7_contract_95 md_37 rfl (vp_in_nI hk (by decide)) ?_
                  rw [nI_clamp (show k < 2 ^ 31 by omega)]
                  refine am_if_le (I := iX7_contract) (pc := 96) (tgt := 103) dX7_contract_96 (by decide) (fun c96 => ?_) (fun c96 => ?_)
                  · refine am_iconst (I := iX7_contract) (pc := 103) (x := 0) dX7_contract_103 (by decide) ?_
                    refine am_istore_n (I := iX7_contract) (pc := 104) (L' := [some (.ref 25), some (.int (nI (28 + k))), some (.int 1), some (.int 0), none]) dX7_contract_104 rfl (by decide) rfl ?_
                    refine am_iconst (I := iX7_contract) (pc := 105) (x := 0) dX7_contract_105 (by decide) ?_
                    refine am_istore (I := iX7_contract) (pc := 106) (L' := [some (.ref 25), some (.int (nI (28 + k))), some (.int 1), some (.int 0), some (.int 0)]) dX7_contract_106 (by decide) rfl ?_
                    have loop108 : ∀ (k108 : Nat) (i : Nat), 36 - i < k108 → (i ≤ 36) → am_W K iX7_contract xp l xe (am_room 2 0 0) xs xm xa xb xt xc (mdS S th (nI n) wd ln sq st ct cl ft zn a26 a27 a28 a29 a30 a31 a32 a33 a34 a35 a36 (fun k => nI (sz k)) a38 a39 a40 a41 a42 a43 a44) ad0 (am_E K ad0 (mdS S th (nI n) wd ln sq st ct cl ft zn a26 a27 a28 a29 a30 a31 a32 a33 a34 a35 a36 (fun k => nI (sz k)) a38 a39 a40 a41 a42 a43 a44) (fun v S' => v = some (.int (0)) ∧ mdS S 0 (nI n) wd ln sq st ct cl ft zn a26 a27 a28 a29 a30 a31 a32 a33 a34 a35 a36 (fun k => nI (sz k)) a38 a39 a40 a41 a42 a43 a44 = S') (fun _ _ => False) xb xa xs 0 0) 108 [some (.ref 25), some (.int (nI (28 + k))), some (.int 1), some (.int (bI (apd sz lt a26 n k i))), some (.int (nI i))] [] (mdS S 0 (nI n) wd ln sq st ct cl ft zn a26 a27 a28 a29 a30 a31 a32 a33 a34 a35 a36 (fun k => nI (sz k)) a38 a39 a40 a41 a42 a43 a44) 0 0 := by
                      intro k108
                      induction k108 with
                      | zero => intro i h9; exact absurd h9 (Nat.not_lt_zero _)
                      | succ k108 ih108 =>
                        intro i hm108 hi
                        refine am_iload (I := iX7_contract) (pc := 108) dX7_contract_108 rfl ?_
                        refine am_bipush (I := iX7_contract) (pc := 110) (x := 36) dX7_contract_110 (by decide) ?_
                        refine am_icmp_ge (I := iX7_contract) (pc := 112) (tgt := 140) dX7_contract_112 (by decide) (fun c112 => ?_) (fun c112 => ?_)
                        · have g112 : 36 ≤ i := by
                            rcases Nat.lt_or_ge i 36 with q9 | q9
                            · exact absurd c112 (nI_ge (a := i) (b := 36) q9 (by omega))
                            · exact q9
                          have ei : i = 36 := by omega
                          rw [ei, hd]
                          show am_W _ _ _ _ _ _ _ _ _ _ _ _ _ _ _ 140 [some (.ref 25), some (.int (nI (28 + k))), some (.int 1), some (.int 1), some (.int (nI 36))] [] _ _ _
                          refine am_iload_n (I := iX7_contract) (pc := 140) dX7_contract_140 rfl rfl ?_
                          refine am_if_eq (I := iX7_contract) (pc := 141) (tgt := 146) dX7_contract_141 (by decide) (fun c141 => ?_) (fun c141 => ?_)
                          · exact absurd c141 (by decide)
                          · refine am_iconst (I := iX7_contract) (pc := 144) (x := 0) dX7_contract_144 (by decide) ?_
                            exact am_zret (I := iX7_contract) (pc := 145) dX7_contract_145 rfl (by decide) (Nat.le_refl _) (Nat.le_refl _) (⟨rfl, rfl⟩)
                        · have l112 : i < 36 := by
                            rcases Nat.lt_or_ge i 36 with q9 | q9
                            · exact q9
                            · exact absurd (nI_le (a := 36) (b := i) q9 (by omega)) c112
                          refine am_iload_n (I := iX7_contract) (pc := 115) dX7_contract_115 rfl rfl ?_
                          refine am_if_ne (I := iX7_contract) (pc := 116) (tgt := 128) dX7_contract_116 (by decide) (fun c116 => ?_) (fun c116 => ?_)
                          · refine am_iconst (I := iX7_contract) (pc := 128) (x := 1) dX7_contract_128 (by decide) ?_
                            refine am_goto (I := iX7_contract) (pc := 129) (tgt := 133) dX7_contract_129 (by decide) ?_
                            refine am_istore_n (I := iX7_contract) (pc := 133) (L' := [some (.ref 25), some (.int (nI (28 + k))), some (.int 1), some (.int 1), some (.int (nI i))]) dX7_contract_133 rfl (by decide) rfl ?_
                            refine am_iinc (I := iX7_contract) (pc := 134) (y := ((nI i) + 1)) (L' := [some (.ref 25), some (.int (nI (28 + k))), some (.int 1), some (.int 1), some (.int ((nI i) + 1))]) dX7_contract_134 rfl rfl rfl ?_
                            refine am_goto (I := iX7_contract) (pc := 137) (tgt := 108) dX7_contract_137 (by decide) ?_
                            exact am_same rfl (by rw [nI_1, apd, bI_1 c116, Bool.true_or]; rfl) rfl rfl rfl rfl (ih108 (i + 1) (by omega) (by omega))
                          · refine am_aload_n (I := iX7_contract) (pc := 119) dX7_contract_119 rfl rfl ?_
                            refine am_iload (I := iX7_contract) (pc := 120) dX7_contract_120 rfl ?_
                            refine am_callV (I := iX7_contract) (pc := 122) (st := []) lv_X7_122 (q_isPad sz lt n i h5 hl hn (by omega)) dX7_contract_122 md_25 rfl (Nat.le_of_ble_eq_true rfl) ⟨Nat.le_of_ble_eq_true rfl, Nat.le_of_ble_eq_true rfl⟩ (Nat.le_of_ble_eq_true rfl) (Nat.le_of_ble_eq_true rfl) rfl (fun v9 T9 z9 _ => ?_) (fun _ _ h9 => h9.elim)
                            obtain ⟨rfl, rfl⟩ := z9
                            show am_W _ _ _ _ _ _ _ _ _ _ _ _ _ _ _ 125 [some (.ref 25), some (.int (nI (28 + k))), some (.int 1), some (.int (bI (apd sz lt a26 n k i))), some (.int (nI i))] [.int (bI (ipd sz lt a26 n i n))] (mdS S 0 (nI n) wd ln sq st ct cl ft zn a26 a27 a28 a29 a30 a31 a32 a33 a34 a35 a36 (fun k => nI (sz k)) a38 a39 a40 a41 a42 a43 a44) 0 0
                            refine am_if_eq (I := iX7_contract) (pc := 125) (tgt := 132) dX7_contract_125 (by decide) (fun c125 => ?_) (fun c125 => ?_)
                            · refine am_iconst (I := iX7_contract) (pc := 132) (x := 0) dX7_contract_132 (by decide) ?_
                              refine am_istore_n (I := iX7_contract) (pc := 133) (L' := [some (.ref 25), some (.int (nI (28 + k))), some (.int 1), some (.int 0), some (.int (nI i))]) dX7_contract_133 rfl (by decide) rfl ?_
                              refine am_iinc (I := iX7_contract) (pc := 134) (y := ((nI i) + 1)) (L' := [some (.ref 25), some (.int (nI (28 + k))), some (.int 1), some (.int 0), some (.int ((nI i) + 1))]) dX7_contract_134 rfl rfl rfl ?_
                              refine am_goto (I := iX7_contract) (pc := 137) (tgt := 108) dX7_contract_137 (by decide) ?_
                              exact am_same rfl (by rw [nI_1, apd, bI_0 c116, bI_0 c125]; rfl) rfl rfl rfl rfl (ih108 (i + 1) (by omega) (by omega))
                            · refine am_iconst (I := iX7_contract) (pc := 128) (x := 1) dX7_contract_128 (by decide) ?_
                              refine am_goto (I := iX7_contract) (pc := 129) (tgt := 133) dX7_contract_129 (by decide) ?_
                              refine am_istore_n (I := iX7_contract) (pc := 133) (L' := [some (.ref 25), some (.int (nI (28 + k))), some (.int 1), some (.int 1), some (.int (nI i))]) dX7_contract_133 rfl (by decide) rfl ?_
                              refine am_iinc (I := iX7_contract) (pc := 134) (y := ((nI i) + 1)) (L' := [some (.ref 25), some (.int (nI (28 + k))), some (.int 1), some (.int 1), some (.int ((nI i) + 1))]) dX7_contract_134 rfl rfl rfl ?_
                              refine am_goto (I := iX7_contract) (pc := 137) (tgt := 108) dX7_contract_137 (by decide) ?_
                              exact am_same rfl (by rw [nI_1, apd, bI_1 c125, Bool.or_true]; rfl) rfl rfl rfl rfl (ih108 (i + 1) (by omega) (by omega))
                    exact am_same rfl (by rw [apd, decide_eq_false (fun q9 => nI_nle q9 (by have := h5 k; omega) c96)]; rfl) rfl rfl rfl rfl (loop108 _ 0 (Nat.lt_succ_self _) (Nat.zero_le _))
                  · refine am_iconst (I := iX7_contract) (pc := 99) (x := 1) dX7_contract_99 (by decide) ?_
                    refine am_goto (I := iX7_contract) (pc := 100) (tgt := 104) dX7_contract_100 (by decide) ?_
                    refine am_istore_n (I := iX7_contract) (pc := 104) (L' := [some (.ref 25), some (.int (nI (28 + k))), some (.int 1), some (.int 1), none]) dX7_contract_104 rfl (by decide) rfl ?_
                    refine am_iconst (I := iX7_contract) (pc := 105) (x := 0) dX7_contract_105 (by decide) ?_
                    refine am_istore (I := iX7_contract) (pc := 106) (L' := [some (.ref 25), some (.int (nI (28 + k))), some (.int 1), some (.int 1), some (.int 0)]) dX7_contract_106 (by decide) rfl ?_
                    have loop108 : ∀ (k108 : Nat) (i : Nat), 36 - i < k108 → (i ≤ 36) → am_W K iX7_contract xp l xe (am_room 2 0 0) xs xm xa xb xt xc (mdS S th (nI n) wd ln sq st ct cl ft zn a26 a27 a28 a29 a30 a31 a32 a33 a34 a35 a36 (fun k => nI (sz k)) a38 a39 a40 a41 a42 a43 a44) ad0 (am_E K ad0 (mdS S th (nI n) wd ln sq st ct cl ft zn a26 a27 a28 a29 a30 a31 a32 a33 a34 a35 a36 (fun k => nI (sz k)) a38 a39 a40 a41 a42 a43 a44) (fun v S' => v = some (.int (0)) ∧ mdS S 0 (nI n) wd ln sq st ct cl ft zn a26 a27 a28 a29 a30 a31 a32 a33 a34 a35 a36 (fun k => nI (sz k)) a38 a39 a40 a41 a42 a43 a44 = S') (fun _ _ => False) xb xa xs 0 0) 108 [some (.ref 25), some (.int (nI (28 + k))), some (.int 1), some (.int (bI (apd sz lt a26 n k i))), some (.int (nI i))] [] (mdS S 0 (nI n) wd ln sq st ct cl ft zn a26 a27 a28 a29 a30 a31 a32 a33 a34 a35 a36 (fun k => nI (sz k)) a38 a39 a40 a41 a42 a43 a44) 0 0 := by
                      intro k108
                      induction k108 with
                      | zero => intro i h9; exact absurd h9 (Nat.not_lt_zero _)
                      | succ k108 ih108 =>
                        intro i hm108 hi
                        refine am_iload (I := iX7_contract) (pc := 108) dX7_contract_108 rfl ?_
                        refine am_bipush (I := iX7_contract) (pc := 110) (x := 36) dX7_contract_110 (by decide) ?_
                        refine am_icmp_ge (I := iX7_contract) (pc := 112) (tgt := 140) dX7_contract_112 (by decide) (fun c112 => ?_) (fun c112 => ?_)
                        · have g112 : 36 ≤ i := by
                            rcases Nat.lt_or_ge i 36 with q9 | q9
                            · exact absurd c112 (nI_ge (a := i) (b := 36) q9 (by omega))
                            · exact q9
                          have ei : i = 36 := by omega
                          rw [ei, hd]
                          show am_W _ _ _ _ _ _ _ _ _ _ _ _ _ _ _ 140 [some (.ref 25), some (.int (nI (28 + k))), some (.int 1), some (.int 1), some (.int (nI 36))] [] _ _ _
                          refine am_iload_n (I := iX7_contract) (pc := 140) dX7_contract_140 rfl rfl ?_
                          refine am_if_eq (I := iX7_contract) (pc := 141) (tgt := 146) dX7_contract_141 (by decide) (fun c141 => ?_) (fun c141 => ?_)
                          · exact absurd c141 (by decide)
                          · refine am_iconst (I := iX7_contract) (pc := 144) (x := 0) dX7_contract_144 (by decide) ?_
                            exact am_zret (I := iX7_contract) (pc := 145) dX7_contract_145 rfl (by decide) (Nat.le_refl _) (Nat.le_refl _) (⟨rfl, rfl⟩)
                        · have l112 : i < 36 := by
                            rcases Nat.lt_or_ge i 36 with q9 | q9
                            · exact q9
                            · exact absurd (nI_le (a := 36) (b := i) q9 (by omega)) c112
                          refine am_iload_n (I := iX7_contract) (pc := 115) dX7_contract_115 rfl rfl ?_
                          refine am_if_ne (I := iX7_contract) (pc := 116) (tgt := 128) dX7_contract_116 (by decide) (fun c116 => ?_) (fun c116 => ?_)
                          · refine am_iconst (I := iX7_contract) (pc := 128) (x := 1) dX7_contract_128 (by decide) ?_
                            refine am_goto (I := iX7_contract) (pc := 129) (tgt := 133) dX7_contract_129 (by decide) ?_
                            refine am_istore_n (I := iX7_contract) (pc := 133) (L' := [some (.ref 25), some (.int (nI (28 + k))), some (.int 1), some (.int 1), some (.int (nI i))]) dX7_contract_133 rfl (by decide) rfl ?_
                            refine am_iinc (I := iX7_contract) (pc := 134) (y := ((nI i) + 1)) (L' := [some (.ref 25), some (.int (nI (28 + k))), some (.int 1), some (.int 1), some (.int ((nI i) + 1))]) dX7_contract_134 rfl rfl rfl ?_
                            refine am_goto (I := iX7_contract) (pc := 137) (tgt := 108) dX7_contract_137 (by decide) ?_
                            exact am_same rfl (by rw [nI_1, apd, bI_1 c116, Bool.true_or]; rfl) rfl rfl rfl rfl (ih108 (i + 1) (by omega) (by omega))
                          · refine am_aload_n (I := iX7_contract) (pc := 119) dX7_contract_119 rfl rfl ?_
                            refine am_iload (I := iX7_contract) (pc := 120) dX7_contract_120 rfl ?_
                            refine am_callV (I := iX7_contract) (pc := 122) (st := []) lv_X7_122 (q_isPad sz lt n i h5 hl hn (by omega)) dX7_contract_122 md_25 rfl (Nat.le_of_ble_eq_true rfl) ⟨Nat.le_of_ble_eq_true rfl, Nat.le_of_ble_eq_true rfl⟩ (Nat.le_of_ble_eq_true rfl) (Nat.le_of_ble_eq_true rfl) rfl (fun v9 T9 z9 _ => ?_) (fun _ _ h9 => h9.elim)
                            obtain ⟨rfl, rfl⟩ := z9
                            show am_W _ _ _ _ _ _ _ _ _ _ _ _ _ _ _ 125 [some (.ref 25), some (.int (nI (28 + k))), some (.int 1), some (.int (bI (apd sz lt a26 n k i))), some (.int (nI i))] [.int (bI (ipd sz lt a26 n i n))] (mdS S 0 (nI n) wd ln sq st ct cl ft zn a26 a27 a28 a29 a30 a31 a32 a33 a34 a35 a36 (fun k => nI (sz k)) a38 a39 a40 a41 a42 a43 a44) 0 0
                            refine am_if_eq (I := iX7_contract) (pc := 125) (tgt := 132) dX7_contract_125 (by decide) (fun c125 => ?_) (fun c125 => ?_)
                            · refine am_iconst (I := iX7_contract) (pc := 132) (x := 0) dX7_contract_132 (by decide) ?_
                              refine am_istore_n (I := iX7_contract) (pc := 133) (L' := [some (.ref 25), some (.int (nI (28 + k))), some (.int 1), some (.int 0), some (.int (nI i))]) dX7_contract_133 rfl (by decide) rfl ?_
                              refine am_iinc (I := iX7_contract) (pc := 134) (y := ((nI i) + 1)) (L' := [some (.ref 25), some (.int (nI (28 + k))), some (.int 1), some (.int 0), some (.int ((nI i) + 1))]) dX7_contract_134 rfl rfl rfl ?_
                              refine am_goto (I := iX7_contract) (pc := 137) (tgt := 108) dX7_contract_137 (by decide) ?_
                              exact am_same rfl (by rw [nI_1, apd, bI_0 c116, bI_0 c125]; rfl) rfl rfl rfl rfl (ih108 (i + 1) (by omega) (by omega))
                            · refine am_iconst (I := iX7_contract) (pc := 128) (x := 1) dX7_contract_128 (by decide) ?_
                              refine am_goto (I := iX7_contract) (pc := 129) (tgt := 133) dX7_contract_129 (by decide) ?_
                              refine am_istore_n (I := iX7_contract) (pc := 133) (L' := [some (.ref 25), some (.int (nI (28 + k))), some (.int 1), some (.int 1), some (.int (nI i))]) dX7_contract_133 rfl (by decide) rfl ?_
                              refine am_iinc (I := iX7_contract) (pc := 134) (y := ((nI i) + 1)) (L' := [some (.ref 25), some (.int (nI (28 + k))), some (.int 1), some (.int 1), some (.int ((nI i) + 1))]) dX7_contract_134 rfl rfl rfl ?_
                              refine am_goto (I := iX7_contract) (pc := 137) (tgt := 108) dX7_contract_137 (by decide) ?_
                              exact am_same rfl (by rw [nI_1, apd, bI_1 c125, Bool.or_true]; rfl) rfl rfl rfl rfl (ih108 (i + 1) (by omega) (by omega))
                    exact am_same rfl (by rw [apd, decide_eq_true (Nat.pos_of_ne_zero (fun e9 => c96 (by rw [e9]; decide)))]; rfl) rfl rfl rfl rfl (loop108 _ 0 (Nat.lt_succ_self _) (Nat.zero_le _))
                · exact absurd c82 (by decide)
          · have l29 : i < n := by
              rcases Nat.lt_or_ge i n with q9 | q9
              · exact q9
              · exact absurd (nI_le (a := n) (b := i) q9 (by omega)) c29
            refine am_iload_n (I := iX7_contract) (pc := 32) dX7_contract_32 rfl rfl ?_
            refine am_if_eq (I := iX7_contract) (pc := 33) (tgt := 52) dX7_contract_33 (by decide) (fun c33 => ?_) (fun c33 => ?_)
            · refine am_iconst (I := iX7_contract) (pc := 52) (x := 0) dX7_contract_52 (by decide) ?_
              refine am_istore_n (I := iX7_contract) (pc := 53) (L' := [some (.ref 25), some (.int (nI (28 + k))), some (.int 0), some (.int (nI i)), none]) dX7_contract_53 rfl (by decide) rfl ?_
              refine am_iinc (I := iX7_contract) (pc := 54) (y := ((nI i) + 1)) (L' := [some (.ref 25), some (.int (nI (28 + k))), some (.int 0), some (.int ((nI i) + 1)), none]) dX7_contract_54 rfl rfl rfl ?_
              refine am_goto (I := iX7_contract) (pc := 57) (tgt := 24) dX7_contract_57 (by decide) ?_
              exact am_same rfl (by rw [nI_1, cbi_s, bI_0 c33, Bool.false_and]; rfl) rfl rfl rfl rfl (ih24 (i + 1) (by omega) (by omega))
            · refine am_aload_n (I := iX7_contract) (pc := 36) dX7_contract_36 rfl rfl ?_
              refine am_getf (I := iX7_contract) (pc := 37) lf_X7_7 dX7_contract_37 md_25 rfl ?_
              refine am_iload_n (I := iX7_contract) (pc := 40) dX7_contract_40 rfl rfl ?_
              refine am_iaload (I := iX7_contract) (pc := 41) dX7_contract_41 md_26 rfl (vp_in_nI (show i < 80 by omega) (by decide)) ?_
              rw [nI_clamp (show i < 2 ^ 31 by omega)]
              refine am_callS (I := iX7_contract) (pc := 42) (st := []) lv_X7_75 rfl (q_isLetter (a26 i)) dX7_contract_42 rfl (Nat.le_of_ble_eq_true rfl) ⟨Nat.le_of_ble_eq_true rfl, Nat.le_of_ble_eq_true rfl⟩ (Nat.le_of_ble_eq_true rfl) (Nat.le_of_ble_eq_true rfl) rfl (fun v9 T9 z9 _ => ?_) (fun _ _ h9 => h9.elim)
              obtain ⟨rfl, rfl⟩ := z9
              show am_W _ _ _ _ _ _ _ _ _ _ _ _ _ _ _ 45 [some (.ref 25), some (.int (nI (28 + k))), some (.int (bI (cbi a26 n i))), some (.int (nI i)), none] [.int (bI (isl (a26 i)))] (mdS S th (nI n) wd ln sq st ct cl ft zn a26 a27 a28 a29 a30 a31 a32 a33 a34 a35 a36 (fun k => nI (sz k)) a38 a39 a40 a41 a42 a43 a44) 0 0
              refine am_if_eq (I := iX7_contract) (pc := 45) (tgt := 52) dX7_contract_45 (by decide) (fun c45 => ?_) (fun c45 => ?_)
              · refine am_iconst (I := iX7_contract) (pc := 52) (x := 0) dX7_contract_52 (by decide) ?_
                refine am_istore_n (I := iX7_contract) (pc := 53) (L' := [some (.ref 25), some (.int (nI (28 + k))), some (.int 0), some (.int (nI i)), none]) dX7_contract_53 rfl (by decide) rfl ?_
                refine am_iinc (I := iX7_contract) (pc := 54) (y := ((nI i) + 1)) (L' := [some (.ref 25), some (.int (nI (28 + k))), some (.int 0), some (.int ((nI i) + 1)), none]) dX7_contract_54 rfl rfl rfl ?_
                refine am_goto (I := iX7_contract) (pc := 57) (tgt := 24) dX7_contract_57 (by decide) ?_
                exact am_same rfl (by rw [nI_1, cbi_s, bI_0 c45, Bool.and_false]; rfl) rfl rfl rfl rfl (ih24 (i + 1) (by omega) (by omega))
              · refine am_iconst (I := iX7_contract) (pc := 48) (x := 1) dX7_contract_48 (by decide) ?_
                refine am_goto (I := iX7_contract) (pc := 49) (tgt := 53) dX7_contract_49 (by decide) ?_
                refine am_istore_n (I := iX7_contract) (pc := 53) (L' := [some (.ref 25), some (.int (nI (28 + k))), some (.int 1), some (.int (nI i)), none]) dX7_contract_53 rfl (by decide) rfl ?_
                refine am_iinc (I := iX7_contract) (pc := 54) (y := ((nI i) + 1)) (L' := [some (.ref 25), some (.int (nI (28 + k))), some (.int 1), some (.int ((nI i) + 1)), none]) dX7_contract_54 rfl rfl rfl ?_
                refine am_goto (I := iX7_contract) (pc := 57) (tgt := 24) dX7_contract_57 (by decide) ?_
                exact am_same rfl (by rw [nI_1, cbi_s, bI_1 c33, bI_1 c45]; rfl) rfl rfl rfl rfl (ih24 (i + 1) (by omega) (by omega))
      exact am_same rfl (by rw [cbi_0, decide_eq_true (show 2 ≤ n by rcases Nat.lt_or_ge n 2 with q9 | q9; exact absurd (nI_lt (b := 2) q9 (by decide)) c5; exact q9), Bool.true_and, decide_eq_true (show n ≤ 5 by rcases Nat.lt_or_ge 5 n with q9 | q9; exact absurd (nI_lt (a := 5) q9 (by omega)) c13; exact q9)]; rfl) rfl rfl rfl rfl (loop24 _ 0 (Nat.lt_succ_self _) (Nat.zero_le _))
set_option maxRecDepth 100000 in
set_option maxHeartbeats 4000000 in
theorem q_contract1 {K : am_K} {l : Launch} {S : am_S} {th wd ln sq st ct cl ft zn : Int32} {a26 a27 a28 a29 a30 a31 a32 a33 a34 a35 a36 a38 a39 a40 a41 a42 a43 a44 : Nat → Int32} (sz : Nat → Nat) (lt : Nat → Nat → Int32) (n k : Nat) (h5 : ∀ k, sz k ≤ 5) (hl : ∀ k i, k < 36 → i < sz k → a38 (k * 5 + i) = lt k i) (hn : n ≤ 80) (hb : cbc a26 n = true) (hk : k < 36) (hd : apd sz lt a26 n k 36 = false) : am_M K l iX7_contract 2 0 0 [.ref 25, .int (nI (28 + k))] (mdS S th (nI n) wd ln sq st ct cl ft zn a26 a27 a28 a29 a30 a31 a32 a33 a34 a35 a36 (fun k => nI (sz k)) a38 a39 a40 a41 a42 a43 a44) (fun v S' => v = some (.int (1)) ∧ mdS S 0 0 wd ln sq st (ct + 1) cl ft zn a26 a27 a28 a29 a30 a31 a32 a33 a34 a35 a36 (fun j => nI (va_up sz k n j)) (rcat a38 (k * 5) a26 n) a39 a40 a41 a42 a43 a44 = S') (fun _ _ => False) := by
  refine am_body (by decide) rfl (by simp [Value.category]) (Nat.le_of_ble_eq_true rfl) (fun xp xe xs xm xa xb xt xc ad0 => ?_)
  show am_W _ _ _ _ _ _ _ _ _ _ _ _ _ _ _ 0 [some (.ref 25), some (.int (nI (28 + k))), none, none, none] [] (mdS S th (nI n) wd ln sq st ct cl ft zn a26 a27 a28 a29 a30 a31 a32 a33 a34 a35 a36 (fun k => nI (sz k)) a38 a39 a40 a41 a42 a43 a44) 0 0
  refine am_aload_n (I := iX7_contract) (pc := 0) dX7_contract_0 rfl rfl ?_
  refine am_getf (I := iX7_contract) (pc := 1) lf_X7_72 dX7_contract_1 md_25 rfl ?_
  refine am_iconst (I := iX7_contract) (pc := 4) (x := 2) dX7_contract_4 (by decide) ?_
  refine am_icmp_lt (I := iX7_contract) (pc := 5) (tgt := 20) dX7_contract_5 (by decide) (fun c5 => ?_) (fun c5 => ?_)
  · refine am_iconst (I := iX7_contract) (pc := 20) (x := 0) dX7_contract_20 (by decide) ?_
    refine am_istore_n (I := iX7_contract) (pc := 21) (L' := [some (.ref 25), some (.int (nI (28 + k))), some (.int 0), none, none]) dX7_contract_21 rfl (by decide) rfl ?_
    refine am_iconst (I := iX7_contract) (pc := 22) (x := 0) dX7_contract_22 (by decide) ?_
    refine am_istore_n (I := iX7_contract) (pc := 23) (L' := [some (.ref 25), some (.int (nI (28 + k))), some (.int 0), some (.int 0), none]) dX7_contract_23 rfl (by decide) rfl ?_
    have loop24 : ∀ (k24 : Nat) (i : Nat), n - i < k24 → (i ≤ n) → am_W K iX7_contract xp l xe (am_room 2 0 0) xs xm xa xb xt xc (mdS S th (nI n) wd ln sq st ct cl ft zn a26 a27 a28 a29 a30 a31 a32 a33 a34 a35 a36 (fun k => nI (sz k)) a38 a39 a40 a41 a42 a43 a44) ad0 (am_E K ad0 (mdS S th (nI n) wd ln sq st ct cl ft zn a26 a27 a28 a29 a30 a31 a32 a33 a34 a35 a36 (fun k => nI (sz k)) a38 a39 a40 a41 a42 a43 a44) (fun v S' => v = some (.int (1)) ∧ mdS S 0 0 wd ln sq st (ct + 1) cl ft zn a26 a27 a28 a29 a30 a31 a32 a33 a34 a35 a36 (fun j => nI (va_up sz k n j)) (rcat a38 (k * 5) a26 n) a39 a40 a41 a42 a43 a44 = S') (fun _ _ => False) xb xa xs 0 0) 24 [some (.ref 25), some (.int (nI (28 + k))), some (.int (bI (cbi a26 n i))), some (.int (nI i)), none] [] (mdS S th (nI n) wd ln sq st ct cl ft zn a26 a27 a28 a29 a30 a31 a32 a33 a34 a35 a36 (fun k => nI (sz k)) a38 a39 a40 a41 a42 a43 a44) 0 0 := by
      intro k24
      induction k24 with
      | zero => intro i h9; exact absurd h9 (Nat.not_lt_zero _)
      | succ k24 ih24 =>
        intro i hm24 hi
        refine am_iload_n (I := iX7_contract) (pc := 24) dX7_contract_24 rfl rfl ?_
        refine am_aload_n (I := iX7_contract) (pc := 25) dX7_contract_25 rfl rfl ?_
        refine am_getf (I := iX7_contract) (pc := 26) lf_X7_72 dX7_contract_26 md_25 rfl ?_
        refine am_icmp_ge (I := iX7_contract) (pc := 29) (tgt := 60) dX7_contract_29 (by decide) (fun c29 => ?_) (fun c29 => ?_)
        · have g29 : n ≤ i := by
            rcases Nat.lt_or_ge i n with q9 | q9
            · exact absurd c29 (nI_ge (a := i) (b := n) q9 (by omega))
            · exact q9
          have ein : i = n := by omega
          rw [ein, cbi_n, hb]
          show am_W _ _ _ _ _ _ _ _ _ _ _ _ _ _ _ 60 [some (.ref 25), some (.int (nI (28 + k))), some (.int 1), some (.int (nI n)), none] [] _ _ _
          refine am_aload_n (I := iX7_contract) (pc := 60) dX7_contract_60 rfl rfl ?_
          refine am_iload_n (I := iX7_contract) (pc := 61) dX7_contract_61 rfl rfl ?_
          refine am_iload_n (I := iX7_contract) (pc := 62) dX7_contract_62 rfl rfl ?_
          refine am_bipush (I := iX7_contract) (pc := 63) (x := 28) dX7_contract_63 (by decide) ?_
          refine am_icmp_lt (I := iX7_contract) (pc := 65) (tgt := 78) dX7_contract_65 (by decide) (fun c65 => ?_) (fun c65 => ?_)
          · exact absurd c65 (nI_nlt (a := 28 + k) (b := 28) (by omega) (by omega))
          · refine am_iload_n (I := iX7_contract) (pc := 68) dX7_contract_68 rfl rfl ?_
            refine am_bipush (I := iX7_contract) (pc := 69) (x := 63) dX7_contract_69 (by decide) ?_
            refine am_icmp_gt (I := iX7_contract) (pc := 71) (tgt := 78) dX7_contract_71 (by decide) (fun c71 => ?_) (fun c71 => ?_)
            · exact absurd c71 (nI_nlt (a := 63) (b := 28 + k) (by omega) (by decide))
            · refine am_iconst (I := iX7_contract) (pc := 74) (x := 1) dX7_contract_74 (by decide) ?_
              refine am_goto (I := iX7_contract) (pc := 75) (tgt := 79) dX7_contract_75 (by decide) ?_
              refine am_callV (I := iX7_contract) (pc := 79) (st := []) lv_X7_79 (q_goes0) dX7_contract_79 md_25 rfl (Nat.le_of_ble_eq_true rfl) ⟨Nat.le_of_ble_eq_true rfl, Nat.le_of_ble_eq_true rfl⟩ (Nat.le_of_ble_eq_true rfl) (Nat.le_of_ble_eq_true rfl) rfl (fun v9 T9 z9 _ => ?_) (fun _ _ h9 => h9.elim)
              obtain ⟨rfl, rfl⟩ := z9
              show am_W _ _ _ _ _ _ _ _ _ _ _ _ _ _ _ 82 [some (.ref 25), some (.int (nI (28 + k))), some (.int 1), some (.int (nI n)), none] [.int 1] (mdS S 0 (nI n) wd ln sq st ct cl ft zn a26 a27 a28 a29 a30 a31 a32 a33 a34 a35 a36 (fun k => nI (sz k)) a38 a39 a40 a41 a42 a43 a44) 0 0
              refine am_if_ne (I := iX7_contract) (pc := 82) (tgt := 87) dX7_contract_82 (by decide) (fun c82 => ?_) (fun c82 => ?_)
              · refine am_aload_n (I := iX7_contract) (pc := 87) dX7_contract_87 rfl rfl ?_
                refine am_getf (I := iX7_contract) (pc := 88) lf_X7_43 dX7_contract_88 md_25 rfl ?_
                refine am_iload_n (I := iX7_contract) (pc := 91) dX7_contract_91 rfl rfl ?_
                refine am_bipush (I := iX7_contract) (pc := 92) (x := 28) dX7_contract_92 (by decide) ?_
                refine am_isub (I := iX7_contract) (pc := 94) dX7_contract_94 ?_
                rw [ix28]
                refine am_iaload (I := iX7_contract) (pc := 95) dX7_contract_95 md_37 rfl (vp_in_nI hk (by decide)) ?_
                rw [nI_clamp (show k < 2 ^ 31 by omega)]
                refine am_if_le (I := iX7_contract) (pc := 96) (tgt := 103) dX7_contract_96 (by decide) (fun c96 => ?_) (fun c96 => ?_)
                · refine am_iconst (I := iX7_contract) (pc := 103) (x := 0) dX7_contract_103 (by decide) ?_
                  refine am_istore_n (I := iX7_contract) (pc := 104) (L' := [some (.ref 25), some (.int (nI (28 + k))), some (.int 1), some (.int 0), none]) dX7_contract_104 rfl (by decide) rfl ?_
                  refine am_iconst (I := iX7_contract) (pc := 105) (x := 0) dX7_contract_105 (by decide) ?_
                  refine am_istore (I := iX7_contract) (pc := 106) (L' := [some (.ref 25), some (.int (nI (28 + k))), some (.int 1), some (.int 0), some (.int 0)]) dX7_contract_106 (by decide) rfl ?_
                  have loop108 : ∀ (k108 : Nat) (i : Nat), 36 - i < k108 → (i ≤ 36) → am_W K iX7_contract xp l xe (am_room 2 0 0) xs xm xa xb xt xc (mdS S th (nI n) wd ln sq st ct cl ft zn a26 a27 a28 a29 a30 a31 a32 a33 a34 a35 a36 (fun k => nI (sz k)) a38 a39 a40 a41 a42 a43 a44) ad0 (am_E K ad0 (mdS S th (nI n) wd ln sq st ct cl ft zn a26 a27 a28 a29 a30 a31 a32 a33 a34 a35 a36 (fun k => nI (sz k)) a38 a39 a40 a41 a42 a43 a44) (fun v S' => v = some (.int (1)) ∧ mdS S 0 0 wd ln sq st (ct + 1) cl ft zn a26 a27 a28 a29 a30 a31 a32 a33 a34 a35 a36 (fun j => nI (va_up sz k n j)) (rcat a38 (k * 5) a26 n) a39 a40 a41 a42 a43 a44 = S') (fun _ _ => False) xb xa xs 0 0) 108 [some (.ref 25), some (.int (nI (28 + k))), some (.int 1), some (.int (bI (apd sz lt a26 n k i))), some (.int (nI i))] [] (mdS S 0 (nI n) wd ln sq st ct cl ft zn a26 a27 a28 a29 a30 a31 a32 a33 a34 a35 a36 (fun k => nI (sz k)) a38 a39 a40 a41 a42 a43 a44) 0 0 := by
                    intro k108
                    induction k108 with
                    | zero => intro i h9; exact absurd h9 (Nat.not_lt_zero _)
                    | succ k108 ih108 =>
                      intro i hm108 hi
                      refine am_iload (I := iX7_contract) (pc := 108) dX7_contract_108 rfl ?_
                      refine am_bipush (I := iX7_contract) (pc := 110) (x := 36) dX7_contract_110 (by decide) ?_
                      refine am_icmp_ge (I := iX7_contract) (pc := 112) (tgt := 140) dX7_contract_112 (by decide) (fun c112 => ?_) (fun c112 => ?_)
                      · have g112 : 36 ≤ i := by
                          rcases Nat.lt_or_ge i 36 with q9 | q9
                          · exact absurd c112 (nI_ge (a := i) (b := 36) q9 (by omega))
                          · exact q9
                        have ei : i = 36 := by omega
                        rw [ei, hd]
                        show am_W _ _ _ _ _ _ _ _ _ _ _ _ _ _ _ 140 [some (.ref 25), some (.int (nI (28 + k))), some (.int 1), some (.int 0), some (.int (nI 36))] [] _ _ _
                        refine am_iload_n (I := iX7_contract) (pc := 140) dX7_contract_140 rfl rfl ?_
                        refine am_if_eq (I := iX7_contract) (pc := 141) (tgt := 146) dX7_contract_141 (by decide) (fun c141 => ?_) (fun c141 => ?_)
                        · refine am_aload_n (I := iX7_contract) (pc := 146) dX7_contract_146 rfl rfl ?_
                          refine am_getf (I := iX7_contract) (pc := 147) lf_X7_43 dX7_contract_147 md_25 rfl ?_
                          refine am_iload_n (I := iX7_contract) (pc := 150) dX7_contract_150 rfl rfl ?_
                          refine am_bipush (I := iX7_contract) (pc := 151) (x := 28) dX7_contract_151 (by decide) ?_
                          refine am_isub (I := iX7_contract) (pc := 153) dX7_contract_153 ?_
                          have hn5 : n ≤ 5 := by
                            have h9 := hb
                            unfold cbc at h9
                            rw [Bool.and_eq_true, Bool.and_eq_true] at h9
                            exact of_decide_eq_true h9.1.2
                          rw [ix28]
                          refine am_aload_n (I := iX7_contract) (pc := 154) dX7_contract_154 rfl rfl ?_
                          refine am_getf (I := iX7_contract) (pc := 155) lf_X7_72 dX7_contract_155 md_25 rfl ?_
                          refine am_iastore (I := iX7_contract) (pc := 158) dX7_contract_158 md_37 rfl (vp_in_nI hk (by decide)) ?_
                          rw [nI_clamp (show k < 2 ^ 31 by omega)]
                          refine am_same (S' := mdS S 0 (nI n) wd ln sq st ct cl ft zn a26 a27 a28 a29 a30 a31 a32 a33 a34 a35 a36 (upd (fun k => nI (sz k)) k (nI n)) a38 a39 a40 a41 a42 a43 a44) rfl rfl rfl mdS_37 rfl rfl ?_
                          refine am_iconst (I := iX7_contract) (pc := 159) (x := 0) dX7_contract_159 (by decide) ?_
                          refine am_istore (I := iX7_contract) (pc := 160) (L' := [some (.ref 25), some (.int (nI (28 + k))), some (.int 1), some (.int 0), some (.int 0)]) dX7_contract_160 (by decide) rfl ?_
                          have loop162 : ∀ (k162 : Nat) (i : Nat), n - i < k162 → (i ≤ n) → am_W K iX7_contract xp l xe (am_room 2 0 0) xs xm xa xb xt xc (mdS S th (nI n) wd ln sq st ct cl ft zn a26 a27 a28 a29 a30 a31 a32 a33 a34 a35 a36 (fun k => nI (sz k)) a38 a39 a40 a41 a42 a43 a44) ad0 (am_E K ad0 (mdS S th (nI n) wd ln sq st ct cl ft zn a26 a27 a28 a29 a30 a31 a32 a33 a34 a35 a36 (fun k => nI (sz k)) a38 a39 a40 a41 a42 a43 a44) (fun v S' => v = some (.int (1)) ∧ mdS S 0 0 wd ln sq st (ct + 1) cl ft zn a26 a27 a28 a29 a30 a31 a32 a33 a34 a35 a36 (fun j => nI (va_up sz k n j)) (rcat a38 (k * 5) a26 n) a39 a40 a41 a42 a43 a44 = S') (fun _ _ => False) xb xa xs 0 0) 162 [some (.ref 25), some (.int (nI (28 + k))), some (.int 1), some (.int 0), some (.int (nI i))] [] (mdS S 0 (nI n) wd ln sq st ct cl ft zn a26 a27 a28 a29 a30 a31 a32 a33 a34 a35 a36 (fun j => nI (va_up sz k n j)) (rcat a38 (k * 5) a26 i) a39 a40 a41 a42 a43 a44) 0 0 := by
                            intro k162
                            induction k162 with
                            | zero => intro i h9; exact absurd h9 (Nat.not_lt_zero _)
                            | succ k162 ih162 =>
                              intro i hm162 hi
                              refine am_iload (I := iX7_contract) (pc := 162) dX7_contract_162 rfl ?_
                              refine am_aload_n (I := iX7_contract) (pc := 164) dX7_contract_164 rfl rfl ?_
                              refine am_getf (I := iX7_contract) (pc := 165) lf_X7_72 dX7_contract_165 md_25 rfl ?_
                              refine am_icmp_ge (I := iX7_contract) (pc := 168) (tgt := 198) dX7_contract_168 (by decide) (fun c168 => ?_) (fun c168 => ?_)
                              · have g168 : n ≤ i := by
                                  rcases Nat.lt_or_ge i n with q9 | q9
                                  · exact absurd c168 (nI_ge (a := i) (b := n) q9 (by omega))
                                  · exact q9
                                have eim : i = n := by omega
                                rw [eim]
                                refine am_aload_n (I := iX7_contract) (pc := 198) dX7_contract_198 rfl rfl ?_
                                refine am_iconst (I := iX7_contract) (pc := 199) (x := 0) dX7_contract_199 (by decide) ?_
                                refine am_putf (I := iX7_contract) (pc := 200) (fs' := [.int 0, .int 0, .ref 26, .ref 27, .ref 28, .ref 29, .ref 30, .int wd, .ref 31, .ref 32, .ref 33, .ref 34, .int ln, .int sq, .int st, .ref 35, .ref 36, .ref 37, .ref 38, .int ct, .int cl, .int ft, .ref 39, .int zn, .ref 40, .ref 41, .ref 42, .ref 43, .ref 44]) lf_X7_72 dX7_contract_200 md_25 (fun _ => ⟨rfl, rfl⟩) (Nat.le_of_ble_eq_true rfl) rfl ?_
                                refine am_same (S' := mdS S 0 0 wd ln sq st ct cl ft zn a26 a27 a28 a29 a30 a31 a32 a33 a34 a35 a36 (fun j => nI (va_up sz k n j)) (rcat a38 (k * 5) a26 n) a39 a40 a41 a42 a43 a44) rfl rfl rfl mdS_25 rfl rfl ?_
                                refine am_aload_n (I := iX7_contract) (pc := 203) dX7_contract_203 rfl rfl ?_
                                refine am_dup (I := iX7_contract) (pc := 204) dX7_contract_204 rfl ?_
                                refine am_getf (I := iX7_contract) (pc := 205) lf_X7_125 dX7_contract_205 md_25 rfl ?_
                                refine am_iconst (I := iX7_contract) (pc := 208) (x := 1) dX7_contract_208 (by decide) ?_
                                refine am_iadd (I := iX7_contract) (pc := 209) dX7_contract_209 ?_
                                refine am_putf (I := iX7_contract) (pc := 210) (fs' := [.int 0, .int 0, .ref 26, .ref 27, .ref 28, .ref 29, .ref 30, .int wd, .ref 31, .ref 32, .ref 33, .ref 34, .int ln, .int sq, .int st, .ref 35, .ref 36, .ref 37, .ref 38, .int (ct + 1), .int cl, .int ft, .ref 39, .int zn, .ref 40, .ref 41, .ref 42, .ref 43, .ref 44]) lf_X7_125 dX7_contract_210 md_25 (fun _ => ⟨rfl, rfl⟩) (Nat.le_of_ble_eq_true rfl) rfl ?_
                                refine am_same (S' := mdS S 0 0 wd ln sq st (ct + 1) cl ft zn a26 a27 a28 a29 a30 a31 a32 a33 a34 a35 a36 (fun j => nI (va_up sz k n j)) (rcat a38 (k * 5) a26 n) a39 a40 a41 a42 a43 a44) rfl rfl rfl mdS_25 rfl rfl ?_
                                refine am_iconst (I := iX7_contract) (pc := 213) (x := 1) dX7_contract_213 (by decide) ?_
                                exact am_zret (I := iX7_contract) (pc := 214) dX7_contract_214 rfl (by decide) (Nat.le_refl _) (Nat.le_refl _) (⟨rfl, rfl⟩)
                              · have l168 : i < n := by
                                  rcases Nat.lt_or_ge i n with q9 | q9
                                  · exact q9
                                  · exact absurd (nI_le (a := n) (b := i) q9 (by omega)) c168
                                refine am_aload_n (I := iX7_contract) (pc := 171) dX7_contract_171 rfl rfl ?_
                                refine am_getf (I := iX7_contract) (pc := 172) lf_X7_46 dX7_contract_172 md_25 rfl ?_
                                refine am_iconst (I := iX7_contract) (pc := 175) (x := 5) dX7_contract_175 (by decide) ?_
                                refine am_iload_n (I := iX7_contract) (pc := 176) dX7_contract_176 rfl rfl ?_
                                refine am_bipush (I := iX7_contract) (pc := 177) (x := 28) dX7_contract_177 (by decide) ?_
                                refine am_isub (I := iX7_contract) (pc := 179) dX7_contract_179 ?_
                                rw [ix28]
                                refine am_imul (I := iX7_contract) (pc := 180) dX7_contract_180 ?_
                                refine am_iload (I := iX7_contract) (pc := 181) dX7_contract_181 rfl ?_
                                refine am_iadd (I := iX7_contract) (pc := 183) dX7_contract_183 ?_
                                rw [ix5]
                                refine am_aload_n (I := iX7_contract) (pc := 184) dX7_contract_184 rfl rfl ?_
                                refine am_getf (I := iX7_contract) (pc := 185) lf_X7_7 dX7_contract_185 md_25 rfl ?_
                                refine am_iload (I := iX7_contract) (pc := 188) dX7_contract_188 rfl ?_
                                refine am_iaload (I := iX7_contract) (pc := 190) dX7_contract_190 md_26 rfl (vp_in_nI (show i < 80 by omega) (by decide)) ?_
                                rw [nI_clamp (show i < 2 ^ 31 by omega)]
                                refine am_iastore (I := iX7_contract) (pc := 191) dX7_contract_191 md_38 rfl (vp_in_nI (show k * 5 + i < 180 by omega) (by decide)) ?_
                                rw [nI_clamp (show k * 5 + i < 2 ^ 31 by omega)]
                                refine am_same (S' := mdS S 0 (nI n) wd ln sq st ct cl ft zn a26 a27 a28 a29 a30 a31 a32 a33 a34 a35 a36 (fun j => nI (va_up sz k n j)) (upd (rcat a38 (k * 5) a26 i) (k * 5 + i) (a26 i)) a39 a40 a41 a42 a43 a44) rfl rfl rfl mdS_38 rfl rfl ?_
                                refine am_iinc (I := iX7_contract) (pc := 192) (y := ((nI i) + 1)) (L' := [some (.ref 25), some (.int (nI (28 + k))), some (.int 1), some (.int 0), some (.int ((nI i) + 1))]) dX7_contract_192 rfl rfl rfl ?_
                                refine am_goto (I := iX7_contract) (pc := 195) (tgt := 162) dX7_contract_195 (by decide) ?_
                                exact am_same rfl (by rw [nI_1]) rfl (by rw [rcat_s]) rfl rfl (ih162 (i + 1) (by omega) (by omega))
                          exact am_same rfl (by rfl) rfl (by rw [upd_nI, rcat_0]) rfl rfl (loop162 _ 0 (Nat.lt_succ_self _) (Nat.zero_le _))
                        · exact absurd rfl c141
                      · have l112 : i < 36 := by
                          rcases Nat.lt_or_ge i 36 with q9 | q9
                          · exact q9
                          · exact absurd (nI_le (a := 36) (b := i) q9 (by omega)) c112
                        refine am_iload_n (I := iX7_contract) (pc := 115) dX7_contract_115 rfl rfl ?_
                        refine am_if_ne (I := iX7_contract) (pc := 116) (tgt := 128) dX7_contract_116 (by decide) (fun c116 => ?_) (fun c116 => ?_)
                        · refine am_iconst (I := iX7_contract) (pc := 128) (x := 1) dX7_contract_128 (by decide) ?_
                          refine am_goto (I := iX7_contract) (pc := 129) (tgt := 133) dX7_contract_129 (by decide) ?_
                          refine am_istore_n (I := iX7_contract) (pc := 133) (L' := [some (.ref 25), some (.int (nI (28 + k))), some (.int 1), some (.int 1), some (.int (nI i))]) dX7_contract_133 rfl (by decide) rfl ?_
                          refine am_iinc (I := iX7_contract) (pc := 134) (y := ((nI i) + 1)) (L' := [some (.ref 25), some (.int (nI (28 + k))), some (.int 1), some (.int 1), some (.int ((nI i) + 1))]) dX7_contract_134 rfl rfl rfl ?_
                          refine am_goto (I := iX7_contract) (pc := 137) (tgt := 108) dX7_contract_137 (by decide) ?_
                          exact am_same rfl (by rw [nI_1, apd, bI_1 c116, Bool.true_or]; rfl) rfl rfl rfl rfl (ih108 (i + 1) (by omega) (by omega))
                        · refine am_aload_n (I := iX7_contract) (pc := 119) dX7_contract_119 rfl rfl ?_
                          refine am_iload (I := iX7_contract) (pc := 120) dX7_contract_120 rfl ?_
                          refine am_callV (I := iX7_contract) (pc := 122) (st := []) lv_X7_122 (q_isPad sz lt n i h5 hl hn (by omega)) dX7_contract_122 md_25 rfl (Nat.le_of_ble_eq_true rfl) ⟨Nat.le_of_ble_eq_true rfl, Nat.le_of_ble_eq_true rfl⟩ (Nat.le_of_ble_eq_true rfl) (Nat.le_of_ble_eq_true rfl) rfl (fun v9 T9 z9 _ => ?_) (fun _ _ h9 => h9.elim)
                          obtain ⟨rfl, rfl⟩ := z9
                          show am_W _ _ _ _ _ _ _ _ _ _ _ _ _ _ _ 125 [some (.ref 25), some (.int (nI (28 + k))), some (.int 1), some (.int (bI (apd sz lt a26 n k i))), some (.int (nI i))] [.int (bI (ipd sz lt a26 n i n))] (mdS S 0 (nI n) wd ln sq st ct cl ft zn a26 a27 a28 a29 a30 a31 a32 a33 a34 a35 a36 (fun k => nI (sz k)) a38 a39 a40 a41 a42 a43 a44) 0 0
                          refine am_if_eq (I := iX7_contract) (pc := 125) (tgt := 132) dX7_contract_125 (by decide) (fun c125 => ?_) (fun c125 => ?_)
                          · refine am_iconst (I := iX7_contract) (pc := 132) (x := 0) dX7_contract_132 (by decide) ?_
                            refine am_istore_n (I := iX7_contract) (pc := 133) (L' := [some (.ref 25), some (.int (nI (28 + k))), some (.int 1), some (.int 0), some (.int (nI i))]) dX7_contract_133 rfl (by decide) rfl ?_
                            refine am_iinc (I := iX7_contract) (pc := 134) (y := ((nI i) + 1)) (L' := [some (.ref 25), some (.int (nI (28 + k))), some (.int 1), some (.int 0), some (.int ((nI i) + 1))]) dX7_contract_134 rfl rfl rfl ?_
                            refine am_goto (I := iX7_contract) (pc := 137) (tgt := 108) dX7_contract_137 (by decide) ?_
                            exact am_same rfl (by rw [nI_1, apd, bI_0 c116, bI_0 c125]; rfl) rfl rfl rfl rfl (ih108 (i + 1) (by omega) (by omega))
                          · refine am_iconst (I := iX7_contract) (pc := 128) (x := 1) dX7_contract_128 (by decide) ?_
                            refine am_goto (I := iX7_contract) (pc := 129) (tgt := 133) dX7_contract_129 (by decide) ?_
                            refine am_istore_n (I := iX7_contract) (pc := 133) (L' := [some (.ref 25), some (.int (nI (28 + k))), some (.int 1), some (.int 1), some (.int (nI i))]) dX7_contract_133 rfl (by decide) rfl ?_
                            refine am_iinc (I := iX7_contract) (pc := 134) (y := ((nI i) + 1)) (L' := [some (.ref 25), some (.int (nI (28 + k))), some (.int 1), some (.int 1), some (.int ((nI i) + 1))]) dX7_contract_134 rfl rfl rfl ?_
                            refine am_goto (I := iX7_contract) (pc := 137) (tgt := 108) dX7_contract_137 (by decide) ?_
                            exact am_same rfl (by rw [nI_1, apd, bI_1 c125, Bool.or_true]; rfl) rfl rfl rfl rfl (ih108 (i + 1) (by omega) (by omega))
                  exact am_same rfl (by rw [apd, decide_eq_false (fun q9 => nI_nle q9 (by have := h5 k; omega) c96)]; rfl) rfl rfl rfl rfl (loop108 _ 0 (Nat.lt_succ_self _) (Nat.zero_le _))
                · refine am_iconst (I := iX7_contract) (pc := 99) (x := 1) dX7_contract_99 (by decide) ?_
                  refine am_goto (I := iX7_contract) (pc := 100) (tgt := 104) dX7_contract_100 (by decide) ?_
                  refine am_istore_n (I := iX7_contract) (pc := 104) (L' := [some (.ref 25), some (.int (nI (28 + k))), some (.int 1), some (.int 1), none]) dX7_contract_104 rfl (by decide) rfl ?_
                  refine am_iconst (I := iX7_contract) (pc := 105) (x := 0) dX7_contract_105 (by decide) ?_
                  refine am_istore (I := iX7_contract) (pc := 106) (L' := [some (.ref 25), some (.int (nI (28 + k))), some (.int 1), some (.int 1), some (.int 0)]) dX7_contract_106 (by decide) rfl ?_
                  have loop108 : ∀ (k108 : Nat) (i : Nat), 36 - i < k108 → (i ≤ 36) → am_W K iX7_contract xp l xe (am_room 2 0 0) xs xm xa xb xt xc (mdS S th (nI n) wd ln sq st ct cl ft zn a26 a27 a28 a29 a30 a31 a32 a33 a34 a35 a36 (fun k => nI (sz k)) a38 a39 a40 a41 a42 a43 a44) ad0 (am_E K ad0 (mdS S th (nI n) wd ln sq st ct cl ft zn a26 a27 a28 a29 a30 a31 a32 a33 a34 a35 a36 (fun k => nI (sz k)) a38 a39 a40 a41 a42 a43 a44) (fun v S' => v = some (.int (1)) ∧ mdS S 0 0 wd ln sq st (ct + 1) cl ft zn a26 a27 a28 a29 a30 a31 a32 a33 a34 a35 a36 (fun j => nI (va_up sz k n j)) (rcat a38 (k * 5) a26 n) a39 a40 a41 a42 a43 a44 = S') (fun _ _ => False) xb xa xs 0 0) 108 [some (.ref 25), some (.int (nI (28 + k))), some (.int 1), some (.int (bI (apd sz lt a26 n k i))), some (.int (nI i))] [] (mdS S 0 (nI n) wd ln sq st ct cl ft zn a26 a27 a28 a29 a30 a31 a32 a33 a34 a35 a36 (fun k => nI (sz k)) a38 a39 a40 a41 a42 a43 a44) 0 0 := by
                    intro k108
                    induction k108 with
                    | zero => intro i h9; exact absurd h9 (Nat.not_lt_zero _)
                    | succ k108 ih108 =>
                      intro i hm108 hi
                      refine am_iload (I := iX7_contract) (pc := 108) dX7_contract_108 rfl ?_
                      refine am_bipush (I := iX7_contract) (pc := 110) (x := 36) dX7_contract_110 (by decide) ?_
                      refine am_icmp_ge (I := iX7_contract) (pc := 112) (tgt := 140) dX7_contract_112 (by decide) (fun c112 => ?_) (fun c112 => ?_)
                      · have g112 : 36 ≤ i := by
                          rcases Nat.lt_or_ge i 36 with q9 | q9
                          · exact absurd c112 (nI_ge (a := i) (b := 36) q9 (by omega))
                          · exact q9
                        have ei : i = 36 := by omega
                        rw [ei, hd]
                        show am_W _ _ _ _ _ _ _ _ _ _ _ _ _ _ _ 140 [some (.ref 25), some (.int (nI (28 + k))), some (.int 1), some (.int 0), some (.int (nI 36))] [] _ _ _
                        refine am_iload_n (I := iX7_contract) (pc := 140) dX7_contract_140 rfl rfl ?_
                        refine am_if_eq (I := iX7_contract) (pc := 141) (tgt := 146) dX7_contract_141 (by decide) (fun c141 => ?_) (fun c141 => ?_)
                        · refine am_aload_n (I := iX7_contract) (pc := 146) dX7_contract_146 rfl rfl ?_
                          refine am_getf (I := iX7_contract) (pc := 147) lf_X7_43 dX7_contract_147 md_25 rfl ?_
                          refine am_iload_n (I := iX7_contract) (pc := 150) dX7_contract_150 rfl rfl ?_
                          refine am_bipush (I := iX7_contract) (pc := 151) (x := 28) dX7_contract_151 (by decide) ?_
                          refine am_isub (I := iX7_contract) (pc := 153) dX7_contract_153 ?_
                          have hn5 : n ≤ 5 := by
                            have h9 := hb
                            unfold cbc at h9
                            rw [Bool.and_eq_true, Bool.and_eq_true] at h9
                            exact of_decide_eq_true h9.1.2
                          rw [ix28]
                          refine am_aload_n (I := iX7_contract) (pc := 154) dX7_contract_154 rfl rfl ?_
                          refine am_getf (I := iX7_contract) (pc := 155) lf_X7_72 dX7_contract_155 md_25 rfl ?_
                          refine am_iastore (I := iX7_contract) (pc := 158) dX7_contract_158 md_37 rfl (vp_in_nI hk (by decide)) ?_
                          rw [nI_clamp (show k < 2 ^ 31 by omega)]
                          refine am_same (S' := mdS S 0 (nI n) wd ln sq st ct cl ft zn a26 a27 a28 a29 a30 a31 a32 a33 a34 a35 a36 (upd (fun k => nI (sz k)) k (nI n)) a38 a39 a40 a41 a42 a43 a44) rfl rfl rfl mdS_37 rfl rfl ?_
                          refine am_iconst (I := iX7_contract) (pc := 159) (x := 0) dX7_contract_159 (by decide) ?_
                          refine am_istore (I := iX7_contract) (pc := 160) (L' := [some (.ref 25), some (.int (nI (28 + k))), some (.int 1), some (.int 0), some (.int 0)]) dX7_contract_160 (by decide) rfl ?_
                          have loop162 : ∀ (k162 : Nat) (i : Nat), n - i < k162 → (i ≤ n) → am_W K iX7_contract xp l xe (am_room 2 0 0) xs xm xa xb xt xc (mdS S th (nI n) wd ln sq st ct cl ft zn a26 a27 a28 a29 a30 a31 a32 a33 a34 a35 a36 (fun k => nI (sz k)) a38 a39 a40 a41 a42 a43 a44) ad0 (am_E K ad0 (mdS S th (nI n) wd ln sq st ct cl ft zn a26 a27 a28 a29 a30 a31 a32 a33 a34 a35 a36 (fun k => nI (sz k)) a38 a39 a40 a41 a42 a43 a44) (fun v S' => v = some (.int (1)) ∧ mdS S 0 0 wd ln sq st (ct + 1) cl ft zn a26 a27 a28 a29 a30 a31 a32 a33 a34 a35 a36 (fun j => nI (va_up sz k n j)) (rcat a38 (k * 5) a26 n) a39 a40 a41 a42 a43 a44 = S') (fun _ _ => False) xb xa xs 0 0) 162 [some (.ref 25), some (.int (nI (28 + k))), some (.int 1), some (.int 0), some (.int (nI i))] [] (mdS S 0 (nI n) wd ln sq st ct cl ft zn a26 a27 a28 a29 a30 a31 a32 a33 a34 a35 a36 (fun j => nI (va_up sz k n j)) (rcat a38 (k * 5) a26 i) a39 a40 a41 a42 a43 a44) 0 0 := by
                            intro k162
                            induction k162 with
                            | zero => intro i h9; exact absurd h9 (Nat.not_lt_zero _)
                            | succ k162 ih162 =>
                              intro i hm162 hi
                              refine am_iload (I := iX7_contract) (pc := 162) dX7_contract_162 rfl ?_
                              refine am_aload_n (I := iX7_contract) (pc := 164) dX7_contract_164 rfl rfl ?_
                              refine am_getf (I := iX7_contract) (pc := 165) lf_X7_72 dX7_contract_165 md_25 rfl ?_
                              refine am_icmp_ge (I := iX7_contract) (pc := 168) (tgt := 198) dX7_contract_168 (by decide) (fun c168 => ?_) (fun c168 => ?_)
                              · have g168 : n ≤ i := by
                                  rcases Nat.lt_or_ge i n with q9 | q9
                                  · exact absurd c168 (nI_ge (a := i) (b := n) q9 (by omega))
                                  · exact q9
                                have eim : i = n := by omega
                                rw [eim]
                                refine am_aload_n (I := iX7_contract) (pc := 198) dX7_contract_198 rfl rfl ?_
                                refine am_iconst (I := iX7_contract) (pc := 199) (x := 0) dX7_contract_199 (by decide) ?_
                                refine am_putf (I := iX7_contract) (pc := 200) (fs' := [.int 0, .int 0, .ref 26, .ref 27, .ref 28, .ref 29, .ref 30, .int wd, .ref 31, .ref 32, .ref 33, .ref 34, .int ln, .int sq, .int st, .ref 35, .ref 36, .ref 37, .ref 38, .int ct, .int cl, .int ft, .ref 39, .int zn, .ref 40, .ref 41, .ref 42, .ref 43, .ref 44]) lf_X7_72 dX7_contract_200 md_25 (fun _ => ⟨rfl, rfl⟩) (Nat.le_of_ble_eq_true rfl) rfl ?_
                                refine am_same (S' := mdS S 0 0 wd ln sq st ct cl ft zn a26 a27 a28 a29 a30 a31 a32 a33 a34 a35 a36 (fun j => nI (va_up sz k n j)) (rcat a38 (k * 5) a26 n) a39 a40 a41 a42 a43 a44) rfl rfl rfl mdS_25 rfl rfl ?_
                                refine am_aload_n (I := iX7_contract) (pc := 203) dX7_contract_203 rfl rfl ?_
                                refine am_dup (I := iX7_contract) (pc := 204) dX7_contract_204 rfl ?_
                                refine am_getf (I := iX7_contract) (pc := 205) lf_X7_125 dX7_contract_205 md_25 rfl ?_
                                refine am_iconst (I := iX7_contract) (pc := 208) (x := 1) dX7_contract_208 (by decide) ?_
                                refine am_iadd (I := iX7_contract) (pc := 209) dX7_contract_209 ?_
                                refine am_putf (I := iX7_contract) (pc := 210) (fs' := [.int 0, .int 0, .ref 26, .ref 27, .ref 28, .ref 29, .ref 30, .int wd, .ref 31, .ref 32, .ref 33, .ref 34, .int ln, .int sq, .int st, .ref 35, .ref 36, .ref 37, .ref 38, .int (ct + 1), .int cl, .int ft, .ref 39, .int zn, .ref 40, .ref 41, .ref 42, .ref 43, .ref 44]) lf_X7_125 dX7_contract_210 md_25 (fun _ => ⟨rfl, rfl⟩) (Nat.le_of_ble_eq_true rfl) rfl ?_
                                refine am_same (S' := mdS S 0 0 wd ln sq st (ct + 1) cl ft zn a26 a27 a28 a29 a30 a31 a32 a33 a34 a35 a36 (fun j => nI (va_up sz k n j)) (rcat a38 (k * 5) a26 n) a39 a40 a41 a42 a43 a44) rfl rfl rfl mdS_25 rfl rfl ?_
                                refine am_iconst (I := iX7_contract) (pc := 213) (x := 1) dX7_contract_213 (by decide) ?_
                                exact am_zret (I := iX7_contract) (pc := 214) dX7_contract_214 rfl (by decide) (Nat.le_refl _) (Nat.le_refl _) (⟨rfl, rfl⟩)
                              · have l168 : i < n := by
                                  rcases Nat.lt_or_ge i n with q9 | q9
                                  · exact q9
                                  · exact absurd (nI_le (a := n) (b := i) q9 (by omega)) c168
                                refine am_aload_n (I := iX7_contract) (pc := 171) dX7_contract_171 rfl rfl ?_
                                refine am_getf (I := iX7_contract) (pc := 172) lf_X7_46 dX7_contract_172 md_25 rfl ?_
                                refine am_iconst (I := iX7_contract) (pc := 175) (x := 5) dX7_contract_175 (by decide) ?_
                                refine am_iload_n (I := iX7_contract) (pc := 176) dX7_contract_176 rfl rfl ?_
                                refine am_bipush (I := iX7_contract) (pc := 177) (x := 28) dX7_contract_177 (by decide) ?_
                                refine am_isub (I := iX7_contract) (pc := 179) dX7_contract_179 ?_
                                rw [ix28]
                                refine am_imul (I := iX7_contract) (pc := 180) dX7_contract_180 ?_
                                refine am_iload (I := iX7_contract) (pc := 181) dX7_contract_181 rfl ?_
                                refine am_iadd (I := iX7_contract) (pc := 183) dX7_contract_183 ?_
                                rw [ix5]
                                refine am_aload_n (I := iX7_contract) (pc := 184) dX7_contract_184 rfl rfl ?_
                                refine am_getf (I := iX7_contract) (pc := 185) lf_X7_7 dX7_contract_185 md_25 rfl ?_
                                refine am_iload (I := iX7_contract) (pc := 188) dX7_contract_188 rfl ?_
                                refine am_iaload (I := iX7_contract) (pc := 190) dX7_contract_190 md_26 rfl (vp_in_nI (show i < 80 by omega) (by decide)) ?_
                                rw [nI_clamp (show i < 2 ^ 31 by omega)]
                                refine am_iastore (I := iX7_contract) (pc := 191) dX7_contract_191 md_38 rfl (vp_in_nI (show k * 5 + i < 180 by omega) (by decide)) ?_
                                rw [nI_clamp (show k * 5 + i < 2 ^ 31 by omega)]
                                refine am_same (S' := mdS S 0 (nI n) wd ln sq st ct cl ft zn a26 a27 a28 a29 a30 a31 a32 a33 a34 a35 a36 (fun j => nI (va_up sz k n j)) (upd (rcat a38 (k * 5) a26 i) (k * 5 + i) (a26 i)) a39 a40 a41 a42 a43 a44) rfl rfl rfl mdS_38 rfl rfl ?_
                                refine am_iinc (I := iX7_contract) (pc := 192) (y := ((nI i) + 1)) (L' := [some (.ref 25), some (.int (nI (28 + k))), some (.int 1), some (.int 0), some (.int ((nI i) + 1))]) dX7_contract_192 rfl rfl rfl ?_
                                refine am_goto (I := iX7_contract) (pc := 195) (tgt := 162) dX7_contract_195 (by decide) ?_
                                exact am_same rfl (by rw [nI_1]) rfl (by rw [rcat_s]) rfl rfl (ih162 (i + 1) (by omega) (by omega))
                          exact am_same rfl (by rfl) rfl (by rw [upd_nI, rcat_0]) rfl rfl (loop162 _ 0 (Nat.lt_succ_self _) (Nat.zero_le _))
                        · exact absurd rfl c141
                      · have l112 : i < 36 := by
                          rcases Nat.lt_or_ge i 36 with q9 | q9
                          · exact q9
                          · exact absurd (nI_le (a := 36) (b := i) q9 (by omega)) c112
                        refine am_iload_n (I := iX7_contract) (pc := 115) dX7_contract_115 rfl rfl ?_
                        refine am_if_ne (I := iX7_contract) (pc := 116) (tgt := 128) dX7_contract_116 (by decide) (fun c116 => ?_) (fun c116 => ?_)
                        · refine am_iconst (I := iX7_contract) (pc := 128) (x := 1) dX7_contract_128 (by decide) ?_
                          refine am_goto (I := iX7_contract) (pc := 129) (tgt := 133) dX7_contract_129 (by decide) ?_
                          refine am_istore_n (I := iX7_contract) (pc := 133) (L' := [some (.ref 25), some (.int (nI (28 + k))), some (.int 1), some (.int 1), some (.int (nI i))]) dX7_contract_133 rfl (by decide) rfl ?_
                          refine am_iinc (I := iX7_contract) (pc := 134) (y := ((nI i) + 1)) (L' := [some (.ref 25), some (.int (nI (28 + k))), some (.int 1), some (.int 1), some (.int ((nI i) + 1))]) dX7_contract_134 rfl rfl rfl ?_
                          refine am_goto (I := iX7_contract) (pc := 137) (tgt := 108) dX7_contract_137 (by decide) ?_
                          exact am_same rfl (by rw [nI_1, apd, bI_1 c116, Bool.true_or]; rfl) rfl rfl rfl rfl (ih108 (i + 1) (by omega) (by omega))
                        · refine am_aload_n (I := iX7_contract) (pc := 119) dX7_contract_119 rfl rfl ?_
                          refine am_iload (I := iX7_contract) (pc := 120) dX7_contract_120 rfl ?_
                          refine am_callV (I := iX7_contract) (pc := 122) (st := []) lv_X7_122 (q_isPad sz lt n i h5 hl hn (by omega)) dX7_contract_122 md_25 rfl (Nat.le_of_ble_eq_true rfl) ⟨Nat.le_of_ble_eq_true rfl, Nat.le_of_ble_eq_true rfl⟩ (Nat.le_of_ble_eq_true rfl) (Nat.le_of_ble_eq_true rfl) rfl (fun v9 T9 z9 _ => ?_) (fun _ _ h9 => h9.elim)
                          obtain ⟨rfl, rfl⟩ := z9
                          show am_W _ _ _ _ _ _ _ _ _ _ _ _ _ _ _ 125 [some (.ref 25), some (.int (nI (28 + k))), some (.int 1), some (.int (bI (apd sz lt a26 n k i))), some (.int (nI i))] [.int (bI (ipd sz lt a26 n i n))] (mdS S 0 (nI n) wd ln sq st ct cl ft zn a26 a27 a28 a29 a30 a31 a32 a33 a34 a35 a36 (fun k => nI (sz k)) a38 a39 a40 a41 a42 a43 a44) 0 0
                          refine am_if_eq (I := iX7_contract) (pc := 125) (tgt := 132) dX7_contract_125 (by decide) (fun c125 => ?_) (fun c125 => ?_)
                          · refine am_iconst (I := iX7_contract) (pc := 132) (x := 0) dX7_contract_132 (by decide) ?_
                            refine am_istore_n (I := iX7_contract) (pc := 133) (L' := [some (.ref 25), some (.int (nI (28 + k))), some (.int 1), some (.int 0), some (.int (nI i))]) dX7_contract_133 rfl (by decide) rfl ?_
                            refine am_iinc (I := iX7_contract) (pc := 134) (y := ((nI i) + 1)) (L' := [some (.ref 25), some (.int (nI (28 + k))), some (.int 1), some (.int 0), some (.int ((nI i) + 1))]) dX7_contract_134 rfl rfl rfl ?_
                            refine am_goto (I := iX7_contract) (pc := 137) (tgt := 108) dX7_contract_137 (by decide) ?_
                            exact am_same rfl (by rw [nI_1, apd, bI_0 c116, bI_0 c125]; rfl) rfl rfl rfl rfl (ih108 (i + 1) (by omega) (by omega))
                          · refine am_iconst (I := iX7_contract) (pc := 128) (x := 1) dX7_contract_128 (by decide) ?_
                            refine am_goto (I := iX7_contract) (pc := 129) (tgt := 133) dX7_contract_129 (by decide) ?_
                            refine am_istore_n (I := iX7_contract) (pc := 133) (L' := [some (.ref 25), some (.int (nI (28 + k))), some (.int 1), some (.int 1), some (.int (nI i))]) dX7_contract_133 rfl (by decide) rfl ?_
                            refine am_iinc (I := iX7_contract) (pc := 134) (y := ((nI i) + 1)) (L' := [some (.ref 25), some (.int (nI (28 + k))), some (.int 1), some (.int 1), some (.int ((nI i) + 1))]) dX7_contract_134 rfl rfl rfl ?_
                            refine am_goto (I := iX7_contract) (pc := 137) (tgt := 108) dX7_contract_137 (by decide) ?_
                            exact am_same rfl (by rw [nI_1, apd, bI_1 c125, Bool.or_true]; rfl) rfl rfl rfl rfl (ih108 (i + 1) (by omega) (by omega))
                  exact am_same rfl (by rw [apd, decide_eq_true (Nat.pos_of_ne_zero (fun e9 => c96 (by rw [e9]; decide)))]; rfl) rfl rfl rfl rfl (loop108 _ 0 (Nat.lt_succ_self _) (Nat.zero_le _))
              · exact absurd c82 (by decide)
        · have l29 : i < n := by
            rcases Nat.lt_or_ge i n with q9 | q9
            · exact q9
            · exact absurd (nI_le (a := n) (b := i) q9 (by omega)) c29
          refine am_iload_n (I := iX7_contract) (pc := 32) dX7_contract_32 rfl rfl ?_
          refine am_if_eq (I := iX7_contract) (pc := 33) (tgt := 52) dX7_contract_33 (by decide) (fun c33 => ?_) (fun c33 => ?_)
          · refine am_iconst (I := iX7_contract) (pc := 52) (x := 0) dX7_contract_52 (by decide) ?_
            refine am_istore_n (I := iX7_contract) (pc := 53) (L' := [some (.ref 25), some (.int (nI (28 + k))), some (.int 0), some (.int (nI i)), none]) dX7_contract_53 rfl (by decide) rfl ?_
            refine am_iinc (I := iX7_contract) (pc := 54) (y := ((nI i) + 1)) (L' := [some (.ref 25), some (.int (nI (28 + k))), some (.int 0), some (.int ((nI i) + 1)), none]) dX7_contract_54 rfl rfl rfl ?_
            refine am_goto (I := iX7_contract) (pc := 57) (tgt := 24) dX7_contract_57 (by decide) ?_
            exact am_same rfl (by rw [nI_1, cbi_s, bI_0 c33, Bool.false_and]; rfl) rfl rfl rfl rfl (ih24 (i + 1) (by omega) (by omega))
          · refine am_aload_n (I := iX7_contract) (pc := 36) dX7_contract_36 rfl rfl ?_
            refine am_getf (I := iX7_contract) (pc := 37) lf_X7_7 dX7_contract_37 md_25 rfl ?_
            refine am_iload_n (I := iX7_contract) (pc := 40) dX7_contract_40 rfl rfl ?_
            refine am_iaload (I := iX7_contract) (pc := 41) dX7_contract_41 md_26 rfl (vp_in_nI (show i < 80 by omega) (by decide)) ?_
            rw [nI_clamp (show i < 2 ^ 31 by omega)]
            refine am_callS (I := iX7_contract) (pc := 42) (st := []) lv_X7_75 rfl (q_isLetter (a26 i)) dX7_contract_42 rfl (Nat.le_of_ble_eq_true rfl) ⟨Nat.le_of_ble_eq_true rfl, Nat.le_of_ble_eq_true rfl⟩ (Nat.le_of_ble_eq_true rfl) (Nat.le_of_ble_eq_true rfl) rfl (fun v9 T9 z9 _ => ?_) (fun _ _ h9 => h9.elim)
            obtain ⟨rfl, rfl⟩ := z9
            show am_W _ _ _ _ _ _ _ _ _ _ _ _ _ _ _ 45 [some (.ref 25), some (.int (nI (28 + k))), some (.int (bI (cbi a26 n i))), some (.int (nI i)), none] [.int (bI (isl (a26 i)))] (mdS S th (nI n) wd ln sq st ct cl ft zn a26 a27 a28 a29 a30 a31 a32 a33 a34 a35 a36 (fun k => nI (sz k)) a38 a39 a40 a41 a42 a43 a44) 0 0
            refine am_if_eq (I := iX7_contract) (pc := 45) (tgt := 52) dX7_contract_45 (by decide) (fun c45 => ?_) (fun c45 => ?_)
            · refine am_iconst (I := iX7_contract) (pc := 52) (x := 0) dX7_contract_52 (by decide) ?_
              refine am_istore_n (I := iX7_contract) (pc := 53) (L' := [some (.ref 25), some (.int (nI (28 + k))), some (.int 0), some (.int (nI i)), none]) dX7_contract_53 rfl (by decide) rfl ?_
              refine am_iinc (I := iX7_contract) (pc := 54) (y := ((nI i) + 1)) (L' := [some (.ref 25), some (.int (nI (28 + k))), some (.int 0), some (.int ((nI i) + 1)), none]) dX7_contract_54 rfl rfl rfl ?_
              refine am_goto (I := iX7_contract) (pc := 57) (tgt := 24) dX7_contract_57 (by decide) ?_
              exact am_same rfl (by rw [nI_1, cbi_s, bI_0 c45, Bool.and_false]; rfl) rfl rfl rfl rfl (ih24 (i + 1) (by omega) (by omega))
            · refine am_iconst (I := iX7_contract) (pc := 48) (x := 1) dX7_contract_48 (by decide) ?_
              refine am_goto (I := iX7_contract) (pc := 49) (tgt := 53) dX7_contract_49 (by decide) ?_
              refine am_istore_n (I := iX7_contract) (pc := 53) (L' := [some (.ref 25), some (.int (nI (28 + k))), some (.int 1), some (.int (nI i)), none]) dX7_contract_53 rfl (by decide) rfl ?_
              refine am_iinc (I := iX7_contract) (pc := 54) (y := ((nI i) + 1)) (L' := [some (.ref 25), some (.int (nI (28 + k))), some (.int 1), some (.int ((nI i) + 1)), none]) dX7_contract_54 rfl rfl rfl ?_
              refine am_goto (I := iX7_contract) (pc := 57) (tgt := 24) dX7_contract_57 (by decide) ?_
              exact am_same rfl (by rw [nI_1, cbi_s, bI_1 c33, bI_1 c45]; rfl) rfl rfl rfl rfl (ih24 (i + 1) (by omega) (by omega))
    exact am_same rfl (by rw [cbi_0, decide_eq_false (fun q9 => nI_nlt (b := 2) q9 (by omega) c5), Bool.false_and]; rfl) rfl rfl rfl rfl (loop24 _ 0 (Nat.lt_succ_self _) (Nat.zero_le _))
  · refine am_aload_n (I := iX7_contract) (pc := 8) dX7_contract_8 rfl rfl ?_
    refine am_getf (I := iX7_contract) (pc := 9) lf_X7_72 dX7_contract_9 md_25 rfl ?_
    refine am_iconst (I := iX7_contract) (pc := 12) (x := 5) dX7_contract_12 (by decide) ?_
    refine am_icmp_gt (I := iX7_contract) (pc := 13) (tgt := 20) dX7_contract_13 (by decide) (fun c13 => ?_) (fun c13 => ?_)
    · refine am_iconst (I := iX7_contract) (pc := 20) (x := 0) dX7_contract_20 (by decide) ?_
      refine am_istore_n (I := iX7_contract) (pc := 21) (L' := [some (.ref 25), some (.int (nI (28 + k))), some (.int 0), none, none]) dX7_contract_21 rfl (by decide) rfl ?_
      refine am_iconst (I := iX7_contract) (pc := 22) (x := 0) dX7_contract_22 (by decide) ?_
      refine am_istore_n (I := iX7_contract) (pc := 23) (L' := [some (.ref 25), some (.int (nI (28 + k))), some (.int 0), some (.int 0), none]) dX7_contract_23 rfl (by decide) rfl ?_
      have loop24 : ∀ (k24 : Nat) (i : Nat), n - i < k24 → (i ≤ n) → am_W K iX7_contract xp l xe (am_room 2 0 0) xs xm xa xb xt xc (mdS S th (nI n) wd ln sq st ct cl ft zn a26 a27 a28 a29 a30 a31 a32 a33 a34 a35 a36 (fun k => nI (sz k)) a38 a39 a40 a41 a42 a43 a44) ad0 (am_E K ad0 (mdS S th (nI n) wd ln sq st ct cl ft zn a26 a27 a28 a29 a30 a31 a32 a33 a34 a35 a36 (fun k => nI (sz k)) a38 a39 a40 a41 a42 a43 a44) (fun v S' => v = some (.int (1)) ∧ mdS S 0 0 wd ln sq st (ct + 1) cl ft zn a26 a27 a28 a29 a30 a31 a32 a33 a34 a35 a36 (fun j => nI (va_up sz k n j)) (rcat a38 (k * 5) a26 n) a39 a40 a41 a42 a43 a44 = S') (fun _ _ => False) xb xa xs 0 0) 24 [some (.ref 25), some (.int (nI (28 + k))), some (.int (bI (cbi a26 n i))), some (.int (nI i)), none] [] (mdS S th (nI n) wd ln sq st ct cl ft zn a26 a27 a28 a29 a30 a31 a32 a33 a34 a35 a36 (fun k => nI (sz k)) a38 a39 a40 a41 a42 a43 a44) 0 0 := by
        intro k24
        induction k24 with
        | zero => intro i h9; exact absurd h9 (Nat.not_lt_zero _)
        | succ k24 ih24 =>
          intro i hm24 hi
          refine am_iload_n (I := iX7_contract) (pc := 24) dX7_contract_24 rfl rfl ?_
          refine am_aload_n (I := iX7_contract) (pc := 25) dX7_contract_25 rfl rfl ?_
          refine am_getf (I := iX7_contract) (pc := 26) lf_X7_72 dX7_contract_26 md_25 rfl ?_
          refine am_icmp_ge (I := iX7_contract) (pc := 29) (tgt := 60) dX7_contract_29 (by decide) (fun c29 => ?_) (fun c29 => ?_)
          · have g29 : n ≤ i := by
              rcases Nat.lt_or_ge i n with q9 | q9
              · exact absurd c29 (nI_ge (a := i) (b := n) q9 (by omega))
              · exact q9
            have ein : i = n := by omega
            rw [ein, cbi_n, hb]
            show am_W _ _ _ _ _ _ _ _ _ _ _ _ _ _ _ 60 [some (.ref 25), some (.int (nI (28 + k))), some (.int 1), some (.int (nI n)), none] [] _ _ _
            refine am_aload_n (I := iX7_contract) (pc := 60) dX7_contract_60 rfl rfl ?_
            refine am_iload_n (I := iX7_contract) (pc := 61) dX7_contract_61 rfl rfl ?_
            refine am_iload_n (I := iX7_contract) (pc := 62) dX7_contract_62 rfl rfl ?_
            refine am_bipush (I := iX7_contract) (pc := 63) (x := 28) dX7_contract_63 (by decide) ?_
            refine am_icmp_lt (I := iX7_contract) (pc := 65) (tgt := 78) dX7_contract_65 (by decide) (fun c65 => ?_) (fun c65 => ?_)
            · exact absurd c65 (nI_nlt (a := 28 + k) (b := 28) (by omega) (by omega))
            · refine am_iload_n (I := iX7_contract) (pc := 68) dX7_contract_68 rfl rfl ?_
              refine am_bipush (I := iX7_contract) (pc := 69) (x := 63) dX7_contract_69 (by decide) ?_
              refine am_icmp_gt (I := iX7_contract) (pc := 71) (tgt := 78) dX7_contract_71 (by decide) (fun c71 => ?_) (fun c71 => ?_)
              · exact absurd c71 (nI_nlt (a := 63) (b := 28 + k) (by omega) (by decide))
              · refine am_iconst (I := iX7_contract) (pc := 74) (x := 1) dX7_contract_74 (by decide) ?_
                refine am_goto (I := iX7_contract) (pc := 75) (tgt := 79) dX7_contract_75 (by decide) ?_
                refine am_callV (I := iX7_contract) (pc := 79) (st := []) lv_X7_79 (q_goes0) dX7_contract_79 md_25 rfl (Nat.le_of_ble_eq_true rfl) ⟨Nat.le_of_ble_eq_true rfl, Nat.le_of_ble_eq_true rfl⟩ (Nat.le_of_ble_eq_true rfl) (Nat.le_of_ble_eq_true rfl) rfl (fun v9 T9 z9 _ => ?_) (fun _ _ h9 => h9.elim)
                obtain ⟨rfl, rfl⟩ := z9
                show am_W _ _ _ _ _ _ _ _ _ _ _ _ _ _ _ 82 [some (.ref 25), some (.int (nI (28 + k))), some (.int 1), some (.int (nI n)), none] [.int 1] (mdS S 0 (nI n) wd ln sq st ct cl ft zn a26 a27 a28 a29 a30 a31 a32 a33 a34 a35 a36 (fun k => nI (sz k)) a38 a39 a40 a41 a42 a43 a44) 0 0
                refine am_if_ne (I := iX7_contract) (pc := 82) (tgt := 87) dX7_contract_82 (by decide) (fun c82 => ?_) (fun c82 => ?_)
                · refine am_aload_n (I := iX7_contract) (pc := 87) dX7_contract_87 rfl rfl ?_
                  refine am_getf (I := iX7_contract) (pc := 88) lf_X7_43 dX7_contract_88 md_25 rfl ?_
                  refine am_iload_n (I := iX7_contract) (pc := 91) dX7_contract_91 rfl rfl ?_
                  refine am_bipush (I := iX7_contract) (pc := 92) (x := 28) dX7_contract_92 (by decide) ?_
                  refine am_isub (I := iX7_contract) (pc := 94) dX7_contract_94 ?_
                  rw [ix28]
                  refine am_iaload (I := iX7_contract) (pc := 95) dX7_contract_95 md_37 rfl (vp_in_nI hk (by decide)) ?_
                  rw [nI_clamp (show k < 2 ^ 31 by omega)]
                  refine am_if_le (I := iX7_contract) (pc := 96) (tgt := 103) dX7_contract_96 (by decide) (fun c96 => ?_) (fun c96 => ?_)
                  · refine am_iconst (I := iX7_contract) (pc := 103) (x := 0) dX7_contract_103 (by decide) ?_
                    refine am_istore_n (I := iX7_contract) (pc := 104) (L' := [some (.ref 25), some (.int (nI (28 + k))), some (.int 1), some (.int 0), none]) dX7_contract_104 rfl (by decide) rfl ?_
                    refine am_iconst (I := iX7_contract) (pc := 105) (x := 0) dX7_contract_105 (by decide) ?_
                    refine am_istore (I := iX7_contract) (pc := 106) (L' := [some (.ref 25), some (.int (nI (28 + k))), some (.int 1), some (.int 0), some (.int 0)]) dX7_contract_106 (by decide) rfl ?_
                    have loop108 : ∀ (k108 : Nat) (i : Nat), 36 - i < k108 → (i ≤ 36) → am_W K iX7_contract xp l xe (am_room 2 0 0) xs xm xa xb xt xc (mdS S th (nI n) wd ln sq st ct cl ft zn a26 a27 a28 a29 a30 a31 a32 a33 a34 a35 a36 (fun k => nI (sz k)) a38 a39 a40 a41 a42 a43 a44) ad0 (am_E K ad0 (mdS S th (nI n) wd ln sq st ct cl ft zn a26 a27 a28 a29 a30 a31 a32 a33 a34 a35 a36 (fun k => nI (sz k)) a38 a39 a40 a41 a42 a43 a44) (fun v S' => v = some (.int (1)) ∧ mdS S 0 0 wd ln sq st (ct + 1) cl ft zn a26 a27 a28 a29 a30 a31 a32 a33 a34 a35 a36 (fun j => nI (va_up sz k n j)) (rcat a38 (k * 5) a26 n) a39 a40 a41 a42 a43 a44 = S') (fun _ _ => False) xb xa xs 0 0) 108 [some (.ref 25), some (.int (nI (28 + k))), some (.int 1), some (.int (bI (apd sz lt a26 n k i))), some (.int (nI i))] [] (mdS S 0 (nI n) wd ln sq st ct cl ft zn a26 a27 a28 a29 a30 a31 a32 a33 a34 a35 a36 (fun k => nI (sz k)) a38 a39 a40 a41 a42 a43 a44) 0 0 := by
                      intro k108
                      induction k108 with
                      | zero => intro i h9; exact absurd h9 (Nat.not_lt_zero _)
                      | succ k108 ih108 =>
                        intro i hm108 hi
                        refine am_iload (I := iX7_contract) (pc := 108) dX7_contract_108 rfl ?_
                        refine am_bipush (I := iX7_contract) (pc := 110) (x := 36) dX7_contract_110 (by decide) ?_
                        refine am_icmp_ge (I := iX7_contract) (pc := 112) (tgt := 140) dX7_contract_112 (by decide) (fun c112 => ?_) (fun c112 => ?_)
                        · have g112 : 36 ≤ i := by
                            rcases Nat.lt_or_ge i 36 with q9 | q9
                            · exact absurd c112 (nI_ge (a := i) (b := 36) q9 (by omega))
                            · exact q9
                          have ei : i = 36 := by omega
                          rw [ei, hd]
                          show am_W _ _ _ _ _ _ _ _ _ _ _ _ _ _ _ 140 [some (.ref 25), some (.int (nI (28 + k))), some (.int 1), some (.int 0), some (.int (nI 36))] [] _ _ _
                          refine am_iload_n (I := iX7_contract) (pc := 140) dX7_contract_140 rfl rfl ?_
                          refine am_if_eq (I := iX7_contract) (pc := 141) (tgt := 146) dX7_contract_141 (by decide) (fun c141 => ?_) (fun c141 => ?_)
                          · refine am_aload_n (I := iX7_contract) (pc := 146) dX7_contract_146 rfl rfl ?_
                            refine am_getf (I := iX7_contract) (pc := 147) lf_X7_43 dX7_contract_147 md_25 rfl ?_
                            refine am_iload_n (I := iX7_contract) (pc := 150) dX7_contract_150 rfl rfl ?_
                            refine am_bipush (I := iX7_contract) (pc := 151) (x := 28) dX7_contract_151 (by decide) ?_
                            refine am_isub (I := iX7_contract) (pc := 153) dX7_contract_153 ?_
                            have hn5 : n ≤ 5 := by
                              have h9 := hb
                              unfold cbc at h9
                              rw [Bool.and_eq_true, Bool.and_eq_true] at h9
                              exact of_decide_eq_true h9.1.2
                            rw [ix28]
                            refine am_aload_n (I := iX7_contract) (pc := 154) dX7_contract_154 rfl rfl ?_
                            refine am_getf (I := iX7_contract) (pc := 155) lf_X7_72 dX7_contract_155 md_25 rfl ?_
                            refine am_iastore (I := iX7_contract) (pc := 158) dX7_contract_158 md_37 rfl (vp_in_nI hk (by decide)) ?_
                            rw [nI_clamp (show k < 2 ^ 31 by omega)]
                            refine am_same (S' := mdS S 0 (nI n) wd ln sq st ct cl ft zn a26 a27 a28 a29 a30 a31 a32 a33 a34 a35 a36 (upd (fun k => nI (sz k)) k (nI n)) a38 a39 a40 a41 a42 a43 a44) rfl rfl rfl mdS_37 rfl rfl ?_
                            refine am_iconst (I := iX7_contract) (pc := 159) (x := 0) dX7_contract_159 (by decide) ?_
                            refine am_istore (I := iX7_contract) (pc := 160) (L' := [some (.ref 25), some (.int (nI (28 + k))), some (.int 1), some (.int 0), some (.int 0)]) dX7_contract_160 (by decide) rfl ?_
                            have loop162 : ∀ (k162 : Nat) (i : Nat), n - i < k162 → (i ≤ n) → am_W K iX7_contract xp l xe (am_room 2 0 0) xs xm xa xb xt xc (mdS S th (nI n) wd ln sq st ct cl ft zn a26 a27 a28 a29 a30 a31 a32 a33 a34 a35 a36 (fun k => nI (sz k)) a38 a39 a40 a41 a42 a43 a44) ad0 (am_E K ad0 (mdS S th (nI n) wd ln sq st ct cl ft zn a26 a27 a28 a29 a30 a31 a32 a33 a34 a35 a36 (fun k => nI (sz k)) a38 a39 a40 a41 a42 a43 a44) (fun v S' => v = some (.int (1)) ∧ mdS S 0 0 wd ln sq st (ct + 1) cl ft zn a26 a27 a28 a29 a30 a31 a32 a33 a34 a35 a36 (fun j => nI (va_up sz k n j)) (rcat a38 (k * 5) a26 n) a39 a40 a41 a42 a43 a44 = S') (fun _ _ => False) xb xa xs 0 0) 162 [some (.ref 25), some (.int (nI (28 + k))), some (.int 1), some (.int 0), some (.int (nI i))] [] (mdS S 0 (nI n) wd ln sq st ct cl ft zn a26 a27 a28 a29 a30 a31 a32 a33 a34 a35 a36 (fun j => nI (va_up sz k n j)) (rcat a38 (k * 5) a26 i) a39 a40 a41 a42 a43 a44) 0 0 := by
                              intro k162
                              induction k162 with
                              | zero => intro i h9; exact absurd h9 (Nat.not_lt_zero _)
                              | succ k162 ih162 =>
                                intro i hm162 hi
                                refine am_iload (I := iX7_contract) (pc := 162) dX7_contract_162 rfl ?_
                                refine am_aload_n (I := iX7_contract) (pc := 164) dX7_contract_164 rfl rfl ?_
                                refine am_getf (I := iX7_contract) (pc := 165) lf_X7_72 dX7_contract_165 md_25 rfl ?_
                                refine am_icmp_ge (I := iX7_contract) (pc := 168) (tgt := 198) dX7_contract_168 (by decide) (fun c168 => ?_) (fun c168 => ?_)
                                · have g168 : n ≤ i := by
                                    rcases Nat.lt_or_ge i n with q9 | q9
                                    · exact absurd c168 (nI_ge (a := i) (b := n) q9 (by omega))
                                    · exact q9
                                  have eim : i = n := by omega
                                  rw [eim]
                                  refine am_aload_n (I := iX7_contract) (pc := 198) dX7_contract_198 rfl rfl ?_
                                  refine am_iconst (I := iX7_contract) (pc := 199) (x := 0) dX7_contract_199 (by decide) ?_
                                  refine am_putf (I := iX7_contract) (pc := 200) (fs' := [.int 0, .int 0, .ref 26, .ref 27, .ref 28, .ref 29, .ref 30, .int wd, .ref 31, .ref 32, .ref 33, .ref 34, .int ln, .int sq, .int st, .ref 35, .ref 36, .ref 37, .ref 38, .int ct, .int cl, .int ft, .ref 39, .int zn, .ref 40, .ref 41, .ref 42, .ref 43, .ref 44]) lf_X7_72 dX7_contract_200 md_25 (fun _ => ⟨rfl, rfl⟩) (Nat.le_of_ble_eq_true rfl) rfl ?_
                                  refine am_same (S' := mdS S 0 0 wd ln sq st ct cl ft zn a26 a27 a28 a29 a30 a31 a32 a33 a34 a35 a36 (fun j => nI (va_up sz k n j)) (rcat a38 (k * 5) a26 n) a39 a40 a41 a42 a43 a44) rfl rfl rfl mdS_25 rfl rfl ?_
                                  refine am_aload_n (I := iX7_contract) (pc := 203) dX7_contract_203 rfl rfl ?_
                                  refine am_dup (I := iX7_contract) (pc := 204) dX7_contract_204 rfl ?_
                                  refine am_getf (I := iX7_contract) (pc := 205) lf_X7_125 dX7_contract_205 md_25 rfl ?_
                                  refine am_iconst (I := iX7_contract) (pc := 208) (x := 1) dX7_contract_208 (by decide) ?_
                                  refine am_iadd (I := iX7_contract) (pc := 209) dX7_contract_209 ?_
                                  refine am_putf (I := iX7_contract) (pc := 210) (fs' := [.int 0, .int 0, .ref 26, .ref 27, .ref 28, .ref 29, .ref 30, .int wd, .ref 31, .ref 32, .ref 33, .ref 34, .int ln, .int sq, .int st, .ref 35, .ref 36, .ref 37, .ref 38, .int (ct + 1), .int cl, .int ft, .ref 39, .int zn, .ref 40, .ref 41, .ref 42, .ref 43, .ref 44]) lf_X7_125 dX7_contract_210 md_25 (fun _ => ⟨rfl, rfl⟩) (Nat.le_of_ble_eq_true rfl) rfl ?_
                                  refine am_same (S' := mdS S 0 0 wd ln sq st (ct + 1) cl ft zn a26 a27 a28 a29 a30 a31 a32 a33 a34 a35 a36 (fun j => nI (va_up sz k n j)) (rcat a38 (k * 5) a26 n) a39 a40 a41 a42 a43 a44) rfl rfl rfl mdS_25 rfl rfl ?_
                                  refine am_iconst (I := iX7_contract) (pc := 213) (x := 1) dX7_contract_213 (by decide) ?_
                                  exact am_zret (I := iX7_contract) (pc := 214) dX7_contract_214 rfl (by decide) (Nat.le_refl _) (Nat.le_refl _) (⟨rfl, rfl⟩)
                                · have l168 : i < n := by
                                    rcases Nat.lt_or_ge i n with q9 | q9
                                    · exact q9
                                    · exact absurd (nI_le (a := n) (b := i) q9 (by omega)) c168
                                  refine am_aload_n (I := iX7_contract) (pc := 171) dX7_contract_171 rfl rfl ?_
                                  refine am_getf (I := iX7_contract) (pc := 172) lf_X7_46 dX7_contract_172 md_25 rfl ?_
                                  refine am_iconst (I := iX7_contract) (pc := 175) (x := 5) dX7_contract_175 (by decide) ?_
                                  refine am_iload_n (I := iX7_contract) (pc := 176) dX7_contract_176 rfl rfl ?_
                                  refine am_bipush (I := iX7_contract) (pc := 177) (x := 28) dX7_contract_177 (by decide) ?_
                                  refine am_isub (I := iX7_contract) (pc := 179) dX7_contract_179 ?_
                                  rw [ix28]
                                  refine am_imul (I := iX7_contract) (pc := 180) dX7_contract_180 ?_
                                  refine am_iload (I := iX7_contract) (pc := 181) dX7_contract_181 rfl ?_
                                  refine am_iadd (I := iX7_contract) (pc := 183) dX7_contract_183 ?_
                                  rw [ix5]
                                  refine am_aload_n (I := iX7_contract) (pc := 184) dX7_contract_184 rfl rfl ?_
                                  refine am_getf (I := iX7_contract) (pc := 185) lf_X7_7 dX7_contract_185 md_25 rfl ?_
                                  refine am_iload (I := iX7_contract) (pc := 188) dX7_contract_188 rfl ?_
                                  refine am_iaload (I := iX7_contract) (pc := 190) dX7_contract_190 md_26 rfl (vp_in_nI (show i < 80 by omega) (by decide)) ?_
                                  rw [nI_clamp (show i < 2 ^ 31 by omega)]
                                  refine am_iastore (I := iX7_contract) (pc := 191) dX7_contract_191 md_38 rfl (vp_in_nI (show k * 5 + i < 180 by omega) (by decide)) ?_
                                  rw [nI_clamp (show k * 5 + i < 2 ^ 31 by omega)]
                                  refine am_same (S' := mdS S 0 (nI n) wd ln sq st ct cl ft zn a26 a27 a28 a29 a30 a31 a32 a33 a34 a35 a36 (fun j => nI (va_up sz k n j)) (upd (rcat a38 (k * 5) a26 i) (k * 5 + i) (a26 i)) a39 a40 a41 a42 a43 a44) rfl rfl rfl mdS_38 rfl rfl ?_
                                  refine am_iinc (I := iX7_contract) (pc := 192) (y := ((nI i) + 1)) (L' := [some (.ref 25), some (.int (nI (28 + k))), some (.int 1), some (.int 0), some (.int ((nI i) + 1))]) dX7_contract_192 rfl rfl rfl ?_
                                  refine am_goto (I := iX7_contract) (pc := 195) (tgt := 162) dX7_contract_195 (by decide) ?_
                                  exact am_same rfl (by rw [nI_1]) rfl (by rw [rcat_s]) rfl rfl (ih162 (i + 1) (by omega) (by omega))
                            exact am_same rfl (by rfl) rfl (by rw [upd_nI, rcat_0]) rfl rfl (loop162 _ 0 (Nat.lt_succ_self _) (Nat.zero_le _))
                          · exact absurd rfl c141
                        · have l112 : i < 36 := by
                            rcases Nat.lt_or_ge i 36 with q9 | q9
                            · exact q9
                            · exact absurd (nI_le (a := 36) (b := i) q9 (by omega)) c112
                          refine am_iload_n (I := iX7_contract) (pc := 115) dX7_contract_115 rfl rfl ?_
                          refine am_if_ne (I := iX7_contract) (pc := 116) (tgt := 128) dX7_contract_116 (by decide) (fun c116 => ?_) (fun c116 => ?_)
                          · refine am_iconst (I := iX7_contract) (pc := 128) (x := 1) dX7_contract_128 (by decide) ?_
                            refine am_goto (I := iX7_contract) (pc := 129) (tgt := 133) dX7_contract_129 (by decide) ?_
                            refine am_istore_n (I := iX7_contract) (pc := 133) (L' := [some (.ref 25), some (.int (nI (28 + k))), some (.int 1), some (.int 1), some (.int (nI i))]) dX7_contract_133 rfl (by decide) rfl ?_
                            refine am_iinc (I := iX7_contract) (pc := 134) (y := ((nI i) + 1)) (L' := [some (.ref 25), some (.int (nI (28 + k))), some (.int 1), some (.int 1), some (.int ((nI i) + 1))]) dX7_contract_134 rfl rfl rfl ?_
                            refine am_goto (I := iX7_contract) (pc := 137) (tgt := 108) dX7_contract_137 (by decide) ?_
                            exact am_same rfl (by rw [nI_1, apd, bI_1 c116, Bool.true_or]; rfl) rfl rfl rfl rfl (ih108 (i + 1) (by omega) (by omega))
                          · refine am_aload_n (I := iX7_contract) (pc := 119) dX7_contract_119 rfl rfl ?_
                            refine am_iload (I := iX7_contract) (pc := 120) dX7_contract_120 rfl ?_
                            refine am_callV (I := iX7_contract) (pc := 122) (st := []) lv_X7_122 (q_isPad sz lt n i h5 hl hn (by omega)) dX7_contract_122 md_25 rfl (Nat.le_of_ble_eq_true rfl) ⟨Nat.le_of_ble_eq_true rfl, Nat.le_of_ble_eq_true rfl⟩ (Nat.le_of_ble_eq_true rfl) (Nat.le_of_ble_eq_true rfl) rfl (fun v9 T9 z9 _ => ?_) (fun _ _ h9 => h9.elim)
                            obtain ⟨rfl, rfl⟩ := z9
                            show am_W _ _ _ _ _ _ _ _ _ _ _ _ _ _ _ 125 [some (.ref 25), some (.int (nI (28 + k))), some (.int 1), some (.int (bI (apd sz lt a26 n k i))), some (.int (nI i))] [.int (bI (ipd sz lt a26 n i n))] (mdS S 0 (nI n) wd ln sq st ct cl ft zn a26 a27 a28 a29 a30 a31 a32 a33 a34 a35 a36 (fun k => nI (sz k)) a38 a39 a40 a41 a42 a43 a44) 0 0
                            refine am_if_eq (I := iX7_contract) (pc := 125) (tgt := 132) dX7_contract_125 (by decide) (fun c125 => ?_) (fun c125 => ?_)
                            · refine am_iconst (I := iX7_contract) (pc := 132) (x := 0) dX7_contract_132 (by decide) ?_
                              refine am_istore_n (I := iX7_contract) (pc := 133) (L' := [some (.ref 25), some (.int (nI (28 + k))), some (.int 1), some (.int 0), some (.int (nI i))]) dX7_contract_133 rfl (by decide) rfl ?_
                              refine am_iinc (I := iX7_contract) (pc := 134) (y := ((nI i) + 1)) (L' := [some (.ref 25), some (.int (nI (28 + k))), some (.int 1), some (.int 0), some (.int ((nI i) + 1))]) dX7_contract_134 rfl rfl rfl ?_
                              refine am_goto (I := iX7_contract) (pc := 137) (tgt := 108) dX7_contract_137 (by decide) ?_
                              exact am_same rfl (by rw [nI_1, apd, bI_0 c116, bI_0 c125]; rfl) rfl rfl rfl rfl (ih108 (i + 1) (by omega) (by omega))
                            · refine am_iconst (I := iX7_contract) (pc := 128) (x := 1) dX7_contract_128 (by decide) ?_
                              refine am_goto (I := iX7_contract) (pc := 129) (tgt := 133) dX7_contract_129 (by decide) ?_
                              refine am_istore_n (I := iX7_contract) (pc := 133) (L' := [some (.ref 25), some (.int (nI (28 + k))), some (.int 1), some (.int 1), some (.int (nI i))]) dX7_contract_133 rfl (by decide) rfl ?_
                              refine am_iinc (I := iX7_contract) (pc := 134) (y := ((nI i) + 1)) (L' := [some (.ref 25), some (.int (nI (28 + k))), some (.int 1), some (.int 1), some (.int ((nI i) + 1))]) dX7_contract_134 rfl rfl rfl ?_
                              refine am_goto (I := iX7_contract) (pc := 137) (tgt := 108) dX7_contract_137 (by decide) ?_
                              exact am_same rfl (by rw [nI_1, apd, bI_1 c125, Bool.or_true]; rfl) rfl rfl rfl rfl (ih108 (i + 1) (by omega) (by omega))
                    exact am_same rfl (by rw [apd, decide_eq_false (fun q9 => nI_nle q9 (by have := h5 k; omega) c96)]; rfl) rfl rfl rfl rfl (loop108 _ 0 (Nat.lt_succ_self _) (Nat.zero_le _))
                  · refine am_iconst (I := iX7_contract) (pc := 99) (x := 1) dX7_contract_99 (by decide) ?_
                    refine am_goto (I := iX7_contract) (pc := 100) (tgt := 104) dX7_contract_100 (by decide) ?_
                    refine am_istore_n (I := iX7_contract) (pc := 104) (L' := [some (.ref 25), some (.int (nI (28 + k))), some (.int 1), some (.int 1), none]) dX7_contract_104 rfl (by decide) rfl ?_
                    refine am_iconst (I := iX7_contract) (pc := 105) (x := 0) dX7_contract_105 (by decide) ?_
                    refine am_istore (I := iX7_contract) (pc := 106) (L' := [some (.ref 25), some (.int (nI (28 + k))), some (.int 1), some (.int 1), some (.int 0)]) dX7_contract_106 (by decide) rfl ?_
                    have loop108 : ∀ (k108 : Nat) (i : Nat), 36 - i < k108 → (i ≤ 36) → am_W K iX7_contract xp l xe (am_room 2 0 0) xs xm xa xb xt xc (mdS S th (nI n) wd ln sq st ct cl ft zn a26 a27 a28 a29 a30 a31 a32 a33 a34 a35 a36 (fun k => nI (sz k)) a38 a39 a40 a41 a42 a43 a44) ad0 (am_E K ad0 (mdS S th (nI n) wd ln sq st ct cl ft zn a26 a27 a28 a29 a30 a31 a32 a33 a34 a35 a36 (fun k => nI (sz k)) a38 a39 a40 a41 a42 a43 a44) (fun v S' => v = some (.int (1)) ∧ mdS S 0 0 wd ln sq st (ct + 1) cl ft zn a26 a27 a28 a29 a30 a31 a32 a33 a34 a35 a36 (fun j => nI (va_up sz k n j)) (rcat a38 (k * 5) a26 n) a39 a40 a41 a42 a43 a44 = S') (fun _ _ => False) xb xa xs 0 0) 108 [some (.ref 25), some (.int (nI (28 + k))), some (.int 1), some (.int (bI (apd sz lt a26 n k i))), some (.int (nI i))] [] (mdS S 0 (nI n) wd ln sq st ct cl ft zn a26 a27 a28 a29 a30 a31 a32 a33 a34 a35 a36 (fun k => nI (sz k)) a38 a39 a40 a41 a42 a43 a44) 0 0 := by
                      intro k108
                      induction k108 with
                      | zero => intro i h9; exact absurd h9 (Nat.not_lt_zero _)
                      | succ k108 ih108 =>
                        intro i hm108 hi
                        refine am_iload (I := iX7_contract) (pc := 108) dX7_contract_108 rfl ?_
                        refine am_bipush (I := iX7_contract) (pc := 110) (x := 36) dX7_contract_110 (by decide) ?_
                        refine am_icmp_ge (I := iX7_contract) (pc := 112) (tgt := 140) dX7_contract_112 (by decide) (fun c112 => ?_) (fun c112 => ?_)
                        · have g112 : 36 ≤ i := by
                            rcases Nat.lt_or_ge i 36 with q9 | q9
                            · exact absurd c112 (nI_ge (a := i) (b := 36) q9 (by omega))
                            · exact q9
                          have ei : i = 36 := by omega
                          rw [ei, hd]
                          show am_W _ _ _ _ _ _ _ _ _ _ _ _ _ _ _ 140 [some (.ref 25), some (.int (nI (28 + k))), some (.int 1), some (.int 0), some (.int (nI 36))] [] _ _ _
                          refine am_iload_n (I := iX7_contract) (pc := 140) dX7_contract_140 rfl rfl ?_
                          refine am_if_eq (I := iX7_contract) (pc := 141) (tgt := 146) dX7_contract_141 (by decide) (fun c141 => ?_) (fun c141 => ?_)
                          · refine am_aload_n (I := iX7_contract) (pc := 146) dX7_contract_146 rfl rfl ?_
                            refine am_getf (I := iX7_contract) (pc := 147) lf_X7_43 dX7_contract_147 md_25 rfl ?_
                            refine am_iload_n (I := iX7_contract) (pc := 150) dX7_contract_150 rfl rfl ?_
                            refine am_bipush (I := iX7_contract) (pc := 151) (x := 28) dX7_contract_151 (by decide) ?_
                            refine am_isub (I := iX7_contract) (pc := 153) dX7_contract_153 ?_
                            have hn5 : n ≤ 5 := by
                              have h9 := hb
                              unfold cbc at h9
                              rw [Bool.and_eq_true, Bool.and_eq_true] at h9
                              exact of_decide_eq_true h9.1.2
                            rw [ix28]
                            refine am_aload_n (I := iX7_contract) (pc := 154) dX7_contract_154 rfl rfl ?_
                            refine am_getf (I := iX7_contract) (pc := 155) lf_X7_72 dX7_contract_155 md_25 rfl ?_
                            refine am_iastore (I := iX7_contract) (pc := 158) dX7_contract_158 md_37 rfl (vp_in_nI hk (by decide)) ?_
                            rw [nI_clamp (show k < 2 ^ 31 by omega)]
                            refine am_same (S' := mdS S 0 (nI n) wd ln sq st ct cl ft zn a26 a27 a28 a29 a30 a31 a32 a33 a34 a35 a36 (upd (fun k => nI (sz k)) k (nI n)) a38 a39 a40 a41 a42 a43 a44) rfl rfl rfl mdS_37 rfl rfl ?_
                            refine am_iconst (I := iX7_contract) (pc := 159) (x := 0) dX7_contract_159 (by decide) ?_
                            refine am_istore (I := iX7_contract) (pc := 160) (L' := [some (.ref 25), some (.int (nI (28 + k))), some (.int 1), some (.int 0), some (.int 0)]) dX7_contract_160 (by decide) rfl ?_
                            have loop162 : ∀ (k162 : Nat) (i : Nat), n - i < k162 → (i ≤ n) → am_W K iX7_contract xp l xe (am_room 2 0 0) xs xm xa xb xt xc (mdS S th (nI n) wd ln sq st ct cl ft zn a26 a27 a28 a29 a30 a31 a32 a33 a34 a35 a36 (fun k => nI (sz k)) a38 a39 a40 a41 a42 a43 a44) ad0 (am_E K ad0 (mdS S th (nI n) wd ln sq st ct cl ft zn a26 a27 a28 a29 a30 a31 a32 a33 a34 a35 a36 (fun k => nI (sz k)) a38 a39 a40 a41 a42 a43 a44) (fun v S' => v = some (.int (1)) ∧ mdS S 0 0 wd ln sq st (ct + 1) cl ft zn a26 a27 a28 a29 a30 a31 a32 a33 a34 a35 a36 (fun j => nI (va_up sz k n j)) (rcat a38 (k * 5) a26 n) a39 a40 a41 a42 a43 a44 = S') (fun _ _ => False) xb xa xs 0 0) 162 [some (.ref 25), some (.int (nI (28 + k))), some (.int 1), some (.int 0), some (.int (nI i))] [] (mdS S 0 (nI n) wd ln sq st ct cl ft zn a26 a27 a28 a29 a30 a31 a32 a33 a34 a35 a36 (fun j => nI (va_up sz k n j)) (rcat a38 (k * 5) a26 i) a39 a40 a41 a42 a43 a44) 0 0 := by
                              intro k162
                              induction k162 with
                              | zero => intro i h9; exact absurd h9 (Nat.not_lt_zero _)
                              | succ k162 ih162 =>
                                intro i hm162 hi
                                refine am_iload (I := iX7_contract) (pc := 162) dX7_contract_162 rfl ?_
                                refine am_aload_n (I := iX7_contract) (pc := 164) dX7_contract_164 rfl rfl ?_
                                refine am_getf (I := iX7_contract) (pc := 165) lf_X7_72 dX7_contract_165 md_25 rfl ?_
                                refine am_icmp_ge (I := iX7_contract) (pc := 168) (tgt := 198) dX7_contract_168 (by decide) (fun c168 => ?_) (fun c168 => ?_)
                                · have g168 : n ≤ i := by
                                    rcases Nat.lt_or_ge i n with q9 | q9
                                    · exact absurd c168 (nI_ge (a := i) (b := n) q9 (by omega))
                                    · exact q9
                                  have eim : i = n := by omega
                                  rw [eim]
                                  refine am_aload_n (I := iX7_contract) (pc := 198) dX7_contract_198 rfl rfl ?_
                                  refine am_iconst (I := iX7_contract) (pc := 199) (x := 0) dX7_contract_199 (by decide) ?_
                                  refine am_putf (I := iX7_contract) (pc := 200) (fs' := [.int 0, .int 0, .ref 26, .ref 27, .ref 28, .ref 29, .ref 30, .int wd, .ref 31, .ref 32, .ref 33, .ref 34, .int ln, .int sq, .int st, .ref 35, .ref 36, .ref 37, .ref 38, .int ct, .int cl, .int ft, .ref 39, .int zn, .ref 40, .ref 41, .ref 42, .ref 43, .ref 44]) lf_X7_72 dX7_contract_200 md_25 (fun _ => ⟨rfl, rfl⟩) (Nat.le_of_ble_eq_true rfl) rfl ?_
                                  refine am_same (S' := mdS S 0 0 wd ln sq st ct cl ft zn a26 a27 a28 a29 a30 a31 a32 a33 a34 a35 a36 (fun j => nI (va_up sz k n j)) (rcat a38 (k * 5) a26 n) a39 a40 a41 a42 a43 a44) rfl rfl rfl mdS_25 rfl rfl ?_
                                  refine am_aload_n (I := iX7_contract) (pc := 203) dX7_contract_203 rfl rfl ?_
                                  refine am_dup (I := iX7_contract) (pc := 204) dX7_contract_204 rfl ?_
                                  refine am_getf (I := iX7_contract) (pc := 205) lf_X7_125 dX7_contract_205 md_25 rfl ?_
                                  refine am_iconst (I := iX7_contract) (pc := 208) (x := 1) dX7_contract_208 (by decide) ?_
                                  refine am_iadd (I := iX7_contract) (pc := 209) dX7_contract_209 ?_
                                  refine am_putf (I := iX7_contract) (pc := 210) (fs' := [.int 0, .int 0, .ref 26, .ref 27, .ref 28, .ref 29, .ref 30, .int wd, .ref 31, .ref 32, .ref 33, .ref 34, .int ln, .int sq, .int st, .ref 35, .ref 36, .ref 37, .ref 38, .int (ct + 1), .int cl, .int ft, .ref 39, .int zn, .ref 40, .ref 41, .ref 42, .ref 43, .ref 44]) lf_X7_125 dX7_contract_210 md_25 (fun _ => ⟨rfl, rfl⟩) (Nat.le_of_ble_eq_true rfl) rfl ?_
                                  refine am_same (S' := mdS S 0 0 wd ln sq st (ct + 1) cl ft zn a26 a27 a28 a29 a30 a31 a32 a33 a34 a35 a36 (fun j => nI (va_up sz k n j)) (rcat a38 (k * 5) a26 n) a39 a40 a41 a42 a43 a44) rfl rfl rfl mdS_25 rfl rfl ?_
                                  refine am_iconst (I := iX7_contract) (pc := 213) (x := 1) dX7_contract_213 (by decide) ?_
                                  exact am_zret (I := iX7_contract) (pc := 214) dX7_contract_214 rfl (by decide) (Nat.le_refl _) (Nat.le_refl _) (⟨rfl, rfl⟩)
                                · have l168 : i < n := by
                                    rcases Nat.lt_or_ge i n with q9 | q9
                                    · exact q9
                                    · exact absurd (nI_le (a := n) (b := i) q9 (by omega)) c168
                                  refine am_aload_n (I := iX7_contract) (pc := 171) dX7_contract_171 rfl rfl ?_
                                  refine am_getf (I := iX7_contract) (pc := 172) lf_X7_46 dX7_contract_172 md_25 rfl ?_
                                  refine am_iconst (I := iX7_contract) (pc := 175) (x := 5) dX7_contract_175 (by decide) ?_
                                  refine am_iload_n (I := iX7_contract) (pc := 176) dX7_contract_176 rfl rfl ?_
                                  refine am_bipush (I := iX7_contract) (pc := 177) (x := 28) dX7_contract_177 (by decide) ?_
                                  refine am_isub (I := iX7_contract) (pc := 179) dX7_contract_179 ?_
                                  rw [ix28]
                                  refine am_imul (I := iX7_contract) (pc := 180) dX7_contract_180 ?_
                                  refine am_iload (I := iX7_contract) (pc := 181) dX7_contract_181 rfl ?_
                                  refine am_iadd (I := iX7_contract) (pc := 183) dX7_contract_183 ?_
                                  rw [ix5]
                                  refine am_aload_n (I := iX7_contract) (pc := 184) dX7_contract_184 rfl rfl ?_
                                  refine am_getf (I := iX7_contract) (pc := 185) lf_X7_7 dX7_contract_185 md_25 rfl ?_
                                  refine am_iload (I := iX7_contract) (pc := 188) dX7_contract_188 rfl ?_
                                  refine am_iaload (I := iX7_contract) (pc := 190) dX7_contract_190 md_26 rfl (vp_in_nI (show i < 80 by omega) (by decide)) ?_
                                  rw [nI_clamp (show i < 2 ^ 31 by omega)]
                                  refine am_iastore (I := iX7_contract) (pc := 191) dX7_contract_191 md_38 rfl (vp_in_nI (show k * 5 + i < 180 by omega) (by decide)) ?_
                                  rw [nI_clamp (show k * 5 + i < 2 ^ 31 by omega)]
                                  refine am_same (S' := mdS S 0 (nI n) wd ln sq st ct cl ft zn a26 a27 a28 a29 a30 a31 a32 a33 a34 a35 a36 (fun j => nI (va_up sz k n j)) (upd (rcat a38 (k * 5) a26 i) (k * 5 + i) (a26 i)) a39 a40 a41 a42 a43 a44) rfl rfl rfl mdS_38 rfl rfl ?_
                                  refine am_iinc (I := iX7_contract) (pc := 192) (y := ((nI i) + 1)) (L' := [some (.ref 25), some (.int (nI (28 + k))), some (.int 1), some (.int 0), some (.int ((nI i) + 1))]) dX7_contract_192 rfl rfl rfl ?_
                                  refine am_goto (I := iX7_contract) (pc := 195) (tgt := 162) dX7_contract_195 (by decide) ?_
                                  exact am_same rfl (by rw [nI_1]) rfl (by rw [rcat_s]) rfl rfl (ih162 (i + 1) (by omega) (by omega))
                            exact am_same rfl (by rfl) rfl (by rw [upd_nI, rcat_0]) rfl rfl (loop162 _ 0 (Nat.lt_succ_self _) (Nat.zero_le _))
                          · exact absurd rfl c141
                        · have l112 : i < 36 := by
                            rcases Nat.lt_or_ge i 36 with q9 | q9
                            · exact q9
                            · exact absurd (nI_le (a := 36) (b := i) q9 (by omega)) c112
                          refine am_iload_n (I := iX7_contract) (pc := 115) dX7_contract_115 rfl rfl ?_
                          refine am_if_ne (I := iX7_contract) (pc := 116) (tgt := 128) dX7_contract_116 (by decide) (fun c116 => ?_) (fun c116 => ?_)
                          · refine am_iconst (I := iX7_contract) (pc := 128) (x := 1) dX7_contract_128 (by decide) ?_
                            refine am_goto (I := iX7_contract) (pc := 129) (tgt := 133) dX7_contract_129 (by decide) ?_
                            refine am_istore_n (I := iX7_contract) (pc := 133) (L' := [some (.ref 25), some (.int (nI (28 + k))), some (.int 1), some (.int 1), some (.int (nI i))]) dX7_contract_133 rfl (by decide) rfl ?_
                            refine am_iinc (I := iX7_contract) (pc := 134) (y := ((nI i) + 1)) (L' := [some (.ref 25), some (.int (nI (28 + k))), some (.int 1), some (.int 1), some (.int ((nI i) + 1))]) dX7_contract_134 rfl rfl rfl ?_
                            refine am_goto (I := iX7_contract) (pc := 137) (tgt := 108) dX7_contract_137 (by decide) ?_
                            exact am_same rfl (by rw [nI_1, apd, bI_1 c116, Bool.true_or]; rfl) rfl rfl rfl rfl (ih108 (i + 1) (by omega) (by omega))
                          · refine am_aload_n (I := iX7_contract) (pc := 119) dX7_contract_119 rfl rfl ?_
                            refine am_iload (I := iX7_contract) (pc := 120) dX7_contract_120 rfl ?_
                            refine am_callV (I := iX7_contract) (pc := 122) (st := []) lv_X7_122 (q_isPad sz lt n i h5 hl hn (by omega)) dX7_contract_122 md_25 rfl (Nat.le_of_ble_eq_true rfl) ⟨Nat.le_of_ble_eq_true rfl, Nat.le_of_ble_eq_true rfl⟩ (Nat.le_of_ble_eq_true rfl) (Nat.le_of_ble_eq_true rfl) rfl (fun v9 T9 z9 _ => ?_) (fun _ _ h9 => h9.elim)
                            obtain ⟨rfl, rfl⟩ := z9
                            show am_W _ _ _ _ _ _ _ _ _ _ _ _ _ _ _ 125 [some (.ref 25), some (.int (nI (28 + k))), some (.int 1), some (.int (bI (apd sz lt a26 n k i))), some (.int (nI i))] [.int (bI (ipd sz lt a26 n i n))] (mdS S 0 (nI n) wd ln sq st ct cl ft zn a26 a27 a28 a29 a30 a31 a32 a33 a34 a35 a36 (fun k => nI (sz k)) a38 a39 a40 a41 a42 a43 a44) 0 0
                            refine am_if_eq (I := iX7_contract) (pc := 125) (tgt := 132) dX7_contract_125 (by decide) (fun c125 => ?_) (fun c125 => ?_)
                            · refine am_iconst (I := iX7_contract) (pc := 132) (x := 0) dX7_contract_132 (by decide) ?_
                              refine am_istore_n (I := iX7_contract) (pc := 133) (L' := [some (.ref 25), some (.int (nI (28 + k))), some (.int 1), some (.int 0), some (.int (nI i))]) dX7_contract_133 rfl (by decide) rfl ?_
                              refine am_iinc (I := iX7_contract) (pc := 134) (y := ((nI i) + 1)) (L' := [some (.ref 25), some (.int (nI (28 + k))), some (.int 1), some (.int 0), some (.int ((nI i) + 1))]) dX7_contract_134 rfl rfl rfl ?_
                              refine am_goto (I := iX7_contract) (pc := 137) (tgt := 108) dX7_contract_137 (by decide) ?_
                              exact am_same rfl (by rw [nI_1, apd, bI_0 c116, bI_0 c125]; rfl) rfl rfl rfl rfl (ih108 (i + 1) (by omega) (by omega))
                            · refine am_iconst (I := iX7_contract) (pc := 128) (x := 1) dX7_contract_128 (by decide) ?_
                              refine am_goto (I := iX7_contract) (pc := 129) (tgt := 133) dX7_contract_129 (by decide) ?_
                              refine am_istore_n (I := iX7_contract) (pc := 133) (L' := [some (.ref 25), some (.int (nI (28 + k))), some (.int 1), some (.int 1), some (.int (nI i))]) dX7_contract_133 rfl (by decide) rfl ?_
                              refine am_iinc (I := iX7_contract) (pc := 134) (y := ((nI i) + 1)) (L' := [some (.ref 25), some (.int (nI (28 + k))), some (.int 1), some (.int 1), some (.int ((nI i) + 1))]) dX7_contract_134 rfl rfl rfl ?_
                              refine am_goto (I := iX7_contract) (pc := 137) (tgt := 108) dX7_contract_137 (by decide) ?_
                              exact am_same rfl (by rw [nI_1, apd, bI_1 c125, Bool.or_true]; rfl) rfl rfl rfl rfl (ih108 (i + 1) (by omega) (by omega))
                    exact am_same rfl (by rw [apd, decide_eq_true (Nat.pos_of_ne_zero (fun e9 => c96 (by rw [e9]; decide)))]; rfl) rfl rfl rfl rfl (loop108 _ 0 (Nat.lt_succ_self _) (Nat.zero_le _))
                · exact absurd c82 (by decide)
          · have l29 : i < n := by
              rcases Nat.lt_or_ge i n with q9 | q9
              · exact q9
              · exact absurd (nI_le (a := n) (b := i) q9 (by omega)) c29
            refine am_iload_n (I := iX7_contract) (pc := 32) dX7_contract_32 rfl rfl ?_
            refine am_if_eq (I := iX7_contract) (pc := 33) (tgt := 52) dX7_contract_33 (by decide) (fun c33 => ?_) (fun c33 => ?_)
            · refine am_iconst (I := iX7_contract) (pc := 52) (x := 0) dX7_contract_52 (by decide) ?_
              refine am_istore_n (I := iX7_contract) (pc := 53) (L' := [some (.ref 25), some (.int (nI (28 + k))), some (.int 0), some (.int (nI i)), none]) dX7_contract_53 rfl (by decide) rfl ?_
              refine am_iinc (I := iX7_contract) (pc := 54) (y := ((nI i) + 1)) (L' := [some (.ref 25), some (.int (nI (28 + k))), some (.int 0), some (.int ((nI i) + 1)), none]) dX7_contract_54 rfl rfl rfl ?_
              refine am_goto (I := iX7_contract) (pc := 57) (tgt := 24) dX7_contract_57 (by decide) ?_
              exact am_same rfl (by rw [nI_1, cbi_s, bI_0 c33, Bool.false_and]; rfl) rfl rfl rfl rfl (ih24 (i + 1) (by omega) (by omega))
            · refine am_aload_n (I := iX7_contract) (pc := 36) dX7_contract_36 rfl rfl ?_
              refine am_getf (I := iX7_contract) (pc := 37) lf_X7_7 dX7_contract_37 md_25 rfl ?_
              refine am_iload_n (I := iX7_contract) (pc := 40) dX7_contract_40 rfl rfl ?_
              refine am_iaload (I := iX7_contract) (pc := 41) dX7_contract_41 md_26 rfl (vp_in_nI (show i < 80 by omega) (by decide)) ?_
              rw [nI_clamp (show i < 2 ^ 31 by omega)]
              refine am_callS (I := iX7_contract) (pc := 42) (st := []) lv_X7_75 rfl (q_isLetter (a26 i)) dX7_contract_42 rfl (Nat.le_of_ble_eq_true rfl) ⟨Nat.le_of_ble_eq_true rfl, Nat.le_of_ble_eq_true rfl⟩ (Nat.le_of_ble_eq_true rfl) (Nat.le_of_ble_eq_true rfl) rfl (fun v9 T9 z9 _ => ?_) (fun _ _ h9 => h9.elim)
              obtain ⟨rfl, rfl⟩ := z9
              show am_W _ _ _ _ _ _ _ _ _ _ _ _ _ _ _ 45 [some (.ref 25), some (.int (nI (28 + k))), some (.int (bI (cbi a26 n i))), some (.int (nI i)), none] [.int (bI (isl (a26 i)))] (mdS S th (nI n) wd ln sq st ct cl ft zn a26 a27 a28 a29 a30 a31 a32 a33 a34 a35 a36 (fun k => nI (sz k)) a38 a39 a40 a41 a42 a43 a44) 0 0
              refine am_if_eq (I := iX7_contract) (pc := 45) (tgt := 52) dX7_contract_45 (by decide) (fun c45 => ?_) (fun c45 => ?_)
              · refine am_iconst (I := iX7_contract) (pc := 52) (x := 0) dX7_contract_52 (by decide) ?_
                refine am_istore_n (I := iX7_contract) (pc := 53) (L' := [some (.ref 25), some (.int (nI (28 + k))), some (.int 0), some (.int (nI i)), none]) dX7_contract_53 rfl (by decide) rfl ?_
                refine am_iinc (I := iX7_contract) (pc := 54) (y := ((nI i) + 1)) (L' := [some (.ref 25), some (.int (nI (28 + k))), some (.int 0), some (.int ((nI i) + 1)), none]) dX7_contract_54 rfl rfl rfl ?_
                refine am_goto (I := iX7_contract) (pc := 57) (tgt := 24) dX7_contract_57 (by decide) ?_
                exact am_same rfl (by rw [nI_1, cbi_s, bI_0 c45, Bool.and_false]; rfl) rfl rfl rfl rfl (ih24 (i + 1) (by omega) (by omega))
              · refine am_iconst (I := iX7_contract) (pc := 48) (x := 1) dX7_contract_48 (by decide) ?_
                refine am_goto (I := iX7_contract) (pc := 49) (tgt := 53) dX7_contract_49 (by decide) ?_
                refine am_istore_n (I := iX7_contract) (pc := 53) (L' := [some (.ref 25), some (.int (nI (28 + k))), some (.int 1), some (.int (nI i)), none]) dX7_contract_53 rfl (by decide) rfl ?_
                refine am_iinc (I := iX7_contract) (pc := 54) (y := ((nI i) + 1)) (L' := [some (.ref 25), some (.int (nI (28 + k))), some (.int 1), some (.int ((nI i) + 1)), none]) dX7_contract_54 rfl rfl rfl ?_
                refine am_goto (I := iX7_contract) (pc := 57) (tgt := 24) dX7_contract_57 (by decide) ?_
                exact am_same rfl (by rw [nI_1, cbi_s, bI_1 c33, bI_1 c45]; rfl) rfl rfl rfl rfl (ih24 (i + 1) (by omega) (by omega))
      exact am_same rfl (by rw [cbi_0, decide_eq_true (show 2 ≤ n by rcases Nat.lt_or_ge n 2 with q9 | q9; exact absurd (nI_lt (b := 2) q9 (by decide)) c5; exact q9), Bool.true_and, decide_eq_false (fun q9 => nI_nlt (a := 5) q9 (by decide) c13)]; rfl) rfl rfl rfl rfl (loop24 _ 0 (Nat.lt_succ_self _) (Nat.zero_le _))
    · refine am_iconst (I := iX7_contract) (pc := 16) (x := 1) dX7_contract_16 (by decide) ?_
      refine am_goto (I := iX7_contract) (pc := 17) (tgt := 21) dX7_contract_17 (by decide) ?_
      refine am_istore_n (I := iX7_contract) (pc := 21) (L' := [some (.ref 25), some (.int (nI (28 + k))), some (.int 1), none, none]) dX7_contract_21 rfl (by decide) rfl ?_
      refine am_iconst (I := iX7_contract) (pc := 22) (x := 0) dX7_contract_22 (by decide) ?_
      refine am_istore_n (I := iX7_contract) (pc := 23) (L' := [some (.ref 25), some (.int (nI (28 + k))), some (.int 1), some (.int 0), none]) dX7_contract_23 rfl (by decide) rfl ?_
      have loop24 : ∀ (k24 : Nat) (i : Nat), n - i < k24 → (i ≤ n) → am_W K iX7_contract xp l xe (am_room 2 0 0) xs xm xa xb xt xc (mdS S th (nI n) wd ln sq st ct cl ft zn a26 a27 a28 a29 a30 a31 a32 a33 a34 a35 a36 (fun k => nI (sz k)) a38 a39 a40 a41 a42 a43 a44) ad0 (am_E K ad0 (mdS S th (nI n) wd ln sq st ct cl ft zn a26 a27 a28 a29 a30 a31 a32 a33 a34 a35 a36 (fun k => nI (sz k)) a38 a39 a40 a41 a42 a43 a44) (fun v S' => v = some (.int (1)) ∧ mdS S 0 0 wd ln sq st (ct + 1) cl ft zn a26 a27 a28 a29 a30 a31 a32 a33 a34 a35 a36 (fun j => nI (va_up sz k n j)) (rcat a38 (k * 5) a26 n) a39 a40 a41 a42 a43 a44 = S') (fun _ _ => False) xb xa xs 0 0) 24 [some (.ref 25), some (.int (nI (28 + k))), some (.int (bI (cbi a26 n i))), some (.int (nI i)), none] [] (mdS S th (nI n) wd ln sq st ct cl ft zn a26 a27 a28 a29 a30 a31 a32 a33 a34 a35 a36 (fun k => nI (sz k)) a38 a39 a40 a41 a42 a43 a44) 0 0 := by
        intro k24
        induction k24 with
        | zero => intro i h9; exact absurd h9 (Nat.not_lt_zero _)
        | succ k24 ih24 =>
          intro i hm24 hi
          refine am_iload_n (I := iX7_contract) (pc := 24) dX7_contract_24 rfl rfl ?_
          refine am_aload_n (I := iX7_contract) (pc := 25) dX7_contract_25 rfl rfl ?_
          refine am_getf (I := iX7_contract) (pc := 26) lf_X7_72 dX7_contract_26 md_25 rfl ?_
          refine am_icmp_ge (I := iX7_contract) (pc := 29) (tgt := 60) dX7_contract_29 (by decide) (fun c29 => ?_) (fun c29 => ?_)
          · have g29 : n ≤ i := by
              rcases Nat.lt_or_ge i n with q9 | q9
              · exact absurd c29 (nI_ge (a := i) (b := n) q9 (by omega))
              · exact q9
            have ein : i = n := by omega
            rw [ein, cbi_n, hb]
            show am_W _ _ _ _ _ _ _ _ _ _ _ _ _ _ _ 60 [some (.ref 25), some (.int (nI (28 + k))), some (.int 1), some (.int (nI n)), none] [] _ _ _
            refine am_aload_n (I := iX7_contract) (pc := 60) dX7_contract_60 rfl rfl ?_
            refine am_iload_n (I := iX7_contract) (pc := 61) dX7_contract_61 rfl rfl ?_
            refine am_iload_n (I := iX7_contract) (pc := 62) dX7_contract_62 rfl rfl ?_
            refine am_bipush (I := iX7_contract) (pc := 63) (x := 28) dX7_contract_63 (by decide) ?_
            refine am_icmp_lt (I := iX7_contract) (pc := 65) (tgt := 78) dX7_contract_65 (by decide) (fun c65 => ?_) (fun c65 => ?_)
            · exact absurd c65 (nI_nlt (a := 28 + k) (b := 28) (by omega) (by omega))
            · refine am_iload_n (I := iX7_contract) (pc := 68) dX7_contract_68 rfl rfl ?_
              refine am_bipush (I := iX7_contract) (pc := 69) (x := 63) dX7_contract_69 (by decide) ?_
              refine am_icmp_gt (I := iX7_contract) (pc := 71) (tgt := 78) dX7_contract_71 (by decide) (fun c71 => ?_) (fun c71 => ?_)
              · exact absurd c71 (nI_nlt (a := 63) (b := 28 + k) (by omega) (by decide))
              · refine am_iconst (I := iX7_contract) (pc := 74) (x := 1) dX7_contract_74 (by decide) ?_
                refine am_goto (I := iX7_contract) (pc := 75) (tgt := 79) dX7_contract_75 (by decide) ?_
                refine am_callV (I := iX7_contract) (pc := 79) (st := []) lv_X7_79 (q_goes0) dX7_contract_79 md_25 rfl (Nat.le_of_ble_eq_true rfl) ⟨Nat.le_of_ble_eq_true rfl, Nat.le_of_ble_eq_true rfl⟩ (Nat.le_of_ble_eq_true rfl) (Nat.le_of_ble_eq_true rfl) rfl (fun v9 T9 z9 _ => ?_) (fun _ _ h9 => h9.elim)
                obtain ⟨rfl, rfl⟩ := z9
                show am_W _ _ _ _ _ _ _ _ _ _ _ _ _ _ _ 82 [some (.ref 25), some (.int (nI (28 + k))), some (.int 1), some (.int (nI n)), none] [.int 1] (mdS S 0 (nI n) wd ln sq st ct cl ft zn a26 a27 a28 a29 a30 a31 a32 a33 a34 a35 a36 (fun k => nI (sz k)) a38 a39 a40 a41 a42 a43 a44) 0 0
                refine am_if_ne (I := iX7_contract) (pc := 82) (tgt := 87) dX7_contract_82 (by decide) (fun c82 => ?_) (fun c82 => ?_)
                · refine am_aload_n (I := iX7_contract) (pc := 87) dX7_contract_87 rfl rfl ?_
                  refine am_getf (I := iX7_contract) (pc := 88) lf_X7_43 dX7_contract_88 md_25 rfl ?_
                  refine am_iload_n (I := iX7_contract) (pc := 91) dX7_contract_91 rfl rfl ?_
                  refine am_bipush (I := iX7_contract) (pc := 92) (x := 28) dX7_contract_92 (by decide) ?_
                  refine am_isub (I := iX7_contract) (pc := 94) dX7_contract_94 ?_
                  rw [ix28]
                  refine am_iaload (I := iX7_contract) (pc := 95) dX7_contract_95 md_37 rfl (vp_in_nI hk (by decide)) ?_
                  rw [nI_clamp (show k < 2 ^ 31 by omega)]
                  refine am_if_le (I := iX7_contract) (pc := 96) (tgt := 103) dX7_contract_96 (by decide) (fun c96 => ?_) (fun c96 => ?_)
                  · refine am_iconst (I := iX7_contract) (pc := 103) (x := 0) dX7_contract_103 (by decide) ?_
                    refine am_istore_n (I := iX7_contract) (pc := 104) (L' := [some (.ref 25), some (.int (nI (28 + k))), some (.int 1), some (.int 0), none]) dX7_contract_104 rfl (by decide) rfl ?_
                    refine am_iconst (I := iX7_contract) (pc := 105) (x := 0) dX7_contract_105 (by decide) ?_
                    refine am_istore (I := iX7_contract) (pc := 106) (L' := [some (.ref 25), some (.int (nI (28 + k))), some (.int 1), some (.int 0), some (.int 0)]) dX7_contract_106 (by decide) rfl ?_
                    have loop108 : ∀ (k108 : Nat) (i : Nat), 36 - i < k108 → (i ≤ 36) → am_W K iX7_contract xp l xe (am_room 2 0 0) xs xm xa xb xt xc (mdS S th (nI n) wd ln sq st ct cl ft zn a26 a27 a28 a29 a30 a31 a32 a33 a34 a35 a36 (fun k => nI (sz k)) a38 a39 a40 a41 a42 a43 a44) ad0 (am_E K ad0 (mdS S th (nI n) wd ln sq st ct cl ft zn a26 a27 a28 a29 a30 a31 a32 a33 a34 a35 a36 (fun k => nI (sz k)) a38 a39 a40 a41 a42 a43 a44) (fun v S' => v = some (.int (1)) ∧ mdS S 0 0 wd ln sq st (ct + 1) cl ft zn a26 a27 a28 a29 a30 a31 a32 a33 a34 a35 a36 (fun j => nI (va_up sz k n j)) (rcat a38 (k * 5) a26 n) a39 a40 a41 a42 a43 a44 = S') (fun _ _ => False) xb xa xs 0 0) 108 [some (.ref 25), some (.int (nI (28 + k))), some (.int 1), some (.int (bI (apd sz lt a26 n k i))), some (.int (nI i))] [] (mdS S 0 (nI n) wd ln sq st ct cl ft zn a26 a27 a28 a29 a30 a31 a32 a33 a34 a35 a36 (fun k => nI (sz k)) a38 a39 a40 a41 a42 a43 a44) 0 0 := by
                      intro k108
                      induction k108 with
                      | zero => intro i h9; exact absurd h9 (Nat.not_lt_zero _)
                      | succ k108 ih108 =>
                        intro i hm108 hi
                        refine am_iload (I := iX7_contract) (pc := 108) dX7_contract_108 rfl ?_
                        refine am_bipush (I := iX7_contract) (pc := 110) (x := 36) dX7_contract_110 (by decide) ?_
                        refine am_icmp_ge (I := iX7_contract) (pc := 112) (tgt := 140) dX7_contract_112 (by decide) (fun c112 => ?_) (fun c112 => ?_)
                        · have g112 : 36 ≤ i := by
                            rcases Nat.lt_or_ge i 36 with q9 | q9
                            · exact absurd c112 (nI_ge (a := i) (b := 36) q9 (by omega))
                            · exact q9
                          have ei : i = 36 := by omega
                          rw [ei, hd]
                          show am_W _ _ _ _ _ _ _ _ _ _ _ _ _ _ _ 140 [some (.ref 25), some (.int (nI (28 + k))), some (.int 1), some (.int 0), some (.int (nI 36))] [] _ _ _
                          refine am_iload_n (I := iX7_contract) (pc := 140) dX7_contract_140 rfl rfl ?_
                          refine am_if_eq (I := iX7_contract) (pc := 141) (tgt := 146) dX7_contract_141 (by decide) (fun c141 => ?_) (fun c141 => ?_)
                          · refine am_aload_n (I := iX7_contract) (pc := 146) dX7_contract_146 rfl rfl ?_
                            refine am_getf (I := iX7_contract) (pc := 147) lf_X7_43 dX7_contract_147 md_25 rfl ?_
                            refine am_iload_n (I := iX7_contract) (pc := 150) dX7_contract_150 rfl rfl ?_
                            refine am_bipush (I := iX7_contract) (pc := 151) (x := 28) dX7_contract_151 (by decide) ?_
                            refine am_isub (I := iX7_contract) (pc := 153) dX7_contract_153 ?_
                            have hn5 : n ≤ 5 := by
                              have h9 := hb
                              unfold cbc at h9
                              rw [Bool.and_eq_true, Bool.and_eq_true] at h9
                              exact of_decide_eq_true h9.1.2
                            rw [ix28]
                            refine am_aload_n (I := iX7_contract) (pc := 154) dX7_contract_154 rfl rfl ?_
                            refine am_getf (I := iX7_contract) (pc := 155) lf_X7_72 dX7_contract_155 md_25 rfl ?_
                            refine am_iastore (I := iX7_contract) (pc := 158) dX7_contract_158 md_37 rfl (vp_in_nI hk (by decide)) ?_
                            rw [nI_clamp (show k < 2 ^ 31 by omega)]
                            refine am_same (S' := mdS S 0 (nI n) wd ln sq st ct cl ft zn a26 a27 a28 a29 a30 a31 a32 a33 a34 a35 a36 (upd (fun k => nI (sz k)) k (nI n)) a38 a39 a40 a41 a42 a43 a44) rfl rfl rfl mdS_37 rfl rfl ?_
                            refine am_iconst (I := iX7_contract) (pc := 159) (x := 0) dX7_contract_159 (by decide) ?_
                            refine am_istore (I := iX7_contract) (pc := 160) (L' := [some (.ref 25), some (.int (nI (28 + k))), some (.int 1), some (.int 0), some (.int 0)]) dX7_contract_160 (by decide) rfl ?_
                            have loop162 : ∀ (k162 : Nat) (i : Nat), n - i < k162 → (i ≤ n) → am_W K iX7_contract xp l xe (am_room 2 0 0) xs xm xa xb xt xc (mdS S th (nI n) wd ln sq st ct cl ft zn a26 a27 a28 a29 a30 a31 a32 a33 a34 a35 a36 (fun k => nI (sz k)) a38 a39 a40 a41 a42 a43 a44) ad0 (am_E K ad0 (mdS S th (nI n) wd ln sq st ct cl ft zn a26 a27 a28 a29 a30 a31 a32 a33 a34 a35 a36 (fun k => nI (sz k)) a38 a39 a40 a41 a42 a43 a44) (fun v S' => v = some (.int (1)) ∧ mdS S 0 0 wd ln sq st (ct + 1) cl ft zn a26 a27 a28 a29 a30 a31 a32 a33 a34 a35 a36 (fun j => nI (va_up sz k n j)) (rcat a38 (k * 5) a26 n) a39 a40 a41 a42 a43 a44 = S') (fun _ _ => False) xb xa xs 0 0) 162 [some (.ref 25), some (.int (nI (28 + k))), some (.int 1), some (.int 0), some (.int (nI i))] [] (mdS S 0 (nI n) wd ln sq st ct cl ft zn a26 a27 a28 a29 a30 a31 a32 a33 a34 a35 a36 (fun j => nI (va_up sz k n j)) (rcat a38 (k * 5) a26 i) a39 a40 a41 a42 a43 a44) 0 0 := by
                              intro k162
                              induction k162 with
                              | zero => intro i h9; exact absurd h9 (Nat.not_lt_zero _)
                              | succ k162 ih162 =>
                                intro i hm162 hi
                                refine am_iload (I := iX7_contract) (pc := 162) dX7_contract_162 rfl ?_
                                refine am_aload_n (I := iX7_contract) (pc := 164) dX7_contract_164 rfl rfl ?_
                                refine am_getf (I := iX7_contract) (pc := 165) lf_X7_72 dX7_contract_165 md_25 rfl ?_
                                refine am_icmp_ge (I := iX7_contract) (pc := 168) (tgt := 198) dX7_contract_168 (by decide) (fun c168 => ?_) (fun c168 => ?_)
                                · have g168 : n ≤ i := by
                                    rcases Nat.lt_or_ge i n with q9 | q9
                                    · exact absurd c168 (nI_ge (a := i) (b := n) q9 (by omega))
                                    · exact q9
                                  have eim : i = n := by omega
                                  rw [eim]
                                  refine am_aload_n (I := iX7_contract) (pc := 198) dX7_contract_198 rfl rfl ?_
                                  refine am_iconst (I := iX7_contract) (pc := 199) (x := 0) dX7_contract_199 (by decide) ?_
                                  refine am_putf (I := iX7_contract) (pc := 200) (fs' := [.int 0, .int 0, .ref 26, .ref 27, .ref 28, .ref 29, .ref 30, .int wd, .ref 31, .ref 32, .ref 33, .ref 34, .int ln, .int sq, .int st, .ref 35, .ref 36, .ref 37, .ref 38, .int ct, .int cl, .int ft, .ref 39, .int zn, .ref 40, .ref 41, .ref 42, .ref 43, .ref 44]) lf_X7_72 dX7_contract_200 md_25 (fun _ => ⟨rfl, rfl⟩) (Nat.le_of_ble_eq_true rfl) rfl ?_
                                  refine am_same (S' := mdS S 0 0 wd ln sq st ct cl ft zn a26 a27 a28 a29 a30 a31 a32 a33 a34 a35 a36 (fun j => nI (va_up sz k n j)) (rcat a38 (k * 5) a26 n) a39 a40 a41 a42 a43 a44) rfl rfl rfl mdS_25 rfl rfl ?_
                                  refine am_aload_n (I := iX7_contract) (pc := 203) dX7_contract_203 rfl rfl ?_
                                  refine am_dup (I := iX7_contract) (pc := 204) dX7_contract_204 rfl ?_
                                  refine am_getf (I := iX7_contract) (pc := 205) lf_X7_125 dX7_contract_205 md_25 rfl ?_
                                  refine am_iconst (I := iX7_contract) (pc := 208) (x := 1) dX7_contract_208 (by decide) ?_
                                  refine am_iadd (I := iX7_contract) (pc := 209) dX7_contract_209 ?_
                                  refine am_putf (I := iX7_contract) (pc := 210) (fs' := [.int 0, .int 0, .ref 26, .ref 27, .ref 28, .ref 29, .ref 30, .int wd, .ref 31, .ref 32, .ref 33, .ref 34, .int ln, .int sq, .int st, .ref 35, .ref 36, .ref 37, .ref 38, .int (ct + 1), .int cl, .int ft, .ref 39, .int zn, .ref 40, .ref 41, .ref 42, .ref 43, .ref 44]) lf_X7_125 dX7_contract_210 md_25 (fun _ => ⟨rfl, rfl⟩) (Nat.le_of_ble_eq_true rfl) rfl ?_
                                  refine am_same (S' := mdS S 0 0 wd ln sq st (ct + 1) cl ft zn a26 a27 a28 a29 a30 a31 a32 a33 a34 a35 a36 (fun j => nI (va_up sz k n j)) (rcat a38 (k * 5) a26 n) a39 a40 a41 a42 a43 a44) rfl rfl rfl mdS_25 rfl rfl ?_
                                  refine am_iconst (I := iX7_contract) (pc := 213) (x := 1) dX7_contract_213 (by decide) ?_
                                  exact am_zret (I := iX7_contract) (pc := 214) dX7_contract_214 rfl (by decide) (Nat.le_refl _) (Nat.le_refl _) (⟨rfl, rfl⟩)
                                · have l168 : i < n := by
                                    rcases Nat.lt_or_ge i n with q9 | q9
                                    · exact q9
                                    · exact absurd (nI_le (a := n) (b := i) q9 (by omega)) c168
                                  refine am_aload_n (I := iX7_contract) (pc := 171) dX7_contract_171 rfl rfl ?_
                                  refine am_getf (I := iX7_contract) (pc := 172) lf_X7_46 dX7_contract_172 md_25 rfl ?_
                                  refine am_iconst (I := iX7_contract) (pc := 175) (x := 5) dX7_contract_175 (by decide) ?_
                                  refine am_iload_n (I := iX7_contract) (pc := 176) dX7_contract_176 rfl rfl ?_
                                  refine am_bipush (I := iX7_contract) (pc := 177) (x := 28) dX7_contract_177 (by decide) ?_
                                  refine am_isub (I := iX7_contract) (pc := 179) dX7_contract_179 ?_
                                  rw [ix28]
                                  refine am_imul (I := iX7_contract) (pc := 180) dX7_contract_180 ?_
                                  refine am_iload (I := iX7_contract) (pc := 181) dX7_contract_181 rfl ?_
                                  refine am_iadd (I := iX7_contract) (pc := 183) dX7_contract_183 ?_
                                  rw [ix5]
                                  refine am_aload_n (I := iX7_contract) (pc := 184) dX7_contract_184 rfl rfl ?_
                                  refine am_getf (I := iX7_contract) (pc := 185) lf_X7_7 dX7_contract_185 md_25 rfl ?_
                                  refine am_iload (I := iX7_contract) (pc := 188) dX7_contract_188 rfl ?_
                                  refine am_iaload (I := iX7_contract) (pc := 190) dX7_contract_190 md_26 rfl (vp_in_nI (show i < 80 by omega) (by decide)) ?_
                                  rw [nI_clamp (show i < 2 ^ 31 by omega)]
                                  refine am_iastore (I := iX7_contract) (pc := 191) dX7_contract_191 md_38 rfl (vp_in_nI (show k * 5 + i < 180 by omega) (by decide)) ?_
                                  rw [nI_clamp (show k * 5 + i < 2 ^ 31 by omega)]
                                  refine am_same (S' := mdS S 0 (nI n) wd ln sq st ct cl ft zn a26 a27 a28 a29 a30 a31 a32 a33 a34 a35 a36 (fun j => nI (va_up sz k n j)) (upd (rcat a38 (k * 5) a26 i) (k * 5 + i) (a26 i)) a39 a40 a41 a42 a43 a44) rfl rfl rfl mdS_38 rfl rfl ?_
                                  refine am_iinc (I := iX7_contract) (pc := 192) (y := ((nI i) + 1)) (L' := [some (.ref 25), some (.int (nI (28 + k))), some (.int 1), some (.int 0), some (.int ((nI i) + 1))]) dX7_contract_192 rfl rfl rfl ?_
                                  refine am_goto (I := iX7_contract) (pc := 195) (tgt := 162) dX7_contract_195 (by decide) ?_
                                  exact am_same rfl (by rw [nI_1]) rfl (by rw [rcat_s]) rfl rfl (ih162 (i + 1) (by omega) (by omega))
                            exact am_same rfl (by rfl) rfl (by rw [upd_nI, rcat_0]) rfl rfl (loop162 _ 0 (Nat.lt_succ_self _) (Nat.zero_le _))
                          · exact absurd rfl c141
                        · have l112 : i < 36 := by
                            rcases Nat.lt_or_ge i 36 with q9 | q9
                            · exact q9
                            · exact absurd (nI_le (a := 36) (b := i) q9 (by omega)) c112
                          refine am_iload_n (I := iX7_contract) (pc := 115) dX7_contract_115 rfl rfl ?_
                          refine am_if_ne (I := iX7_contract) (pc := 116) (tgt := 128) dX7_contract_116 (by decide) (fun c116 => ?_) (fun c116 => ?_)
                          · refine am_iconst (I := iX7_contract) (pc := 128) (x := 1) dX7_contract_128 (by decide) ?_
                            refine am_goto (I := iX7_contract) (pc := 129) (tgt := 133) dX7_contract_129 (by decide) ?_
                            refine am_istore_n (I := iX7_contract) (pc := 133) (L' := [some (.ref 25), some (.int (nI (28 + k))), some (.int 1), some (.int 1), some (.int (nI i))]) dX7_contract_133 rfl (by decide) rfl ?_
                            refine am_iinc (I := iX7_contract) (pc := 134) (y := ((nI i) + 1)) (L' := [some (.ref 25), some (.int (nI (28 + k))), some (.int 1), some (.int 1), some (.int ((nI i) + 1))]) dX7_contract_134 rfl rfl rfl ?_
                            refine am_goto (I := iX7_contract) (pc := 137) (tgt := 108) dX7_contract_137 (by decide) ?_
                            exact am_same rfl (by rw [nI_1, apd, bI_1 c116, Bool.true_or]; rfl) rfl rfl rfl rfl (ih108 (i + 1) (by omega) (by omega))
                          · refine am_aload_n (I := iX7_contract) (pc := 119) dX7_contract_119 rfl rfl ?_
                            refine am_iload (I := iX7_contract) (pc := 120) dX7_contract_120 rfl ?_
                            refine am_callV (I := iX7_contract) (pc := 122) (st := []) lv_X7_122 (q_isPad sz lt n i h5 hl hn (by omega)) dX7_contract_122 md_25 rfl (Nat.le_of_ble_eq_true rfl) ⟨Nat.le_of_ble_eq_true rfl, Nat.le_of_ble_eq_true rfl⟩ (Nat.le_of_ble_eq_true rfl) (Nat.le_of_ble_eq_true rfl) rfl (fun v9 T9 z9 _ => ?_) (fun _ _ h9 => h9.elim)
                            obtain ⟨rfl, rfl⟩ := z9
                            show am_W _ _ _ _ _ _ _ _ _ _ _ _ _ _ _ 125 [some (.ref 25), some (.int (nI (28 + k))), some (.int 1), some (.int (bI (apd sz lt a26 n k i))), some (.int (nI i))] [.int (bI (ipd sz lt a26 n i n))] (mdS S 0 (nI n) wd ln sq st ct cl ft zn a26 a27 a28 a29 a30 a31 a32 a33 a34 a35 a36 (fun k => nI (sz k)) a38 a39 a40 a41 a42 a43 a44) 0 0
                            refine am_if_eq (I := iX7_contract) (pc := 125) (tgt := 132) dX7_contract_125 (by decide) (fun c125 => ?_) (fun c125 => ?_)
                            · refine am_iconst (I := iX7_contract) (pc := 132) (x := 0) dX7_contract_132 (by decide) ?_
                              refine am_istore_n (I := iX7_contract) (pc := 133) (L' := [some (.ref 25), some (.int (nI (28 + k))), some (.int 1), some (.int 0), some (.int (nI i))]) dX7_contract_133 rfl (by decide) rfl ?_
                              refine am_iinc (I := iX7_contract) (pc := 134) (y := ((nI i) + 1)) (L' := [some (.ref 25), some (.int (nI (28 + k))), some (.int 1), some (.int 0), some (.int ((nI i) + 1))]) dX7_contract_134 rfl rfl rfl ?_
                              refine am_goto (I := iX7_contract) (pc := 137) (tgt := 108) dX7_contract_137 (by decide) ?_
                              exact am_same rfl (by rw [nI_1, apd, bI_0 c116, bI_0 c125]; rfl) rfl rfl rfl rfl (ih108 (i + 1) (by omega) (by omega))
                            · refine am_iconst (I := iX7_contract) (pc := 128) (x := 1) dX7_contract_128 (by decide) ?_
                              refine am_goto (I := iX7_contract) (pc := 129) (tgt := 133) dX7_contract_129 (by decide) ?_
                              refine am_istore_n (I := iX7_contract) (pc := 133) (L' := [some (.ref 25), some (.int (nI (28 + k))), some (.int 1), some (.int 1), some (.int (nI i))]) dX7_contract_133 rfl (by decide) rfl ?_
                              refine am_iinc (I := iX7_contract) (pc := 134) (y := ((nI i) + 1)) (L' := [some (.ref 25), some (.int (nI (28 + k))), some (.int 1), some (.int 1), some (.int ((nI i) + 1))]) dX7_contract_134 rfl rfl rfl ?_
                              refine am_goto (I := iX7_contract) (pc := 137) (tgt := 108) dX7_contract_137 (by decide) ?_
                              exact am_same rfl (by rw [nI_1, apd, bI_1 c125, Bool.or_true]; rfl) rfl rfl rfl rfl (ih108 (i + 1) (by omega) (by omega))
                    exact am_same rfl (by rw [apd, decide_eq_false (fun q9 => nI_nle q9 (by have := h5 k; omega) c96)]; rfl) rfl rfl rfl rfl (loop108 _ 0 (Nat.lt_succ_self _) (Nat.zero_le _))
                  · refine am_iconst (I := iX7_contract) (pc := 99) (x := 1) dX7_contract_99 (by decide) ?_
                    refine am_goto (I := iX7_contract) (pc := 100) (tgt := 104) dX7_contract_100 (by decide) ?_
                    refine am_istore_n (I := iX7_contract) (pc := 104) (L' := [some (.ref 25), some (.int (nI (28 + k))), some (.int 1), some (.int 1), none]) dX7_contract_104 rfl (by decide) rfl ?_
                    refine am_iconst (I := iX7_contract) (pc := 105) (x := 0) dX7_contract_105 (by decide) ?_
                    refine am_istore (I := iX7_contract) (pc := 106) (L' := [some (.ref 25), some (.int (nI (28 + k))), some (.int 1), some (.int 1), some (.int 0)]) dX7_contract_106 (by decide) rfl ?_
                    have loop108 : ∀ (k108 : Nat) (i : Nat), 36 - i < k108 → (i ≤ 36) → am_W K iX7_contract xp l xe (am_room 2 0 0) xs xm xa xb xt xc (mdS S th (nI n) wd ln sq st ct cl ft zn a26 a27 a28 a29 a30 a31 a32 a33 a34 a35 a36 (fun k => nI (sz k)) a38 a39 a40 a41 a42 a43 a44) ad0 (am_E K ad0 (mdS S th (nI n) wd ln sq st ct cl ft zn a26 a27 a28 a29 a30 a31 a32 a33 a34 a35 a36 (fun k => nI (sz k)) a38 a39 a40 a41 a42 a43 a44) (fun v S' => v = some (.int (1)) ∧ mdS S 0 0 wd ln sq st (ct + 1) cl ft zn a26 a27 a28 a29 a30 a31 a32 a33 a34 a35 a36 (fun j => nI (va_up sz k n j)) (rcat a38 (k * 5) a26 n) a39 a40 a41 a42 a43 a44 = S') (fun _ _ => False) xb xa xs 0 0) 108 [some (.ref 25), some (.int (nI (28 + k))), some (.int 1), some (.int (bI (apd sz lt a26 n k i))), some (.int (nI i))] [] (mdS S 0 (nI n) wd ln sq st ct cl ft zn a26 a27 a28 a29 a30 a31 a32 a33 a34 a35 a36 (fun k => nI (sz k)) a38 a39 a40 a41 a42 a43 a44) 0 0 := by
                      intro k108
                      induction k108 with
                      | zero => intro i h9; exact absurd h9 (Nat.not_lt_zero _)
                      | succ k108 ih108 =>
                        intro i hm108 hi
                        refine am_iload (I := iX7_contract) (pc := 108) dX7_contract_108 rfl ?_
                        refine am_bipush (I := iX7_contract) (pc := 110) (x := 36) dX7_contract_110 (by decide) ?_
                        refine am_icmp_ge (I := iX7_contract) (pc := 112) (tgt := 140) dX7_contract_112 (by decide) (fun c112 => ?_) (fun c112 => ?_)
                        · have g112 : 36 ≤ i := by
                            rcases Nat.lt_or_ge i 36 with q9 | q9
                            · exact absurd c112 (nI_ge (a := i) (b := 36) q9 (by omega))
                            · exact q9
                          have ei : i = 36 := by omega
                          rw [ei, hd]
                          show am_W _ _ _ _ _ _ _ _ _ _ _ _ _ _ _ 140 [some (.ref 25), some (.int (nI (28 + k))), some (.int 1), some (.int 0), some (.int (nI 36))] [] _ _ _
                          refine am_iload_n (I := iX7_contract) (pc := 140) dX7_contract_140 rfl rfl ?_
                          refine am_if_eq (I := iX7_contract) (pc := 141) (tgt := 146) dX7_contract_141 (by decide) (fun c141 => ?_) (fun c141 => ?_)
                          · refine am_aload_n (I := iX7_contract) (pc := 146) dX7_contract_146 rfl rfl ?_
                            refine am_getf (I := iX7_contract) (pc := 147) lf_X7_43 dX7_contract_147 md_25 rfl ?_
                            refine am_iload_n (I := iX7_contract) (pc := 150) dX7_contract_150 rfl rfl ?_
                            refine am_bipush (I := iX7_contract) (pc := 151) (x := 28) dX7_contract_151 (by decide) ?_
                            refine am_isub (I := iX7_contract) (pc := 153) dX7_contract_153 ?_
                            have hn5 : n ≤ 5 := by
                              have h9 := hb
                              unfold cbc at h9
                              rw [Bool.and_eq_true, Bool.and_eq_true] at h9
                              exact of_decide_eq_true h9.1.2
                            rw [ix28]
                            refine am_aload_n (I := iX7_contract) (pc := 154) dX7_contract_154 rfl rfl ?_
                            refine am_getf (I := iX7_contract) (pc := 155) lf_X7_72 dX7_contract_155 md_25 rfl ?_
                            refine am_iastore (I := iX7_contract) (pc := 158) dX7_contract_158 md_37 rfl (vp_in_nI hk (by decide)) ?_
                            rw [nI_clamp (show k < 2 ^ 31 by omega)]
                            refine am_same (S' := mdS S 0 (nI n) wd ln sq st ct cl ft zn a26 a27 a28 a29 a30 a31 a32 a33 a34 a35 a36 (upd (fun k => nI (sz k)) k (nI n)) a38 a39 a40 a41 a42 a43 a44) rfl rfl rfl mdS_37 rfl rfl ?_
                            refine am_iconst (I := iX7_contract) (pc := 159) (x := 0) dX7_contract_159 (by decide) ?_
                            refine am_istore (I := iX7_contract) (pc := 160) (L' := [some (.ref 25), some (.int (nI (28 + k))), some (.int 1), some (.int 0), some (.int 0)]) dX7_contract_160 (by decide) rfl ?_
                            have loop162 : ∀ (k162 : Nat) (i : Nat), n - i < k162 → (i ≤ n) → am_W K iX7_contract xp l xe (am_room 2 0 0) xs xm xa xb xt xc (mdS S th (nI n) wd ln sq st ct cl ft zn a26 a27 a28 a29 a30 a31 a32 a33 a34 a35 a36 (fun k => nI (sz k)) a38 a39 a40 a41 a42 a43 a44) ad0 (am_E K ad0 (mdS S th (nI n) wd ln sq st ct cl ft zn a26 a27 a28 a29 a30 a31 a32 a33 a34 a35 a36 (fun k => nI (sz k)) a38 a39 a40 a41 a42 a43 a44) (fun v S' => v = some (.int (1)) ∧ mdS S 0 0 wd ln sq st (ct + 1) cl ft zn a26 a27 a28 a29 a30 a31 a32 a33 a34 a35 a36 (fun j => nI (va_up sz k n j)) (rcat a38 (k * 5) a26 n) a39 a40 a41 a42 a43 a44 = S') (fun _ _ => False) xb xa xs 0 0) 162 [some (.ref 25), some (.int (nI (28 + k))), some (.int 1), some (.int 0), some (.int (nI i))] [] (mdS S 0 (nI n) wd ln sq st ct cl ft zn a26 a27 a28 a29 a30 a31 a32 a33 a34 a35 a36 (fun j => nI (va_up sz k n j)) (rcat a38 (k * 5) a26 i) a39 a40 a41 a42 a43 a44) 0 0 := by
                              intro k162
                              induction k162 with
                              | zero => intro i h9; exact absurd h9 (Nat.not_lt_zero _)
                              | succ k162 ih162 =>
                                intro i hm162 hi
                                refine am_iload (I := iX7_contract) (pc := 162) dX7_contract_162 rfl ?_
                                refine am_aload_n (I := iX7_contract) (pc := 164) dX7_contract_164 rfl rfl ?_
                                refine am_getf (I := iX7_contract) (pc := 165) lf_X7_72 dX7_contract_165 md_25 rfl ?_
                                refine am_icmp_ge (I := iX7_contract) (pc := 168) (tgt := 198) dX7_contract_168 (by decide) (fun c168 => ?_) (fun c168 => ?_)
                                · have g168 : n ≤ i := by
                                    rcases Nat.lt_or_ge i n with q9 | q9
                                    · exact absurd c168 (nI_ge (a := i) (b := n) q9 (by omega))
                                    · exact q9
                                  have eim : i = n := by omega
                                  rw [eim]
                                  refine am_aload_n (I := iX7_contract) (pc := 198) dX7_contract_198 rfl rfl ?_
                                  refine am_iconst (I := iX7_contract) (pc := 199) (x := 0) dX7_contract_199 (by decide) ?_
                                  refine am_putf (I := iX7_contract) (pc := 200) (fs' := [.int 0, .int 0, .ref 26, .ref 27, .ref 28, .ref 29, .ref 30, .int wd, .ref 31, .ref 32, .ref 33, .ref 34, .int ln, .int sq, .int st, .ref 35, .ref 36, .ref 37, .ref 38, .int ct, .int cl, .int ft, .ref 39, .int zn, .ref 40, .ref 41, .ref 42, .ref 43, .ref 44]) lf_X7_72 dX7_contract_200 md_25 (fun _ => ⟨rfl, rfl⟩) (Nat.le_of_ble_eq_true rfl) rfl ?_
                                  refine am_same (S' := mdS S 0 0 wd ln sq st ct cl ft zn a26 a27 a28 a29 a30 a31 a32 a33 a34 a35 a36 (fun j => nI (va_up sz k n j)) (rcat a38 (k * 5) a26 n) a39 a40 a41 a42 a43 a44) rfl rfl rfl mdS_25 rfl rfl ?_
                                  refine am_aload_n (I := iX7_contract) (pc := 203) dX7_contract_203 rfl rfl ?_
                                  refine am_dup (I := iX7_contract) (pc := 204) dX7_contract_204 rfl ?_
                                  refine am_getf (I := iX7_contract) (pc := 205) lf_X7_125 dX7_contract_205 md_25 rfl ?_
                                  refine am_iconst (I := iX7_contract) (pc := 208) (x := 1) dX7_contract_208 (by decide) ?_
                                  refine am_iadd (I := iX7_contract) (pc := 209) dX7_contract_209 ?_
                                  refine am_putf (I := iX7_contract) (pc := 210) (fs' := [.int 0, .int 0, .ref 26, .ref 27, .ref 28, .ref 29, .ref 30, .int wd, .ref 31, .ref 32, .ref 33, .ref 34, .int ln, .int sq, .int st, .ref 35, .ref 36, .ref 37, .ref 38, .int (ct + 1), .int cl, .int ft, .ref 39, .int zn, .ref 40, .ref 41, .ref 42, .ref 43, .ref 44]) lf_X7_125 dX7_contract_210 md_25 (fun _ => ⟨rfl, rfl⟩) (Nat.le_of_ble_eq_true rfl) rfl ?_
                                  refine am_same (S' := mdS S 0 0 wd ln sq st (ct + 1) cl ft zn a26 a27 a28 a29 a30 a31 a32 a33 a34 a35 a36 (fun j => nI (va_up sz k n j)) (rcat a38 (k * 5) a26 n) a39 a40 a41 a42 a43 a44) rfl rfl rfl mdS_25 rfl rfl ?_
                                  refine am_iconst (I := iX7_contract) (pc := 213) (x := 1) dX7_contract_213 (by decide) ?_
                                  exact am_zret (I := iX7_contract) (pc := 214) dX7_contract_214 rfl (by decide) (Nat.le_refl _) (Nat.le_refl _) (⟨rfl, rfl⟩)
                                · have l168 : i < n := by
                                    rcases Nat.lt_or_ge i n with q9 | q9
                                    · exact q9
                                    · exact absurd (nI_le (a := n) (b := i) q9 (by omega)) c168
                                  refine am_aload_n (I := iX7_contract) (pc := 171) dX7_contract_171 rfl rfl ?_
                                  refine am_getf (I := iX7_contract) (pc := 172) lf_X7_46 dX7_contract_172 md_25 rfl ?_
                                  refine am_iconst (I := iX7_contract) (pc := 175) (x := 5) dX7_contract_175 (by decide) ?_
                                  refine am_iload_n (I := iX7_contract) (pc := 176) dX7_contract_176 rfl rfl ?_
                                  refine am_bipush (I := iX7_contract) (pc := 177) (x := 28) dX7_contract_177 (by decide) ?_
                                  refine am_isub (I := iX7_contract) (pc := 179) dX7_contract_179 ?_
                                  rw [ix28]
                                  refine am_imul (I := iX7_contract) (pc := 180) dX7_contract_180 ?_
                                  refine am_iload (I := iX7_contract) (pc := 181) dX7_contract_181 rfl ?_
                                  refine am_iadd (I := iX7_contract) (pc := 183) dX7_contract_183 ?_
                                  rw [ix5]
                                  refine am_aload_n (I := iX7_contract) (pc := 184) dX7_contract_184 rfl rfl ?_
                                  refine am_getf (I := iX7_contract) (pc := 185) lf_X7_7 dX7_contract_185 md_25 rfl ?_
                                  refine am_iload (I := iX7_contract) (pc := 188) dX7_contract_188 rfl ?_
                                  refine am_iaload (I := iX7_contract) (pc := 190) dX7_contract_190 md_26 rfl (vp_in_nI (show i < 80 by omega) (by decide)) ?_
                                  rw [nI_clamp (show i < 2 ^ 31 by omega)]
                                  refine am_iastore (I := iX7_contract) (pc := 191) dX7_contract_191 md_38 rfl (vp_in_nI (show k * 5 + i < 180 by omega) (by decide)) ?_
                                  rw [nI_clamp (show k * 5 + i < 2 ^ 31 by omega)]
                                  refine am_same (S' := mdS S 0 (nI n) wd ln sq st ct cl ft zn a26 a27 a28 a29 a30 a31 a32 a33 a34 a35 a36 (fun j => nI (va_up sz k n j)) (upd (rcat a38 (k * 5) a26 i) (k * 5 + i) (a26 i)) a39 a40 a41 a42 a43 a44) rfl rfl rfl mdS_38 rfl rfl ?_
                                  refine am_iinc (I := iX7_contract) (pc := 192) (y := ((nI i) + 1)) (L' := [some (.ref 25), some (.int (nI (28 + k))), some (.int 1), some (.int 0), some (.int ((nI i) + 1))]) dX7_contract_192 rfl rfl rfl ?_
                                  refine am_goto (I := iX7_contract) (pc := 195) (tgt := 162) dX7_contract_195 (by decide) ?_
                                  exact am_same rfl (by rw [nI_1]) rfl (by rw [rcat_s]) rfl rfl (ih162 (i + 1) (by omega) (by omega))
                            exact am_same rfl (by rfl) rfl (by rw [upd_nI, rcat_0]) rfl rfl (loop162 _ 0 (Nat.lt_succ_self _) (Nat.zero_le _))
                          · exact absurd rfl c141
                        · have l112 : i < 36 := by
                            rcases Nat.lt_or_ge i 36 with q9 | q9
                            · exact q9
                            · exact absurd (nI_le (a := 36) (b := i) q9 (by omega)) c112
                          refine am_iload_n (I := iX7_contract) (pc := 115) dX7_contract_115 rfl rfl ?_
                          refine am_if_ne (I := iX7_contract) (pc := 116) (tgt := 128) dX7_contract_116 (by decide) (fun c116 => ?_) (fun c116 => ?_)
                          · refine am_iconst (I := iX7_contract) (pc := 128) (x := 1) dX7_contract_128 (by decide) ?_
                            refine am_goto (I := iX7_contract) (pc := 129) (tgt := 133) dX7_contract_129 (by decide) ?_
                            refine am_istore_n (I := iX7_contract) (pc := 133) (L' := [some (.ref 25), some (.int (nI (28 + k))), some (.int 1), some (.int 1), some (.int (nI i))]) dX7_contract_133 rfl (by decide) rfl ?_
                            refine am_iinc (I := iX7_contract) (pc := 134) (y := ((nI i) + 1)) (L' := [some (.ref 25), some (.int (nI (28 + k))), some (.int 1), some (.int 1), some (.int ((nI i) + 1))]) dX7_contract_134 rfl rfl rfl ?_
                            refine am_goto (I := iX7_contract) (pc := 137) (tgt := 108) dX7_contract_137 (by decide) ?_
                            exact am_same rfl (by rw [nI_1, apd, bI_1 c116, Bool.true_or]; rfl) rfl rfl rfl rfl (ih108 (i + 1) (by omega) (by omega))
                          · refine am_aload_n (I := iX7_contract) (pc := 119) dX7_contract_119 rfl rfl ?_
                            refine am_iload (I := iX7_contract) (pc := 120) dX7_contract_120 rfl ?_
                            refine am_callV (I := iX7_contract) (pc := 122) (st := []) lv_X7_122 (q_isPad sz lt n i h5 hl hn (by omega)) dX7_contract_122 md_25 rfl (Nat.le_of_ble_eq_true rfl) ⟨Nat.le_of_ble_eq_true rfl, Nat.le_of_ble_eq_true rfl⟩ (Nat.le_of_ble_eq_true rfl) (Nat.le_of_ble_eq_true rfl) rfl (fun v9 T9 z9 _ => ?_) (fun _ _ h9 => h9.elim)
                            obtain ⟨rfl, rfl⟩ := z9
                            show am_W _ _ _ _ _ _ _ _ _ _ _ _ _ _ _ 125 [some (.ref 25), some (.int (nI (28 + k))), some (.int 1), some (.int (bI (apd sz lt a26 n k i))), some (.int (nI i))] [.int (bI (ipd sz lt a26 n i n))] (mdS S 0 (nI n) wd ln sq st ct cl ft zn a26 a27 a28 a29 a30 a31 a32 a33 a34 a35 a36 (fun k => nI (sz k)) a38 a39 a40 a41 a42 a43 a44) 0 0
                            refine am_if_eq (I := iX7_contract) (pc := 125) (tgt := 132) dX7_contract_125 (by decide) (fun c125 => ?_) (fun c125 => ?_)
                            · refine am_iconst (I := iX7_contract) (pc := 132) (x := 0) dX7_contract_132 (by decide) ?_
                              refine am_istore_n (I := iX7_contract) (pc := 133) (L' := [some (.ref 25), some (.int (nI (28 + k))), some (.int 1), some (.int 0), some (.int (nI i))]) dX7_contract_133 rfl (by decide) rfl ?_
                              refine am_iinc (I := iX7_contract) (pc := 134) (y := ((nI i) + 1)) (L' := [some (.ref 25), some (.int (nI (28 + k))), some (.int 1), some (.int 0), some (.int ((nI i) + 1))]) dX7_contract_134 rfl rfl rfl ?_
                              refine am_goto (I := iX7_contract) (pc := 137) (tgt := 108) dX7_contract_137 (by decide) ?_
                              exact am_same rfl (by rw [nI_1, apd, bI_0 c116, bI_0 c125]; rfl) rfl rfl rfl rfl (ih108 (i + 1) (by omega) (by omega))
                            · refine am_iconst (I := iX7_contract) (pc := 128) (x := 1) dX7_contract_128 (by decide) ?_
                              refine am_goto (I := iX7_contract) (pc := 129) (tgt := 133) dX7_contract_129 (by decide) ?_
                              refine am_istore_n (I := iX7_contract) (pc := 133) (L' := [some (.ref 25), some (.int (nI (28 + k))), some (.int 1), some (.int 1), some (.int (nI i))]) dX7_contract_133 rfl (by decide) rfl ?_
                              refine am_iinc (I := iX7_contract) (pc := 134) (y := ((nI i) + 1)) (L' := [some (.ref 25), some (.int (nI (28 + k))), some (.int 1), some (.int 1), some (.int ((nI i) + 1))]) dX7_contract_134 rfl rfl rfl ?_
                              refine am_goto (I := iX7_contract) (pc := 137) (tgt := 108) dX7_contract_137 (by decide) ?_
                              exact am_same rfl (by rw [nI_1, apd, bI_1 c125, Bool.or_true]; rfl) rfl rfl rfl rfl (ih108 (i + 1) (by omega) (by omega))
                    exact am_same rfl (by rw [apd, decide_eq_true (Nat.pos_of_ne_zero (fun e9 => c96 (by rw [e9]; decide)))]; rfl) rfl rfl rfl rfl (loop108 _ 0 (Nat.lt_succ_self _) (Nat.zero_le _))
                · exact absurd c82 (by decide)
          · have l29 : i < n := by
              rcases Nat.lt_or_ge i n with q9 | q9
              · exact q9
              · exact absurd (nI_le (a := n) (b := i) q9 (by omega)) c29
            refine am_iload_n (I := iX7_contract) (pc := 32) dX7_contract_32 rfl rfl ?_
            refine am_if_eq (I := iX7_contract) (pc := 33) (tgt := 52) dX7_contract_33 (by decide) (fun c33 => ?_) (fun c33 => ?_)
            · refine am_iconst (I := iX7_contract) (pc := 52) (x := 0) dX7_contract_52 (by decide) ?_
              refine am_istore_n (I := iX7_contract) (pc := 53) (L' := [some (.ref 25), some (.int (nI (28 + k))), some (.int 0), some (.int (nI i)), none]) dX7_contract_53 rfl (by decide) rfl ?_
              refine am_iinc (I := iX7_contract) (pc := 54) (y := ((nI i) + 1)) (L' := [some (.ref 25), some (.int (nI (28 + k))), some (.int 0), some (.int ((nI i) + 1)), none]) dX7_contract_54 rfl rfl rfl ?_
              refine am_goto (I := iX7_contract) (pc := 57) (tgt := 24) dX7_contract_57 (by decide) ?_
              exact am_same rfl (by rw [nI_1, cbi_s, bI_0 c33, Bool.false_and]; rfl) rfl rfl rfl rfl (ih24 (i + 1) (by omega) (by omega))
            · refine am_aload_n (I := iX7_contract) (pc := 36) dX7_contract_36 rfl rfl ?_
              refine am_getf (I := iX7_contract) (pc := 37) lf_X7_7 dX7_contract_37 md_25 rfl ?_
              refine am_iload_n (I := iX7_contract) (pc := 40) dX7_contract_40 rfl rfl ?_
              refine am_iaload (I := iX7_contract) (pc := 41) dX7_contract_41 md_26 rfl (vp_in_nI (show i < 80 by omega) (by decide)) ?_
              rw [nI_clamp (show i < 2 ^ 31 by omega)]
              refine am_callS (I := iX7_contract) (pc := 42) (st := []) lv_X7_75 rfl (q_isLetter (a26 i)) dX7_contract_42 rfl (Nat.le_of_ble_eq_true rfl) ⟨Nat.le_of_ble_eq_true rfl, Nat.le_of_ble_eq_true rfl⟩ (Nat.le_of_ble_eq_true rfl) (Nat.le_of_ble_eq_true rfl) rfl (fun v9 T9 z9 _ => ?_) (fun _ _ h9 => h9.elim)
              obtain ⟨rfl, rfl⟩ := z9
              show am_W _ _ _ _ _ _ _ _ _ _ _ _ _ _ _ 45 [some (.ref 25), some (.int (nI (28 + k))), some (.int (bI (cbi a26 n i))), some (.int (nI i)), none] [.int (bI (isl (a26 i)))] (mdS S th (nI n) wd ln sq st ct cl ft zn a26 a27 a28 a29 a30 a31 a32 a33 a34 a35 a36 (fun k => nI (sz k)) a38 a39 a40 a41 a42 a43 a44) 0 0
              refine am_if_eq (I := iX7_contract) (pc := 45) (tgt := 52) dX7_contract_45 (by decide) (fun c45 => ?_) (fun c45 => ?_)
              · refine am_iconst (I := iX7_contract) (pc := 52) (x := 0) dX7_contract_52 (by decide) ?_
                refine am_istore_n (I := iX7_contract) (pc := 53) (L' := [some (.ref 25), some (.int (nI (28 + k))), some (.int 0), some (.int (nI i)), none]) dX7_contract_53 rfl (by decide) rfl ?_
                refine am_iinc (I := iX7_contract) (pc := 54) (y := ((nI i) + 1)) (L' := [some (.ref 25), some (.int (nI (28 + k))), some (.int 0), some (.int ((nI i) + 1)), none]) dX7_contract_54 rfl rfl rfl ?_
                refine am_goto (I := iX7_contract) (pc := 57) (tgt := 24) dX7_contract_57 (by decide) ?_
                exact am_same rfl (by rw [nI_1, cbi_s, bI_0 c45, Bool.and_false]; rfl) rfl rfl rfl rfl (ih24 (i + 1) (by omega) (by omega))
              · refine am_iconst (I := iX7_contract) (pc := 48) (x := 1) dX7_contract_48 (by decide) ?_
                refine am_goto (I := iX7_contract) (pc := 49) (tgt := 53) dX7_contract_49 (by decide) ?_
                refine am_istore_n (I := iX7_contract) (pc := 53) (L' := [some (.ref 25), some (.int (nI (28 + k))), some (.int 1), some (.int (nI i)), none]) dX7_contract_53 rfl (by decide) rfl ?_
                refine am_iinc (I := iX7_contract) (pc := 54) (y := ((nI i) + 1)) (L' := [some (.ref 25), some (.int (nI (28 + k))), some (.int 1), some (.int ((nI i) + 1)), none]) dX7_contract_54 rfl rfl rfl ?_
                refine am_goto (I := iX7_contract) (pc := 57) (tgt := 24) dX7_contract_57 (by decide) ?_
                exact am_same rfl (by rw [nI_1, cbi_s, bI_1 c33, bI_1 c45]; rfl) rfl rfl rfl rfl (ih24 (i + 1) (by omega) (by omega))
      exact am_same rfl (by rw [cbi_0, decide_eq_true (show 2 ≤ n by rcases Nat.lt_or_ge n 2 with q9 | q9; exact absurd (nI_lt (b := 2) q9 (by decide)) c5; exact q9), Bool.true_and, decide_eq_true (show n ≤ 5 by rcases Nat.lt_or_ge 5 n with q9 | q9; exact absurd (nI_lt (a := 5) q9 (by omega)) c13; exact q9)]; rfl) rfl rfl rfl rfl (loop24 _ 0 (Nat.lt_succ_self _) (Nat.zero_le _))
