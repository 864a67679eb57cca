/-- how many steps of nx from i on stay below W -/
def nct (nx : Nat → Nat) (W : Nat) : Nat → Nat → Nat
  | 0, _ => 0
  | k + 1, i => if i < W then nct nx W k (nx i) + 1 else 0
theorem nct_out {nx : Nat → Nat} {W i : Nat} (h : W ≤ i) : ∀ k, nct nx W k i = 0
  | 0 => rfl
  | k + 1 => by rw [nct, if_neg (by omega)]
def tfi (nx : Nat → Nat) : Nat → Nat
  | 0 => 0
  | k + 1 => nx (tfi nx k)
theorem ilp_2 {w : Int32} {B E LF : Nat → Int32} {W f : Nat} : ∀ (k nx : Nat) (s : Int32 × Nat), f < s.2 → s.2 ≤ W → f < nx → nx + k ≤ W + 1 → f < (ilp w B E LF W f k nx s).2 ∧ (ilp w B E LF W f k nx s).2 ≤ W
  | 0, _, s, h1, h2, _, _ => ⟨h1, h2⟩
  | k + 1, nx, s, h1, h2, h3, h4 => by
    rw [ilp]
    split
    · refine ilp_2 k (nx + 1) _ ?_ ?_ (by omega) (by omega)
      · by_cases q : (if nx = W then 0 else (w - (E (nx - 1) - B f)) * (w - (E (nx - 1) - B f)) + LF nx) < s.1
        · rw [if_pos q]; exact h3
        · rw [if_neg q]; exact h1
      · by_cases q : (if nx = W then 0 else (w - (E (nx - 1) - B f)) * (w - (E (nx - 1) - B f)) + LF nx) < s.1
        · rw [if_pos q]; show nx ≤ W; omega
        · rw [if_neg q]; exact h2
    · exact ⟨h1, h2⟩
theorem ires_2 {w : Int32} {B E LF : Nat → Int32} {W f : Nat} (h : f < W) : f < (ires w B E LF W f).2 ∧ (ires w B E LF W f).2 ≤ W := ilp_2 (W - f) (f + 1) _ h (Nat.le_refl _) (by omega) (by omega)
theorem flN_at {w : Int32} {B E LF NF : Nat → Int32} {W : Nat} : ∀ k, k ≤ W → ∀ j, W - k ≤ j → j < W → flN w B E W LF NF k j = nI (ires w B E (flL w B E W LF (W - (j + 1))) W j).2
  | 0, _, j, h1, h2 => by omega
  | k + 1, hk, j, h1, h2 => by
    rw [flN]
    by_cases e : j = W - (k + 1)
    · rw [← e, pk_us, show W - (j + 1) = k by omega]
    · rw [pk_un e]; exact flN_at k (by omega) j (by omega) h2
theorem flL_at {w : Int32} {B E LF : Nat → Int32} {W : Nat} : ∀ k, k ≤ W → ∀ j, W - k ≤ j → j < W → flL w B E W LF k j = (ires w B E (flL w B E W LF (W - (j + 1))) W j).1
  | 0, _, j, h1, h2 => by omega
  | k + 1, hk, j, h1, h2 => by
    rw [flL]
    by_cases e : j = W - (k + 1)
    · rw [← e, pk_us, show W - (j + 1) = k by omega]
    · rw [pk_un e]; exact flL_at k (by omega) j (by omega) h2
set_option maxRecDepth 100000 in
set_option maxHeartbeats 4000000 in
theorem m_Set_takeLines (K : am_K) (l : Launch) (S : am_S) (a x1 x2 x3 x4 x5 x6 : Nat) (B E LF NF LB LS : Nat → Int32) (W ln : Nat) (sm : Int32) (nx : Nat → Nat) (hs : sg S.1 a x1 x2 x3 x4 x5 x6 B E LF NF LB LS W ln sm) (hd : sgd x1 x2 x3 x4 x5 x6) (hW : W ≤ 40) (hnx : ∀ j, j < W → NF j = nI (nx j) ∧ j < nx j ∧ nx j ≤ W) : am_M K l iX4_takeLines 0 0 0 [.ref a] S (fun v S' => v = none ∧ sgS S a x1 x2 x3 x4 x5 x6 B E LF NF (rcat LB 0 (fun j => B (tfi nx j)) (nct nx W W 0)) (rcat LS 0 (fun j => E (nx (tfi nx j) - 1) - B (tfi nx j)) (nct nx W W 0)) W (nct nx W W 0) (LF 0) = S') (fun _ _ => False) := by
  refine am_body (by decide) rfl (by simp [Value.category]) (Nat.le_of_ble_eq_true rfl) (fun xp xe xs xm xa xb xt xc ad0 => ?_)
  show am_W _ _ _ _ _ _ _ _ _ _ _ _ _ _ _ 0 [some (.ref a), none, none, none] [] S 0 0
  have ha := sg_a hs
  refine am_same (S' := sgS S a x1 x2 x3 x4 x5 x6 B E LF NF LB LS W ln sm) rfl rfl rfl (sgS_id hs) rfl rfl ?_
  refine am_aload_n (I := iX4_takeLines) (pc := 0) dX4_takeLines_0 rfl rfl ?_
  refine am_aload_n (I := iX4_takeLines) (pc := 1) dX4_takeLines_1 rfl rfl ?_
  refine am_getf (I := iX4_takeLines) (pc := 2) lf_X4_22 dX4_takeLines_2 (sgS_sg hd ha).1 rfl ?_
  refine am_iconst (I := iX4_takeLines) (pc := 5) (x := 0) dX4_takeLines_5 (by decide) ?_
  refine am_iaload (I := iX4_takeLines) (pc := 6) dX4_takeLines_6 (sgS_sg hd ha).2.2.2.1 rfl (vp_in_nI (n := 0) (N := 40) (by decide) (by decide)) ?_
  rw [sb_cl0]
  refine am_putf (I := iX4_takeLines) (pc := 7) (fs' := [.ref x1, .ref x2, .int (nI W), .ref x3, .ref x4, .ref x5, .ref x6, .int (nI ln), .int (LF 0)]) lf_X4_37 dX4_takeLines_7 (sgS_sg hd ha).1 (fun _ => ⟨rfl, rfl⟩) (Nat.le_of_ble_eq_true rfl) rfl ?_
  refine am_same (S' := sgS S a x1 x2 x3 x4 x5 x6 B E LF NF LB LS W ln (LF 0)) rfl rfl rfl sgS_a rfl rfl ?_
  refine am_aload_n (I := iX4_takeLines) (pc := 10) dX4_takeLines_10 rfl rfl ?_
  refine am_iconst (I := iX4_takeLines) (pc := 11) (x := 0) dX4_takeLines_11 (by decide) ?_
  refine am_same (st' := [.int (nI 0), .ref a]) rfl rfl (by rw [nI_0]) rfl rfl rfl ?_
  refine am_putf (I := iX4_takeLines) (pc := 12) (fs' := [.ref x1, .ref x2, .int (nI W), .ref x3, .ref x4, .ref x5, .ref x6, .int (nI 0), .int (LF 0)]) lf_X4_34 dX4_takeLines_12 (sgS_sg hd ha).1 (fun _ => ⟨rfl, rfl⟩) (Nat.le_of_ble_eq_true rfl) rfl ?_
  refine am_same (S' := sgS S a x1 x2 x3 x4 x5 x6 B E LF NF LB LS W 0 (LF 0)) rfl rfl rfl sgS_a rfl rfl ?_
  refine am_iconst (I := iX4_takeLines) (pc := 15) (x := 0) dX4_takeLines_15 (by decide) ?_
  refine am_istore_n (I := iX4_takeLines) (pc := 16) (L' := [some (.ref a), some (.int 0), none, none]) dX4_takeLines_16 rfl (by decide) rfl ?_
  refine am_iconst (I := iX4_takeLines) (pc := 17) (x := 0) dX4_takeLines_17 (by decide) ?_
  refine am_istore_n (I := iX4_takeLines) (pc := 18) (L' := [some (.ref a), some (.int 0), some (.int 0), none]) dX4_takeLines_18 rfl (by decide) rfl ?_
  have loop19 : ∀ (k19 : Nat) (k : Nat), W - k < k19 → (k ≤ tfi nx k) → (tfi nx k ≤ W) → (k + nct nx W (W - k) (tfi nx k) = (nct nx W W 0)) → am_W K iX4_takeLines xp l xe (am_room 0 0 0) xs xm xa xb xt xc S ad0 (am_E K ad0 S (fun v S' => v = none ∧ sgS S a x1 x2 x3 x4 x5 x6 B E LF NF (rcat LB 0 (fun j => B (tfi nx j)) (nct nx W W 0)) (rcat LS 0 (fun j => E (nx (tfi nx j) - 1) - B (tfi nx j)) (nct nx W W 0)) W (nct nx W W 0) (LF 0) = S') (fun _ _ => False) xb xa xs 0 0) 19 [some (.ref a), some (.int (nI (tfi nx k))), some (.int (nI k)), none] [] (sgS S a x1 x2 x3 x4 x5 x6 B E LF NF (rcat LB 0 (fun j => B (tfi nx j)) k) (rcat LS 0 (fun j => E (nx (tfi nx j) - 1) - B (tfi nx j)) k) W k (LF 0)) 0 0 := by
    intro k19
    induction k19 with
    | zero => intro k h9; exact absurd h9 (Nat.not_lt_zero _)
    | succ k19 ih19 =>
      intro k hm19 hk hf hN
      refine am_iload_n (I := iX4_takeLines) (pc := 19) dX4_takeLines_19 rfl rfl ?_
      refine am_bipush (I := iX4_takeLines) (pc := 20) (x := 40) dX4_takeLines_20 (by decide) ?_
      refine am_icmp_ge (I := iX4_takeLines) (pc := 22) (tgt := 91) dX4_takeLines_22 (by decide) (fun c22 => ?_) (fun c22 => ?_)
      · have g22 : 40 ≤ k := by
          rcases Nat.lt_or_ge k 40 with q9 | q9
          · exact absurd c22 (nI_ge (a := k) (b := 40) q9 (by omega))
          · exact q9
        exact am_vret (I := iX4_takeLines) (pc := 91) dX4_takeLines_91 rfl (Nat.le_refl _) (Nat.le_refl _) (⟨rfl, by rw [show k = (nct nx W W 0) by rw [← hN, nct_out (by omega)]; rfl]⟩)
      · have l22 : k < 40 := by
          rcases Nat.lt_or_ge k 40 with q9 | q9
          · exact q9
          · exact absurd (nI_le (a := 40) (b := k) q9 (by omega)) c22
        refine am_iload_n (I := iX4_takeLines) (pc := 25) dX4_takeLines_25 rfl rfl ?_
        refine am_aload_n (I := iX4_takeLines) (pc := 26) dX4_takeLines_26 rfl rfl ?_
        refine am_getf (I := iX4_takeLines) (pc := 27) lf_X4_18 dX4_takeLines_27 (sgS_sg hd ha).1 rfl ?_
        refine am_icmp_ge (I := iX4_takeLines) (pc := 30) (tgt := 91) dX4_takeLines_30 (by decide) (fun c30 => ?_) (fun c30 => ?_)
        · have g30 : W ≤ (tfi nx k) := by
            rcases Nat.lt_or_ge (tfi nx k) W with q9 | q9
            · exact absurd c30 (nI_ge (a := (tfi nx k)) (b := W) q9 (by omega))
            · exact q9
          exact am_vret (I := iX4_takeLines) (pc := 91) dX4_takeLines_91 rfl (Nat.le_refl _) (Nat.le_refl _) (⟨rfl, by rw [show k = (nct nx W W 0) by rw [← hN, nct_out (by omega)]; rfl]⟩)
        · have l30 : (tfi nx k) < W := by
            rcases Nat.lt_or_ge (tfi nx k) W with q9 | q9
            · exact q9
            · exact absurd (nI_le (a := W) (b := (tfi nx k)) q9 (by omega)) c30
          have hn := hnx _ l30
          refine am_aload_n (I := iX4_takeLines) (pc := 33) dX4_takeLines_33 rfl rfl ?_
          refine am_getf (I := iX4_takeLines) (pc := 34) lf_X4_25 dX4_takeLines_34 (sgS_sg hd ha).1 rfl ?_
          refine am_iload_n (I := iX4_takeLines) (pc := 37) dX4_takeLines_37 rfl rfl ?_
          refine am_iaload (I := iX4_takeLines) (pc := 38) dX4_takeLines_38 (sgS_sg hd ha).2.2.2.2.1 rfl (vp_in_nI (show tfi nx k < 40 by omega) (by decide)) ?_
          rw [nI_clamp (show tfi nx k < 2 ^ 31 by omega), hn.1]
          refine am_istore_n (I := iX4_takeLines) (pc := 39) (L' := [some (.ref a), some (.int (nI (tfi nx k))), some (.int (nI k)), some (.int (nI (nx (tfi nx k))))]) dX4_takeLines_39 rfl (by decide) rfl ?_
          refine am_aload_n (I := iX4_takeLines) (pc := 40) dX4_takeLines_40 rfl rfl ?_
          refine am_getf (I := iX4_takeLines) (pc := 41) lf_X4_28 dX4_takeLines_41 (sgS_sg hd ha).1 rfl ?_
          refine am_iload_n (I := iX4_takeLines) (pc := 44) dX4_takeLines_44 rfl rfl ?_
          refine am_aload_n (I := iX4_takeLines) (pc := 45) dX4_takeLines_45 rfl rfl ?_
          refine am_getf (I := iX4_takeLines) (pc := 46) lf_X4_9 dX4_takeLines_46 (sgS_sg hd ha).1 rfl ?_
          refine am_iload_n (I := iX4_takeLines) (pc := 49) dX4_takeLines_49 rfl rfl ?_
          refine am_iaload (I := iX4_takeLines) (pc := 50) dX4_takeLines_50 (sgS_sg hd ha).2.1 rfl (vp_in_nI (show tfi nx k < 40 by omega) (by decide)) ?_
          rw [nI_clamp (show tfi nx k < 2 ^ 31 by omega)]
          refine am_iastore (I := iX4_takeLines) (pc := 51) dX4_takeLines_51 (sgS_sg hd ha).2.2.2.2.2.1 rfl (vp_in_nI (show k < 40 by omega) (by decide)) ?_
          refine am_same (S' := sgS S a x1 x2 x3 x4 x5 x6 B E LF NF (upd (rcat LB 0 (fun j => B (tfi nx j)) k) (nI k).toNatClampNeg (B (tfi nx k))) (rcat LS 0 (fun j => E (nx (tfi nx j) - 1) - B (tfi nx j)) k) W k (LF 0)) rfl rfl rfl (sgS_5 hd ha) rfl rfl ?_
          refine am_aload_n (I := iX4_takeLines) (pc := 52) dX4_takeLines_52 rfl rfl ?_
          refine am_getf (I := iX4_takeLines) (pc := 53) lf_X4_31 dX4_takeLines_53 (sgS_sg hd ha).1 rfl ?_
          refine am_iload_n (I := iX4_takeLines) (pc := 56) dX4_takeLines_56 rfl rfl ?_
          refine am_aload_n (I := iX4_takeLines) (pc := 57) dX4_takeLines_57 rfl rfl ?_
          refine am_getf (I := iX4_takeLines) (pc := 58) lf_X4_15 dX4_takeLines_58 (sgS_sg hd ha).1 rfl ?_
          refine am_iload_n (I := iX4_takeLines) (pc := 61) dX4_takeLines_61 rfl rfl ?_
          refine am_iconst (I := iX4_takeLines) (pc := 62) (x := 1) dX4_takeLines_62 (by decide) ?_
          refine am_isub (I := iX4_takeLines) (pc := 63) dX4_takeLines_63 ?_
          have e64 : nI (nx (tfi nx k)) - 1 = nI (nx (tfi nx k) - 1) := by
            conv => lhs; rw [show nx (tfi nx k) = (nx (tfi nx k) - 1) + 1 by omega]
            exact nI_pred _
          rw [e64]
          refine am_iaload (I := iX4_takeLines) (pc := 64) dX4_takeLines_64 (sgS_sg hd ha).2.2.1 rfl (vp_in_nI (show nx (tfi nx k) - 1 < 40 by omega) (by decide)) ?_
          rw [nI_clamp (show nx (tfi nx k) - 1 < 2 ^ 31 by omega)]
          refine am_aload_n (I := iX4_takeLines) (pc := 65) dX4_takeLines_65 rfl rfl ?_
          refine am_getf (I := iX4_takeLines) (pc := 66) lf_X4_9 dX4_takeLines_66 (sgS_sg hd ha).1 rfl ?_
          refine am_iload_n (I := iX4_takeLines) (pc := 69) dX4_takeLines_69 rfl rfl ?_
          refine am_iaload (I := iX4_takeLines) (pc := 70) dX4_takeLines_70 (sgS_sg hd ha).2.1 rfl (vp_in_nI (show tfi nx k < 40 by omega) (by decide)) ?_
          rw [nI_clamp (show tfi nx k < 2 ^ 31 by omega)]
          refine am_isub (I := iX4_takeLines) (pc := 71) dX4_takeLines_71 ?_
          refine am_iastore (I := iX4_takeLines) (pc := 72) dX4_takeLines_72 (sgS_sg hd ha).2.2.2.2.2.2 rfl (vp_in_nI (show k < 40 by omega) (by decide)) ?_
          refine am_same (S' := sgS S a x1 x2 x3 x4 x5 x6 B E LF NF (upd (rcat LB 0 (fun j => B (tfi nx j)) k) (nI k).toNatClampNeg (B (tfi nx k))) (upd (rcat LS 0 (fun j => E (nx (tfi nx j) - 1) - B (tfi nx j)) k) (nI k).toNatClampNeg ((E (nx (tfi nx k) - 1)) - (B (tfi nx k)))) W k (LF 0)) rfl rfl rfl (sgS_6 hd ha) rfl rfl ?_
          refine am_aload_n (I := iX4_takeLines) (pc := 73) dX4_takeLines_73 rfl rfl ?_
          refine am_dup (I := iX4_takeLines) (pc := 74) dX4_takeLines_74 rfl ?_
          refine am_getf (I := iX4_takeLines) (pc := 75) lf_X4_34 dX4_takeLines_75 (sgS_sg hd ha).1 rfl ?_
          refine am_iconst (I := iX4_takeLines) (pc := 78) (x := 1) dX4_takeLines_78 (by decide) ?_
          refine am_iadd (I := iX4_takeLines) (pc := 79) dX4_takeLines_79 ?_
          rw [nI_1]
          refine am_putf (I := iX4_takeLines) (pc := 80) (fs' := [.ref x1, .ref x2, .int (nI W), .ref x3, .ref x4, .ref x5, .ref x6, .int (nI (k + 1)), .int (LF 0)]) lf_X4_34 dX4_takeLines_80 (sgS_sg hd ha).1 (fun _ => ⟨rfl, rfl⟩) (Nat.le_of_ble_eq_true rfl) rfl ?_
          refine am_same (S' := sgS S a x1 x2 x3 x4 x5 x6 B E LF NF (upd (rcat LB 0 (fun j => B (tfi nx j)) k) (nI k).toNatClampNeg (B (tfi nx k))) (upd (rcat LS 0 (fun j => E (nx (tfi nx j) - 1) - B (tfi nx j)) k) (nI k).toNatClampNeg ((E (nx (tfi nx k) - 1)) - (B (tfi nx k)))) W (k + 1) (LF 0)) rfl rfl rfl sgS_a rfl rfl ?_
          refine am_iload_n (I := iX4_takeLines) (pc := 83) dX4_takeLines_83 rfl rfl ?_
          refine am_istore_n (I := iX4_takeLines) (pc := 84) (L' := [some (.ref a), some (.int (nI (nx (tfi nx k)))), some (.int (nI k)), some (.int (nI (nx (tfi nx k))))]) dX4_takeLines_84 rfl (by decide) rfl ?_
          refine am_forget 3 ?_
          refine am_iinc (I := iX4_takeLines) (pc := 85) (y := ((nI k) + 1)) (L' := [some (.ref a), some (.int (nI (nx (tfi nx k)))), some (.int ((nI k) + 1)), none]) dX4_takeLines_85 rfl rfl rfl ?_
          refine am_goto (I := iX4_takeLines) (pc := 88) (tgt := 19) dX4_takeLines_88 (by decide) ?_
          exact am_same rfl (by rw [nI_1]; rfl) rfl (by rw [nI_clamp (show k < 2 ^ 31 by omega), ← rcat_s, ← rcat_s, Nat.zero_add]) rfl rfl (ih19 (k + 1) (by omega) (show k + 1 ≤ nx (tfi nx k) by omega) hn.2.2 (by rw [← hN, show W - k = (W - (k + 1)) + 1 by omega, nct, if_pos l30, tfi]; omega))
  exact am_same rfl (by rfl) rfl (by rw [rcat_0, rcat_0]) rfl rfl (loop19 _ 0 (Nat.lt_succ_self _) (Nat.le_refl _) (Nat.zero_le _) (by rw [Nat.zero_add]; rfl))
set_option maxRecDepth 100000 in
set_option maxHeartbeats 4000000 in
theorem m_Set_set0 (K : am_K) (l : Launch) (S : am_S) (a x1 x2 x3 x4 x5 x6 : Nat) (B E LF NF LB LS : Nat → Int32) (W ln : Nat) (sm : Int32) (t b2 cap2 : Nat) (g : Nat → Int32) (m : Nat) (w : Int32) (hs : sg S.1 a x1 x2 x3 x4 x5 x6 B E LF NF LB LS W ln sm) (hd : sgd x1 x2 x3 x4 x5 x6) (ht : rw S.1 t b2 cap2 g m) (htn : b2 ≠ x1 ∧ b2 ≠ x2 ∧ b2 ≠ x3 ∧ b2 ≠ x4 ∧ b2 ≠ x5 ∧ b2 ≠ x6) (hW : (cnt (sep g m) (m + 1)) ≤ 40) (hl : ¬ lww (wB g m B (m + 1)) (wE g m E (m + 1)) (cnt (sep g m) (m + 1)) ≤ w) : am_M K l iX4_set 2 0 0 [.ref a, .ref t, .int w] S (fun v S' => v = some (.int 0) ∧ sgS S a x1 x2 x3 x4 x5 x6 (wB g m B (m + 1)) (wE g m E (m + 1)) LF NF LB LS (cnt (sep g m) (m + 1)) ln sm = S') (fun _ _ => False) := by
  refine am_body (by decide) rfl (by simp [Value.category]) (Nat.le_of_ble_eq_true rfl) (fun xp xe xs xm xa xb xt xc ad0 => ?_)
  show am_W _ _ _ _ _ _ _ _ _ _ _ _ _ _ _ 0 [some (.ref a), some (.ref t), some (.int w)] [] S 0 0
  have ha := sg_a hs
  refine am_aload_n (I := iX4_set) (pc := 0) dX4_set_0 rfl rfl ?_
  refine am_aload_n (I := iX4_set) (pc := 1) dX4_set_1 rfl rfl ?_
  refine am_callV (I := iX4_set) (pc := 2) (st := []) lv_X4_40 (m_Set_findWords K l _ a x1 x2 x3 x4 x5 x6 B E LF NF LB LS W ln sm t b2 cap2 g m hs hd ht htn hW) dX4_set_2 hs.1 rfl (Nat.le_of_ble_eq_true rfl) ⟨Nat.le_of_ble_eq_true rfl, Nat.le_of_ble_eq_true rfl⟩ (Nat.le_of_ble_eq_true rfl) (Nat.le_of_ble_eq_true rfl) rfl (fun v9 T9 z9 _ => ?_) (fun _ _ h9 => h9.elim)
  obtain ⟨rfl, eT9⟩ := z9
  subst eT9
  show am_W _ _ _ _ _ _ _ _ _ _ _ _ _ _ _ 5 [some (.ref a), some (.ref t), some (.int w)] [] (sgS S a x1 x2 x3 x4 x5 x6 (wB g m B (m + 1)) (wE g m E (m + 1)) LF NF LB LS (cnt (sep g m) (m + 1)) ln sm) 0 0
  refine am_aload_n (I := iX4_set) (pc := 5) dX4_set_5 rfl rfl ?_
  refine am_callV (I := iX4_set) (pc := 6) (st := []) lv_X4_44 (m_Set_longest K l _ a x1 x2 x3 x4 x5 x6 (wB g m B (m + 1)) (wE g m E (m + 1)) LF NF LB LS (cnt (sep g m) (m + 1)) ln sm (sgS_sg hd ha) hW) dX4_set_6 (sgS_sg hd ha).1 rfl (Nat.le_of_ble_eq_true rfl) ⟨Nat.le_of_ble_eq_true rfl, Nat.le_of_ble_eq_true rfl⟩ (Nat.le_of_ble_eq_true rfl) (Nat.le_of_ble_eq_true rfl) rfl (fun v9 T9 z9 _ => ?_) (fun _ _ h9 => h9.elim)
  obtain ⟨rfl, rfl⟩ := z9
  show am_W _ _ _ _ _ _ _ _ _ _ _ _ _ _ _ 9 [some (.ref a), some (.ref t), some (.int w)] [.int (lww (wB g m B (m + 1)) (wE g m E (m + 1)) (cnt (sep g m) (m + 1)))] (sgS S a x1 x2 x3 x4 x5 x6 (wB g m B (m + 1)) (wE g m E (m + 1)) LF NF LB LS (cnt (sep g m) (m + 1)) ln sm) 0 0
  refine am_iload_n (I := iX4_set) (pc := 9) dX4_set_9 rfl rfl ?_
  refine am_icmp_le (I := iX4_set) (pc := 10) (tgt := 15) dX4_set_10 (by decide) (fun c10 => ?_) (fun c10 => ?_)
  · exact absurd c10 hl
  · refine am_iconst (I := iX4_set) (pc := 13) (x := 0) dX4_set_13 (by decide) ?_
    exact am_zret (I := iX4_set) (pc := 14) dX4_set_14 rfl (by decide) (Nat.le_refl _) (Nat.le_refl _) (⟨rfl, rfl⟩)
set_option maxRecDepth 100000 in
set_option maxHeartbeats 4000000 in
theorem m_Set_set1 (K : am_K) (l : Launch) (S : am_S) (a x1 x2 x3 x4 x5 x6 : Nat) (B E LF NF LB LS : Nat → Int32) (W ln : Nat) (sm : Int32) (t b2 cap2 : Nat) (g : Nat → Int32) (m : Nat) (w : Int32) (hs : sg S.1 a x1 x2 x3 x4 x5 x6 B E LF NF LB LS W ln sm) (hd : sgd x1 x2 x3 x4 x5 x6) (ht : rw S.1 t b2 cap2 g m) (htn : b2 ≠ x1 ∧ b2 ≠ x2 ∧ b2 ≠ x3 ∧ b2 ≠ x4 ∧ b2 ≠ x5 ∧ b2 ≠ x6) (hW : (cnt (sep g m) (m + 1)) ≤ 40) (hl : lww (wB g m B (m + 1)) (wE g m E (m + 1)) (cnt (sep g m) (m + 1)) ≤ w) : am_M K l iX4_set 2 0 0 [.ref a, .ref t, .int w] S (fun v S' => v = some (.int 1) ∧ sgS S a x1 x2 x3 x4 x5 x6 (wB g m B (m + 1)) (wE g m E (m + 1)) (flL w (wB g m B (m + 1)) (wE g m E (m + 1)) (cnt (sep g m) (m + 1)) LF (cnt (sep g m) (m + 1))) (flN w (wB g m B (m + 1)) (wE g m E (m + 1)) (cnt (sep g m) (m + 1)) LF NF (cnt (sep g m) (m + 1))) (rcat LB 0 (fun j => (wB g m B (m + 1)) (tfi (fun j => (ires w (wB g m B (m + 1)) (wE g m E (m + 1)) (flL w (wB g m B (m + 1)) (wE g m E (m + 1)) (cnt (sep g m) (m + 1)) LF ((cnt (sep g m) (m + 1)) - (j + 1))) (cnt (sep g m) (m + 1)) j).2) j)) (nct (fun j => (ires w (wB g m B (m + 1)) (wE g m E (m + 1)) (flL w (wB g m B (m + 1)) (wE g m E (m + 1)) (cnt (sep g m) (m + 1)) LF ((cnt (sep g m) (m + 1)) - (j + 1))) (cnt (sep g m) (m + 1)) j).2) (cnt (sep g m) (m + 1)) (cnt (sep g m) (m + 1)) 0)) (rcat LS 0 (fun j => (wE g m E (m + 1)) ((fun j => (ires w (wB g m B (m + 1)) (wE g m E (m + 1)) (flL w (wB g m B (m + 1)) (wE g m E (m + 1)) (cnt (sep g m) (m + 1)) LF ((cnt (sep g m) (m + 1)) - (j + 1))) (cnt (sep g m) (m + 1)) j).2) (tfi (fun j => (ires w (wB g m B (m + 1)) (wE g m E (m + 1)) (flL w (wB g m B (m + 1)) (wE g m E (m + 1)) (cnt (sep g m) (m + 1)) LF ((cnt (sep g m) (m + 1)) - (j + 1))) (cnt (sep g m) (m + 1)) j).2) j) - 1) - (wB g m B (m + 1)) (tfi (fun j => (ires w (wB g m B (m + 1)) (wE g m E (m + 1)) (flL w (wB g m B (m + 1)) (wE g m E (m + 1)) (cnt (sep g m) (m + 1)) LF ((cnt (sep g m) (m + 1)) - (j + 1))) (cnt (sep g m) (m + 1)) j).2) j)) (nct (fun j => (ires w (wB g m B (m + 1)) (wE g m E (m + 1)) (flL w (wB g m B (m + 1)) (wE g m E (m + 1)) (cnt (sep g m) (m + 1)) LF ((cnt (sep g m) (m + 1)) - (j + 1))) (cnt (sep g m) (m + 1)) j).2) (cnt (sep g m) (m + 1)) (cnt (sep g m) (m + 1)) 0)) (cnt (sep g m) (m + 1)) (nct (fun j => (ires w (wB g m B (m + 1)) (wE g m E (m + 1)) (flL w (wB g m B (m + 1)) (wE g m E (m + 1)) (cnt (sep g m) (m + 1)) LF ((cnt (sep g m) (m + 1)) - (j + 1))) (cnt (sep g m) (m + 1)) j).2) (cnt (sep g m) (m + 1)) (cnt (sep g m) (m + 1)) 0) ((flL w (wB g m B (m + 1)) (wE g m E (m + 1)) (cnt (sep g m) (m + 1)) LF (cnt (sep g m) (m + 1))) 0) = S') (fun _ _ => False) := by
  refine am_body (by decide) rfl (by simp [Value.category]) (Nat.le_of_ble_eq_true rfl) (fun xp xe xs xm xa xb xt xc ad0 => ?_)
  show am_W _ _ _ _ _ _ _ _ _ _ _ _ _ _ _ 0 [some (.ref a), some (.ref t), some (.int w)] [] S 0 0
  have ha := sg_a hs
  refine am_aload_n (I := iX4_set) (pc := 0) dX4_set_0 rfl rfl ?_
  refine am_aload_n (I := iX4_set) (pc := 1) dX4_set_1 rfl rfl ?_
  refine am_callV (I := iX4_set) (pc := 2) (st := []) lv_X4_40 (m_Set_findWords K l _ a x1 x2 x3 x4 x5 x6 B E LF NF LB LS W ln sm t b2 cap2 g m hs hd ht htn hW) dX4_set_2 hs.1 rfl (Nat.le_of_ble_eq_true rfl) ⟨Nat.le_of_ble_eq_true rfl, Nat.le_of_ble_eq_true rfl⟩ (Nat.le_of_ble_eq_true rfl) (Nat.le_of_ble_eq_true rfl) rfl (fun v9 T9 z9 _ => ?_) (fun _ _ h9 => h9.elim)
  obtain ⟨rfl, eT9⟩ := z9
  subst eT9
  show am_W _ _ _ _ _ _ _ _ _ _ _ _ _ _ _ 5 [some (.ref a), some (.ref t), some (.int w)] [] (sgS S a x1 x2 x3 x4 x5 x6 (wB g m B (m + 1)) (wE g m E (m + 1)) LF NF LB LS (cnt (sep g m) (m + 1)) ln sm) 0 0
  refine am_aload_n (I := iX4_set) (pc := 5) dX4_set_5 rfl rfl ?_
  refine am_callV (I := iX4_set) (pc := 6) (st := []) lv_X4_44 (m_Set_longest K l _ a x1 x2 x3 x4 x5 x6 (wB g m B (m + 1)) (wE g m E (m + 1)) LF NF LB LS (cnt (sep g m) (m + 1)) ln sm (sgS_sg hd ha) hW) dX4_set_6 (sgS_sg hd ha).1 rfl (Nat.le_of_ble_eq_true rfl) ⟨Nat.le_of_ble_eq_true rfl, Nat.le_of_ble_eq_true rfl⟩ (Nat.le_of_ble_eq_true rfl) (Nat.le_of_ble_eq_true rfl) rfl (fun v9 T9 z9 _ => ?_) (fun _ _ h9 => h9.elim)
  obtain ⟨rfl, rfl⟩ := z9
  show am_W _ _ _ _ _ _ _ _ _ _ _ _ _ _ _ 9 [some (.ref a), some (.ref t), some (.int w)] [.int (lww (wB g m B (m + 1)) (wE g m E (m + 1)) (cnt (sep g m) (m + 1)))] (sgS S a x1 x2 x3 x4 x5 x6 (wB g m B (m + 1)) (wE g m E (m + 1)) LF NF LB LS (cnt (sep g m) (m + 1)) ln sm) 0 0
  refine am_iload_n (I := iX4_set) (pc := 9) dX4_set_9 rfl rfl ?_
  refine am_icmp_le (I := iX4_set) (pc := 10) (tgt := 15) dX4_set_10 (by decide) (fun c10 => ?_) (fun c10 => ?_)
  · refine am_aload_n (I := iX4_set) (pc := 15) dX4_set_15 rfl rfl ?_
    refine am_iload_n (I := iX4_set) (pc := 16) dX4_set_16 rfl rfl ?_
    refine am_callV (I := iX4_set) (pc := 17) (st := []) lv_X4_48 (m_Set_findLeast K l _ a x1 x2 x3 x4 x5 x6 (wB g m B (m + 1)) (wE g m E (m + 1)) LF NF LB LS (cnt (sep g m) (m + 1)) ln sm w (sgS_sg hd ha) hd hW) dX4_set_17 (sgS_sg hd ha).1 rfl (Nat.le_of_ble_eq_true rfl) ⟨Nat.le_of_ble_eq_true rfl, Nat.le_of_ble_eq_true rfl⟩ (Nat.le_of_ble_eq_true rfl) (Nat.le_of_ble_eq_true rfl) rfl (fun v9 T9 z9 _ => ?_) (fun _ _ h9 => h9.elim)
    obtain ⟨rfl, eT9⟩ := z9
    rw [sgS_sgS] at eT9
    subst eT9
    show am_W _ _ _ _ _ _ _ _ _ _ _ _ _ _ _ 20 [some (.ref a), some (.ref t), some (.int w)] [] (sgS S a x1 x2 x3 x4 x5 x6 (wB g m B (m + 1)) (wE g m E (m + 1)) (flL w (wB g m B (m + 1)) (wE g m E (m + 1)) (cnt (sep g m) (m + 1)) LF (cnt (sep g m) (m + 1))) (flN w (wB g m B (m + 1)) (wE g m E (m + 1)) (cnt (sep g m) (m + 1)) LF NF (cnt (sep g m) (m + 1))) LB LS (cnt (sep g m) (m + 1)) ln sm) 0 0
    refine am_aload_n (I := iX4_set) (pc := 20) dX4_set_20 rfl rfl ?_
    refine am_callV (I := iX4_set) (pc := 21) (st := []) lv_X4_52 (m_Set_takeLines K l _ a x1 x2 x3 x4 x5 x6 (wB g m B (m + 1)) (wE g m E (m + 1)) (flL w (wB g m B (m + 1)) (wE g m E (m + 1)) (cnt (sep g m) (m + 1)) LF (cnt (sep g m) (m + 1))) (flN w (wB g m B (m + 1)) (wE g m E (m + 1)) (cnt (sep g m) (m + 1)) LF NF (cnt (sep g m) (m + 1))) LB LS (cnt (sep g m) (m + 1)) ln sm (fun j => (ires w (wB g m B (m + 1)) (wE g m E (m + 1)) (flL w (wB g m B (m + 1)) (wE g m E (m + 1)) (cnt (sep g m) (m + 1)) LF ((cnt (sep g m) (m + 1)) - (j + 1))) (cnt (sep g m) (m + 1)) j).2) (sgS_sg hd ha) hd hW (fun j hj => ⟨flN_at _ (Nat.le_refl _) j (by omega) hj, ires_2 hj⟩)) dX4_set_21 (sgS_sg hd ha).1 rfl (Nat.le_of_ble_eq_true rfl) ⟨Nat.le_of_ble_eq_true rfl, Nat.le_of_ble_eq_true rfl⟩ (Nat.le_of_ble_eq_true rfl) (Nat.le_of_ble_eq_true rfl) rfl (fun v9 T9 z9 _ => ?_) (fun _ _ h9 => h9.elim)
    obtain ⟨rfl, eT9⟩ := z9
    rw [sgS_sgS] at eT9
    subst eT9
    show am_W _ _ _ _ _ _ _ _ _ _ _ _ _ _ _ 24 [some (.ref a), some (.ref t), some (.int w)] [] (sgS S a x1 x2 x3 x4 x5 x6 (wB g m B (m + 1)) (wE g m E (m + 1)) (flL w (wB g m B (m + 1)) (wE g m E (m + 1)) (cnt (sep g m) (m + 1)) LF (cnt (sep g m) (m + 1))) (flN w (wB g m B (m + 1)) (wE g m E (m + 1)) (cnt (sep g m) (m + 1)) LF NF (cnt (sep g m) (m + 1))) (rcat LB 0 (fun j => (wB g m B (m + 1)) (tfi (fun j => (ires w (wB g m B (m + 1)) (wE g m E (m + 1)) (flL w (wB g m B (m + 1)) (wE g m E (m + 1)) (cnt (sep g m) (m + 1)) LF ((cnt (sep g m) (m + 1)) - (j + 1))) (cnt (sep g m) (m + 1)) j).2) j)) (nct (fun j => (ires w (wB g m B (m + 1)) (wE g m E (m + 1)) (flL w (wB g m B (m + 1)) (wE g m E (m + 1)) (cnt (sep g m) (m + 1)) LF ((cnt (sep g m) (m + 1)) - (j + 1))) (cnt (sep g m) (m + 1)) j).2) (cnt (sep g m) (m + 1)) (cnt (sep g m) (m + 1)) 0)) (rcat LS 0 (fun j => (wE g m E (m + 1)) ((fun j => (ires w (wB g m B (m + 1)) (wE g m E (m + 1)) (flL w (wB g m B (m + 1)) (wE g m E (m + 1)) (cnt (sep g m) (m + 1)) LF ((cnt (sep g m) (m + 1)) - (j + 1))) (cnt (sep g m) (m + 1)) j).2) (tfi (fun j => (ires w (wB g m B (m + 1)) (wE g m E (m + 1)) (flL w (wB g m B (m + 1)) (wE g m E (m + 1)) (cnt (sep g m) (m + 1)) LF ((cnt (sep g m) (m + 1)) - (j + 1))) (cnt (sep g m) (m + 1)) j).2) j) - 1) - (wB g m B (m + 1)) (tfi (fun j => (ires w (wB g m B (m + 1)) (wE g m E (m + 1)) (flL w (wB g m B (m + 1)) (wE g m E (m + 1)) (cnt (sep g m) (m + 1)) LF ((cnt (sep g m) (m + 1)) - (j + 1))) (cnt (sep g m) (m + 1)) j).2) j)) (nct (fun j => (ires w (wB g m B (m + 1)) (wE g m E (m + 1)) (flL w (wB g m B (m + 1)) (wE g m E (m + 1)) (cnt (sep g m) (m + 1)) LF ((cnt (sep g m) (m + 1)) - (j + 1))) (cnt (sep g m) (m + 1)) j).2) (cnt (sep g m) (m + 1)) (cnt (sep g m) (m + 1)) 0)) (cnt (sep g m) (m + 1)) (nct (fun j => (ires w (wB g m B (m + 1)) (wE g m E (m + 1)) (flL w (wB g m B (m + 1)) (wE g m E (m + 1)) (cnt (sep g m) (m + 1)) LF ((cnt (sep g m) (m + 1)) - (j + 1))) (cnt (sep g m) (m + 1)) j).2) (cnt (sep g m) (m + 1)) (cnt (sep g m) (m + 1)) 0) ((flL w (wB g m B (m + 1)) (wE g m E (m + 1)) (cnt (sep g m) (m + 1)) LF (cnt (sep g m) (m + 1))) 0)) 0 0
    refine am_iconst (I := iX4_set) (pc := 24) (x := 1) dX4_set_24 (by decide) ?_
    exact am_zret (I := iX4_set) (pc := 25) dX4_set_25 rfl (by decide) (Nat.le_refl _) (Nat.le_refl _) (⟨rfl, rfl⟩)
  · exact absurd hl c10
