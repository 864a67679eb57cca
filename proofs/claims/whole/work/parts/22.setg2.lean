theorem upd_upd {f : Nat → Int32} {k : Nat} {x y : Int32} : upd (upd f k x) k y = upd f k y := by
  funext j
  unfold upd
  by_cases e : j = k
  · rw [if_pos e, if_pos e]
  · rw [if_neg e, if_neg e, if_neg e]
theorem add_m1 (x : Int32) : x + (-1) = x - 1 := by rw [Int32.sub_eq_add_neg]
def ilp (w : Int32) (B E LF : Nat → Int32) (W f : Nat) : Nat → Nat → Int32 × Nat → Int32 × Nat
  | 0, _, s => s
  | k + 1, nx, s => if 0 ≤ w - (E (nx - 1) - B f) then ilp w B E LF W f k (nx + 1) (if (if nx = W then 0 else (w - (E (nx - 1) - B f)) * (w - (E (nx - 1) - B f)) + LF nx) < s.1 then ((if nx = W then 0 else (w - (E (nx - 1) - B f)) * (w - (E (nx - 1) - B f)) + LF nx), nx) else s) else s
def ires (w : Int32) (B E LF : Nat → Int32) (W f : Nat) : Int32 × Nat := ilp w B E LF W f (W - f) (f + 1) (144000, W)
def flL (w : Int32) (B E : Nat → Int32) (W : Nat) (LF : Nat → Int32) : Nat → Nat → Int32
  | 0 => LF
  | k + 1 => upd (flL w B E W LF k) (W - (k + 1)) (ires w B E (flL w B E W LF k) W (W - (k + 1))).1
def flN (w : Int32) (B E : Nat → Int32) (W : Nat) (LF NF : Nat → Int32) : Nat → Nat → Int32
  | 0 => NF
  | k + 1 => upd (flN w B E W LF NF k) (W - (k + 1)) (nI (ires w B E (flL w B E W LF k) W (W - (k + 1))).2)
set_option maxRecDepth 100000 in
set_option maxHeartbeats 4000000 in
theorem m_Set_findLeast (K : am_K) (l : Launch) (S : am_S) (a x1 x2 x3 x4 x5 x6 : Nat) (B E LF NF LB LS : Nat → Int32) (W ln : Nat) (sm : Int32) (w : Int32) (hs : sg S.1 a x1 x2 x3 x4 x5 x6 B E LF NF LB LS W ln sm) (hd : sgd x1 x2 x3 x4 x5 x6) (hW : W ≤ 40) : am_M K l iX4_findLeast 0 0 0 [.ref a, .int w] S (fun v S' => v = none ∧ sgS S a x1 x2 x3 x4 x5 x6 B E (flL w B E W LF W) (flN w B E W LF NF W) LB LS W ln sm = S') (fun _ _ => False) := by
  refine am_body (by decide) rfl (by simp [Value.category]) (Nat.le_of_ble_eq_true rfl) (fun xp xe xs xm xa xb xt xc ad0 => ?_)
  show am_W _ _ _ _ _ _ _ _ _ _ _ _ _ _ _ 0 [some (.ref a), some (.int w), none, none, none, none] [] S 0 0
  have ha := sg_a hs
  refine am_same (S' := sgS S a x1 x2 x3 x4 x5 x6 B E LF NF LB LS W ln sm) rfl rfl rfl (sgS_id hs) rfl rfl ?_
  refine am_aload_n (I := iX4_findLeast) (pc := 0) dX4_findLeast_0 rfl rfl ?_
  refine am_getf (I := iX4_findLeast) (pc := 1) lf_X4_18 dX4_findLeast_1 (sgS_sg hd ha).1 rfl ?_
  refine am_iconst (I := iX4_findLeast) (pc := 4) (x := 1) dX4_findLeast_4 (by decide) ?_
  refine am_isub (I := iX4_findLeast) (pc := 5) dX4_findLeast_5 ?_
  refine am_istore_n (I := iX4_findLeast) (pc := 6) (L' := [some (.ref a), some (.int w), some (.int ((nI W) - 1)), none, none, none]) dX4_findLeast_6 rfl (by decide) rfl ?_
  have loop7 : ∀ (k7 : Nat) (t : Nat), t < k7 → (t ≤ W) → am_W K iX4_findLeast xp l xe (am_room 0 0 0) xs xm xa xb xt xc S ad0 (am_E K ad0 S (fun v S' => v = none ∧ sgS S a x1 x2 x3 x4 x5 x6 B E (flL w B E W LF W) (flN w B E W LF NF W) LB LS W ln sm = S') (fun _ _ => False) xb xa xs 0 0) 7 [some (.ref a), some (.int w), some (.int (nI t - 1)), none, none, none] [] (sgS S a x1 x2 x3 x4 x5 x6 B E (flL w B E W LF (W - t)) (flN w B E W LF NF (W - t)) LB LS W ln sm) 0 0 := by
    intro k7
    induction k7 with
    | zero => intro t h9; exact absurd h9 (Nat.not_lt_zero _)
    | succ k7 ih7 =>
      intro t hm7 ht
      refine am_iload_n (I := iX4_findLeast) (pc := 7) dX4_findLeast_7 rfl rfl ?_
      rcases t with _ | f
      · refine am_if_lt (I := iX4_findLeast) (pc := 8) (tgt := 132) dX4_findLeast_8 (by decide) (fun c8 => ?_) (fun c8 => ?_)
        · exact am_vret (I := iX4_findLeast) (pc := 132) dX4_findLeast_132 rfl (Nat.le_refl _) (Nat.le_refl _) (⟨rfl, by rw [Nat.sub_zero]⟩)
        · exact absurd (by decide) c8
      · rw [nI_pred]
        refine am_if_lt (I := iX4_findLeast) (pc := 8) (tgt := 132) dX4_findLeast_8 (by decide) (fun c8 => ?_) (fun c8 => ?_)
        · exact absurd c8 (nI_pos (by omega))
        · refine am_aload_n (I := iX4_findLeast) (pc := 11) dX4_findLeast_11 rfl rfl ?_
          refine am_getf (I := iX4_findLeast) (pc := 12) lf_X4_22 dX4_findLeast_12 (sgS_sg hd ha).1 rfl ?_
          refine am_iload_n (I := iX4_findLeast) (pc := 15) dX4_findLeast_15 rfl rfl ?_
          refine am_ldc (I := iX4_findLeast) (pc := 16) (x := 144000) dX4_findLeast_16 (by decide +kernel) ?_
          refine am_iastore (I := iX4_findLeast) (pc := 18) dX4_findLeast_18 (sgS_sg hd ha).2.2.2.1 rfl (vp_in_nI (show f < 40 by omega) (by decide)) ?_
          refine am_same (S' := sgS S a x1 x2 x3 x4 x5 x6 B E (upd (flL w B E W LF (W - (f + 1))) (nI f).toNatClampNeg 144000) (flN w B E W LF NF (W - (f + 1))) LB LS W ln sm) rfl rfl rfl (sgS_3 hd ha) rfl rfl ?_
          refine am_aload_n (I := iX4_findLeast) (pc := 19) dX4_findLeast_19 rfl rfl ?_
          refine am_getf (I := iX4_findLeast) (pc := 20) lf_X4_25 dX4_findLeast_20 (sgS_sg hd ha).1 rfl ?_
          refine am_iload_n (I := iX4_findLeast) (pc := 23) dX4_findLeast_23 rfl rfl ?_
          refine am_aload_n (I := iX4_findLeast) (pc := 24) dX4_findLeast_24 rfl rfl ?_
          refine am_getf (I := iX4_findLeast) (pc := 25) lf_X4_18 dX4_findLeast_25 (sgS_sg hd ha).1 rfl ?_
          refine am_iastore (I := iX4_findLeast) (pc := 28) dX4_findLeast_28 (sgS_sg hd ha).2.2.2.2.1 rfl (vp_in_nI (show f < 40 by omega) (by decide)) ?_
          refine am_same (S' := sgS S a x1 x2 x3 x4 x5 x6 B E (upd (flL w B E W LF (W - (f + 1))) (nI f).toNatClampNeg 144000) (upd (flN w B E W LF NF (W - (f + 1))) (nI f).toNatClampNeg (nI W)) LB LS W ln sm) rfl rfl rfl (sgS_4 hd ha) rfl rfl ?_
          refine am_iload_n (I := iX4_findLeast) (pc := 29) dX4_findLeast_29 rfl rfl ?_
          refine am_iconst (I := iX4_findLeast) (pc := 30) (x := 1) dX4_findLeast_30 (by decide) ?_
          refine am_iadd (I := iX4_findLeast) (pc := 31) dX4_findLeast_31 ?_
          rw [nI_1]
          refine am_istore_n (I := iX4_findLeast) (pc := 32) (L' := [some (.ref a), some (.int w), some (.int (nI f)), some (.int (nI (f + 1))), none, none]) dX4_findLeast_32 rfl (by decide) rfl ?_
          have loop33 : ∀ (k33 : Nat) (nx : Nat) (lf : Int32) (nf : Nat), W + 1 - nx < k33 → (f < nx) → (nx ≤ W + 1) → (ilp w B E (flL w B E W LF (W - (f + 1))) W f (W + 1 - nx) nx (lf, nf) = ires w B E (flL w B E W LF (W - (f + 1))) W f) → am_W K iX4_findLeast xp l xe (am_room 0 0 0) xs xm xa xb xt xc S ad0 (am_E K ad0 S (fun v S' => v = none ∧ sgS S a x1 x2 x3 x4 x5 x6 B E (flL w B E W LF W) (flN w B E W LF NF W) LB LS W ln sm = S') (fun _ _ => False) xb xa xs 0 0) 33 [some (.ref a), some (.int w), some (.int (nI f)), some (.int (nI nx)), none, none] [] (sgS S a x1 x2 x3 x4 x5 x6 B E (upd (flL w B E W LF (W - (f + 1))) f lf) (upd (flN w B E W LF NF (W - (f + 1))) f (nI nf)) LB LS W ln sm) 0 0 := by
            intro k33
            induction k33 with
            | zero => intro nx lf nf h9; exact absurd h9 (Nat.not_lt_zero _)
            | succ k33 ih33 =>
              intro nx lf nf hm33 h1 h2 he
              refine am_iload_n (I := iX4_findLeast) (pc := 33) dX4_findLeast_33 rfl rfl ?_
              refine am_aload_n (I := iX4_findLeast) (pc := 34) dX4_findLeast_34 rfl rfl ?_
              refine am_getf (I := iX4_findLeast) (pc := 35) lf_X4_18 dX4_findLeast_35 (sgS_sg hd ha).1 rfl ?_
              refine am_icmp_gt (I := iX4_findLeast) (pc := 38) (tgt := 126) dX4_findLeast_38 (by decide) (fun c38 => ?_) (fun c38 => ?_)
              · have g38 : nx = W + 1 := by
                  rcases Nat.lt_or_ge W nx with q9 | q9
                  · omega
                  · exact absurd c38 (nI_nlt q9 (by omega))
                have hres : (lf, nf) = ires w B E (flL w B E W LF (W - (f + 1))) W f := by rw [← he, show W + 1 - nx = 0 by omega]; rfl
                refine am_forget 3 (am_forget 4 ?_)
                refine am_iinc (I := iX4_findLeast) (pc := 126) (y := ((nI f) + (-1))) (L' := [some (.ref a), some (.int w), some (.int ((nI f) + (-1))), none, none, none]) dX4_findLeast_126 rfl rfl rfl ?_
                refine am_goto (I := iX4_findLeast) (pc := 129) (tgt := 7) dX4_findLeast_129 (by decide) ?_
                exact am_same rfl (by rw [add_m1]) rfl (by rw [show W - f = (W - (f + 1)) + 1 by omega, flL, flN, show W - ((W - (f + 1)) + 1) = f by omega, ← hres]) rfl rfl (ih7 f (by omega) (by omega))
              · have l38 : nx ≤ W := by
                  rcases Nat.lt_or_ge W nx with q9 | q9
                  · exact absurd (nI_lt q9 (by omega)) c38
                  · exact q9
                refine am_iload_n (I := iX4_findLeast) (pc := 41) dX4_findLeast_41 rfl rfl ?_
                refine am_aload_n (I := iX4_findLeast) (pc := 42) dX4_findLeast_42 rfl rfl ?_
                refine am_getf (I := iX4_findLeast) (pc := 43) lf_X4_15 dX4_findLeast_43 (sgS_sg hd ha).1 rfl ?_
                refine am_iload_n (I := iX4_findLeast) (pc := 46) dX4_findLeast_46 rfl rfl ?_
                refine am_iconst (I := iX4_findLeast) (pc := 47) (x := 1) dX4_findLeast_47 (by decide) ?_
                refine am_isub (I := iX4_findLeast) (pc := 48) dX4_findLeast_48 ?_
                have e49 : nI nx - 1 = nI (nx - 1) := by
                  conv => lhs; rw [show nx = (nx - 1) + 1 by omega]
                  exact nI_pred _
                rw [e49]
                refine am_iaload (I := iX4_findLeast) (pc := 49) dX4_findLeast_49 (sgS_sg hd ha).2.2.1 rfl (vp_in_nI (show nx - 1 < 40 by omega) (by decide)) ?_
                rw [nI_clamp (show nx - 1 < 2 ^ 31 by omega)]
                refine am_aload_n (I := iX4_findLeast) (pc := 50) dX4_findLeast_50 rfl rfl ?_
                refine am_getf (I := iX4_findLeast) (pc := 51) lf_X4_9 dX4_findLeast_51 (sgS_sg hd ha).1 rfl ?_
                refine am_iload_n (I := iX4_findLeast) (pc := 54) dX4_findLeast_54 rfl rfl ?_
                refine am_iaload (I := iX4_findLeast) (pc := 55) dX4_findLeast_55 (sgS_sg hd ha).2.1 rfl (vp_in_nI (show f < 40 by omega) (by decide)) ?_
                rw [nI_clamp (show f < 2 ^ 31 by omega)]
                refine am_isub (I := iX4_findLeast) (pc := 56) dX4_findLeast_56 ?_
                refine am_isub (I := iX4_findLeast) (pc := 57) dX4_findLeast_57 ?_
                refine am_istore (I := iX4_findLeast) (pc := 58) (L' := [some (.ref a), some (.int w), some (.int (nI f)), some (.int (nI nx)), some (.int (w - ((E (nx - 1)) - (B f)))), none]) dX4_findLeast_58 (by decide) rfl ?_
                refine am_iload (I := iX4_findLeast) (pc := 60) dX4_findLeast_60 rfl ?_
                refine am_if_ge (I := iX4_findLeast) (pc := 62) (tgt := 68) dX4_findLeast_62 (by decide) (fun c62 => ?_) (fun c62 => ?_)
                · refine am_iload_n (I := iX4_findLeast) (pc := 68) dX4_findLeast_68 rfl rfl ?_
                  refine am_aload_n (I := iX4_findLeast) (pc := 69) dX4_findLeast_69 rfl rfl ?_
                  refine am_getf (I := iX4_findLeast) (pc := 70) lf_X4_18 dX4_findLeast_70 (sgS_sg hd ha).1 rfl ?_
                  refine am_icmp_ne (I := iX4_findLeast) (pc := 73) (tgt := 80) dX4_findLeast_73 (by decide) (fun c73 => ?_) (fun c73 => ?_)
                  · have e73 : ¬ nx = W := fun q9 => c73 (congrArg nI q9)
                    refine am_iload (I := iX4_findLeast) (pc := 80) dX4_findLeast_80 rfl ?_
                    refine am_iload (I := iX4_findLeast) (pc := 82) dX4_findLeast_82 rfl ?_
                    refine am_imul (I := iX4_findLeast) (pc := 84) dX4_findLeast_84 ?_
                    refine am_aload_n (I := iX4_findLeast) (pc := 85) dX4_findLeast_85 rfl rfl ?_
                    refine am_getf (I := iX4_findLeast) (pc := 86) lf_X4_22 dX4_findLeast_86 (sgS_sg hd ha).1 rfl ?_
                    refine am_iload_n (I := iX4_findLeast) (pc := 89) dX4_findLeast_89 rfl rfl ?_
                    refine am_iaload (I := iX4_findLeast) (pc := 90) dX4_findLeast_90 (sgS_sg hd ha).2.2.2.1 rfl (vp_in_nI (show nx < 40 by omega) (by decide)) ?_
                    rw [nI_clamp (show nx < 2 ^ 31 by omega), pk_un (show nx ≠ f by omega)]
                    refine am_iadd (I := iX4_findLeast) (pc := 91) dX4_findLeast_91 ?_
                    refine am_istore (I := iX4_findLeast) (pc := 92) (L' := [some (.ref a), some (.int w), some (.int (nI f)), some (.int (nI nx)), some (.int (w - ((E (nx - 1)) - (B f)))), some (.int (((w - ((E (nx - 1)) - (B f))) * (w - ((E (nx - 1)) - (B f)))) + ((flL w B E W LF (W - (f + 1))) nx)))]) dX4_findLeast_92 (by decide) rfl ?_
                    refine am_iload (I := iX4_findLeast) (pc := 94) dX4_findLeast_94 rfl ?_
                    refine am_aload_n (I := iX4_findLeast) (pc := 96) dX4_findLeast_96 rfl rfl ?_
                    refine am_getf (I := iX4_findLeast) (pc := 97) lf_X4_22 dX4_findLeast_97 (sgS_sg hd ha).1 rfl ?_
                    refine am_iload_n (I := iX4_findLeast) (pc := 100) dX4_findLeast_100 rfl rfl ?_
                    refine am_iaload (I := iX4_findLeast) (pc := 101) dX4_findLeast_101 (sgS_sg hd ha).2.2.2.1 rfl (vp_in_nI (show f < 40 by omega) (by decide)) ?_
                    rw [nI_clamp (show f < 2 ^ 31 by omega), pk_us]
                    refine am_icmp_ge (I := iX4_findLeast) (pc := 102) (tgt := 120) dX4_findLeast_102 (by decide) (fun c102 => ?_) (fun c102 => ?_)
                    · refine am_forget 4 (am_forget 5 ?_)
                      refine am_iinc (I := iX4_findLeast) (pc := 120) (y := ((nI nx) + 1)) (L' := [some (.ref a), some (.int w), some (.int (nI f)), some (.int ((nI nx) + 1)), none, none]) dX4_findLeast_120 rfl rfl rfl ?_
                      refine am_goto (I := iX4_findLeast) (pc := 123) (tgt := 33) dX4_findLeast_123 (by decide) ?_
                      exact am_same rfl (by rw [nI_1]) rfl rfl rfl rfl (ih33 (nx + 1) lf nf (by omega) (by omega) (by omega) (by rw [← he, show W + 1 - nx = (W + 1 - (nx + 1)) + 1 by omega, ilp, if_pos c62, if_neg e73, if_neg (Int32.not_lt.mpr c102)]))
                    · refine am_aload_n (I := iX4_findLeast) (pc := 105) dX4_findLeast_105 rfl rfl ?_
                      refine am_getf (I := iX4_findLeast) (pc := 106) lf_X4_22 dX4_findLeast_106 (sgS_sg hd ha).1 rfl ?_
                      refine am_iload_n (I := iX4_findLeast) (pc := 109) dX4_findLeast_109 rfl rfl ?_
                      refine am_iload (I := iX4_findLeast) (pc := 110) dX4_findLeast_110 rfl ?_
                      refine am_iastore (I := iX4_findLeast) (pc := 112) dX4_findLeast_112 (sgS_sg hd ha).2.2.2.1 rfl (vp_in_nI (show f < 40 by omega) (by decide)) ?_
                      refine am_same (S' := sgS S a x1 x2 x3 x4 x5 x6 B E (upd (upd (flL w B E W LF (W - (f + 1))) f lf) (nI f).toNatClampNeg (((w - ((E (nx - 1)) - (B f))) * (w - ((E (nx - 1)) - (B f)))) + ((flL w B E W LF (W - (f + 1))) nx))) (upd (flN w B E W LF NF (W - (f + 1))) f (nI nf)) LB LS W ln sm) rfl rfl rfl (sgS_3 hd ha) rfl rfl ?_
                      refine am_aload_n (I := iX4_findLeast) (pc := 113) dX4_findLeast_113 rfl rfl ?_
                      refine am_getf (I := iX4_findLeast) (pc := 114) lf_X4_25 dX4_findLeast_114 (sgS_sg hd ha).1 rfl ?_
                      refine am_iload_n (I := iX4_findLeast) (pc := 117) dX4_findLeast_117 rfl rfl ?_
                      refine am_iload_n (I := iX4_findLeast) (pc := 118) dX4_findLeast_118 rfl rfl ?_
                      refine am_iastore (I := iX4_findLeast) (pc := 119) dX4_findLeast_119 (sgS_sg hd ha).2.2.2.2.1 rfl (vp_in_nI (show f < 40 by omega) (by decide)) ?_
                      refine am_same (S' := sgS S a x1 x2 x3 x4 x5 x6 B E (upd (upd (flL w B E W LF (W - (f + 1))) f lf) (nI f).toNatClampNeg (((w - ((E (nx - 1)) - (B f))) * (w - ((E (nx - 1)) - (B f)))) + ((flL w B E W LF (W - (f + 1))) nx))) (upd (upd (flN w B E W LF NF (W - (f + 1))) f (nI nf)) (nI f).toNatClampNeg (nI nx)) LB LS W ln sm) rfl rfl rfl (sgS_4 hd ha) rfl rfl ?_
                      refine am_forget 4 (am_forget 5 ?_)
                      refine am_iinc (I := iX4_findLeast) (pc := 120) (y := ((nI nx) + 1)) (L' := [some (.ref a), some (.int w), some (.int (nI f)), some (.int ((nI nx) + 1)), none, none]) dX4_findLeast_120 rfl rfl rfl ?_
                      refine am_goto (I := iX4_findLeast) (pc := 123) (tgt := 33) dX4_findLeast_123 (by decide) ?_
                      exact am_same rfl (by rw [nI_1]) rfl (by rw [nI_clamp (show f < 2 ^ 31 by omega), upd_upd, upd_upd]) rfl rfl (ih33 (nx + 1) ((w - (E (nx - 1) - B f)) * (w - (E (nx - 1) - B f)) + (flL w B E W LF (W - (f + 1))) nx) nx (by omega) (by omega) (by omega) (by rw [← he, show W + 1 - nx = (W + 1 - (nx + 1)) + 1 by omega, ilp, if_pos c62, if_neg e73, if_pos (Int32.not_le.mp c102)]))
                  · have e73 : nx = W := (nI_eq (by omega) (by omega)).mp c73
                    refine am_iconst (I := iX4_findLeast) (pc := 76) (x := 0) dX4_findLeast_76 (by decide) ?_
                    refine am_goto (I := iX4_findLeast) (pc := 77) (tgt := 92) dX4_findLeast_77 (by decide) ?_
                    refine am_istore (I := iX4_findLeast) (pc := 92) (L' := [some (.ref a), some (.int w), some (.int (nI f)), some (.int (nI nx)), some (.int (w - ((E (nx - 1)) - (B f)))), some (.int 0)]) dX4_findLeast_92 (by decide) rfl ?_
                    refine am_iload (I := iX4_findLeast) (pc := 94) dX4_findLeast_94 rfl ?_
                    refine am_aload_n (I := iX4_findLeast) (pc := 96) dX4_findLeast_96 rfl rfl ?_
                    refine am_getf (I := iX4_findLeast) (pc := 97) lf_X4_22 dX4_findLeast_97 (sgS_sg hd ha).1 rfl ?_
                    refine am_iload_n (I := iX4_findLeast) (pc := 100) dX4_findLeast_100 rfl rfl ?_
                    refine am_iaload (I := iX4_findLeast) (pc := 101) dX4_findLeast_101 (sgS_sg hd ha).2.2.2.1 rfl (vp_in_nI (show f < 40 by omega) (by decide)) ?_
                    rw [nI_clamp (show f < 2 ^ 31 by omega), pk_us]
                    refine am_icmp_ge (I := iX4_findLeast) (pc := 102) (tgt := 120) dX4_findLeast_102 (by decide) (fun c102 => ?_) (fun c102 => ?_)
                    · refine am_forget 4 (am_forget 5 ?_)
                      refine am_iinc (I := iX4_findLeast) (pc := 120) (y := ((nI nx) + 1)) (L' := [some (.ref a), some (.int w), some (.int (nI f)), some (.int ((nI nx) + 1)), none, none]) dX4_findLeast_120 rfl rfl rfl ?_
                      refine am_goto (I := iX4_findLeast) (pc := 123) (tgt := 33) dX4_findLeast_123 (by decide) ?_
                      exact am_same rfl (by rw [nI_1]) rfl rfl rfl rfl (ih33 (nx + 1) lf nf (by omega) (by omega) (by omega) (by rw [← he, show W + 1 - nx = (W + 1 - (nx + 1)) + 1 by omega, ilp, if_pos c62, if_pos e73, if_neg (Int32.not_lt.mpr c102)]))
                    · refine am_aload_n (I := iX4_findLeast) (pc := 105) dX4_findLeast_105 rfl rfl ?_
                      refine am_getf (I := iX4_findLeast) (pc := 106) lf_X4_22 dX4_findLeast_106 (sgS_sg hd ha).1 rfl ?_
                      refine am_iload_n (I := iX4_findLeast) (pc := 109) dX4_findLeast_109 rfl rfl ?_
                      refine am_iload (I := iX4_findLeast) (pc := 110) dX4_findLeast_110 rfl ?_
                      refine am_iastore (I := iX4_findLeast) (pc := 112) dX4_findLeast_112 (sgS_sg hd ha).2.2.2.1 rfl (vp_in_nI (show f < 40 by omega) (by decide)) ?_
                      refine am_same (S' := sgS S a x1 x2 x3 x4 x5 x6 B E (upd (upd (flL w B E W LF (W - (f + 1))) f lf) (nI f).toNatClampNeg 0) (upd (flN w B E W LF NF (W - (f + 1))) f (nI nf)) LB LS W ln sm) rfl rfl rfl (sgS_3 hd ha) rfl rfl ?_
                      refine am_aload_n (I := iX4_findLeast) (pc := 113) dX4_findLeast_113 rfl rfl ?_
                      refine am_getf (I := iX4_findLeast) (pc := 114) lf_X4_25 dX4_findLeast_114 (sgS_sg hd ha).1 rfl ?_
                      refine am_iload_n (I := iX4_findLeast) (pc := 117) dX4_findLeast_117 rfl rfl ?_
                      refine am_iload_n (I := iX4_findLeast) (pc := 118) dX4_findLeast_118 rfl rfl ?_
                      refine am_iastore (I := iX4_findLeast) (pc := 119) dX4_findLeast_119 (sgS_sg hd ha).2.2.2.2.1 rfl (vp_in_nI (show f < 40 by omega) (by decide)) ?_
                      refine am_same (S' := sgS S a x1 x2 x3 x4 x5 x6 B E (upd (upd (flL w B E W LF (W - (f + 1))) f lf) (nI f).toNatClampNeg 0) (upd (upd (flN w B E W LF NF (W - (f + 1))) f (nI nf)) (nI f).toNatClampNeg (nI nx)) LB LS W ln sm) rfl rfl rfl (sgS_4 hd ha) rfl rfl ?_
                      refine am_forget 4 (am_forget 5 ?_)
                      refine am_iinc (I := iX4_findLeast) (pc := 120) (y := ((nI nx) + 1)) (L' := [some (.ref a), some (.int w), some (.int (nI f)), some (.int ((nI nx) + 1)), none, none]) dX4_findLeast_120 rfl rfl rfl ?_
                      refine am_goto (I := iX4_findLeast) (pc := 123) (tgt := 33) dX4_findLeast_123 (by decide) ?_
                      exact am_same rfl (by rw [nI_1]) rfl (by rw [nI_clamp (show f < 2 ^ 31 by omega), upd_upd, upd_upd]) rfl rfl (ih33 (nx + 1) 0 nx (by omega) (by omega) (by omega) (by rw [← he, show W + 1 - nx = (W + 1 - (nx + 1)) + 1 by omega, ilp, if_pos c62, if_pos e73, if_pos (Int32.not_le.mp c102)]))
                · refine am_goto (I := iX4_findLeast) (pc := 65) (tgt := 126) dX4_findLeast_65 (by decide) ?_
                  have hres : (lf, nf) = ires w B E (flL w B E W LF (W - (f + 1))) W f := by rw [← he, show W + 1 - nx = (W - nx) + 1 by omega, ilp, if_neg c62]
                  refine am_forget 3 (am_forget 4 ?_)
                  refine am_iinc (I := iX4_findLeast) (pc := 126) (y := ((nI f) + (-1))) (L' := [some (.ref a), some (.int w), some (.int ((nI f) + (-1))), none, none, none]) dX4_findLeast_126 rfl rfl rfl ?_
                  refine am_goto (I := iX4_findLeast) (pc := 129) (tgt := 7) dX4_findLeast_129 (by decide) ?_
                  exact am_same rfl (by rw [add_m1]) rfl (by rw [show W - f = (W - (f + 1)) + 1 by omega, flL, flN, show W - ((W - (f + 1)) + 1) = f by omega, ← hres]) rfl rfl (ih7 f (by omega) (by omega))
          exact am_same rfl (by rfl) rfl (by rw [nI_clamp (show f < 2 ^ 31 by omega)]) rfl rfl (loop33 _ (f + 1) 144000 W (Nat.lt_succ_self _) (Nat.lt_succ_self _) (by omega) (by rw [show W + 1 - (f + 1) = W - f by omega]; rfl))
  exact am_same rfl rfl rfl (by rw [Nat.sub_self]; rfl) rfl rfl (loop7 _ W (Nat.lt_succ_self _) (Nat.le_refl _))
