set_option maxRecDepth 100000 in
set_option maxHeartbeats 4000000 in
theorem q_part {K : am_K} {l : Launch} {S : am_S} {th pd wd ln sq st ct cl ft zn : Int32} {a26 a27 a28 a29 a30 a31 a32 a33 a34 a35 a36 a37 a38 a39 a40 a41 a42 a43 a44 : Nat → Int32} (iv m : Nat) (g : Nat → Int32) (hiv : iv < 200) (hm : a28 iv = nI m) (hm8 : m ≤ 80) (hg : ∀ t, t < m → a29 (80 * iv + t) = g t) (hW : cnt (sep g m) (m + 1) ≤ 40) : am_M K l iX7_part 0 0 0 [.ref 25, .int (nI iv)] (mdS S th pd wd ln sq st ct cl ft zn a26 a27 a28 a29 a30 a31 a32 a33 a34 a35 a36 a37 a38 a39 a40 a41 a42 a43 a44) (fun v S' => v = none ∧ mdS S th pd (nI (cnt (sep g m) (m + 1))) ln sq st ct cl ft zn a26 a27 a28 a29 a30 (wB g m a31 (m + 1)) (wE g m a32 (m + 1)) a33 a34 a35 a36 a37 a38 a39 a40 a41 a42 a43 a44 = S') (fun _ _ => False) := by
  refine am_body (by decide) rfl (by simp [Value.category]) (Nat.le_of_ble_eq_true rfl) (fun xp xe xs xm xa xb xt xc ad0 => ?_)
  show am_W _ _ _ _ _ _ _ _ _ _ _ _ _ _ _ 0 [some (.ref 25), some (.int (nI iv)), none, none] [] (mdS S th pd wd ln sq st ct cl ft zn a26 a27 a28 a29 a30 a31 a32 a33 a34 a35 a36 a37 a38 a39 a40 a41 a42 a43 a44) 0 0
  refine am_aload_n (I := iX7_part) (pc := 0) dX7_part_0 rfl rfl ?_
  refine am_iconst (I := iX7_part) (pc := 1) (x := 0) dX7_part_1 (by decide) ?_
  refine am_putf (I := iX7_part) (pc := 2) (fs' := [.int th, .int pd, .ref 26, .ref 27, .ref 28, .ref 29, .ref 30, .int 0, .ref 31, .ref 32, .ref 33, .ref 34, .int ln, .int sq, .int st, .ref 35, .ref 36, .ref 37, .ref 38, .int ct, .int cl, .int ft, .ref 39, .int zn, .ref 40, .ref 41, .ref 42, .ref 43, .ref 44]) lf_X7_98 dX7_part_2 md_25 (fun _ => ⟨rfl, rfl⟩) (Nat.le_of_ble_eq_true rfl) rfl ?_
  refine am_same (S' := mdS S th pd 0 ln sq st ct cl ft zn a26 a27 a28 a29 a30 a31 a32 a33 a34 a35 a36 a37 a38 a39 a40 a41 a42 a43 a44) rfl rfl rfl mdS_25 rfl rfl ?_
  refine am_iconst (I := iX7_part) (pc := 5) (x := 0) dX7_part_5 (by decide) ?_
  refine am_istore_n (I := iX7_part) (pc := 6) (L' := [some (.ref 25), some (.int (nI iv)), some (.int 0), none]) dX7_part_6 rfl (by decide) rfl ?_
  refine am_iconst (I := iX7_part) (pc := 7) (x := 0) dX7_part_7 (by decide) ?_
  refine am_istore_n (I := iX7_part) (pc := 8) (L' := [some (.ref 25), some (.int (nI iv)), some (.int 0), some (.int 0)]) dX7_part_8 rfl (by decide) rfl ?_
  have loop9 : ∀ (k9 : Nat) (i : Nat), m + 1 - i < k9 → (i ≤ m + 1) → am_W K iX7_part xp l xe (am_room 0 0 0) xs xm xa xb xt xc (mdS S th pd wd ln sq st ct cl ft zn a26 a27 a28 a29 a30 a31 a32 a33 a34 a35 a36 a37 a38 a39 a40 a41 a42 a43 a44) ad0 (am_E K ad0 (mdS S th pd wd ln sq st ct cl ft zn a26 a27 a28 a29 a30 a31 a32 a33 a34 a35 a36 a37 a38 a39 a40 a41 a42 a43 a44) (fun v S' => v = none ∧ mdS S th pd (nI (cnt (sep g m) (m + 1))) ln sq st ct cl ft zn a26 a27 a28 a29 a30 (wB g m a31 (m + 1)) (wE g m a32 (m + 1)) a33 a34 a35 a36 a37 a38 a39 a40 a41 a42 a43 a44 = S') (fun _ _ => False) xb xa xs 0 0) 9 [some (.ref 25), some (.int (nI iv)), some (.int (nI (wbg g m i))), some (.int (nI i))] [] (mdS S th pd (nI (cnt (sep g m) i)) ln sq st ct cl ft zn a26 a27 a28 a29 a30 (wB g m a31 i) (wE g m a32 i) a33 a34 a35 a36 a37 a38 a39 a40 a41 a42 a43 a44) 0 0 := by
    intro k9
    induction k9 with
    | zero => intro i h9; exact absurd h9 (Nat.not_lt_zero _)
    | succ k9 ih9 =>
      intro i hm9 hi
      refine am_iload_n (I := iX7_part) (pc := 9) dX7_part_9 rfl rfl ?_
      refine am_aload_n (I := iX7_part) (pc := 10) dX7_part_10 rfl rfl ?_
      refine am_getf (I := iX7_part) (pc := 11) lf_X7_16 dX7_part_11 md_25 rfl ?_
      refine am_iload_n (I := iX7_part) (pc := 14) dX7_part_14 rfl rfl ?_
      refine am_iaload (I := iX7_part) (pc := 15) dX7_part_15 md_28 rfl (vp_in_nI hiv (by decide)) ?_
      refine am_same (st' := [.int (nI m), .int (nI i)]) rfl rfl (by rw [nI_clamp (show iv < 2 ^ 31 by omega), hm]) rfl rfl rfl ?_
      refine am_icmp_gt (I := iX7_part) (pc := 16) (tgt := 85) dX7_part_16 (by decide) (fun c16 => ?_) (fun c16 => ?_)
      · have g16 : i = m + 1 := by
          rcases Nat.lt_or_ge m i with q9 | q9
          · omega
          · exact absurd c16 (nI_nlt q9 (by omega))
        exact am_vret (I := iX7_part) (pc := 85) dX7_part_85 rfl (Nat.le_refl _) (Nat.le_refl _) (⟨rfl, by rw [g16]⟩)
      · have l16 : i ≤ m := by
          rcases Nat.lt_or_ge m i with q9 | q9
          · exact absurd (nI_lt q9 (by omega)) c16
          · exact q9
        have hW1 : cnt (sep g m) (i + 1) ≤ 40 := Nat.le_trans (cnt_mono (by omega)) hW
        refine am_iload_n (I := iX7_part) (pc := 19) dX7_part_19 rfl rfl ?_
        refine am_aload_n (I := iX7_part) (pc := 20) dX7_part_20 rfl rfl ?_
        refine am_getf (I := iX7_part) (pc := 21) lf_X7_16 dX7_part_21 md_25 rfl ?_
        refine am_iload_n (I := iX7_part) (pc := 24) dX7_part_24 rfl rfl ?_
        refine am_iaload (I := iX7_part) (pc := 25) dX7_part_25 md_28 rfl (vp_in_nI hiv (by decide)) ?_
        refine am_same (st' := [.int (nI m), .int (nI i)]) rfl rfl (by rw [nI_clamp (show iv < 2 ^ 31 by omega), hm]) rfl rfl rfl ?_
        refine am_icmp_eq (I := iX7_part) (pc := 26) (tgt := 45) dX7_part_26 (by decide) (fun c26 => ?_) (fun c26 => ?_)
        · have hsp : sep g m i = true := by unfold sep; rw [decide_eq_true ((nI_eq (by omega) (by omega)).mp c26)]; rfl
          rw [cnt_s hsp] at hW1
          refine am_aload_n (I := iX7_part) (pc := 45) dX7_part_45 rfl rfl ?_
          refine am_getf (I := iX7_part) (pc := 46) lf_X7_25 dX7_part_46 md_25 rfl ?_
          refine am_aload_n (I := iX7_part) (pc := 49) dX7_part_49 rfl rfl ?_
          refine am_getf (I := iX7_part) (pc := 50) lf_X7_98 dX7_part_50 md_25 rfl ?_
          refine am_iload_n (I := iX7_part) (pc := 53) dX7_part_53 rfl rfl ?_
          refine am_iastore (I := iX7_part) (pc := 54) dX7_part_54 md_31 rfl (vp_in_nI (show cnt (sep g m) i < 41 by omega) (by decide)) ?_
          rw [nI_clamp (show cnt (sep g m) i < 2 ^ 31 by omega)]
          refine am_same (S' := mdS S th pd (nI (cnt (sep g m) i)) ln sq st ct cl ft zn a26 a27 a28 a29 a30 (upd (wB g m a31 i) (cnt (sep g m) i) (nI (wbg g m i))) (wE g m a32 i) a33 a34 a35 a36 a37 a38 a39 a40 a41 a42 a43 a44) rfl rfl rfl mdS_31 rfl rfl ?_
          refine am_aload_n (I := iX7_part) (pc := 55) dX7_part_55 rfl rfl ?_
          refine am_getf (I := iX7_part) (pc := 56) lf_X7_28 dX7_part_56 md_25 rfl ?_
          refine am_aload_n (I := iX7_part) (pc := 59) dX7_part_59 rfl rfl ?_
          refine am_getf (I := iX7_part) (pc := 60) lf_X7_98 dX7_part_60 md_25 rfl ?_
          refine am_iload_n (I := iX7_part) (pc := 63) dX7_part_63 rfl rfl ?_
          refine am_iastore (I := iX7_part) (pc := 64) dX7_part_64 md_32 rfl (vp_in_nI (show cnt (sep g m) i < 41 by omega) (by decide)) ?_
          rw [nI_clamp (show cnt (sep g m) i < 2 ^ 31 by omega)]
          refine am_same (S' := mdS S th pd (nI (cnt (sep g m) i)) ln sq st ct cl ft zn a26 a27 a28 a29 a30 (upd (wB g m a31 i) (cnt (sep g m) i) (nI (wbg g m i))) (upd (wE g m a32 i) (cnt (sep g m) i) (nI i)) a33 a34 a35 a36 a37 a38 a39 a40 a41 a42 a43 a44) rfl rfl rfl mdS_32 rfl rfl ?_
          refine am_aload_n (I := iX7_part) (pc := 65) dX7_part_65 rfl rfl ?_
          refine am_dup (I := iX7_part) (pc := 66) dX7_part_66 rfl ?_
          refine am_getf (I := iX7_part) (pc := 67) lf_X7_98 dX7_part_67 md_25 rfl ?_
          refine am_iconst (I := iX7_part) (pc := 70) (x := 1) dX7_part_70 (by decide) ?_
          refine am_iadd (I := iX7_part) (pc := 71) dX7_part_71 ?_
          rw [nI_1]
          refine am_putf (I := iX7_part) (pc := 72) (fs' := [.int th, .int pd, .ref 26, .ref 27, .ref 28, .ref 29, .ref 30, .int (nI (cnt (sep g m) i + 1)), .ref 31, .ref 32, .ref 33, .ref 34, .int ln, .int sq, .int st, .ref 35, .ref 36, .ref 37, .ref 38, .int ct, .int cl, .int ft, .ref 39, .int zn, .ref 40, .ref 41, .ref 42, .ref 43, .ref 44]) lf_X7_98 dX7_part_72 md_25 (fun _ => ⟨rfl, rfl⟩) (Nat.le_of_ble_eq_true rfl) rfl ?_
          refine am_same (S' := mdS S th pd (nI (cnt (sep g m) i + 1)) ln sq st ct cl ft zn a26 a27 a28 a29 a30 (upd (wB g m a31 i) (cnt (sep g m) i) (nI (wbg g m i))) (upd (wE g m a32 i) (cnt (sep g m) i) (nI i)) a33 a34 a35 a36 a37 a38 a39 a40 a41 a42 a43 a44) rfl rfl rfl mdS_25 rfl rfl ?_
          refine am_iload_n (I := iX7_part) (pc := 75) dX7_part_75 rfl rfl ?_
          refine am_iconst (I := iX7_part) (pc := 76) (x := 1) dX7_part_76 (by decide) ?_
          refine am_iadd (I := iX7_part) (pc := 77) dX7_part_77 ?_
          refine am_istore_n (I := iX7_part) (pc := 78) (L' := [some (.ref 25), some (.int (nI iv)), some (.int ((nI i) + 1)), some (.int (nI i))]) dX7_part_78 rfl (by decide) rfl ?_
          refine am_iinc (I := iX7_part) (pc := 79) (y := ((nI i) + 1)) (L' := [some (.ref 25), some (.int (nI iv)), some (.int ((nI i) + 1)), some (.int ((nI i) + 1))]) dX7_part_79 rfl rfl rfl ?_
          refine am_goto (I := iX7_part) (pc := 82) (tgt := 9) dX7_part_82 (by decide) ?_
          exact am_same rfl (by rw [nI_1, wbg, if_pos hsp]) rfl (by rw [wB, wE, if_pos hsp, if_pos hsp, cnt_s hsp]) rfl rfl (ih9 (i + 1) (by omega) (by omega))
        · have h26 : ¬ i = m := fun e9 => c26 (by rw [e9])
          refine am_aload_n (I := iX7_part) (pc := 29) dX7_part_29 rfl rfl ?_
          refine am_getf (I := iX7_part) (pc := 30) lf_X7_19 dX7_part_30 md_25 rfl ?_
          refine am_bipush (I := iX7_part) (pc := 33) (x := 80) dX7_part_33 (by decide) ?_
          refine am_iload_n (I := iX7_part) (pc := 35) dX7_part_35 rfl rfl ?_
          refine am_imul (I := iX7_part) (pc := 36) dX7_part_36 ?_
          refine am_iload_n (I := iX7_part) (pc := 37) dX7_part_37 rfl rfl ?_
          refine am_iadd (I := iX7_part) (pc := 38) dX7_part_38 ?_
          rw [ix80]
          refine am_iaload (I := iX7_part) (pc := 39) dX7_part_39 md_29 rfl (vp_in_nI (show 80 * iv + i < 16000 by omega) (by decide)) ?_
          refine am_same (st' := [.int (g i)]) rfl rfl (by rw [nI_clamp (show 80 * iv + i < 2 ^ 31 by omega), hg i (by omega)]) rfl rfl rfl ?_
          refine am_bipush (I := iX7_part) (pc := 40) (x := 32) dX7_part_40 (by decide) ?_
          refine am_icmp_ne (I := iX7_part) (pc := 42) (tgt := 79) dX7_part_42 (by decide) (fun c42 => ?_) (fun c42 => ?_)
          · have hsp : sep g m i = false := by unfold sep; rw [decide_eq_false h26, decide_eq_false c42]; rfl
            refine am_iinc (I := iX7_part) (pc := 79) (y := ((nI i) + 1)) (L' := [some (.ref 25), some (.int (nI iv)), some (.int (nI (wbg g m i))), some (.int ((nI i) + 1))]) dX7_part_79 rfl rfl rfl ?_
            refine am_goto (I := iX7_part) (pc := 82) (tgt := 9) dX7_part_82 (by decide) ?_
            exact am_same rfl (by rw [nI_1, wbg, if_neg (by rw [hsp]; exact Bool.false_ne_true)]) rfl (by rw [wB, wE, if_neg (by rw [hsp]; exact Bool.false_ne_true), if_neg (by rw [hsp]; exact Bool.false_ne_true), cnt_n hsp]) rfl rfl (ih9 (i + 1) (by omega) (by omega))
          · have hsp : sep g m i = true := by unfold sep; rw [decide_eq_true c42, Bool.or_true]
            rw [cnt_s hsp] at hW1
            refine am_aload_n (I := iX7_part) (pc := 45) dX7_part_45 rfl rfl ?_
            refine am_getf (I := iX7_part) (pc := 46) lf_X7_25 dX7_part_46 md_25 rfl ?_
            refine am_aload_n (I := iX7_part) (pc := 49) dX7_part_49 rfl rfl ?_
            refine am_getf (I := iX7_part) (pc := 50) lf_X7_98 dX7_part_50 md_25 rfl ?_
            refine am_iload_n (I := iX7_part) (pc := 53) dX7_part_53 rfl rfl ?_
            refine am_iastore (I := iX7_part) (pc := 54) dX7_part_54 md_31 rfl (vp_in_nI (show cnt (sep g m) i < 41 by omega) (by decide)) ?_
            rw [nI_clamp (show cnt (sep g m) i < 2 ^ 31 by omega)]
            refine am_same (S' := mdS S th pd (nI (cnt (sep g m) i)) ln sq st ct cl ft zn a26 a27 a28 a29 a30 (upd (wB g m a31 i) (cnt (sep g m) i) (nI (wbg g m i))) (wE g m a32 i) a33 a34 a35 a36 a37 a38 a39 a40 a41 a42 a43 a44) rfl rfl rfl mdS_31 rfl rfl ?_
            refine am_aload_n (I := iX7_part) (pc := 55) dX7_part_55 rfl rfl ?_
            refine am_getf (I := iX7_part) (pc := 56) lf_X7_28 dX7_part_56 md_25 rfl ?_
            refine am_aload_n (I := iX7_part) (pc := 59) dX7_part_59 rfl rfl ?_
            refine am_getf (I := iX7_part) (pc := 60) lf_X7_98 dX7_part_60 md_25 rfl ?_
            refine am_iload_n (I := iX7_part) (pc := 63) dX7_part_63 rfl rfl ?_
            refine am_iastore (I := iX7_part) (pc := 64) dX7_part_64 md_32 rfl (vp_in_nI (show cnt (sep g m) i < 41 by omega) (by decide)) ?_
            rw [nI_clamp (show cnt (sep g m) i < 2 ^ 31 by omega)]
            refine am_same (S' := mdS S th pd (nI (cnt (sep g m) i)) ln sq st ct cl ft zn a26 a27 a28 a29 a30 (upd (wB g m a31 i) (cnt (sep g m) i) (nI (wbg g m i))) (upd (wE g m a32 i) (cnt (sep g m) i) (nI i)) a33 a34 a35 a36 a37 a38 a39 a40 a41 a42 a43 a44) rfl rfl rfl mdS_32 rfl rfl ?_
            refine am_aload_n (I := iX7_part) (pc := 65) dX7_part_65 rfl rfl ?_
            refine am_dup (I := iX7_part) (pc := 66) dX7_part_66 rfl ?_
            refine am_getf (I := iX7_part) (pc := 67) lf_X7_98 dX7_part_67 md_25 rfl ?_
            refine am_iconst (I := iX7_part) (pc := 70) (x := 1) dX7_part_70 (by decide) ?_
            refine am_iadd (I := iX7_part) (pc := 71) dX7_part_71 ?_
            rw [nI_1]
            refine am_putf (I := iX7_part) (pc := 72) (fs' := [.int th, .int pd, .ref 26, .ref 27, .ref 28, .ref 29, .ref 30, .int (nI (cnt (sep g m) i + 1)), .ref 31, .ref 32, .ref 33, .ref 34, .int ln, .int sq, .int st, .ref 35, .ref 36, .ref 37, .ref 38, .int ct, .int cl, .int ft, .ref 39, .int zn, .ref 40, .ref 41, .ref 42, .ref 43, .ref 44]) lf_X7_98 dX7_part_72 md_25 (fun _ => ⟨rfl, rfl⟩) (Nat.le_of_ble_eq_true rfl) rfl ?_
            refine am_same (S' := mdS S th pd (nI (cnt (sep g m) i + 1)) ln sq st ct cl ft zn a26 a27 a28 a29 a30 (upd (wB g m a31 i) (cnt (sep g m) i) (nI (wbg g m i))) (upd (wE g m a32 i) (cnt (sep g m) i) (nI i)) a33 a34 a35 a36 a37 a38 a39 a40 a41 a42 a43 a44) rfl rfl rfl mdS_25 rfl rfl ?_
            refine am_iload_n (I := iX7_part) (pc := 75) dX7_part_75 rfl rfl ?_
            refine am_iconst (I := iX7_part) (pc := 76) (x := 1) dX7_part_76 (by decide) ?_
            refine am_iadd (I := iX7_part) (pc := 77) dX7_part_77 ?_
            refine am_istore_n (I := iX7_part) (pc := 78) (L' := [some (.ref 25), some (.int (nI iv)), some (.int ((nI i) + 1)), some (.int (nI i))]) dX7_part_78 rfl (by decide) rfl ?_
            refine am_iinc (I := iX7_part) (pc := 79) (y := ((nI i) + 1)) (L' := [some (.ref 25), some (.int (nI iv)), some (.int ((nI i) + 1)), some (.int ((nI i) + 1))]) dX7_part_79 rfl rfl rfl ?_
            refine am_goto (I := iX7_part) (pc := 82) (tgt := 9) dX7_part_82 (by decide) ?_
            exact am_same rfl (by rw [nI_1, wbg, if_pos hsp]) rfl (by rw [wB, wE, if_pos hsp, if_pos hsp, cnt_s hsp]) rfl rfl (ih9 (i + 1) (by omega) (by omega))
  exact am_same rfl (by rfl) rfl (by rfl) rfl rfl (loop9 _ 0 (Nat.lt_succ_self _) (Nat.zero_le _))
def sstp (w : Int32) (B E C : Nat → Int32) (W f k : Nat) (s : Int32 × Int32) : Int32 × Int32 :=
  if w - (E (f + k - 1) - B f) < 0 then s else if f + k = W then (if s.1 = -1 then (0, nI k) else if s.1 ≤ 0 then s else (0, nI k)) else if C (f + k) = -1 then s else
    (if s.1 = -1 then ((w - (E (f + k - 1) - B f)) * (w - (E (f + k - 1) - B f)) + C (f + k), nI k) else if s.1 ≤ (w - (E (f + k - 1) - B f)) * (w - (E (f + k - 1) - B f)) + C (f + k) then s else ((w - (E (f + k - 1) - B f)) * (w - (E (f + k - 1) - B f)) + C (f + k), nI k))
def slp (w : Int32) (B E C : Nat → Int32) (W f : Nat) : Nat → Nat → Int32 × Int32 → Int32 × Int32
  | 0, _, s => s
  | n + 1, k, s => slp w B E C W f n (k + 1) (sstp w B E C W f k s)
def sres (w : Int32) (B E C T : Nat → Int32) (W f : Nat) : Int32 × Int32 := slp w B E C W f (W - f) 1 (-1, T f)
theorem upd_id {f : Nat → Int32} {k : Nat} : upd f k (f k) = f := by
  funext j
  unfold upd
  by_cases e : j = k
  · rw [if_pos e, e]
  · rw [if_neg e]
set_option maxRecDepth 100000 in
set_option maxHeartbeats 4000000 in
theorem q_solve {K : am_K} {l : Launch} {S : am_S} {th pd ln sq st ct cl ft zn : Int32} {a26 a27 a28 a29 a30 a31 a32 a33 a34 a35 a36 a37 a38 a39 a40 a41 a42 a43 a44 : Nat → Int32} (W f : Nat) (w : Int32) (hW : W ≤ 40) (hf : f < W) : am_M K l iX7_solve 0 0 0 [.ref 25, .int (nI f), .int w] (mdS S th pd (nI W) ln sq st ct cl ft zn a26 a27 a28 a29 a30 a31 a32 a33 a34 a35 a36 a37 a38 a39 a40 a41 a42 a43 a44) (fun v S' => v = none ∧ mdS S th pd (nI W) ln sq st ct cl ft zn a26 a27 a28 a29 a30 a31 a32 (upd a33 f (sres w a31 a32 a33 a34 W f).1) (upd a34 f (sres w a31 a32 a33 a34 W f).2) a35 a36 a37 a38 a39 a40 a41 a42 a43 a44 = S') (fun _ _ => False) := by
  refine am_body (by decide) rfl (by simp [Value.category]) (Nat.le_of_ble_eq_true rfl) (fun xp xe xs xm xa xb xt xc ad0 => ?_)
  show am_W _ _ _ _ _ _ _ _ _ _ _ _ _ _ _ 0 [some (.ref 25), some (.int (nI f)), some (.int w), none, none, none, none, none, none] [] (mdS S th pd (nI W) ln sq st ct cl ft zn a26 a27 a28 a29 a30 a31 a32 a33 a34 a35 a36 a37 a38 a39 a40 a41 a42 a43 a44) 0 0
  refine am_aload_n (I := iX7_solve) (pc := 0) dX7_solve_0 rfl rfl ?_
  refine am_getf (I := iX7_solve) (pc := 1) lf_X7_31 dX7_solve_1 md_25 rfl ?_
  refine am_iload_n (I := iX7_solve) (pc := 4) dX7_solve_4 rfl rfl ?_
  refine am_iconst (I := iX7_solve) (pc := 5) (x := (-1)) dX7_solve_5 (by decide) ?_
  refine am_iastore (I := iX7_solve) (pc := 6) dX7_solve_6 md_33 rfl (vp_in_nI (show f < 42 by omega) (by decide)) ?_
  rw [nI_clamp (show f < 2 ^ 31 by omega)]
  refine am_same (S' := mdS S th pd (nI W) ln sq st ct cl ft zn a26 a27 a28 a29 a30 a31 a32 (upd a33 f (-1)) a34 a35 a36 a37 a38 a39 a40 a41 a42 a43 a44) rfl rfl rfl mdS_33 rfl rfl ?_
  refine am_iconst (I := iX7_solve) (pc := 7) (x := 1) dX7_solve_7 (by decide) ?_
  refine am_istore_n (I := iX7_solve) (pc := 8) (L' := [some (.ref 25), some (.int (nI f)), some (.int w), some (.int 1), none, none, none, none, none]) dX7_solve_8 rfl (by decide) rfl ?_
  have loop9 : ∀ (k9 : Nat) (k : Nat) (s : Int32 × Int32), W - f + 1 - k < k9 → (1 ≤ k) → (k ≤ W - f + 1) → (slp w a31 a32 a33 W f (W - f + 1 - k) k s = sres w a31 a32 a33 a34 W f) → am_W K iX7_solve xp l xe (am_room 0 0 0) xs xm xa xb xt xc (mdS S th pd (nI W) ln sq st ct cl ft zn a26 a27 a28 a29 a30 a31 a32 a33 a34 a35 a36 a37 a38 a39 a40 a41 a42 a43 a44) ad0 (am_E K ad0 (mdS S th pd (nI W) ln sq st ct cl ft zn a26 a27 a28 a29 a30 a31 a32 a33 a34 a35 a36 a37 a38 a39 a40 a41 a42 a43 a44) (fun v S' => v = none ∧ mdS S th pd (nI W) ln sq st ct cl ft zn a26 a27 a28 a29 a30 a31 a32 (upd a33 f (sres w a31 a32 a33 a34 W f).1) (upd a34 f (sres w a31 a32 a33 a34 W f).2) a35 a36 a37 a38 a39 a40 a41 a42 a43 a44 = S') (fun _ _ => False) xb xa xs 0 0) 9 [some (.ref 25), some (.int (nI f)), some (.int w), some (.int (nI k)), none, none, none, none, none] [] (mdS S th pd (nI W) ln sq st ct cl ft zn a26 a27 a28 a29 a30 a31 a32 (upd a33 f s.1) (upd a34 f s.2) a35 a36 a37 a38 a39 a40 a41 a42 a43 a44) 0 0 := by
    intro k9
    induction k9 with
    | zero => intro k s h9; exact absurd h9 (Nat.not_lt_zero _)
    | succ k9 ih9 =>
      intro k s hm9 hk0 hk he
      refine am_iload_n (I := iX7_solve) (pc := 9) dX7_solve_9 rfl rfl ?_
      refine am_iload_n (I := iX7_solve) (pc := 10) dX7_solve_10 rfl rfl ?_
      refine am_iadd (I := iX7_solve) (pc := 11) dX7_solve_11 ?_
      rw [nI_add]
      refine am_aload_n (I := iX7_solve) (pc := 12) dX7_solve_12 rfl rfl ?_
      refine am_getf (I := iX7_solve) (pc := 13) lf_X7_98 dX7_solve_13 md_25 rfl ?_
      refine am_icmp_gt (I := iX7_solve) (pc := 16) (tgt := 162) dX7_solve_16 (by decide) (fun c16 => ?_) (fun c16 => ?_)
      · have g16 : W < f + k := by
          rcases Nat.lt_or_ge W (f + k) with q9 | q9
          · exact q9
          · exact absurd c16 (nI_nlt q9 (by omega))
        exact am_vret (I := iX7_solve) (pc := 162) dX7_solve_162 rfl (Nat.le_refl _) (Nat.le_refl _) (⟨rfl, by rw [← he, show W - f + 1 - k = 0 by omega]; rfl⟩)
      · have l16 : f + k ≤ W := by
          rcases Nat.lt_or_ge W (f + k) with q9 | q9
          · exact absurd (nI_lt q9 (by omega)) c16
          · exact q9
        refine am_aload_n (I := iX7_solve) (pc := 19) dX7_solve_19 rfl rfl ?_
        refine am_getf (I := iX7_solve) (pc := 20) lf_X7_28 dX7_solve_20 md_25 rfl ?_
        refine am_iload_n (I := iX7_solve) (pc := 23) dX7_solve_23 rfl rfl ?_
        refine am_iload_n (I := iX7_solve) (pc := 24) dX7_solve_24 rfl rfl ?_
        refine am_iadd (I := iX7_solve) (pc := 25) dX7_solve_25 ?_
        refine am_iconst (I := iX7_solve) (pc := 26) (x := 1) dX7_solve_26 (by decide) ?_
        refine am_isub (I := iX7_solve) (pc := 27) dX7_solve_27 ?_
        rw [nI_add, show f + k = (f + k - 1) + 1 by omega, nI_pred]
        refine am_iaload (I := iX7_solve) (pc := 28) dX7_solve_28 md_32 rfl (vp_in_nI (show f + k - 1 < 41 by omega) (by decide)) ?_
        rw [nI_clamp (show f + k - 1 < 2 ^ 31 by omega)]
        refine am_aload_n (I := iX7_solve) (pc := 29) dX7_solve_29 rfl rfl ?_
        refine am_getf (I := iX7_solve) (pc := 30) lf_X7_25 dX7_solve_30 md_25 rfl ?_
        refine am_iload_n (I := iX7_solve) (pc := 33) dX7_solve_33 rfl rfl ?_
        refine am_iaload (I := iX7_solve) (pc := 34) dX7_solve_34 md_31 rfl (vp_in_nI (show f < 41 by omega) (by decide)) ?_
        rw [nI_clamp (show f < 2 ^ 31 by omega)]
        refine am_isub (I := iX7_solve) (pc := 35) dX7_solve_35 ?_
        refine am_istore (I := iX7_solve) (pc := 36) (L' := [some (.ref 25), some (.int (nI f)), some (.int w), some (.int (nI k)), some (.int ((a32 (f + k - 1)) - (a31 f))), none, none, none, none]) dX7_solve_36 (by decide) rfl ?_
        refine am_iload_n (I := iX7_solve) (pc := 38) dX7_solve_38 rfl rfl ?_
        refine am_iload (I := iX7_solve) (pc := 39) dX7_solve_39 rfl ?_
        refine am_isub (I := iX7_solve) (pc := 41) dX7_solve_41 ?_
        refine am_istore (I := iX7_solve) (pc := 42) (L' := [some (.ref 25), some (.int (nI f)), some (.int w), some (.int (nI k)), some (.int ((a32 (f + k - 1)) - (a31 f))), some (.int (w - ((a32 (f + k - 1)) - (a31 f)))), none, none, none]) dX7_solve_42 (by decide) rfl ?_
        refine am_iload_n (I := iX7_solve) (pc := 44) dX7_solve_44 rfl rfl ?_
        refine am_iload_n (I := iX7_solve) (pc := 45) dX7_solve_45 rfl rfl ?_
        refine am_iadd (I := iX7_solve) (pc := 46) dX7_solve_46 ?_
        rw [nI_add]
        refine am_aload_n (I := iX7_solve) (pc := 47) dX7_solve_47 rfl rfl ?_
        refine am_getf (I := iX7_solve) (pc := 48) lf_X7_98 dX7_solve_48 md_25 rfl ?_
        refine am_icmp_ne (I := iX7_solve) (pc := 51) (tgt := 58) dX7_solve_51 (by decide) (fun c51 => ?_) (fun c51 => ?_)
        · have l51 : ¬ f + k = W := fun e9 => c51 (by rw [e9])
          refine am_iconst (I := iX7_solve) (pc := 58) (x := 0) dX7_solve_58 (by decide) ?_
          refine am_istore (I := iX7_solve) (pc := 59) (L' := [some (.ref 25), some (.int (nI f)), some (.int w), some (.int (nI k)), some (.int ((a32 (f + k - 1)) - (a31 f))), some (.int (w - ((a32 (f + k - 1)) - (a31 f)))), some (.int 0), none, none]) dX7_solve_59 (by decide) rfl ?_
          refine am_iload (I := iX7_solve) (pc := 61) dX7_solve_61 rfl ?_
          refine am_if_lt (I := iX7_solve) (pc := 63) (tgt := 87) dX7_solve_63 (by decide) (fun c63 => ?_) (fun c63 => ?_)
          · refine am_iconst (I := iX7_solve) (pc := 87) (x := 0) dX7_solve_87 (by decide) ?_
            refine am_istore (I := iX7_solve) (pc := 88) (L' := [some (.ref 25), some (.int (nI f)), some (.int w), some (.int (nI k)), some (.int ((a32 (f + k - 1)) - (a31 f))), some (.int (w - ((a32 (f + k - 1)) - (a31 f)))), some (.int 0), some (.int 0), none]) dX7_solve_88 (by decide) rfl ?_
            refine am_iload (I := iX7_solve) (pc := 90) dX7_solve_90 rfl ?_
            refine am_if_eq (I := iX7_solve) (pc := 92) (tgt := 99) dX7_solve_92 (by decide) (fun c92 => ?_) (fun c92 => ?_)
            · refine am_iload (I := iX7_solve) (pc := 99) dX7_solve_99 rfl ?_
              refine am_iload (I := iX7_solve) (pc := 101) dX7_solve_101 rfl ?_
              refine am_imul (I := iX7_solve) (pc := 103) dX7_solve_103 ?_
              refine am_aload_n (I := iX7_solve) (pc := 104) dX7_solve_104 rfl rfl ?_
              refine am_getf (I := iX7_solve) (pc := 105) lf_X7_31 dX7_solve_105 md_25 rfl ?_
              refine am_iload_n (I := iX7_solve) (pc := 108) dX7_solve_108 rfl rfl ?_
              refine am_iload_n (I := iX7_solve) (pc := 109) dX7_solve_109 rfl rfl ?_
              refine am_iadd (I := iX7_solve) (pc := 110) dX7_solve_110 ?_
              rw [nI_add]
              refine am_iaload (I := iX7_solve) (pc := 111) dX7_solve_111 md_33 rfl (vp_in_nI (show f + k < 42 by omega) (by decide)) ?_
              refine am_same (st' := [.int (a33 (f + k)), .int ((w - ((a32 (f + k - 1)) - (a31 f))) * (w - ((a32 (f + k - 1)) - (a31 f))))]) rfl rfl (by rw [nI_clamp (show f + k < 2 ^ 31 by omega), pk_un (show f + k ≠ f by omega)]) rfl rfl rfl ?_
              refine am_iadd (I := iX7_solve) (pc := 112) dX7_solve_112 ?_
              refine am_istore (I := iX7_solve) (pc := 113) (L' := [some (.ref 25), some (.int (nI f)), some (.int w), some (.int (nI k)), some (.int ((a32 (f + k - 1)) - (a31 f))), some (.int (w - ((a32 (f + k - 1)) - (a31 f)))), some (.int 0), some (.int 0), some (.int (((w - ((a32 (f + k - 1)) - (a31 f))) * (w - ((a32 (f + k - 1)) - (a31 f)))) + (a33 (f + k))))]) dX7_solve_113 (by decide) rfl ?_
              refine am_iload (I := iX7_solve) (pc := 115) dX7_solve_115 rfl ?_
              refine am_if_eq (I := iX7_solve) (pc := 117) (tgt := 156) dX7_solve_117 (by decide) (fun c117 => ?_) (fun c117 => ?_)
              · refine am_forget 4 (am_forget 5 (am_forget 6 (am_forget 7 (am_forget 8 ?_))))
                refine am_iinc (I := iX7_solve) (pc := 156) (y := ((nI k) + 1)) (L' := [some (.ref 25), some (.int (nI f)), some (.int w), some (.int ((nI k) + 1)), none, none, none, none, none]) dX7_solve_156 rfl rfl rfl ?_
                refine am_goto (I := iX7_solve) (pc := 159) (tgt := 9) dX7_solve_159 (by decide) ?_
                exact am_same rfl (by rw [nI_1]) rfl rfl rfl rfl (ih9 (k + 1) (s) (by omega) (by omega) (by omega) (by rw [← he, show W - f + 1 - k = (W - f + 1 - (k + 1)) + 1 by omega, slp, sstp, if_pos c63]))
              · exact absurd rfl c117
            · exact absurd rfl c92
          · refine am_iload (I := iX7_solve) (pc := 66) dX7_solve_66 rfl ?_
            refine am_if_ne (I := iX7_solve) (pc := 68) (tgt := 83) dX7_solve_68 (by decide) (fun c68 => ?_) (fun c68 => ?_)
            · exact absurd rfl c68
            · refine am_aload_n (I := iX7_solve) (pc := 71) dX7_solve_71 rfl rfl ?_
              refine am_getf (I := iX7_solve) (pc := 72) lf_X7_31 dX7_solve_72 md_25 rfl ?_
              refine am_iload_n (I := iX7_solve) (pc := 75) dX7_solve_75 rfl rfl ?_
              refine am_iload_n (I := iX7_solve) (pc := 76) dX7_solve_76 rfl rfl ?_
              refine am_iadd (I := iX7_solve) (pc := 77) dX7_solve_77 ?_
              rw [nI_add]
              refine am_iaload (I := iX7_solve) (pc := 78) dX7_solve_78 md_33 rfl (vp_in_nI (show f + k < 42 by omega) (by decide)) ?_
              refine am_same (st' := [.int (a33 (f + k))]) rfl rfl (by rw [nI_clamp (show f + k < 2 ^ 31 by omega), pk_un (show f + k ≠ f by omega)]) rfl rfl rfl ?_
              refine am_iconst (I := iX7_solve) (pc := 79) (x := (-1)) dX7_solve_79 (by decide) ?_
              refine am_icmp_eq (I := iX7_solve) (pc := 80) (tgt := 87) dX7_solve_80 (by decide) (fun c80 => ?_) (fun c80 => ?_)
              · refine am_iconst (I := iX7_solve) (pc := 87) (x := 0) dX7_solve_87 (by decide) ?_
                refine am_istore (I := iX7_solve) (pc := 88) (L' := [some (.ref 25), some (.int (nI f)), some (.int w), some (.int (nI k)), some (.int ((a32 (f + k - 1)) - (a31 f))), some (.int (w - ((a32 (f + k - 1)) - (a31 f)))), some (.int 0), some (.int 0), none]) dX7_solve_88 (by decide) rfl ?_
                refine am_iload (I := iX7_solve) (pc := 90) dX7_solve_90 rfl ?_
                refine am_if_eq (I := iX7_solve) (pc := 92) (tgt := 99) dX7_solve_92 (by decide) (fun c92 => ?_) (fun c92 => ?_)
                · refine am_iload (I := iX7_solve) (pc := 99) dX7_solve_99 rfl ?_
                  refine am_iload (I := iX7_solve) (pc := 101) dX7_solve_101 rfl ?_
                  refine am_imul (I := iX7_solve) (pc := 103) dX7_solve_103 ?_
                  refine am_aload_n (I := iX7_solve) (pc := 104) dX7_solve_104 rfl rfl ?_
                  refine am_getf (I := iX7_solve) (pc := 105) lf_X7_31 dX7_solve_105 md_25 rfl ?_
                  refine am_iload_n (I := iX7_solve) (pc := 108) dX7_solve_108 rfl rfl ?_
                  refine am_iload_n (I := iX7_solve) (pc := 109) dX7_solve_109 rfl rfl ?_
                  refine am_iadd (I := iX7_solve) (pc := 110) dX7_solve_110 ?_
                  rw [nI_add]
                  refine am_iaload (I := iX7_solve) (pc := 111) dX7_solve_111 md_33 rfl (vp_in_nI (show f + k < 42 by omega) (by decide)) ?_
                  refine am_same (st' := [.int (a33 (f + k)), .int ((w - ((a32 (f + k - 1)) - (a31 f))) * (w - ((a32 (f + k - 1)) - (a31 f))))]) rfl rfl (by rw [nI_clamp (show f + k < 2 ^ 31 by omega), pk_un (show f + k ≠ f by omega)]) rfl rfl rfl ?_
                  refine am_iadd (I := iX7_solve) (pc := 112) dX7_solve_112 ?_
                  refine am_istore (I := iX7_solve) (pc := 113) (L' := [some (.ref 25), some (.int (nI f)), some (.int w), some (.int (nI k)), some (.int ((a32 (f + k - 1)) - (a31 f))), some (.int (w - ((a32 (f + k - 1)) - (a31 f)))), some (.int 0), some (.int 0), some (.int (((w - ((a32 (f + k - 1)) - (a31 f))) * (w - ((a32 (f + k - 1)) - (a31 f)))) + (a33 (f + k))))]) dX7_solve_113 (by decide) rfl ?_
                  refine am_iload (I := iX7_solve) (pc := 115) dX7_solve_115 rfl ?_
                  refine am_if_eq (I := iX7_solve) (pc := 117) (tgt := 156) dX7_solve_117 (by decide) (fun c117 => ?_) (fun c117 => ?_)
                  · refine am_forget 4 (am_forget 5 (am_forget 6 (am_forget 7 (am_forget 8 ?_))))
                    refine am_iinc (I := iX7_solve) (pc := 156) (y := ((nI k) + 1)) (L' := [some (.ref 25), some (.int (nI f)), some (.int w), some (.int ((nI k) + 1)), none, none, none, none, none]) dX7_solve_156 rfl rfl rfl ?_
                    refine am_goto (I := iX7_solve) (pc := 159) (tgt := 9) dX7_solve_159 (by decide) ?_
                    exact am_same rfl (by rw [nI_1]) rfl rfl rfl rfl (ih9 (k + 1) (s) (by omega) (by omega) (by omega) (by rw [← he, show W - f + 1 - k = (W - f + 1 - (k + 1)) + 1 by omega, slp, sstp, if_neg c63, if_neg l51, if_pos c80]))
                  · exact absurd rfl c117
                · exact absurd rfl c92
              · refine am_iconst (I := iX7_solve) (pc := 83) (x := 1) dX7_solve_83 (by decide) ?_
                refine am_goto (I := iX7_solve) (pc := 84) (tgt := 88) dX7_solve_84 (by decide) ?_
                refine am_istore (I := iX7_solve) (pc := 88) (L' := [some (.ref 25), some (.int (nI f)), some (.int w), some (.int (nI k)), some (.int ((a32 (f + k - 1)) - (a31 f))), some (.int (w - ((a32 (f + k - 1)) - (a31 f)))), some (.int 0), some (.int 1), none]) dX7_solve_88 (by decide) rfl ?_
                refine am_iload (I := iX7_solve) (pc := 90) dX7_solve_90 rfl ?_
                refine am_if_eq (I := iX7_solve) (pc := 92) (tgt := 99) dX7_solve_92 (by decide) (fun c92 => ?_) (fun c92 => ?_)
                · refine am_iload (I := iX7_solve) (pc := 99) dX7_solve_99 rfl ?_
                  refine am_iload (I := iX7_solve) (pc := 101) dX7_solve_101 rfl ?_
                  refine am_imul (I := iX7_solve) (pc := 103) dX7_solve_103 ?_
                  refine am_aload_n (I := iX7_solve) (pc := 104) dX7_solve_104 rfl rfl ?_
                  refine am_getf (I := iX7_solve) (pc := 105) lf_X7_31 dX7_solve_105 md_25 rfl ?_
                  refine am_iload_n (I := iX7_solve) (pc := 108) dX7_solve_108 rfl rfl ?_
                  refine am_iload_n (I := iX7_solve) (pc := 109) dX7_solve_109 rfl rfl ?_
                  refine am_iadd (I := iX7_solve) (pc := 110) dX7_solve_110 ?_
                  rw [nI_add]
                  refine am_iaload (I := iX7_solve) (pc := 111) dX7_solve_111 md_33 rfl (vp_in_nI (show f + k < 42 by omega) (by decide)) ?_
                  refine am_same (st' := [.int (a33 (f + k)), .int ((w - ((a32 (f + k - 1)) - (a31 f))) * (w - ((a32 (f + k - 1)) - (a31 f))))]) rfl rfl (by rw [nI_clamp (show f + k < 2 ^ 31 by omega), pk_un (show f + k ≠ f by omega)]) rfl rfl rfl ?_
                  refine am_iadd (I := iX7_solve) (pc := 112) dX7_solve_112 ?_
                  refine am_istore (I := iX7_solve) (pc := 113) (L' := [some (.ref 25), some (.int (nI f)), some (.int w), some (.int (nI k)), some (.int ((a32 (f + k - 1)) - (a31 f))), some (.int (w - ((a32 (f + k - 1)) - (a31 f)))), some (.int 0), some (.int 1), some (.int (((w - ((a32 (f + k - 1)) - (a31 f))) * (w - ((a32 (f + k - 1)) - (a31 f)))) + (a33 (f + k))))]) dX7_solve_113 (by decide) rfl ?_
                  refine am_iload (I := iX7_solve) (pc := 115) dX7_solve_115 rfl ?_
                  refine am_if_eq (I := iX7_solve) (pc := 117) (tgt := 156) dX7_solve_117 (by decide) (fun c117 => ?_) (fun c117 => ?_)
                  · exact absurd c117 (by decide)
                  · refine am_aload_n (I := iX7_solve) (pc := 120) dX7_solve_120 rfl rfl ?_
                    refine am_getf (I := iX7_solve) (pc := 121) lf_X7_31 dX7_solve_121 md_25 rfl ?_
                    refine am_iload_n (I := iX7_solve) (pc := 124) dX7_solve_124 rfl rfl ?_
                    refine am_iaload (I := iX7_solve) (pc := 125) dX7_solve_125 md_33 rfl (vp_in_nI (show f < 42 by omega) (by decide)) ?_
                    refine am_same (st' := [.int s.1]) rfl rfl (by rw [nI_clamp (show f < 2 ^ 31 by omega), pk_us]) rfl rfl rfl ?_
                    refine am_iconst (I := iX7_solve) (pc := 126) (x := (-1)) dX7_solve_126 (by decide) ?_
                    refine am_icmp_eq (I := iX7_solve) (pc := 127) (tgt := 141) dX7_solve_127 (by decide) (fun c127 => ?_) (fun c127 => ?_)
                    · refine am_aload_n (I := iX7_solve) (pc := 141) dX7_solve_141 rfl rfl ?_
                      refine am_getf (I := iX7_solve) (pc := 142) lf_X7_31 dX7_solve_142 md_25 rfl ?_
                      refine am_iload_n (I := iX7_solve) (pc := 145) dX7_solve_145 rfl rfl ?_
                      refine am_iload (I := iX7_solve) (pc := 146) dX7_solve_146 rfl ?_
                      refine am_iastore (I := iX7_solve) (pc := 148) dX7_solve_148 md_33 rfl (vp_in_nI (show f < 42 by omega) (by decide)) ?_
                      rw [nI_clamp (show f < 2 ^ 31 by omega)]
                      refine am_same (S' := mdS S th pd (nI W) ln sq st ct cl ft zn a26 a27 a28 a29 a30 a31 a32 (upd (upd a33 f s.1) f (((w - ((a32 (f + k - 1)) - (a31 f))) * (w - ((a32 (f + k - 1)) - (a31 f)))) + (a33 (f + k)))) (upd a34 f s.2) a35 a36 a37 a38 a39 a40 a41 a42 a43 a44) rfl rfl rfl mdS_33 rfl rfl ?_
                      refine am_aload_n (I := iX7_solve) (pc := 149) dX7_solve_149 rfl rfl ?_
                      refine am_getf (I := iX7_solve) (pc := 150) lf_X7_34 dX7_solve_150 md_25 rfl ?_
                      refine am_iload_n (I := iX7_solve) (pc := 153) dX7_solve_153 rfl rfl ?_
                      refine am_iload_n (I := iX7_solve) (pc := 154) dX7_solve_154 rfl rfl ?_
                      refine am_iastore (I := iX7_solve) (pc := 155) dX7_solve_155 md_34 rfl (vp_in_nI (show f < 42 by omega) (by decide)) ?_
                      rw [nI_clamp (show f < 2 ^ 31 by omega)]
                      refine am_same (S' := mdS S th pd (nI W) ln sq st ct cl ft zn a26 a27 a28 a29 a30 a31 a32 (upd (upd a33 f s.1) f (((w - ((a32 (f + k - 1)) - (a31 f))) * (w - ((a32 (f + k - 1)) - (a31 f)))) + (a33 (f + k)))) (upd (upd a34 f s.2) f (nI k)) a35 a36 a37 a38 a39 a40 a41 a42 a43 a44) rfl rfl rfl mdS_34 rfl rfl ?_
                      refine am_forget 4 (am_forget 5 (am_forget 6 (am_forget 7 (am_forget 8 ?_))))
                      refine am_iinc (I := iX7_solve) (pc := 156) (y := ((nI k) + 1)) (L' := [some (.ref 25), some (.int (nI f)), some (.int w), some (.int ((nI k) + 1)), none, none, none, none, none]) dX7_solve_156 rfl rfl rfl ?_
                      refine am_goto (I := iX7_solve) (pc := 159) (tgt := 9) dX7_solve_159 (by decide) ?_
                      exact am_same rfl (by rw [nI_1]) rfl (by rw [upd_upd, upd_upd]) rfl rfl (ih9 (k + 1) (((w - (a32 (f + k - 1) - a31 f)) * (w - (a32 (f + k - 1) - a31 f)) + a33 (f + k), nI k)) (by omega) (by omega) (by omega) (by rw [← he, show W - f + 1 - k = (W - f + 1 - (k + 1)) + 1 by omega, slp, sstp, if_neg c63, if_neg l51, if_neg c80, if_pos c127]))
                    · refine am_iload (I := iX7_solve) (pc := 130) dX7_solve_130 rfl ?_
                      refine am_aload_n (I := iX7_solve) (pc := 132) dX7_solve_132 rfl rfl ?_
                      refine am_getf (I := iX7_solve) (pc := 133) lf_X7_31 dX7_solve_133 md_25 rfl ?_
                      refine am_iload_n (I := iX7_solve) (pc := 136) dX7_solve_136 rfl rfl ?_
                      refine am_iaload (I := iX7_solve) (pc := 137) dX7_solve_137 md_33 rfl (vp_in_nI (show f < 42 by omega) (by decide)) ?_
                      refine am_same (st' := [.int s.1, .int (((w - ((a32 (f + k - 1)) - (a31 f))) * (w - ((a32 (f + k - 1)) - (a31 f)))) + (a33 (f + k)))]) rfl rfl (by rw [nI_clamp (show f < 2 ^ 31 by omega), pk_us]) rfl rfl rfl ?_
                      refine am_icmp_ge (I := iX7_solve) (pc := 138) (tgt := 156) dX7_solve_138 (by decide) (fun c138 => ?_) (fun c138 => ?_)
                      · refine am_forget 4 (am_forget 5 (am_forget 6 (am_forget 7 (am_forget 8 ?_))))
                        refine am_iinc (I := iX7_solve) (pc := 156) (y := ((nI k) + 1)) (L' := [some (.ref 25), some (.int (nI f)), some (.int w), some (.int ((nI k) + 1)), none, none, none, none, none]) dX7_solve_156 rfl rfl rfl ?_
                        refine am_goto (I := iX7_solve) (pc := 159) (tgt := 9) dX7_solve_159 (by decide) ?_
                        exact am_same rfl (by rw [nI_1]) rfl rfl rfl rfl (ih9 (k + 1) (s) (by omega) (by omega) (by omega) (by rw [← he, show W - f + 1 - k = (W - f + 1 - (k + 1)) + 1 by omega, slp, sstp, if_neg c63, if_neg l51, if_neg c80, if_neg c127, if_pos c138]))
                      · refine am_aload_n (I := iX7_solve) (pc := 141) dX7_solve_141 rfl rfl ?_
                        refine am_getf (I := iX7_solve) (pc := 142) lf_X7_31 dX7_solve_142 md_25 rfl ?_
                        refine am_iload_n (I := iX7_solve) (pc := 145) dX7_solve_145 rfl rfl ?_
                        refine am_iload (I := iX7_solve) (pc := 146) dX7_solve_146 rfl ?_
                        refine am_iastore (I := iX7_solve) (pc := 148) dX7_solve_148 md_33 rfl (vp_in_nI (show f < 42 by omega) (by decide)) ?_
                        rw [nI_clamp (show f < 2 ^ 31 by omega)]
                        refine am_same (S' := mdS S th pd (nI W) ln sq st ct cl ft zn a26 a27 a28 a29 a30 a31 a32 (upd (upd a33 f s.1) f (((w - ((a32 (f + k - 1)) - (a31 f))) * (w - ((a32 (f + k - 1)) - (a31 f)))) + (a33 (f + k)))) (upd a34 f s.2) a35 a36 a37 a38 a39 a40 a41 a42 a43 a44) rfl rfl rfl mdS_33 rfl rfl ?_
                        refine am_aload_n (I := iX7_solve) (pc := 149) dX7_solve_149 rfl rfl ?_
                        refine am_getf (I := iX7_solve) (pc := 150) lf_X7_34 dX7_solve_150 md_25 rfl ?_
                        refine am_iload_n (I := iX7_solve) (pc := 153) dX7_solve_153 rfl rfl ?_
                        refine am_iload_n (I := iX7_solve) (pc := 154) dX7_solve_154 rfl rfl ?_
                        refine am_iastore (I := iX7_solve) (pc := 155) dX7_solve_155 md_34 rfl (vp_in_nI (show f < 42 by omega) (by decide)) ?_
                        rw [nI_clamp (show f < 2 ^ 31 by omega)]
                        refine am_same (S' := mdS S th pd (nI W) ln sq st ct cl ft zn a26 a27 a28 a29 a30 a31 a32 (upd (upd a33 f s.1) f (((w - ((a32 (f + k - 1)) - (a31 f))) * (w - ((a32 (f + k - 1)) - (a31 f)))) + (a33 (f + k)))) (upd (upd a34 f s.2) f (nI k)) a35 a36 a37 a38 a39 a40 a41 a42 a43 a44) rfl rfl rfl mdS_34 rfl rfl ?_
                        refine am_forget 4 (am_forget 5 (am_forget 6 (am_forget 7 (am_forget 8 ?_))))
                        refine am_iinc (I := iX7_solve) (pc := 156) (y := ((nI k) + 1)) (L' := [some (.ref 25), some (.int (nI f)), some (.int w), some (.int ((nI k) + 1)), none, none, none, none, none]) dX7_solve_156 rfl rfl rfl ?_
                        refine am_goto (I := iX7_solve) (pc := 159) (tgt := 9) dX7_solve_159 (by decide) ?_
                        exact am_same rfl (by rw [nI_1]) rfl (by rw [upd_upd, upd_upd]) rfl rfl (ih9 (k + 1) (((w - (a32 (f + k - 1) - a31 f)) * (w - (a32 (f + k - 1) - a31 f)) + a33 (f + k), nI k)) (by omega) (by omega) (by omega) (by rw [← he, show W - f + 1 - k = (W - f + 1 - (k + 1)) + 1 by omega, slp, sstp, if_neg c63, if_neg l51, if_neg c80, if_neg c127, if_neg c138]))
                · exact absurd rfl c92
        · have l51 : f + k = W := (nI_eq (by omega) (by omega)).mp c51
          refine am_iconst (I := iX7_solve) (pc := 54) (x := 1) dX7_solve_54 (by decide) ?_
          refine am_goto (I := iX7_solve) (pc := 55) (tgt := 59) dX7_solve_55 (by decide) ?_
          refine am_istore (I := iX7_solve) (pc := 59) (L' := [some (.ref 25), some (.int (nI f)), some (.int w), some (.int (nI k)), some (.int ((a32 (f + k - 1)) - (a31 f))), some (.int (w - ((a32 (f + k - 1)) - (a31 f)))), some (.int 1), none, none]) dX7_solve_59 (by decide) rfl ?_
          refine am_iload (I := iX7_solve) (pc := 61) dX7_solve_61 rfl ?_
          refine am_if_lt (I := iX7_solve) (pc := 63) (tgt := 87) dX7_solve_63 (by decide) (fun c63 => ?_) (fun c63 => ?_)
          · refine am_iconst (I := iX7_solve) (pc := 87) (x := 0) dX7_solve_87 (by decide) ?_
            refine am_istore (I := iX7_solve) (pc := 88) (L' := [some (.ref 25), some (.int (nI f)), some (.int w), some (.int (nI k)), some (.int ((a32 (f + k - 1)) - (a31 f))), some (.int (w - ((a32 (f + k - 1)) - (a31 f)))), some (.int 1), some (.int 0), none]) dX7_solve_88 (by decide) rfl ?_
            refine am_iload (I := iX7_solve) (pc := 90) dX7_solve_90 rfl ?_
            refine am_if_eq (I := iX7_solve) (pc := 92) (tgt := 99) dX7_solve_92 (by decide) (fun c92 => ?_) (fun c92 => ?_)
            · exact absurd c92 (by decide)
            · refine am_iconst (I := iX7_solve) (pc := 95) (x := 0) dX7_solve_95 (by decide) ?_
              refine am_goto (I := iX7_solve) (pc := 96) (tgt := 113) dX7_solve_96 (by decide) ?_
              refine am_istore (I := iX7_solve) (pc := 113) (L' := [some (.ref 25), some (.int (nI f)), some (.int w), some (.int (nI k)), some (.int ((a32 (f + k - 1)) - (a31 f))), some (.int (w - ((a32 (f + k - 1)) - (a31 f)))), some (.int 1), some (.int 0), some (.int 0)]) dX7_solve_113 (by decide) rfl ?_
              refine am_iload (I := iX7_solve) (pc := 115) dX7_solve_115 rfl ?_
              refine am_if_eq (I := iX7_solve) (pc := 117) (tgt := 156) dX7_solve_117 (by decide) (fun c117 => ?_) (fun c117 => ?_)
              · refine am_forget 4 (am_forget 5 (am_forget 6 (am_forget 7 (am_forget 8 ?_))))
                refine am_iinc (I := iX7_solve) (pc := 156) (y := ((nI k) + 1)) (L' := [some (.ref 25), some (.int (nI f)), some (.int w), some (.int ((nI k) + 1)), none, none, none, none, none]) dX7_solve_156 rfl rfl rfl ?_
                refine am_goto (I := iX7_solve) (pc := 159) (tgt := 9) dX7_solve_159 (by decide) ?_
                exact am_same rfl (by rw [nI_1]) rfl rfl rfl rfl (ih9 (k + 1) (s) (by omega) (by omega) (by omega) (by rw [← he, show W - f + 1 - k = (W - f + 1 - (k + 1)) + 1 by omega, slp, sstp, if_pos c63]))
              · exact absurd rfl c117
          · refine am_iload (I := iX7_solve) (pc := 66) dX7_solve_66 rfl ?_
            refine am_if_ne (I := iX7_solve) (pc := 68) (tgt := 83) dX7_solve_68 (by decide) (fun c68 => ?_) (fun c68 => ?_)
            · refine am_iconst (I := iX7_solve) (pc := 83) (x := 1) dX7_solve_83 (by decide) ?_
              refine am_goto (I := iX7_solve) (pc := 84) (tgt := 88) dX7_solve_84 (by decide) ?_
              refine am_istore (I := iX7_solve) (pc := 88) (L' := [some (.ref 25), some (.int (nI f)), some (.int w), some (.int (nI k)), some (.int ((a32 (f + k - 1)) - (a31 f))), some (.int (w - ((a32 (f + k - 1)) - (a31 f)))), some (.int 1), some (.int 1), none]) dX7_solve_88 (by decide) rfl ?_
              refine am_iload (I := iX7_solve) (pc := 90) dX7_solve_90 rfl ?_
              refine am_if_eq (I := iX7_solve) (pc := 92) (tgt := 99) dX7_solve_92 (by decide) (fun c92 => ?_) (fun c92 => ?_)
              · exact absurd c92 (by decide)
              · refine am_iconst (I := iX7_solve) (pc := 95) (x := 0) dX7_solve_95 (by decide) ?_
                refine am_goto (I := iX7_solve) (pc := 96) (tgt := 113) dX7_solve_96 (by decide) ?_
                refine am_istore (I := iX7_solve) (pc := 113) (L' := [some (.ref 25), some (.int (nI f)), some (.int w), some (.int (nI k)), some (.int ((a32 (f + k - 1)) - (a31 f))), some (.int (w - ((a32 (f + k - 1)) - (a31 f)))), some (.int 1), some (.int 1), some (.int 0)]) dX7_solve_113 (by decide) rfl ?_
                refine am_iload (I := iX7_solve) (pc := 115) dX7_solve_115 rfl ?_
                refine am_if_eq (I := iX7_solve) (pc := 117) (tgt := 156) dX7_solve_117 (by decide) (fun c117 => ?_) (fun c117 => ?_)
                · exact absurd c117 (by decide)
                · refine am_aload_n (I := iX7_solve) (pc := 120) dX7_solve_120 rfl rfl ?_
                  refine am_getf (I := iX7_solve) (pc := 121) lf_X7_31 dX7_solve_121 md_25 rfl ?_
                  refine am_iload_n (I := iX7_solve) (pc := 124) dX7_solve_124 rfl rfl ?_
                  refine am_iaload (I := iX7_solve) (pc := 125) dX7_solve_125 md_33 rfl (vp_in_nI (show f < 42 by omega) (by decide)) ?_
                  refine am_same (st' := [.int s.1]) rfl rfl (by rw [nI_clamp (show f < 2 ^ 31 by omega), pk_us]) rfl rfl rfl ?_
                  refine am_iconst (I := iX7_solve) (pc := 126) (x := (-1)) dX7_solve_126 (by decide) ?_
                  refine am_icmp_eq (I := iX7_solve) (pc := 127) (tgt := 141) dX7_solve_127 (by decide) (fun c127 => ?_) (fun c127 => ?_)
                  · refine am_aload_n (I := iX7_solve) (pc := 141) dX7_solve_141 rfl rfl ?_
                    refine am_getf (I := iX7_solve) (pc := 142) lf_X7_31 dX7_solve_142 md_25 rfl ?_
                    refine am_iload_n (I := iX7_solve) (pc := 145) dX7_solve_145 rfl rfl ?_
                    refine am_iload (I := iX7_solve) (pc := 146) dX7_solve_146 rfl ?_
                    refine am_iastore (I := iX7_solve) (pc := 148) dX7_solve_148 md_33 rfl (vp_in_nI (show f < 42 by omega) (by decide)) ?_
                    rw [nI_clamp (show f < 2 ^ 31 by omega)]
                    refine am_same (S' := mdS S th pd (nI W) ln sq st ct cl ft zn a26 a27 a28 a29 a30 a31 a32 (upd (upd a33 f s.1) f 0) (upd a34 f s.2) a35 a36 a37 a38 a39 a40 a41 a42 a43 a44) rfl rfl rfl mdS_33 rfl rfl ?_
                    refine am_aload_n (I := iX7_solve) (pc := 149) dX7_solve_149 rfl rfl ?_
                    refine am_getf (I := iX7_solve) (pc := 150) lf_X7_34 dX7_solve_150 md_25 rfl ?_
                    refine am_iload_n (I := iX7_solve) (pc := 153) dX7_solve_153 rfl rfl ?_
                    refine am_iload_n (I := iX7_solve) (pc := 154) dX7_solve_154 rfl rfl ?_
                    refine am_iastore (I := iX7_solve) (pc := 155) dX7_solve_155 md_34 rfl (vp_in_nI (show f < 42 by omega) (by decide)) ?_
                    rw [nI_clamp (show f < 2 ^ 31 by omega)]
                    refine am_same (S' := mdS S th pd (nI W) ln sq st ct cl ft zn a26 a27 a28 a29 a30 a31 a32 (upd (upd a33 f s.1) f 0) (upd (upd a34 f s.2) f (nI k)) a35 a36 a37 a38 a39 a40 a41 a42 a43 a44) rfl rfl rfl mdS_34 rfl rfl ?_
                    refine am_forget 4 (am_forget 5 (am_forget 6 (am_forget 7 (am_forget 8 ?_))))
                    refine am_iinc (I := iX7_solve) (pc := 156) (y := ((nI k) + 1)) (L' := [some (.ref 25), some (.int (nI f)), some (.int w), some (.int ((nI k) + 1)), none, none, none, none, none]) dX7_solve_156 rfl rfl rfl ?_
                    refine am_goto (I := iX7_solve) (pc := 159) (tgt := 9) dX7_solve_159 (by decide) ?_
                    exact am_same rfl (by rw [nI_1]) rfl (by rw [upd_upd, upd_upd]) rfl rfl (ih9 (k + 1) ((0, nI k)) (by omega) (by omega) (by omega) (by rw [← he, show W - f + 1 - k = (W - f + 1 - (k + 1)) + 1 by omega, slp, sstp, if_neg c63, if_pos l51, if_pos c127]))
                  · refine am_iload (I := iX7_solve) (pc := 130) dX7_solve_130 rfl ?_
                    refine am_aload_n (I := iX7_solve) (pc := 132) dX7_solve_132 rfl rfl ?_
                    refine am_getf (I := iX7_solve) (pc := 133) lf_X7_31 dX7_solve_133 md_25 rfl ?_
                    refine am_iload_n (I := iX7_solve) (pc := 136) dX7_solve_136 rfl rfl ?_
                    refine am_iaload (I := iX7_solve) (pc := 137) dX7_solve_137 md_33 rfl (vp_in_nI (show f < 42 by omega) (by decide)) ?_
                    refine am_same (st' := [.int s.1, .int 0]) rfl rfl (by rw [nI_clamp (show f < 2 ^ 31 by omega), pk_us]) rfl rfl rfl ?_
                    refine am_icmp_ge (I := iX7_solve) (pc := 138) (tgt := 156) dX7_solve_138 (by decide) (fun c138 => ?_) (fun c138 => ?_)
                    · refine am_forget 4 (am_forget 5 (am_forget 6 (am_forget 7 (am_forget 8 ?_))))
                      refine am_iinc (I := iX7_solve) (pc := 156) (y := ((nI k) + 1)) (L' := [some (.ref 25), some (.int (nI f)), some (.int w), some (.int ((nI k) + 1)), none, none, none, none, none]) dX7_solve_156 rfl rfl rfl ?_
                      refine am_goto (I := iX7_solve) (pc := 159) (tgt := 9) dX7_solve_159 (by decide) ?_
                      exact am_same rfl (by rw [nI_1]) rfl rfl rfl rfl (ih9 (k + 1) (s) (by omega) (by omega) (by omega) (by rw [← he, show W - f + 1 - k = (W - f + 1 - (k + 1)) + 1 by omega, slp, sstp, if_neg c63, if_pos l51, if_neg c127, if_pos c138]))
                    · refine am_aload_n (I := iX7_solve) (pc := 141) dX7_solve_141 rfl rfl ?_
                      refine am_getf (I := iX7_solve) (pc := 142) lf_X7_31 dX7_solve_142 md_25 rfl ?_
                      refine am_iload_n (I := iX7_solve) (pc := 145) dX7_solve_145 rfl rfl ?_
                      refine am_iload (I := iX7_solve) (pc := 146) dX7_solve_146 rfl ?_
                      refine am_iastore (I := iX7_solve) (pc := 148) dX7_solve_148 md_33 rfl (vp_in_nI (show f < 42 by omega) (by decide)) ?_
                      rw [nI_clamp (show f < 2 ^ 31 by omega)]
                      refine am_same (S' := mdS S th pd (nI W) ln sq st ct cl ft zn a26 a27 a28 a29 a30 a31 a32 (upd (upd a33 f s.1) f 0) (upd a34 f s.2) a35 a36 a37 a38 a39 a40 a41 a42 a43 a44) rfl rfl rfl mdS_33 rfl rfl ?_
                      refine am_aload_n (I := iX7_solve) (pc := 149) dX7_solve_149 rfl rfl ?_
                      refine am_getf (I := iX7_solve) (pc := 150) lf_X7_34 dX7_solve_150 md_25 rfl ?_
                      refine am_iload_n (I := iX7_solve) (pc := 153) dX7_solve_153 rfl rfl ?_
                      refine am_iload_n (I := iX7_solve) (pc := 154) dX7_solve_154 rfl rfl ?_
                      refine am_iastore (I := iX7_solve) (pc := 155) dX7_solve_155 md_34 rfl (vp_in_nI (show f < 42 by omega) (by decide)) ?_
                      rw [nI_clamp (show f < 2 ^ 31 by omega)]
                      refine am_same (S' := mdS S th pd (nI W) ln sq st ct cl ft zn a26 a27 a28 a29 a30 a31 a32 (upd (upd a33 f s.1) f 0) (upd (upd a34 f s.2) f (nI k)) a35 a36 a37 a38 a39 a40 a41 a42 a43 a44) rfl rfl rfl mdS_34 rfl rfl ?_
                      refine am_forget 4 (am_forget 5 (am_forget 6 (am_forget 7 (am_forget 8 ?_))))
                      refine am_iinc (I := iX7_solve) (pc := 156) (y := ((nI k) + 1)) (L' := [some (.ref 25), some (.int (nI f)), some (.int w), some (.int ((nI k) + 1)), none, none, none, none, none]) dX7_solve_156 rfl rfl rfl ?_
                      refine am_goto (I := iX7_solve) (pc := 159) (tgt := 9) dX7_solve_159 (by decide) ?_
                      exact am_same rfl (by rw [nI_1]) rfl (by rw [upd_upd, upd_upd]) rfl rfl (ih9 (k + 1) ((0, nI k)) (by omega) (by omega) (by omega) (by rw [← he, show W - f + 1 - k = (W - f + 1 - (k + 1)) + 1 by omega, slp, sstp, if_neg c63, if_pos l51, if_neg c127, if_neg c138]))
            · exact absurd c68 (by decide)
  exact am_same rfl (by rfl) rfl (by rw [upd_id]) rfl rfl (loop9 _ 1 (-1, a34 f) (Nat.lt_succ_self _) (by omega) (by omega) (by rfl))
