def pW (f : Nat → Int32) (j : Nat) : Bool := decide (f j = 32)
def pL (f : Nat → Int32) (j : Nat) : Bool := isl (f j)
def pS (f : Nat → Int32) (n j : Nat) : Bool := !isl (f j) && !decide (f j = 32) && decide (j + 1 < n)
theorem isl_32 {x : Int32} (h : isl x = true) : ¬ x = 32 := fun e => by rw [e] at h; exact absurd h (by decide)
theorem cnt_s {p : Nat → Bool} {k : Nat} (h : p k = true) : cnt p (k + 1) = cnt p k + 1 := by rw [cnt, if_pos h]
theorem cnt_n {p : Nat → Bool} {k : Nat} (h : p k = false) : cnt p (k + 1) = cnt p k := by rw [cnt, if_neg (by rw [h]; exact Bool.false_ne_true)]
def lvl (f : Nat → Int32) (n : Nat) : Int32 := 10 * nI (cnt (pL f) n) / nI (1 + cnt (pW f) n) + 5 * nI (1 + cnt (pW f) n) / nI (1 + cnt (pS f n) n)
set_option maxRecDepth 100000 in
set_option maxHeartbeats 4000000 in
theorem m_levelOf (K : am_K) (l : Launch) (S : am_S) (a b cap : Nat) (f : Nat → Int32) (n : Nat) (hr : rw S.1 a b cap f n) : am_M K l iX6_levelOf 1 0 0 [.ref a] S (fun v S' => v = some (.int (lvl f n)) ∧ S = S') (fun _ _ => False) := by
  refine am_body (by decide) rfl (by simp [Value.category]) (Nat.le_of_ble_eq_true rfl) (fun xp xe xs xm xa xb xt xc ad0 => ?_)
  show am_W _ _ _ _ _ _ _ _ _ _ _ _ _ _ _ 0 [some (.ref a), none, none, none, none, none] [] S 0 0
  refine am_iconst (I := iX6_levelOf) (pc := 0) (x := 0) dX6_levelOf_0 (by decide) ?_
  refine am_istore_n (I := iX6_levelOf) (pc := 1) (L' := [some (.ref a), some (.int 0), none, none, none, none]) dX6_levelOf_1 rfl (by decide) rfl ?_
  refine am_iconst (I := iX6_levelOf) (pc := 2) (x := 1) dX6_levelOf_2 (by decide) ?_
  refine am_istore_n (I := iX6_levelOf) (pc := 3) (L' := [some (.ref a), some (.int 0), some (.int 1), none, none, none]) dX6_levelOf_3 rfl (by decide) rfl ?_
  refine am_iconst (I := iX6_levelOf) (pc := 4) (x := 1) dX6_levelOf_4 (by decide) ?_
  refine am_istore_n (I := iX6_levelOf) (pc := 5) (L' := [some (.ref a), some (.int 0), some (.int 1), some (.int 1), none, none]) dX6_levelOf_5 rfl (by decide) rfl ?_
  refine am_iconst (I := iX6_levelOf) (pc := 6) (x := 0) dX6_levelOf_6 (by decide) ?_
  refine am_istore (I := iX6_levelOf) (pc := 7) (L' := [some (.ref a), some (.int 0), some (.int 1), some (.int 1), some (.int 0), none]) dX6_levelOf_7 (by decide) rfl ?_
  have loop9 : ∀ (k9 : Nat) (i : Nat), n - i < k9 → (i ≤ n) → am_W K iX6_levelOf xp l xe (am_room 1 0 0) xs xm xa xb xt xc S ad0 (am_E K ad0 S (fun v S' => v = some (.int (lvl f n)) ∧ S = S') (fun _ _ => False) xb xa xs 0 0) 9 [some (.ref a), some (.int (nI (cnt (pL f) i))), some (.int (nI (1 + cnt (pW f) i))), some (.int (nI (1 + cnt (pS f n) i))), some (.int (nI i)), none] [] S 0 0 := by
    intro k9
    induction k9 with
    | zero => intro i h9; exact absurd h9 (Nat.not_lt_zero _)
    | succ k9 ih9 =>
      intro i hm9 hi
      refine am_iload (I := iX6_levelOf) (pc := 9) dX6_levelOf_9 rfl ?_
      refine am_aload_n (I := iX6_levelOf) (pc := 11) dX6_levelOf_11 rfl rfl ?_
      refine am_callV (I := iX6_levelOf) (pc := 12) (st := [.int (nI i)]) lv_X6_56 (m_Row_length K l _ a b cap f n hr) dX6_levelOf_12 hr.1 rfl (Nat.le_of_ble_eq_true rfl) ⟨Nat.le_of_ble_eq_true rfl, Nat.le_of_ble_eq_true rfl⟩ (Nat.le_of_ble_eq_true rfl) (Nat.le_of_ble_eq_true rfl) rfl (fun v9 T9 z9 _ => ?_) (fun _ _ h9 => h9.elim)
      obtain ⟨rfl, rfl⟩ := z9
      show am_W _ _ _ _ _ _ _ _ _ _ _ _ _ _ _ 15 [some (.ref a), some (.int (nI (cnt (pL f) i))), some (.int (nI (1 + cnt (pW f) i))), some (.int (nI (1 + cnt (pS f n) i))), some (.int (nI i)), none] [.int (nI n), .int (nI i)] S 0 0
      refine am_icmp_ge (I := iX6_levelOf) (pc := 15) (tgt := 73) dX6_levelOf_15 (by decide) (fun c15 => ?_) (fun c15 => ?_)
      · have g15 : n ≤ i := by
          rcases Nat.lt_or_ge i n with q9 | q9
          · exact absurd c15 (nI_ge (a := i) (b := n) q9 (by have := hr.2.2.1; have := hr.2.2.2; omega))
          · exact q9
        refine am_bipush (I := iX6_levelOf) (pc := 73) (x := 10) dX6_levelOf_73 (by decide) ?_
        refine am_iload_n (I := iX6_levelOf) (pc := 75) dX6_levelOf_75 rfl rfl ?_
        refine am_imul (I := iX6_levelOf) (pc := 76) dX6_levelOf_76 ?_
        refine am_iload_n (I := iX6_levelOf) (pc := 77) dX6_levelOf_77 rfl rfl ?_
        refine am_idiv (I := iX6_levelOf) (pc := 78) dX6_levelOf_78 (nI_ne0 (by omega) (by have := cnt_le (pW f) i; have := hr.2.2.1; have := hr.2.2.2; omega)) ?_
        refine am_iconst (I := iX6_levelOf) (pc := 79) (x := 5) dX6_levelOf_79 (by decide) ?_
        refine am_iload_n (I := iX6_levelOf) (pc := 80) dX6_levelOf_80 rfl rfl ?_
        refine am_imul (I := iX6_levelOf) (pc := 81) dX6_levelOf_81 ?_
        refine am_iload_n (I := iX6_levelOf) (pc := 82) dX6_levelOf_82 rfl rfl ?_
        refine am_idiv (I := iX6_levelOf) (pc := 83) dX6_levelOf_83 (nI_ne0 (by omega) (by have := cnt_le (pS f n) i; have := hr.2.2.1; have := hr.2.2.2; omega)) ?_
        refine am_iadd (I := iX6_levelOf) (pc := 84) dX6_levelOf_84 ?_
        exact am_iret (I := iX6_levelOf) (pc := 85) dX6_levelOf_85 rfl (Nat.le_refl _) (Nat.le_refl _) (⟨by rw [show i = n by omega]; rfl, rfl⟩)
      · have l15 : i < n := by
          rcases Nat.lt_or_ge i n with q9 | q9
          · exact q9
          · exact absurd (nI_le (a := n) (b := i) q9 (by have := hr.2.2.1; have := hr.2.2.2; omega)) c15
        refine am_aload_n (I := iX6_levelOf) (pc := 18) dX6_levelOf_18 rfl rfl ?_
        refine am_iload (I := iX6_levelOf) (pc := 19) dX6_levelOf_19 rfl ?_
        refine am_callV (I := iX6_levelOf) (pc := 21) (st := []) lv_X6_125 (m_Row_at K l _ a b cap f n (nI i) hr) dX6_levelOf_21 hr.1 rfl (Nat.le_of_ble_eq_true rfl) ⟨Nat.le_of_ble_eq_true rfl, Nat.le_of_ble_eq_true rfl⟩ (Nat.le_of_ble_eq_true rfl) (Nat.le_of_ble_eq_true rfl) rfl (fun v9 T9 z9 _ => ?_) (fun _ _ h9 => h9.elim)
        obtain ⟨rfl, rfl⟩ := z9
        show am_W _ _ _ _ _ _ _ _ _ _ _ _ _ _ _ 24 [some (.ref a), some (.int (nI (cnt (pL f) i))), some (.int (nI (1 + cnt (pW f) i))), some (.int (nI (1 + cnt (pS f n) i))), some (.int (nI i)), none] [.int (rv f n (nI i))] S 0 0
        rw [rv_nI l15 (by have := hr.2.2.1; have := hr.2.2.2; omega)]
        refine am_istore (I := iX6_levelOf) (pc := 24) (L' := [some (.ref a), some (.int (nI (cnt (pL f) i))), some (.int (nI (1 + cnt (pW f) i))), some (.int (nI (1 + cnt (pS f n) i))), some (.int (nI i)), some (.int (f i))]) dX6_levelOf_24 (by decide) rfl ?_
        refine am_iload (I := iX6_levelOf) (pc := 26) dX6_levelOf_26 rfl ?_
        refine am_callS (I := iX6_levelOf) (pc := 28) (st := []) lv_X6_67 rfl (m_isLetter K l _ (f i)) dX6_levelOf_28 rfl (Nat.le_of_ble_eq_true rfl) ⟨Nat.le_of_ble_eq_true rfl, Nat.le_of_ble_eq_true rfl⟩ (Nat.le_of_ble_eq_true rfl) (Nat.le_of_ble_eq_true rfl) rfl (fun v9 T9 z9 _ => ?_) (fun _ _ h9 => h9.elim)
        obtain ⟨rfl, rfl⟩ := z9
        show am_W _ _ _ _ _ _ _ _ _ _ _ _ _ _ _ 31 [some (.ref a), some (.int (nI (cnt (pL f) i))), some (.int (nI (1 + cnt (pW f) i))), some (.int (nI (1 + cnt (pS f n) i))), some (.int (nI i)), some (.int (f i))] [.int (bI (isl (f i)))] S 0 0
        refine am_if_eq (I := iX6_levelOf) (pc := 31) (tgt := 40) dX6_levelOf_31 (by decide) (fun c31 => ?_) (fun c31 => ?_)
        · have h31 : isl (f i) = false := bI_0 c31
          refine am_iload (I := iX6_levelOf) (pc := 40) dX6_levelOf_40 rfl ?_
          refine am_bipush (I := iX6_levelOf) (pc := 42) (x := 32) dX6_levelOf_42 (by decide) ?_
          refine am_icmp_ne (I := iX6_levelOf) (pc := 44) (tgt := 53) dX6_levelOf_44 (by decide) (fun c44 => ?_) (fun c44 => ?_)
          · refine am_iload (I := iX6_levelOf) (pc := 53) dX6_levelOf_53 rfl ?_
            refine am_aload_n (I := iX6_levelOf) (pc := 55) dX6_levelOf_55 rfl rfl ?_
            refine am_callV (I := iX6_levelOf) (pc := 56) (st := [.int (nI i)]) lv_X6_56 (m_Row_length K l _ a b cap f n hr) dX6_levelOf_56 hr.1 rfl (Nat.le_of_ble_eq_true rfl) ⟨Nat.le_of_ble_eq_true rfl, Nat.le_of_ble_eq_true rfl⟩ (Nat.le_of_ble_eq_true rfl) (Nat.le_of_ble_eq_true rfl) rfl (fun v9 T9 z9 _ => ?_) (fun _ _ h9 => h9.elim)
            obtain ⟨rfl, rfl⟩ := z9
            show am_W _ _ _ _ _ _ _ _ _ _ _ _ _ _ _ 59 [some (.ref a), some (.int (nI (cnt (pL f) i))), some (.int (nI (1 + cnt (pW f) i))), some (.int (nI (1 + cnt (pS f n) i))), some (.int (nI i)), some (.int (f i))] [.int (nI n), .int (nI i)] S 0 0
            refine am_iconst (I := iX6_levelOf) (pc := 59) (x := 1) dX6_levelOf_59 (by decide) ?_
            refine am_isub (I := iX6_levelOf) (pc := 60) dX6_levelOf_60 ?_
            have e61 : nI n - 1 = nI (n - 1) := by
              conv => lhs; rw [show n = (n - 1) + 1 by omega]
              exact nI_pred _
            rw [e61]
            refine am_icmp_ge (I := iX6_levelOf) (pc := 61) (tgt := 67) dX6_levelOf_61 (by decide) (fun c61 => ?_) (fun c61 => ?_)
            · have g61 : ¬ i + 1 < n := fun q9 => absurd c61 (nI_ge (a := i) (b := n - 1) (by omega) (by have := hr.2.2.1; have := hr.2.2.2; omega))
              refine am_forget 5 ?_
              refine am_iinc (I := iX6_levelOf) (pc := 67) (y := ((nI i) + 1)) (L' := [some (.ref a), some (.int (nI (cnt (pL f) i))), some (.int (nI (1 + cnt (pW f) i))), some (.int (nI (1 + cnt (pS f n) i))), some (.int ((nI i) + 1)), none]) dX6_levelOf_67 rfl rfl rfl ?_
              refine am_goto (I := iX6_levelOf) (pc := 70) (tgt := 9) dX6_levelOf_70 (by decide) ?_
              exact am_same rfl (by rw [cnt_n (p := pL f) h31, cnt_n (p := pW f) (decide_eq_false c44), cnt_n (p := pS f n) (by unfold pS; rw [decide_eq_false (p := i + 1 < n) g61, Bool.and_false]), nI_1 i]) rfl rfl rfl rfl (ih9 (i + 1) (by omega) (by omega))
            · have g61 : i + 1 < n := by
                rcases Nat.lt_or_ge i (n - 1) with q9 | q9
                · omega
                · exact absurd (nI_le (a := n - 1) (b := i) q9 (by have := hr.2.2.1; have := hr.2.2.2; omega)) c61
              refine am_iinc (I := iX6_levelOf) (pc := 64) (y := ((nI (1 + cnt (pS f n) i)) + 1)) (L' := [some (.ref a), some (.int (nI (cnt (pL f) i))), some (.int (nI (1 + cnt (pW f) i))), some (.int ((nI (1 + cnt (pS f n) i)) + 1)), some (.int (nI i)), some (.int (f i))]) dX6_levelOf_64 rfl rfl rfl ?_
              refine am_forget 5 ?_
              refine am_iinc (I := iX6_levelOf) (pc := 67) (y := ((nI i) + 1)) (L' := [some (.ref a), some (.int (nI (cnt (pL f) i))), some (.int (nI (1 + cnt (pW f) i))), some (.int ((nI (1 + cnt (pS f n) i)) + 1)), some (.int ((nI i) + 1)), none]) dX6_levelOf_67 rfl rfl rfl ?_
              refine am_goto (I := iX6_levelOf) (pc := 70) (tgt := 9) dX6_levelOf_70 (by decide) ?_
              exact am_same rfl (by rw [cnt_n (p := pL f) h31, cnt_n (p := pW f) (decide_eq_false c44), cnt_s (p := pS f n) (by unfold pS; rw [h31, decide_eq_false c44, decide_eq_true g61]; rfl), nI_1 i, nI_1 (1 + cnt (pS f n) i)]; rfl) rfl rfl rfl rfl (ih9 (i + 1) (by omega) (by omega))
          · refine am_iinc (I := iX6_levelOf) (pc := 47) (y := ((nI (1 + cnt (pW f) i)) + 1)) (L' := [some (.ref a), some (.int (nI (cnt (pL f) i))), some (.int ((nI (1 + cnt (pW f) i)) + 1)), some (.int (nI (1 + cnt (pS f n) i))), some (.int (nI i)), some (.int (f i))]) dX6_levelOf_47 rfl rfl rfl ?_
            refine am_goto (I := iX6_levelOf) (pc := 50) (tgt := 67) dX6_levelOf_50 (by decide) ?_
            refine am_forget 5 ?_
            refine am_iinc (I := iX6_levelOf) (pc := 67) (y := ((nI i) + 1)) (L' := [some (.ref a), some (.int (nI (cnt (pL f) i))), some (.int ((nI (1 + cnt (pW f) i)) + 1)), some (.int (nI (1 + cnt (pS f n) i))), some (.int ((nI i) + 1)), none]) dX6_levelOf_67 rfl rfl rfl ?_
            refine am_goto (I := iX6_levelOf) (pc := 70) (tgt := 9) dX6_levelOf_70 (by decide) ?_
            exact am_same rfl (by rw [cnt_n (p := pL f) h31, cnt_s (p := pW f) (decide_eq_true c44), cnt_n (p := pS f n) (by unfold pS; rw [decide_eq_true c44, Bool.not_true, Bool.and_false, Bool.false_and]), nI_1 i, nI_1 (1 + cnt (pW f) i)]; rfl) rfl rfl rfl rfl (ih9 (i + 1) (by omega) (by omega))
        · have h31 : isl (f i) = true := bI_1 c31
          refine am_iinc (I := iX6_levelOf) (pc := 34) (y := ((nI (cnt (pL f) i)) + 1)) (L' := [some (.ref a), some (.int ((nI (cnt (pL f) i)) + 1)), some (.int (nI (1 + cnt (pW f) i))), some (.int (nI (1 + cnt (pS f n) i))), some (.int (nI i)), some (.int (f i))]) dX6_levelOf_34 rfl rfl rfl ?_
          refine am_goto (I := iX6_levelOf) (pc := 37) (tgt := 67) dX6_levelOf_37 (by decide) ?_
          refine am_forget 5 ?_
          refine am_iinc (I := iX6_levelOf) (pc := 67) (y := ((nI i) + 1)) (L' := [some (.ref a), some (.int ((nI (cnt (pL f) i)) + 1)), some (.int (nI (1 + cnt (pW f) i))), some (.int (nI (1 + cnt (pS f n) i))), some (.int ((nI i) + 1)), none]) dX6_levelOf_67 rfl rfl rfl ?_
          refine am_goto (I := iX6_levelOf) (pc := 70) (tgt := 9) dX6_levelOf_70 (by decide) ?_
          exact am_same rfl (by rw [cnt_s (p := pL f) h31, cnt_n (p := pW f) (decide_eq_false (isl_32 h31)), cnt_n (p := pS f n) (by unfold pS; rw [h31]; rfl), nI_1 i, nI_1 (cnt (pL f) i)]) rfl rfl rfl rfl (ih9 (i + 1) (by omega) (by omega))
  exact am_same rfl (by rfl) rfl rfl rfl rfl (loop9 _ 0 (Nat.lt_succ_self _) (Nat.zero_le _))
