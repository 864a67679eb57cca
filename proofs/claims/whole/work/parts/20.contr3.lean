def rl (ck : Nat → Option Nat) (sz : Nat → Nat) (k : Nat) : Nat := match ck k with
  | none => 1
  | some j => sz j
def rcn (ck : Nat → Option Nat) (lt : Nat → Nat → Int32) (g : Nat → Int32) (k : Nat) : Nat → Int32 := match ck k with
  | none => fun _ => os (g k)
  | some j => lt j
def rnn (ck : Nat → Option Nat) (sz : Nat → Nat) : Nat → Nat
  | 0 => 0
  | k + 1 => rnn ck sz k + rl ck sz k
def rff (ck : Nat → Option Nat) (sz : Nat → Nat) (lt : Nat → Nat → Int32) (g cf : Nat → Int32) : Nat → Nat → Int32
  | 0 => cf
  | k + 1 => rcat (rff ck sz lt g cf k) (rnn ck sz k) (rcn ck lt g k) (rl ck sz k)
theorem rnn_mono {ck : Nat → Option Nat} {sz : Nat → Nat} {i : Nat} : ∀ {j}, i ≤ j → rnn ck sz i ≤ rnn ck sz j
  | 0, h => by rw [show i = 0 by omega]; exact Nat.le_refl _
  | j + 1, h => by
    rcases Nat.lt_or_ge i (j + 1) with q | q
    · exact Nat.le_trans (rnn_mono (show i ≤ j by omega)) (Nat.le_add_right _ _)
    · rw [show i = j + 1 by omega]; exact Nat.le_refl _
set_option maxRecDepth 100000 in
set_option maxHeartbeats 4000000 in
theorem m_Con_read (K : am_K) (l : Launch) (S : am_S) (a w : Nat) (CR : Nat → Option Nat) (sz : Nat → Nat) (lt : Nat → Nat → Int32) (ra rb : Nat → Nat) (tot : Int32) (a2 b2 cap2 : Nat) (g : Nat → Int32) (m : Nat) (c cb : Nat) (cf : Nat → Int32) (cn0 : Nat) (ck : Nat → Option Nat) (hc : ct S.1 a w CR sz lt ra rb tot) (ht : rw S.1 a2 b2 cap2 g m) (hcl : rw S.1 c cb 80 cf cn0) (hne : a2 ≠ c ∧ b2 ≠ cb) (hnk : ∀ k, k < 36 → 0 < sz k → ra k ≠ c ∧ rb k ≠ cb) (hck : ∀ k, k < m → (ck k = none ∧ g k < 28) ∨ ∃ j, ck k = some j ∧ g k = nI (28 + j) ∧ j < 36 ∧ 0 < sz j) (h80 : rnn ck sz m ≤ 80) : am_M K l iX1_read 2 0 0 [.ref a, .ref a2, .ref c] S (fun v S' => v = none ∧ rwS S c cb 80 (rff ck sz lt g cf m) (rnn ck sz m) = S') (fun _ _ => False) := by
  refine am_body (by decide) rfl (by simp [Value.category]) (Nat.le_of_ble_eq_true rfl) (fun xp xe xs xm xa xb xt xc ad0 => ?_)
  show am_W _ _ _ _ _ _ _ _ _ _ _ _ _ _ _ 0 [some (.ref a), some (.ref a2), some (.ref c), none, none, none] [] S 0 0
  have hall : ∀ k, k ≤ m → ct (rwS S c cb 80 (rff ck sz lt g cf k) (rnn ck sz k)).1 a w CR sz lt ra rb tot ∧ rw (rwS S c cb 80 (rff ck sz lt g cf k) (rnn ck sz k)).1 a2 b2 cap2 g m ∧ rw (rwS S c cb 80 (rff ck sz lt g cf k) (rnn ck sz k)).1 c cb 80 (rff ck sz lt g cf k) (rnn ck sz k) := by
    intro k hk
    have f1 : a2 ≠ cb := am_ne ht.1 hcl.2.1 (fun e => by cases e)
    have f2 : b2 ≠ c := am_ne ht.2.1 hcl.1 (fun e => by cases e)
    refine ⟨ct_keep hc (rwS_at (am_ne hc.1 hcl.1 (fun e => by cases e)) (am_ne hc.1 hcl.2.1 (fun e => by cases e))) (rwS_at (am_ne hc.2.1 hcl.1 (fun e => by cases e)) (am_ne hc.2.1 hcl.2.1 (fun e => by cases e))) (fun j hj h0 => ?_), rw_keep ht (rwS_at hne.1 f1) (rwS_at f2 hne.2), rwS_rw (rw_ne hcl) (Nat.le_trans (rnn_mono hk) h80) (Nat.le_refl _)⟩
    obtain ⟨-, hrj, -, -⟩ := ct_row hc hj h0
    exact ⟨rwS_at (hnk j hj h0).1 (am_ne hrj.1 hcl.2.1 (fun e => by cases e)), rwS_at (am_ne hrj.2.1 hcl.1 (fun e => by cases e)) (hnk j hj h0).2⟩
  have hm80 : m ≤ 80 := by have := ht.2.2.1; have := ht.2.2.2; omega
  refine am_aload_n (I := iX1_read) (pc := 0) dX1_read_0 rfl rfl ?_
  refine am_callV (I := iX1_read) (pc := 1) (st := []) lv_X1_33 (m_Row_empty K l _ c cb 80 cf cn0 hcl) dX1_read_1 hcl.1 rfl (Nat.le_of_ble_eq_true rfl) ⟨Nat.le_of_ble_eq_true rfl, Nat.le_of_ble_eq_true rfl⟩ (Nat.le_of_ble_eq_true rfl) (Nat.le_of_ble_eq_true rfl) rfl (fun v9 T9 z9 _ => ?_) (fun _ _ h9 => h9.elim)
  obtain ⟨rfl, eT9⟩ := z9
  have eS0 : T9 = rwS S c cb 80 (rff ck sz lt g cf 0) (rnn ck sz 0) := by
    rw [← eT9, rff, rnn]
    unfold rwS
    rw [am_up_id hcl.2.1, nI_0]
  subst eS0
  show am_W _ _ _ _ _ _ _ _ _ _ _ _ _ _ _ 4 [some (.ref a), some (.ref a2), some (.ref c), none, none, none] [] (rwS S c cb 80 (rff ck sz lt g cf 0) (rnn ck sz 0)) 0 0
  refine am_iconst (I := iX1_read) (pc := 4) (x := 0) dX1_read_4 (by decide) ?_
  refine am_istore_n (I := iX1_read) (pc := 5) (L' := [some (.ref a), some (.ref a2), some (.ref c), some (.int 0), none, none]) dX1_read_5 rfl (by decide) rfl ?_
  have loop6 : ∀ (k6 : Nat) (k : Nat), m - k < k6 → (k ≤ m) → am_W K iX1_read xp l xe (am_room 2 0 0) xs xm xa xb xt xc S ad0 (am_E K ad0 S (fun v S' => v = none ∧ rwS S c cb 80 (rff ck sz lt g cf m) (rnn ck sz m) = S') (fun _ _ => False) xb xa xs 0 0) 6 [some (.ref a), some (.ref a2), some (.ref c), some (.int (nI k)), none, none] [] (rwS S c cb 80 (rff ck sz lt g cf k) (rnn ck sz k)) 0 0 := by
    intro k6
    induction k6 with
    | zero => intro k h9; exact absurd h9 (Nat.not_lt_zero _)
    | succ k6 ih6 =>
      intro k hm6 hkm
      obtain ⟨hcc, htk, hlk⟩ := hall k hkm
      refine am_iload_n (I := iX1_read) (pc := 6) dX1_read_6 rfl rfl ?_
      refine am_aload_n (I := iX1_read) (pc := 7) dX1_read_7 rfl rfl ?_
      refine am_callV (I := iX1_read) (pc := 8) (st := [.int (nI k)]) lv_X1_29 (m_Row_length K l _ a2 b2 cap2 g m htk) dX1_read_8 htk.1 rfl (Nat.le_of_ble_eq_true rfl) ⟨Nat.le_of_ble_eq_true rfl, Nat.le_of_ble_eq_true rfl⟩ (Nat.le_of_ble_eq_true rfl) (Nat.le_of_ble_eq_true rfl) rfl (fun v9 T9 z9 _ => ?_) (fun _ _ h9 => h9.elim)
      obtain ⟨rfl, rfl⟩ := z9
      show am_W _ _ _ _ _ _ _ _ _ _ _ _ _ _ _ 11 [some (.ref a), some (.ref a2), some (.ref c), some (.int (nI k)), none, none] [.int (nI m), .int (nI k)] (rwS S c cb 80 (rff ck sz lt g cf k) (rnn ck sz k)) 0 0
      refine am_icmp_ge (I := iX1_read) (pc := 11) (tgt := 58) dX1_read_11 (by decide) (fun c11 => ?_) (fun c11 => ?_)
      · have g11 : m ≤ k := by
          rcases Nat.lt_or_ge k m with q9 | q9
          · exact absurd c11 (nI_ge (a := k) (b := m) q9 (by omega))
          · exact q9
        exact am_vret (I := iX1_read) (pc := 58) dX1_read_58 rfl (Nat.le_refl _) (Nat.le_refl _) (⟨rfl, by rw [show k = m by omega]⟩)
      · have l11 : k < m := by
          rcases Nat.lt_or_ge k m with q9 | q9
          · exact q9
          · exact absurd (nI_le (a := m) (b := k) q9 (by omega)) c11
        refine am_aload_n (I := iX1_read) (pc := 14) dX1_read_14 rfl rfl ?_
        refine am_iload_n (I := iX1_read) (pc := 15) dX1_read_15 rfl rfl ?_
        refine am_callV (I := iX1_read) (pc := 16) (st := []) lv_X1_36 (m_Row_at K l _ a2 b2 cap2 g m (nI k) htk) dX1_read_16 htk.1 rfl (Nat.le_of_ble_eq_true rfl) ⟨Nat.le_of_ble_eq_true rfl, Nat.le_of_ble_eq_true rfl⟩ (Nat.le_of_ble_eq_true rfl) (Nat.le_of_ble_eq_true rfl) rfl (fun v9 T9 z9 _ => ?_) (fun _ _ h9 => h9.elim)
        obtain ⟨rfl, rfl⟩ := z9
        show am_W _ _ _ _ _ _ _ _ _ _ _ _ _ _ _ 19 [some (.ref a), some (.ref a2), some (.ref c), some (.int (nI k)), none, none] [.int (rv g m (nI k))] (rwS S c cb 80 (rff ck sz lt g cf k) (rnn ck sz k)) 0 0
        rw [rv_nI l11 (by omega)]
        have hmono : rnn ck sz (k + 1) ≤ 80 := Nat.le_trans (rnn_mono (show k + 1 ≤ m by omega)) h80
        rcases hck k l11 with ⟨en, hg⟩ | ⟨j, en, eg, hj, h0⟩
        · have erl : rl ck sz k = 1 := by unfold rl; rw [en]
          have ern : rcn ck lt g k = fun _ => os (g k) := by unfold rcn; rw [en]
          rw [rnn, erl] at hmono
          refine am_istore (I := iX1_read) (pc := 19) (L' := [some (.ref a), some (.ref a2), some (.ref c), some (.int (nI k)), some (.int (g k)), none]) dX1_read_19 (by decide) rfl ?_
          refine am_aload_n (I := iX1_read) (pc := 21) dX1_read_21 rfl rfl ?_
          refine am_iload (I := iX1_read) (pc := 22) dX1_read_22 rfl ?_
          refine am_callV (I := iX1_read) (pc := 24) (st := []) lv_X1_25 (m_Con_rowOf0 K l _ a w CR sz lt ra rb tot (g k) hcc (Or.inl hg)) dX1_read_24 hcc.1 rfl (Nat.le_of_ble_eq_true rfl) ⟨Nat.le_of_ble_eq_true rfl, Nat.le_of_ble_eq_true rfl⟩ (Nat.le_of_ble_eq_true rfl) (Nat.le_of_ble_eq_true rfl) rfl (fun v9 T9 z9 _ => ?_) (fun _ _ h9 => h9.elim)
          obtain ⟨rfl, rfl⟩ := z9
          show am_W _ _ _ _ _ _ _ _ _ _ _ _ _ _ _ 27 [some (.ref a), some (.ref a2), some (.ref c), some (.int (nI k)), some (.int (g k)), none] [.null] (rwS S c cb 80 (rff ck sz lt g cf k) (rnn ck sz k)) 0 0
          refine am_astoreN (I := iX1_read) (pc := 27) (L' := [some (.ref a), some (.ref a2), some (.ref c), some (.int (nI k)), some (.int (g k)), some (.null)]) dX1_read_27 (by decide) rfl ?_
          refine am_aloadN (I := iX1_read) (pc := 29) dX1_read_29 rfl ?_
          refine am_ifnonnullN (I := iX1_read) (pc := 31) dX1_read_31 ?_
          refine am_aload_n (I := iX1_read) (pc := 34) dX1_read_34 rfl rfl ?_
          refine am_iload (I := iX1_read) (pc := 35) dX1_read_35 rfl ?_
          refine am_callSN (I := iX1_read) (pc := 37) (st := [.ref c]) lv_X1_47 rfl (m_ownSign K l _ (g k)) dX1_read_37 rfl (Nat.le_of_ble_eq_true rfl) ⟨Nat.le_of_ble_eq_true rfl, Nat.le_of_ble_eq_true rfl⟩ (Nat.le_of_ble_eq_true rfl) (Nat.le_of_ble_eq_true rfl) rfl (fun v9 T9 z9 _ => ?_)
          obtain ⟨rfl, rfl⟩ := z9
          show am_W _ _ _ _ _ _ _ _ _ _ _ _ _ _ _ 40 [some (.ref a), some (.ref a2), some (.ref c), some (.int (nI k)), some (.int (g k)), some (.null)] [.int (os (g k)), .ref c] (rwS S c cb 80 (rff ck sz lt g cf k) (rnn ck sz k)) 0 0
          refine am_callV (I := iX1_read) (pc := 40) (st := []) lv_X1_43 (m_Row_add K l _ c cb 80 (rff ck sz lt g cf k) (rnn ck sz k) (os (g k)) hlk) dX1_read_40 hlk.1 rfl (Nat.le_of_ble_eq_true rfl) ⟨Nat.le_of_ble_eq_true rfl, Nat.le_of_ble_eq_true rfl⟩ (Nat.le_of_ble_eq_true rfl) (Nat.le_of_ble_eq_true rfl) rfl (fun v9 T9 z9 _ => ?_) (fun _ _ h9 => h9.elim)
          obtain ⟨rfl, eT9⟩ := z9
          have eS1 : T9 = rwS S c cb 80 (rff ck sz lt g cf (k + 1)) (rnn ck sz (k + 1)) := by
            rw [← eT9, rw_add_lt (by omega), rwS_rwS (rw_ne hcl), rff, rnn, erl, ern]
            have e8 := rcat_s (f := rff ck sz lt g cf k) (g := fun _ => os (g k)) (n := rnn ck sz k) (k := 0)
            rw [rcat_0, Nat.add_zero] at e8
            rw [e8]
          subst eS1
          show am_W _ _ _ _ _ _ _ _ _ _ _ _ _ _ _ 43 [some (.ref a), some (.ref a2), some (.ref c), some (.int (nI k)), some (.int (g k)), some (.null)] [] (rwS S c cb 80 (rff ck sz lt g cf (k + 1)) (rnn ck sz (k + 1))) 0 0
          refine am_goto (I := iX1_read) (pc := 43) (tgt := 52) dX1_read_43 (by decide) ?_
          refine am_forget 4 (am_forget 5 ?_)
          refine am_iinc (I := iX1_read) (pc := 52) (y := ((nI k) + 1)) (L' := [some (.ref a), some (.ref a2), some (.ref c), some (.int ((nI k) + 1)), none, none]) dX1_read_52 rfl rfl rfl ?_
          refine am_goto (I := iX1_read) (pc := 55) (tgt := 6) dX1_read_55 (by decide) ?_
          exact am_same rfl (by rw [nI_1 k]) rfl rfl rfl rfl (ih6 (k + 1) (by omega) (by omega))
        · have erl : rl ck sz k = sz j := by unfold rl; rw [en]
          have ern : rcn ck lt g k = lt j := by unfold rcn; rw [en]
          rw [rnn, erl] at hmono
          obtain ⟨hs, hrw, h2, h5⟩ := ct_row hcc hj h0
          rw [eg]
          refine am_istore (I := iX1_read) (pc := 19) (L' := [some (.ref a), some (.ref a2), some (.ref c), some (.int (nI k)), some (.int (nI (28 + j))), none]) dX1_read_19 (by decide) rfl ?_
          refine am_aload_n (I := iX1_read) (pc := 21) dX1_read_21 rfl rfl ?_
          refine am_iload (I := iX1_read) (pc := 22) dX1_read_22 rfl ?_
          refine am_callV (I := iX1_read) (pc := 24) (st := []) lv_X1_25 (m_Con_rowOfS K l _ a w CR sz lt ra rb tot j (ra j) hcc hj hs) dX1_read_24 hcc.1 rfl (Nat.le_of_ble_eq_true rfl) ⟨Nat.le_of_ble_eq_true rfl, Nat.le_of_ble_eq_true rfl⟩ (Nat.le_of_ble_eq_true rfl) (Nat.le_of_ble_eq_true rfl) rfl (fun v9 T9 z9 _ => ?_) (fun _ _ h9 => h9.elim)
          obtain ⟨rfl, rfl⟩ := z9
          show am_W _ _ _ _ _ _ _ _ _ _ _ _ _ _ _ 27 [some (.ref a), some (.ref a2), some (.ref c), some (.int (nI k)), some (.int (nI (28 + j))), none] [.ref (ra j)] (rwS S c cb 80 (rff ck sz lt g cf k) (rnn ck sz k)) 0 0
          refine am_astore (I := iX1_read) (pc := 27) (L' := [some (.ref a), some (.ref a2), some (.ref c), some (.int (nI k)), some (.int (nI (28 + j))), some (.ref (ra j))]) dX1_read_27 (by decide) rfl ?_
          refine am_aload (I := iX1_read) (pc := 29) dX1_read_29 rfl ?_
          refine am_ifnonnull (I := iX1_read) (pc := 31) (tgt := 46) dX1_read_31 (by decide) ?_
          refine am_aload_n (I := iX1_read) (pc := 46) dX1_read_46 rfl rfl ?_
          refine am_aload (I := iX1_read) (pc := 47) dX1_read_47 rfl ?_
          refine am_callV (I := iX1_read) (pc := 49) (st := []) lv_X1_50 (m_Row_addAll K l _ c cb 80 (rff ck sz lt g cf k) (rnn ck sz k) (ra j) (rb j) (sz j) (lt j) (sz j) hlk hrw ⟨(hnk j hj h0).1, am_ne hrw.1 hlk.2.1 (fun e => by cases e), am_ne hrw.2.1 hlk.1 (fun e => by cases e), (hnk j hj h0).2⟩ (by omega)) dX1_read_49 hlk.1 rfl (Nat.le_of_ble_eq_true rfl) ⟨Nat.le_of_ble_eq_true rfl, Nat.le_of_ble_eq_true rfl⟩ (Nat.le_of_ble_eq_true rfl) (Nat.le_of_ble_eq_true rfl) rfl (fun v9 T9 z9 _ => ?_) (fun _ _ h9 => h9.elim)
          obtain ⟨rfl, eT9⟩ := z9
          have eS1 : T9 = rwS S c cb 80 (rff ck sz lt g cf (k + 1)) (rnn ck sz (k + 1)) := by
            rw [← eT9, rwS_rwS (rw_ne hcl), rff, rnn, erl, ern]
          subst eS1
          show am_W _ _ _ _ _ _ _ _ _ _ _ _ _ _ _ 52 [some (.ref a), some (.ref a2), some (.ref c), some (.int (nI k)), some (.int (nI (28 + j))), some (.ref (ra j))] [] (rwS S c cb 80 (rff ck sz lt g cf (k + 1)) (rnn ck sz (k + 1))) 0 0
          refine am_forget 4 (am_forget 5 ?_)
          refine am_iinc (I := iX1_read) (pc := 52) (y := ((nI k) + 1)) (L' := [some (.ref a), some (.ref a2), some (.ref c), some (.int ((nI k) + 1)), none, none]) dX1_read_52 rfl rfl rfl ?_
          refine am_goto (I := iX1_read) (pc := 55) (tgt := 6) dX1_read_55 (by decide) ?_
          exact am_same rfl (by rw [nI_1 k]) rfl rfl rfl rfl (ih6 (k + 1) (by omega) (by omega))
  exact am_same rfl (by rfl) rfl rfl rfl rfl (loop6 _ 0 (Nat.lt_succ_self _) (Nat.zero_le _))
