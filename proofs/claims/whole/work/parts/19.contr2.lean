theorem ct_row {h : Nat → am_C} {a w : Nat} {CR : Nat → Option Nat} {sz : Nat → Nat} {lt : Nat → Nat → Int32} {ra rb : Nat → Nat} {tot : Int32} (hc : ct h a w CR sz lt ra rb tot) {j : Nat} (hj : j < 36) (h0 : 0 < sz j) : CR j = some (ra j) ∧ rw h (ra j) (rb j) (sz j) (lt j) (sz j) ∧ 2 ≤ sz j ∧ sz j ≤ 5 := by
  rcases hc.2.2 j hj with ⟨-, hz⟩ | h
  · omega
  · exact h
theorem rw_keep {h h' : Nat → am_C} {a b cap : Nat} {f : Nat → Int32} {n : Nat} (hr : rw h a b cap f n) (ha : h' a = h a) (hb : h' b = h b) : rw h' a b cap f n := ⟨ha.trans hr.1, hb.trans hr.2.1, hr.2.2⟩
theorem ct_keep {h h' : Nat → am_C} {a w : Nat} {CR : Nat → Option Nat} {sz : Nat → Nat} {lt : Nat → Nat → Int32} {ra rb : Nat → Nat} {tot : Int32} (hc : ct h a w CR sz lt ra rb tot) (ha : h' a = h a) (hw : h' w = h w) (hk : ∀ k, k < 36 → 0 < sz k → h' (ra k) = h (ra k) ∧ h' (rb k) = h (rb k)) : ct h' a w CR sz lt ra rb tot := by
  refine ⟨ha.trans hc.1, hw.trans hc.2.1, fun k h36 => ?_⟩
  rcases hc.2.2 k h36 with h | ⟨h1, h2, h3, h4⟩
  · exact Or.inl h
  · obtain ⟨e1, e2⟩ := hk k h36 (by omega)
    exact Or.inr ⟨h1, rw_keep h2 e1 e2, h3, h4⟩
set_option maxRecDepth 100000 in
set_option maxHeartbeats 4000000 in
theorem m_Con_has (K : am_K) (l : Launch) (S : am_S) (a w : Nat) (CR : Nat → Option Nat) (sz : Nat → Nat) (lt : Nat → Nat → Int32) (ra rb : Nat → Nat) (tot : Int32) (a2 b2 cap2 : Nat) (g : Nat → Int32) (m : Nat) (hc : ct S.1 a w CR sz lt ra rb tot) (ht : rw S.1 a2 b2 cap2 g m) (hm : 2 ≤ m) : am_M K l iX1_has 3 0 0 [.ref a, .ref a2] S (fun v S' => v = some (.int (bI (decide ((lg sz lt g m 0 36).2 = m)))) ∧ S = S') (fun _ _ => False) := by
  refine am_body (by decide) rfl (by simp [Value.category]) (Nat.le_of_ble_eq_true rfl) (fun xp xe xs xm xa xb xt xc ad0 => ?_)
  show am_W _ _ _ _ _ _ _ _ _ _ _ _ _ _ _ 0 [some (.ref a), some (.ref a2), none, none] [] S 0 0
  refine am_aload_n (I := iX1_has) (pc := 0) dX1_has_0 rfl rfl ?_
  refine am_aload_n (I := iX1_has) (pc := 1) dX1_has_1 rfl rfl ?_
  refine am_iconst (I := iX1_has) (pc := 2) (x := 0) dX1_has_2 (by decide) ?_
  refine am_callV (I := iX1_has) (pc := 3) (st := []) lv_X1_21 (m_Con_longestAt K l _ a w CR sz lt ra rb tot a2 b2 cap2 g m 0 hc ht) dX1_has_3 hc.1 rfl (Nat.le_of_ble_eq_true rfl) ⟨Nat.le_of_ble_eq_true rfl, Nat.le_of_ble_eq_true rfl⟩ (Nat.le_of_ble_eq_true rfl) (Nat.le_of_ble_eq_true rfl) rfl (fun v9 T9 z9 _ => ?_) (fun _ _ h9 => h9.elim)
  obtain ⟨rfl, rfl⟩ := z9
  show am_W _ _ _ _ _ _ _ _ _ _ _ _ _ _ _ 6 [some (.ref a), some (.ref a2), none, none] [.int (lg sz lt g m 0 36).1] S 0 0
  rcases lg_or (sz := sz) (lt := lt) (g := g) (m := m) (fr := 0) 36 with e36 | ⟨j, hj, e36, h0⟩
  · rw [e36]
    refine am_istore_n (I := iX1_has) (pc := 6) (L' := [some (.ref a), some (.ref a2), some (.int (-1)), none]) dX1_has_6 rfl (by decide) rfl ?_
    refine am_aload_n (I := iX1_has) (pc := 7) dX1_has_7 rfl rfl ?_
    refine am_iload_n (I := iX1_has) (pc := 8) dX1_has_8 rfl rfl ?_
    refine am_callV (I := iX1_has) (pc := 9) (st := []) lv_X1_25 (m_Con_rowOf0 K l _ a w CR sz lt ra rb tot (-1) hc (Or.inl (by decide))) dX1_has_9 hc.1 rfl (Nat.le_of_ble_eq_true rfl) ⟨Nat.le_of_ble_eq_true rfl, Nat.le_of_ble_eq_true rfl⟩ (Nat.le_of_ble_eq_true rfl) (Nat.le_of_ble_eq_true rfl) rfl (fun v9 T9 z9 _ => ?_) (fun _ _ h9 => h9.elim)
    obtain ⟨rfl, rfl⟩ := z9
    show am_W _ _ _ _ _ _ _ _ _ _ _ _ _ _ _ 12 [some (.ref a), some (.ref a2), some (.int (-1)), none] [.null] S 0 0
    refine am_astore_nN (I := iX1_has) (pc := 12) (L' := [some (.ref a), some (.ref a2), some (.int (-1)), some (.null)]) dX1_has_12 rfl (by decide) rfl ?_
    refine am_aload_nN (I := iX1_has) (pc := 13) dX1_has_13 rfl rfl ?_
    refine am_ifnullN (I := iX1_has) (pc := 14) (tgt := 32) dX1_has_14 (by decide) ?_
    refine am_iconst (I := iX1_has) (pc := 32) (x := 0) dX1_has_32 (by decide) ?_
    exact am_zret (I := iX1_has) (pc := 33) dX1_has_33 rfl (by decide) (Nat.le_refl _) (Nat.le_refl _) (⟨by rw [bI_f (decide_eq_false (by show ¬ 0 = m; omega))], rfl⟩)
  · rw [e36]
    obtain ⟨hs, hrw, h2, h5⟩ := ct_row hc hj h0
    refine am_istore_n (I := iX1_has) (pc := 6) (L' := [some (.ref a), some (.ref a2), some (.int (nI (28 + j))), none]) dX1_has_6 rfl (by decide) rfl ?_
    refine am_aload_n (I := iX1_has) (pc := 7) dX1_has_7 rfl rfl ?_
    refine am_iload_n (I := iX1_has) (pc := 8) dX1_has_8 rfl rfl ?_
    refine am_callV (I := iX1_has) (pc := 9) (st := []) lv_X1_25 (m_Con_rowOfS K l _ a w CR sz lt ra rb tot j (ra j) hc hj hs) dX1_has_9 hc.1 rfl (Nat.le_of_ble_eq_true rfl) ⟨Nat.le_of_ble_eq_true rfl, Nat.le_of_ble_eq_true rfl⟩ (Nat.le_of_ble_eq_true rfl) (Nat.le_of_ble_eq_true rfl) rfl (fun v9 T9 z9 _ => ?_) (fun _ _ h9 => h9.elim)
    obtain ⟨rfl, rfl⟩ := z9
    show am_W _ _ _ _ _ _ _ _ _ _ _ _ _ _ _ 12 [some (.ref a), some (.ref a2), some (.int (nI (28 + j))), none] [.ref (ra j)] S 0 0
    refine am_astore_n (I := iX1_has) (pc := 12) (L' := [some (.ref a), some (.ref a2), some (.int (nI (28 + j))), some (.ref (ra j))]) dX1_has_12 rfl (by decide) rfl ?_
    refine am_aload_n (I := iX1_has) (pc := 13) dX1_has_13 rfl rfl ?_
    refine am_ifnull (I := iX1_has) (pc := 14) dX1_has_14 ?_
    refine am_aload_n (I := iX1_has) (pc := 17) dX1_has_17 rfl rfl ?_
    refine am_callV (I := iX1_has) (pc := 18) (st := []) lv_X1_29 (m_Row_length K l _ (ra j) (rb j) (sz j) (lt j) (sz j) hrw) dX1_has_18 hrw.1 rfl (Nat.le_of_ble_eq_true rfl) ⟨Nat.le_of_ble_eq_true rfl, Nat.le_of_ble_eq_true rfl⟩ (Nat.le_of_ble_eq_true rfl) (Nat.le_of_ble_eq_true rfl) rfl (fun v9 T9 z9 _ => ?_) (fun _ _ h9 => h9.elim)
    obtain ⟨rfl, rfl⟩ := z9
    show am_W _ _ _ _ _ _ _ _ _ _ _ _ _ _ _ 21 [some (.ref a), some (.ref a2), some (.int (nI (28 + j))), some (.ref (ra j))] [.int (nI (sz j))] S 0 0
    refine am_aload_n (I := iX1_has) (pc := 21) dX1_has_21 rfl rfl ?_
    refine am_callV (I := iX1_has) (pc := 22) (st := [.int (nI (sz j))]) lv_X1_29 (m_Row_length K l _ a2 b2 cap2 g m ht) dX1_has_22 ht.1 rfl (Nat.le_of_ble_eq_true rfl) ⟨Nat.le_of_ble_eq_true rfl, Nat.le_of_ble_eq_true rfl⟩ (Nat.le_of_ble_eq_true rfl) (Nat.le_of_ble_eq_true rfl) rfl (fun v9 T9 z9 _ => ?_) (fun _ _ h9 => h9.elim)
    obtain ⟨rfl, rfl⟩ := z9
    show am_W _ _ _ _ _ _ _ _ _ _ _ _ _ _ _ 25 [some (.ref a), some (.ref a2), some (.int (nI (28 + j))), some (.ref (ra j))] [.int (nI m), .int (nI (sz j))] S 0 0
    refine am_icmp_ne (I := iX1_has) (pc := 25) (tgt := 32) dX1_has_25 (by decide) (fun c25 => ?_) (fun c25 => ?_)
    · refine am_iconst (I := iX1_has) (pc := 32) (x := 0) dX1_has_32 (by decide) ?_
      exact am_zret (I := iX1_has) (pc := 33) dX1_has_33 rfl (by decide) (Nat.le_refl _) (Nat.le_refl _) (⟨by rw [bI_f (decide_eq_false (fun q9 => c25 (congrArg nI q9)))], rfl⟩)
    · refine am_iconst (I := iX1_has) (pc := 28) (x := 1) dX1_has_28 (by decide) ?_
      refine am_goto (I := iX1_has) (pc := 29) (tgt := 33) dX1_has_29 (by decide) ?_
      exact am_zret (I := iX1_has) (pc := 33) dX1_has_33 rfl (by decide) (Nat.le_refl _) (Nat.le_refl _) (⟨by rw [bI_t (decide_eq_true (by exact (nI_eq (by omega) (by have := ht.2.2.1; have := ht.2.2.2; omega)).mp c25))], rfl⟩)
def ctS (S : am_S) (a w : Nat) (CR : Nat → Option Nat) (tot : Int32) : am_S := (am_up (am_up S.1 w (.inl (2, 36, .inr (.inr (.inr (.inr CR)))))) a (.inr (1, [.ref w, .int tot])), S.2)
set_option maxRecDepth 100000 in
set_option maxHeartbeats 4000000 in
theorem m_Con_put (K : am_K) (l : Launch) (S : am_S) (a w : Nat) (CR : Nat → Option Nat) (sz : Nat → Nat) (lt : Nat → Nat → Int32) (ra rb : Nat → Nat) (tot : Int32) (k r r2 : Nat) (rn : Int32) (hc : ct S.1 a w CR sz lt ra rb tot) (hk : k < 36) (hr : S.1 r = .inr (3, [.ref r2, .int rn])) : am_M K l iX1_put 0 0 0 [.ref a, .int (nI (28 + k)), .ref r] S (fun v S' => v = none ∧ ctS S a w (va_up CR k (some r)) (tot + 1) = S') (fun _ _ => False) := by
  refine am_body (by decide) rfl (by simp [Value.category]) (Nat.le_of_ble_eq_true rfl) (fun xp xe xs xm xa xb xt xc ad0 => ?_)
  show am_W _ _ _ _ _ _ _ _ _ _ _ _ _ _ _ 0 [some (.ref a), some (.int (nI (28 + k))), some (.ref r)] [] S 0 0
  refine am_iload_n (I := iX1_put) (pc := 0) dX1_put_0 rfl rfl ?_
  refine am_bipush (I := iX1_put) (pc := 1) (x := 28) dX1_put_1 (by decide) ?_
  refine am_icmp_lt (I := iX1_put) (pc := 3) (tgt := 12) dX1_put_3 (by decide) (fun c3 => ?_) (fun c3 => ?_)
  · exact absurd c3 (nI_nlt (a := 28 + k) (b := 28) (by omega) (by omega))
  · refine am_iload_n (I := iX1_put) (pc := 6) dX1_put_6 rfl rfl ?_
    refine am_bipush (I := iX1_put) (pc := 7) (x := 63) dX1_put_7 (by decide) ?_
    refine am_icmp_le (I := iX1_put) (pc := 9) (tgt := 13) dX1_put_9 (by decide) (fun c9 => ?_) (fun c9 => ?_)
    · refine am_aload_n (I := iX1_put) (pc := 13) dX1_put_13 rfl rfl ?_
      refine am_getf (I := iX1_put) (pc := 14) lf_X1_11 dX1_put_14 hc.1 rfl ?_
      refine am_iload_n (I := iX1_put) (pc := 17) dX1_put_17 rfl rfl ?_
      refine am_bipush (I := iX1_put) (pc := 18) (x := 28) dX1_put_18 (by decide) ?_
      refine am_isub (I := iX1_put) (pc := 20) dX1_put_20 ?_
      have e9 : nI (28 + k) - 28 = nI k := by rw [show (28 : Int32) = nI 28 from rfl, pk_sub (by omega), Nat.add_sub_cancel_left]
      rw [e9]
      refine am_aload_n (I := iX1_put) (pc := 21) dX1_put_21 rfl rfl ?_
      refine am_aastore (I := iX1_put) (pc := 22) (ci := 3) dX1_put_22 hc.2.1 rfl rfl (vp_in_nI hk (by decide)) hr ?_
      generalize eT1 : ((am_up S.1 w (.inl (2, 36, .inr (.inr (.inr (.inr (va_up CR (nI k).toNatClampNeg (some r))))))), S.2) : am_S) = T1
      have k1 : T1.1 a = (.inr (1, [.ref w, .int tot])) := by rw [← eT1]; exact (am_up_n (am_ne hc.1 hc.2.1 (fun e9 => by cases e9))).trans hc.1
      have k2 : T1.1 w = (.inl (2, 36, .inr (.inr (.inr (.inr (va_up CR (nI k).toNatClampNeg (some r))))))) := by rw [← eT1]; exact am_up_s
      have k3 : T1.1 r = (.inr (3, [.ref r2, .int rn])) := by rw [← eT1]; exact (am_up_n (am_ne hr hc.2.1 (fun e9 => by cases e9))).trans hr
      refine am_aload_n (I := iX1_put) (pc := 23) dX1_put_23 rfl rfl ?_
      refine am_dup (I := iX1_put) (pc := 24) dX1_put_24 rfl ?_
      refine am_getf (I := iX1_put) (pc := 25) lf_X1_17 dX1_put_25 k1 rfl ?_
      refine am_iconst (I := iX1_put) (pc := 28) (x := 1) dX1_put_28 (by decide) ?_
      refine am_iadd (I := iX1_put) (pc := 29) dX1_put_29 ?_
      refine am_putf (I := iX1_put) (pc := 30) (fs' := [.ref w, .int (tot + 1)]) lf_X1_17 dX1_put_30 k1 (fun _ => ⟨rfl, rfl⟩) (Nat.le_of_ble_eq_true rfl) rfl ?_
      generalize eT2 : ((am_up T1.1 a (.inr (1, [.ref w, .int (tot + 1)])), T1.2) : am_S) = T2
      have k4 : T2.1 a = (.inr (1, [.ref w, .int (tot + 1)])) := by rw [← eT2]; exact am_up_s
      have k5 : T2.1 w = (.inl (2, 36, .inr (.inr (.inr (.inr (va_up CR (nI k).toNatClampNeg (some r))))))) := by rw [← eT2]; exact (am_up_n (am_ne k2 k1 (fun e9 => by cases e9))).trans k2
      have k6 : T2.1 r = (.inr (3, [.ref r2, .int rn])) := by rw [← eT2]; exact (am_up_n (am_ne k3 k1 (fun e9 => by cases e9))).trans k3
      exact am_vret (I := iX1_put) (pc := 33) dX1_put_33 rfl (Nat.le_refl _) (Nat.le_refl _) (⟨rfl, by unfold ctS; rw [← eT2, ← eT1, nI_clamp (show k < 2 ^ 31 by omega)]⟩)
    · exact absurd (nI_le (a := 28 + k) (b := 63) (by omega) (by omega)) c9
def wcl (sz : Nat → Nat) (lt : Nat → Nat → Int32) (g : Nat → Int32) (m i : Nat) : Int32 := if (lg sz lt g m (nI i) 36).2 = 0 then oc (g i) else (lg sz lt g m (nI i) 36).1
def wst (sz : Nat → Nat) (lt : Nat → Nat → Int32) (g : Nat → Int32) (m i : Nat) : Nat := if (lg sz lt g m (nI i) 36).2 = 0 then 1 else (lg sz lt g m (nI i) 36).2
/-- places of the cells, by a step at each place -/
def wps (st : Nat → Nat) : Nat → Nat
  | 0 => 0
  | k + 1 => wps st k + st (wps st k)
def wns (st : Nat → Nat) (m : Nat) : Nat → Nat → Nat
  | 0, _ => 0
  | k + 1, i => if i < m then wns st m k (i + st i) + 1 else 0
theorem wns_out {st : Nat → Nat} {m i : Nat} (h : m ≤ i) : ∀ k, wns st m k i = 0
  | 0 => rfl
  | k + 1 => by rw [wns, if_neg (by omega)]
set_option maxRecDepth 100000 in
set_option maxHeartbeats 4000000 in
theorem m_Con_write (K : am_K) (l : Launch) (S : am_S) (a w : Nat) (CR : Nat → Option Nat) (sz : Nat → Nat) (lt : Nat → Nat → Int32) (ra rb : Nat → Nat) (tot : Int32) (a2 b2 cap2 : Nat) (g : Nat → Int32) (m : Nat) (c cb : Nat) (cf : Nat → Int32) (cn0 : Nat) (hc : ct S.1 a w CR sz lt ra rb tot) (ht : rw S.1 a2 b2 cap2 g m) (hcl : rw S.1 c cb 80 cf cn0) (hne : a2 ≠ c ∧ b2 ≠ cb) (hnk : ∀ k, k < 36 → 0 < sz k → ra k ≠ c ∧ rb k ≠ cb) : am_M K l iX1_write 3 0 0 [.ref a, .ref a2, .ref c] S (fun v S' => v = none ∧ rwS S c cb 80 (rcat cf 0 (fun j => wcl sz lt g m (wps (wst sz lt g m) j)) (wns (wst sz lt g m) m m 0)) (wns (wst sz lt g m) m m 0) = S') (fun _ _ => False) := by
  refine am_body (by decide) rfl (by simp [Value.category]) (Nat.le_of_ble_eq_true rfl) (fun xp xe xs xm xa xb xt xc ad0 => ?_)
  show am_W _ _ _ _ _ _ _ _ _ _ _ _ _ _ _ 0 [some (.ref a), some (.ref a2), some (.ref c), none, none, none, none] [] S 0 0
  have hall : ∀ k, k ≤ 80 → ct (rwS S c cb 80 (rcat cf 0 (fun j => wcl sz lt g m (wps (wst sz lt g m) j)) k) k).1 a w CR sz lt ra rb tot ∧ rw (rwS S c cb 80 (rcat cf 0 (fun j => wcl sz lt g m (wps (wst sz lt g m) j)) k) k).1 a2 b2 cap2 g m ∧ rw (rwS S c cb 80 (rcat cf 0 (fun j => wcl sz lt g m (wps (wst sz lt g m) j)) k) k).1 c cb 80 (rcat cf 0 (fun j => wcl sz lt g m (wps (wst sz lt g m) j)) k) k := by
    intro k hk
    have f1 : a2 ≠ cb := am_ne ht.1 hcl.2.1 (fun e => by cases e)
    have f2 : b2 ≠ c := am_ne ht.2.1 hcl.1 (fun e => by cases e)
    refine ⟨ct_keep hc (rwS_at (am_ne hc.1 hcl.1 (fun e => by cases e)) (am_ne hc.1 hcl.2.1 (fun e => by cases e))) (rwS_at (am_ne hc.2.1 hcl.1 (fun e => by cases e)) (am_ne hc.2.1 hcl.2.1 (fun e => by cases e))) (fun j hj h0 => ?_), rw_keep ht (rwS_at hne.1 f1) (rwS_at f2 hne.2), rwS_rw (rw_ne hcl) hk (Nat.le_refl _)⟩
    obtain ⟨-, hrj, -, -⟩ := ct_row hc hj h0
    exact ⟨rwS_at (hnk j hj h0).1 (am_ne hrj.1 hcl.2.1 (fun e => by cases e)), rwS_at (am_ne hrj.2.1 hcl.1 (fun e => by cases e)) (hnk j hj h0).2⟩
  have hm80 : m ≤ 80 := by have := ht.2.2.1; have := ht.2.2.2; omega
  refine am_aload_n (I := iX1_write) (pc := 0) dX1_write_0 rfl rfl ?_
  refine am_callV (I := iX1_write) (pc := 1) (st := []) lv_X1_33 (m_Row_empty K l _ c cb 80 cf cn0 hcl) dX1_write_1 hcl.1 rfl (Nat.le_of_ble_eq_true rfl) ⟨Nat.le_of_ble_eq_true rfl, Nat.le_of_ble_eq_true rfl⟩ (Nat.le_of_ble_eq_true rfl) (Nat.le_of_ble_eq_true rfl) rfl (fun v9 T9 z9 _ => ?_) (fun _ _ h9 => h9.elim)
  obtain ⟨rfl, eT9⟩ := z9
  have eS0 : T9 = rwS S c cb 80 (rcat cf 0 (fun j => wcl sz lt g m (wps (wst sz lt g m) j)) 0) 0 := by
    rw [← eT9, rcat_0]
    unfold rwS
    rw [am_up_id hcl.2.1, nI_0]
  subst eS0
  show am_W _ _ _ _ _ _ _ _ _ _ _ _ _ _ _ 4 [some (.ref a), some (.ref a2), some (.ref c), none, none, none, none] [] (rwS S c cb 80 (rcat cf 0 (fun j => wcl sz lt g m (wps (wst sz lt g m) j)) 0) 0) 0 0
  refine am_iconst (I := iX1_write) (pc := 4) (x := 0) dX1_write_4 (by decide) ?_
  refine am_istore_n (I := iX1_write) (pc := 5) (L' := [some (.ref a), some (.ref a2), some (.ref c), some (.int 0), none, none, none]) dX1_write_5 rfl (by decide) rfl ?_
  refine am_iconst (I := iX1_write) (pc := 6) (x := 0) dX1_write_6 (by decide) ?_
  refine am_istore (I := iX1_write) (pc := 7) (L' := [some (.ref a), some (.ref a2), some (.ref c), some (.int 0), some (.int 0), none, none]) dX1_write_7 (by decide) rfl ?_
  have loop9 : ∀ (k9 : Nat) (k : Nat), m - k < k9 → (k ≤ wps (wst sz lt g m) k) → (wps (wst sz lt g m) k ≤ m + 5) → (k + wns (wst sz lt g m) m (m - k) (wps (wst sz lt g m) k) = wns (wst sz lt g m) m m 0) → (k ≤ m) → am_W K iX1_write xp l xe (am_room 3 0 0) xs xm xa xb xt xc S ad0 (am_E K ad0 S (fun v S' => v = none ∧ rwS S c cb 80 (rcat cf 0 (fun j => wcl sz lt g m (wps (wst sz lt g m) j)) (wns (wst sz lt g m) m m 0)) (wns (wst sz lt g m) m m 0) = S') (fun _ _ => False) xb xa xs 0 0) 9 [some (.ref a), some (.ref a2), some (.ref c), some (.int (nI (wps (wst sz lt g m) k))), some (.int (nI k)), none, none] [] (rwS S c cb 80 (rcat cf 0 (fun j => wcl sz lt g m (wps (wst sz lt g m) j)) k) k) 0 0 := by
    intro k9
    induction k9 with
    | zero => intro k h9; exact absurd h9 (Nat.not_lt_zero _)
    | succ k9 ih9 =>
      intro k hm9 hki hi85 hN hkm
      obtain ⟨hck, htk, hlk⟩ := hall k (by omega)
      generalize ei : wps (wst sz lt g m) k = i at hki hi85 hN ⊢
      refine am_iload (I := iX1_write) (pc := 9) dX1_write_9 rfl ?_
      refine am_aload_n (I := iX1_write) (pc := 11) dX1_write_11 rfl rfl ?_
      refine am_callV (I := iX1_write) (pc := 12) (st := [.int (nI k)]) lv_X1_29 (m_Row_length K l _ a2 b2 cap2 g m htk) dX1_write_12 htk.1 rfl (Nat.le_of_ble_eq_true rfl) ⟨Nat.le_of_ble_eq_true rfl, Nat.le_of_ble_eq_true rfl⟩ (Nat.le_of_ble_eq_true rfl) (Nat.le_of_ble_eq_true rfl) rfl (fun v9 T9 z9 _ => ?_) (fun _ _ h9 => h9.elim)
      obtain ⟨rfl, rfl⟩ := z9
      show am_W _ _ _ _ _ _ _ _ _ _ _ _ _ _ _ 15 [some (.ref a), some (.ref a2), some (.ref c), some (.int (nI i)), some (.int (nI k)), none, none] [.int (nI m), .int (nI k)] (rwS S c cb 80 (rcat cf 0 (fun j => wcl sz lt g m (wps (wst sz lt g m) j)) k) k) 0 0
      refine am_icmp_ge (I := iX1_write) (pc := 15) (tgt := 87) dX1_write_15 (by decide) (fun c15 => ?_) (fun c15 => ?_)
      · have g15 : m ≤ k := by
          rcases Nat.lt_or_ge k m with q9 | q9
          · exact absurd c15 (nI_ge (a := k) (b := m) q9 (by omega))
          · exact q9
        exact am_vret (I := iX1_write) (pc := 87) dX1_write_87 rfl (Nat.le_refl _) (Nat.le_refl _) (⟨rfl, by rw [show k = wns (wst sz lt g m) m m 0 by rw [← hN, wns_out (by omega)]; rfl]⟩)
      · have l15 : k < m := by
          rcases Nat.lt_or_ge k m with q9 | q9
          · exact q9
          · exact absurd (nI_le (a := m) (b := k) q9 (by omega)) c15
        refine am_iload_n (I := iX1_write) (pc := 18) dX1_write_18 rfl rfl ?_
        refine am_aload_n (I := iX1_write) (pc := 19) dX1_write_19 rfl rfl ?_
        refine am_callV (I := iX1_write) (pc := 20) (st := [.int (nI i)]) lv_X1_29 (m_Row_length K l _ a2 b2 cap2 g m htk) dX1_write_20 htk.1 rfl (Nat.le_of_ble_eq_true rfl) ⟨Nat.le_of_ble_eq_true rfl, Nat.le_of_ble_eq_true rfl⟩ (Nat.le_of_ble_eq_true rfl) (Nat.le_of_ble_eq_true rfl) rfl (fun v9 T9 z9 _ => ?_) (fun _ _ h9 => h9.elim)
        obtain ⟨rfl, rfl⟩ := z9
        show am_W _ _ _ _ _ _ _ _ _ _ _ _ _ _ _ 23 [some (.ref a), some (.ref a2), some (.ref c), some (.int (nI i)), some (.int (nI k)), none, none] [.int (nI m), .int (nI i)] (rwS S c cb 80 (rcat cf 0 (fun j => wcl sz lt g m (wps (wst sz lt g m) j)) k) k) 0 0
        refine am_icmp_ge (I := iX1_write) (pc := 23) (tgt := 87) dX1_write_23 (by decide) (fun c23 => ?_) (fun c23 => ?_)
        · have g23 : m ≤ i := by
            rcases Nat.lt_or_ge i m with q9 | q9
            · exact absurd c23 (nI_ge (a := i) (b := m) q9 (by omega))
            · exact q9
          exact am_vret (I := iX1_write) (pc := 87) dX1_write_87 rfl (Nat.le_refl _) (Nat.le_refl _) (⟨rfl, by rw [show k = wns (wst sz lt g m) m m 0 by rw [← hN, wns_out (by omega)]; rfl]⟩)
        · have l23 : i < m := by
            rcases Nat.lt_or_ge i m with q9 | q9
            · exact q9
            · exact absurd (nI_le (a := m) (b := i) q9 (by omega)) c23
          refine am_aload_n (I := iX1_write) (pc := 26) dX1_write_26 rfl rfl ?_
          refine am_aload_n (I := iX1_write) (pc := 27) dX1_write_27 rfl rfl ?_
          refine am_iload_n (I := iX1_write) (pc := 28) dX1_write_28 rfl rfl ?_
          refine am_callV (I := iX1_write) (pc := 29) (st := []) lv_X1_21 (m_Con_longestAt K l _ a w CR sz lt ra rb tot a2 b2 cap2 g m (nI i) hck htk) dX1_write_29 hck.1 rfl (Nat.le_of_ble_eq_true rfl) ⟨Nat.le_of_ble_eq_true rfl, Nat.le_of_ble_eq_true rfl⟩ (Nat.le_of_ble_eq_true rfl) (Nat.le_of_ble_eq_true rfl) rfl (fun v9 T9 z9 _ => ?_) (fun _ _ h9 => h9.elim)
          obtain ⟨rfl, rfl⟩ := z9
          show am_W _ _ _ _ _ _ _ _ _ _ _ _ _ _ _ 32 [some (.ref a), some (.ref a2), some (.ref c), some (.int (nI i)), some (.int (nI k)), none, none] [.int (lg sz lt g m (nI i) 36).1] (rwS S c cb 80 (rcat cf 0 (fun j => wcl sz lt g m (wps (wst sz lt g m) j)) k) k) 0 0
          rcases lg_or (sz := sz) (lt := lt) (g := g) (m := m) (fr := (nI i)) 36 with e36 | ⟨j, hj, e36, h0⟩
          · have ecl : wcl sz lt g m (wps (wst sz lt g m) k) = oc (g i) := by rw [ei]; unfold wcl; rw [e36, if_pos rfl]
            have est : wst sz lt g m i = 1 := by unfold wst; rw [e36, if_pos rfl]
            rw [e36]
            refine am_istore (I := iX1_write) (pc := 32) (L' := [some (.ref a), some (.ref a2), some (.ref c), some (.int (nI i)), some (.int (nI k)), some (.int (-1)), none]) dX1_write_32 (by decide) rfl ?_
            refine am_aload_n (I := iX1_write) (pc := 34) dX1_write_34 rfl rfl ?_
            refine am_iload (I := iX1_write) (pc := 35) dX1_write_35 rfl ?_
            refine am_callV (I := iX1_write) (pc := 37) (st := []) lv_X1_25 (m_Con_rowOf0 K l _ a w CR sz lt ra rb tot (-1) hck (Or.inl (by decide))) dX1_write_37 hck.1 rfl (Nat.le_of_ble_eq_true rfl) ⟨Nat.le_of_ble_eq_true rfl, Nat.le_of_ble_eq_true rfl⟩ (Nat.le_of_ble_eq_true rfl) (Nat.le_of_ble_eq_true rfl) rfl (fun v9 T9 z9 _ => ?_) (fun _ _ h9 => h9.elim)
            obtain ⟨rfl, rfl⟩ := z9
            show am_W _ _ _ _ _ _ _ _ _ _ _ _ _ _ _ 40 [some (.ref a), some (.ref a2), some (.ref c), some (.int (nI i)), some (.int (nI k)), some (.int (-1)), none] [.null] (rwS S c cb 80 (rcat cf 0 (fun j => wcl sz lt g m (wps (wst sz lt g m) j)) k) k) 0 0
            refine am_astoreN (I := iX1_write) (pc := 40) (L' := [some (.ref a), some (.ref a2), some (.ref c), some (.int (nI i)), some (.int (nI k)), some (.int (-1)), some (.null)]) dX1_write_40 (by decide) rfl ?_
            refine am_aload_n (I := iX1_write) (pc := 42) dX1_write_42 rfl rfl ?_
            refine am_aloadN (I := iX1_write) (pc := 43) dX1_write_43 rfl ?_
            refine am_ifnonnullN (I := iX1_write) (pc := 45) dX1_write_45 ?_
            refine am_aload_n (I := iX1_write) (pc := 48) dX1_write_48 rfl rfl ?_
            refine am_iload_n (I := iX1_write) (pc := 49) dX1_write_49 rfl rfl ?_
            refine am_callV (I := iX1_write) (pc := 50) (st := [.ref c]) lv_X1_36 (m_Row_at K l _ a2 b2 cap2 g m (nI i) htk) dX1_write_50 htk.1 rfl (Nat.le_of_ble_eq_true rfl) ⟨Nat.le_of_ble_eq_true rfl, Nat.le_of_ble_eq_true rfl⟩ (Nat.le_of_ble_eq_true rfl) (Nat.le_of_ble_eq_true rfl) rfl (fun v9 T9 z9 _ => ?_) (fun _ _ h9 => h9.elim)
            obtain ⟨rfl, rfl⟩ := z9
            show am_W _ _ _ _ _ _ _ _ _ _ _ _ _ _ _ 53 [some (.ref a), some (.ref a2), some (.ref c), some (.int (nI i)), some (.int (nI k)), some (.int (-1)), some (.null)] [.int (rv g m (nI i)), .ref c] (rwS S c cb 80 (rcat cf 0 (fun j => wcl sz lt g m (wps (wst sz lt g m) j)) k) k) 0 0
            rw [rv_nI l23 (by omega)]
            refine am_callSN (I := iX1_write) (pc := 53) (st := [.ref c]) lv_X1_40 rfl (m_ownCell K l _ (g i)) dX1_write_53 rfl (Nat.le_of_ble_eq_true rfl) ⟨Nat.le_of_ble_eq_true rfl, Nat.le_of_ble_eq_true rfl⟩ (Nat.le_of_ble_eq_true rfl) (Nat.le_of_ble_eq_true rfl) rfl (fun v9 T9 z9 _ => ?_)
            obtain ⟨rfl, rfl⟩ := z9
            show am_W _ _ _ _ _ _ _ _ _ _ _ _ _ _ _ 56 [some (.ref a), some (.ref a2), some (.ref c), some (.int (nI i)), some (.int (nI k)), some (.int (-1)), some (.null)] [.int (oc (g i)), .ref c] (rwS S c cb 80 (rcat cf 0 (fun j => wcl sz lt g m (wps (wst sz lt g m) j)) k) k) 0 0
            refine am_goto (I := iX1_write) (pc := 56) (tgt := 61) dX1_write_56 (by decide) ?_
            refine am_callV (I := iX1_write) (pc := 61) (st := []) lv_X1_43 (m_Row_add K l _ c cb 80 (rcat cf 0 (fun j => wcl sz lt g m (wps (wst sz lt g m) j)) k) k (oc (g i)) hlk) dX1_write_61 hlk.1 rfl (Nat.le_of_ble_eq_true rfl) ⟨Nat.le_of_ble_eq_true rfl, Nat.le_of_ble_eq_true rfl⟩ (Nat.le_of_ble_eq_true rfl) (Nat.le_of_ble_eq_true rfl) rfl (fun v9 T9 z9 _ => ?_) (fun _ _ h9 => h9.elim)
            obtain ⟨rfl, eT9⟩ := z9
            have eS1 : T9 = rwS S c cb 80 (rcat cf 0 (fun j => wcl sz lt g m (wps (wst sz lt g m) j)) (k + 1)) (k + 1) := by
              rw [← eT9, rw_add_lt (by omega), rwS_rwS (rw_ne hcl), ← rcat_s, Nat.zero_add, ecl]
            subst eS1
            obtain ⟨hck1, htk1, hlk1⟩ := hall (k + 1) (by omega)
            show am_W _ _ _ _ _ _ _ _ _ _ _ _ _ _ _ 64 [some (.ref a), some (.ref a2), some (.ref c), some (.int (nI i)), some (.int (nI k)), some (.int (-1)), some (.null)] [] (rwS S c cb 80 (rcat cf 0 (fun j => wcl sz lt g m (wps (wst sz lt g m) j)) (k + 1)) (k + 1)) 0 0
            refine am_iload_n (I := iX1_write) (pc := 64) dX1_write_64 rfl rfl ?_
            refine am_aloadN (I := iX1_write) (pc := 65) dX1_write_65 rfl ?_
            refine am_ifnonnullN (I := iX1_write) (pc := 67) dX1_write_67 ?_
            refine am_iconst (I := iX1_write) (pc := 70) (x := 1) dX1_write_70 (by decide) ?_
            refine am_goto (I := iX1_write) (pc := 71) (tgt := 79) dX1_write_71 (by decide) ?_
            refine am_iadd (I := iX1_write) (pc := 79) dX1_write_79 ?_
            rw [nI_1]
            refine am_istore_n (I := iX1_write) (pc := 80) (L' := [some (.ref a), some (.ref a2), some (.ref c), some (.int (nI (i + 1))), some (.int (nI k)), some (.int (-1)), some (.null)]) dX1_write_80 rfl (by decide) rfl ?_
            refine am_forget 5 (am_forget 6 ?_)
            refine am_iinc (I := iX1_write) (pc := 81) (y := ((nI k) + 1)) (L' := [some (.ref a), some (.ref a2), some (.ref c), some (.int (nI (i + 1))), some (.int ((nI k) + 1)), none, none]) dX1_write_81 rfl rfl rfl ?_
            refine am_goto (I := iX1_write) (pc := 84) (tgt := 9) dX1_write_84 (by decide) ?_
            exact am_same rfl (by rw [nI_1 k, wps, ei, est]) rfl rfl rfl rfl (ih9 (k + 1) (by omega) (by rw [wps, ei]; omega) (by rw [wps, ei]; omega) (by rw [← hN, show m - k = (m - (k + 1)) + 1 by omega, wns, if_pos l23, wps, ei]; omega) (by omega))
          · obtain ⟨hs, hrw, h2, h5⟩ := ct_row hck hj h0
            have ecl : wcl sz lt g m (wps (wst sz lt g m) k) = nI (28 + j) := by rw [ei]; unfold wcl; rw [e36, if_neg (show ¬ sz j = 0 by omega)]
            have est : wst sz lt g m i = sz j := by unfold wst; rw [e36, if_neg (show ¬ sz j = 0 by omega)]
            rw [e36]
            refine am_istore (I := iX1_write) (pc := 32) (L' := [some (.ref a), some (.ref a2), some (.ref c), some (.int (nI i)), some (.int (nI k)), some (.int (nI (28 + j))), none]) dX1_write_32 (by decide) rfl ?_
            refine am_aload_n (I := iX1_write) (pc := 34) dX1_write_34 rfl rfl ?_
            refine am_iload (I := iX1_write) (pc := 35) dX1_write_35 rfl ?_
            refine am_callV (I := iX1_write) (pc := 37) (st := []) lv_X1_25 (m_Con_rowOfS K l _ a w CR sz lt ra rb tot j (ra j) hck hj hs) dX1_write_37 hck.1 rfl (Nat.le_of_ble_eq_true rfl) ⟨Nat.le_of_ble_eq_true rfl, Nat.le_of_ble_eq_true rfl⟩ (Nat.le_of_ble_eq_true rfl) (Nat.le_of_ble_eq_true rfl) rfl (fun v9 T9 z9 _ => ?_) (fun _ _ h9 => h9.elim)
            obtain ⟨rfl, rfl⟩ := z9
            show am_W _ _ _ _ _ _ _ _ _ _ _ _ _ _ _ 40 [some (.ref a), some (.ref a2), some (.ref c), some (.int (nI i)), some (.int (nI k)), some (.int (nI (28 + j))), none] [.ref (ra j)] (rwS S c cb 80 (rcat cf 0 (fun j => wcl sz lt g m (wps (wst sz lt g m) j)) k) k) 0 0
            refine am_astore (I := iX1_write) (pc := 40) (L' := [some (.ref a), some (.ref a2), some (.ref c), some (.int (nI i)), some (.int (nI k)), some (.int (nI (28 + j))), some (.ref (ra j))]) dX1_write_40 (by decide) rfl ?_
            refine am_aload_n (I := iX1_write) (pc := 42) dX1_write_42 rfl rfl ?_
            refine am_aload (I := iX1_write) (pc := 43) dX1_write_43 rfl ?_
            refine am_ifnonnull (I := iX1_write) (pc := 45) (tgt := 59) dX1_write_45 (by decide) ?_
            refine am_iload (I := iX1_write) (pc := 59) dX1_write_59 rfl ?_
            refine am_callV (I := iX1_write) (pc := 61) (st := []) lv_X1_43 (m_Row_add K l _ c cb 80 (rcat cf 0 (fun j => wcl sz lt g m (wps (wst sz lt g m) j)) k) k (nI (28 + j)) hlk) dX1_write_61 hlk.1 rfl (Nat.le_of_ble_eq_true rfl) ⟨Nat.le_of_ble_eq_true rfl, Nat.le_of_ble_eq_true rfl⟩ (Nat.le_of_ble_eq_true rfl) (Nat.le_of_ble_eq_true rfl) rfl (fun v9 T9 z9 _ => ?_) (fun _ _ h9 => h9.elim)
            obtain ⟨rfl, eT9⟩ := z9
            have eS1 : T9 = rwS S c cb 80 (rcat cf 0 (fun j => wcl sz lt g m (wps (wst sz lt g m) j)) (k + 1)) (k + 1) := by
              rw [← eT9, rw_add_lt (by omega), rwS_rwS (rw_ne hcl), ← rcat_s, Nat.zero_add, ecl]
            subst eS1
            obtain ⟨hck1, htk1, hlk1⟩ := hall (k + 1) (by omega)
            obtain ⟨hs1, hrw1, -, -⟩ := ct_row hck1 hj h0
            show am_W _ _ _ _ _ _ _ _ _ _ _ _ _ _ _ 64 [some (.ref a), some (.ref a2), some (.ref c), some (.int (nI i)), some (.int (nI k)), some (.int (nI (28 + j))), some (.ref (ra j))] [] (rwS S c cb 80 (rcat cf 0 (fun j => wcl sz lt g m (wps (wst sz lt g m) j)) (k + 1)) (k + 1)) 0 0
            refine am_iload_n (I := iX1_write) (pc := 64) dX1_write_64 rfl rfl ?_
            refine am_aload (I := iX1_write) (pc := 65) dX1_write_65 rfl ?_
            refine am_ifnonnull (I := iX1_write) (pc := 67) (tgt := 74) dX1_write_67 (by decide) ?_
            refine am_aload (I := iX1_write) (pc := 74) dX1_write_74 rfl ?_
            refine am_callV (I := iX1_write) (pc := 76) (st := [.int (nI i)]) lv_X1_29 (m_Row_length K l _ (ra j) (rb j) (sz j) (lt j) (sz j) hrw1) dX1_write_76 hrw1.1 rfl (Nat.le_of_ble_eq_true rfl) ⟨Nat.le_of_ble_eq_true rfl, Nat.le_of_ble_eq_true rfl⟩ (Nat.le_of_ble_eq_true rfl) (Nat.le_of_ble_eq_true rfl) rfl (fun v9 T9 z9 _ => ?_) (fun _ _ h9 => h9.elim)
            obtain ⟨rfl, rfl⟩ := z9
            show am_W _ _ _ _ _ _ _ _ _ _ _ _ _ _ _ 79 [some (.ref a), some (.ref a2), some (.ref c), some (.int (nI i)), some (.int (nI k)), some (.int (nI (28 + j))), some (.ref (ra j))] [.int (nI (sz j)), .int (nI i)] (rwS S c cb 80 (rcat cf 0 (fun j => wcl sz lt g m (wps (wst sz lt g m) j)) (k + 1)) (k + 1)) 0 0
            refine am_iadd (I := iX1_write) (pc := 79) dX1_write_79 ?_
            rw [nI_add]
            refine am_istore_n (I := iX1_write) (pc := 80) (L' := [some (.ref a), some (.ref a2), some (.ref c), some (.int (nI (i + sz j))), some (.int (nI k)), some (.int (nI (28 + j))), some (.ref (ra j))]) dX1_write_80 rfl (by decide) rfl ?_
            refine am_forget 5 (am_forget 6 ?_)
            refine am_iinc (I := iX1_write) (pc := 81) (y := ((nI k) + 1)) (L' := [some (.ref a), some (.ref a2), some (.ref c), some (.int (nI (i + sz j))), some (.int ((nI k) + 1)), none, none]) dX1_write_81 rfl rfl rfl ?_
            refine am_goto (I := iX1_write) (pc := 84) (tgt := 9) dX1_write_84 (by decide) ?_
            exact am_same rfl (by rw [nI_1 k, wps, ei, est]) rfl rfl rfl rfl (ih9 (k + 1) (by omega) (by rw [wps, ei]; omega) (by rw [wps, ei]; omega) (by rw [← hN, show m - k = (m - (k + 1)) + 1 by omega, wns, if_pos l23, wps, ei]; omega) (by omega))
  exact am_same rfl (by rfl) rfl rfl rfl rfl (loop9 _ 0 (Nat.lt_succ_self _) (Nat.le_refl _) (Nat.zero_le _) (by rw [Nat.zero_add]; rfl) (Nat.zero_le _))
