theorem upd_nI {cn : Nat → Nat} {k n : Nat} : upd (fun j => nI (cn j)) k (nI n) = fun j => nI (va_up cn k n j) := by
  funext j
  unfold upd va_up
  by_cases e : j = k
  · rw [if_pos e, if_pos e]
  · rw [if_neg e, if_neg e]
theorem upd_fo {fb : Nat → Option Nat} {k : Nat} {x : Option Nat} : upd (fun j => fo (fb j)) k (fo x) = fun j => fo (va_up fb k x j) := by
  funext j
  unfold upd va_up
  by_cases e : j = k
  · rw [if_pos e, if_pos e]
  · rw [if_neg e, if_neg e]
def cpA (S : am_S) (a v c f : Nat) (VR : Nat → Option Nat) (cn : Nat → Nat) (tot : Int32) (k r : Nat) : am_S := (am_up (am_up (am_up S.1 v (.inl (2, 200, .inr (.inr (.inr (.inr (va_up VR (k * 4 + cn k) (some r)))))))) c (.inl (0, 50, .inl (fun j => nI (va_up cn k (cn k + 1) j))))) a (.inr (0, [.ref v, .ref c, .ref f, .int (tot + 1)])), S.2)
theorem cpA_cp {S : am_S} {a v c f k r : Nat} {VR : Nat → Option Nat} {cn : Nat → Nat} {fb : Nat → Option Nat} {tot : Int32} (hc : cp S.1 a v c f VR cn fb tot) (h4 : cn k < 4) : cp (cpA S a v c f VR cn tot k r).1 a v c f (va_up VR (k * 4 + cn k) (some r)) (va_up cn k (cn k + 1)) fb (tot + 1) := by
  obtain ⟨h1, h2, h3, h5, h6, h7, h8⟩ := hc
  have e1 : v ≠ a := am_ne h2 h1 (fun e => by cases e)
  have e2 : c ≠ a := am_ne h3 h1 (fun e => by cases e)
  have e3 : f ≠ a := am_ne h5 h1 (fun e => by cases e)
  have e4 : v ≠ c := am_ne h2 h3 (fun e => by cases e)
  have e5 : f ≠ v := am_ne h5 h2 (fun e => by cases e)
  refine ⟨am_up_s, (am_up_n e1).trans ((am_up_n e4).trans am_up_s), (am_up_n e2).trans am_up_s, (am_up_n e3).trans ((am_up_n (Ne.symm h6)).trans ((am_up_n e5).trans h5)), h6, fun j => ?_, h8⟩
  by_cases e : j = k
  · rw [e, va_up_self]; omega
  · rw [va_up_ne cn _ e]; exact h7 j
theorem cpA_at {S : am_S} {a v c f k r z : Nat} {VR : Nat → Option Nat} {cn : Nat → Nat} {tot : Int32} (h1 : z ≠ a) (h2 : z ≠ v) (h3 : z ≠ c) : (cpA S a v c f VR cn tot k r).1 z = S.1 z := (am_up_n h1).trans ((am_up_n h3).trans (am_up_n h2))
set_option maxRecDepth 100000 in
set_option maxHeartbeats 4000000 in
theorem m_Capt_addVersion (K : am_K) (l : Launch) (S : am_S) (a v c f : Nat) (VR : Nat → Option Nat) (cn : Nat → Nat) (fb : Nat → Option Nat) (tot : Int32) (p q r r2 : Nat) (rn : Int32) (hc : cp S.1 a v c f VR cn fb tot) (hp : p < 10) (hq : q < 5) (h4 : cn (p * 5 + q) < 4) (hr : S.1 r = .inr (3, [.ref r2, .int rn])) : am_M K l iX0_addVersion 0 0 0 [.ref a, .int (nI p), .int (nI q), .ref r] S (fun z S' => z = some (.int (nI (cn (p * 5 + q)))) ∧ cpA S a v c f VR cn tot (p * 5 + q) r = S') (fun _ _ => False) := by
  refine am_body (by decide) rfl (by simp [Value.category]) (Nat.le_of_ble_eq_true rfl) (fun xp xe xs xm xa xb xt xc ad0 => ?_)
  show am_W _ _ _ _ _ _ _ _ _ _ _ _ _ _ _ 0 [some (.ref a), some (.int (nI p)), some (.int (nI q)), some (.ref r), none, none] [] S 0 0
  refine am_iload_n (I := iX0_addVersion) (pc := 0) dX0_addVersion_0 rfl rfl ?_
  refine am_iconst (I := iX0_addVersion) (pc := 1) (x := 5) dX0_addVersion_1 (by decide) ?_
  refine am_imul (I := iX0_addVersion) (pc := 2) dX0_addVersion_2 ?_
  refine am_iload_n (I := iX0_addVersion) (pc := 3) dX0_addVersion_3 rfl rfl ?_
  refine am_iadd (I := iX0_addVersion) (pc := 4) dX0_addVersion_4 ?_
  have e9 : nI p * 5 + nI q = nI (p * 5 + q) := by rw [show (5 : Int32) = nI 5 from rfl, pk_mul, nI_add]
  rw [e9]
  refine am_istore (I := iX0_addVersion) (pc := 5) (L' := [some (.ref a), some (.int (nI p)), some (.int (nI q)), some (.ref r), some (.int (nI (p * 5 + q))), none]) dX0_addVersion_5 (by decide) rfl ?_
  refine am_aload_n (I := iX0_addVersion) (pc := 7) dX0_addVersion_7 rfl rfl ?_
  refine am_getf (I := iX0_addVersion) (pc := 8) lf_X0_17 dX0_addVersion_8 hc.1 rfl ?_
  refine am_iload (I := iX0_addVersion) (pc := 11) dX0_addVersion_11 rfl ?_
  refine am_iaload (I := iX0_addVersion) (pc := 13) dX0_addVersion_13 hc.2.2.1 rfl (vp_in_nI (show p * 5 + q < 50 by omega) (by decide)) ?_
  rw [nI_clamp (show p * 5 + q < 2 ^ 31 by omega)]
  refine am_istore (I := iX0_addVersion) (pc := 14) (L' := [some (.ref a), some (.int (nI p)), some (.int (nI q)), some (.ref r), some (.int (nI (p * 5 + q))), some (.int (nI (cn (p * 5 + q))))]) dX0_addVersion_14 (by decide) rfl ?_
  refine am_iload (I := iX0_addVersion) (pc := 16) dX0_addVersion_16 rfl ?_
  refine am_iconst (I := iX0_addVersion) (pc := 18) (x := 4) dX0_addVersion_18 (by decide) ?_
  refine am_icmp_lt (I := iX0_addVersion) (pc := 19) (tgt := 24) dX0_addVersion_19 (by decide) (fun c19 => ?_) (fun c19 => ?_)
  · refine am_aload_n (I := iX0_addVersion) (pc := 24) dX0_addVersion_24 rfl rfl ?_
    refine am_getf (I := iX0_addVersion) (pc := 25) lf_X0_11 dX0_addVersion_25 hc.1 rfl ?_
    refine am_iload (I := iX0_addVersion) (pc := 28) dX0_addVersion_28 rfl ?_
    refine am_iconst (I := iX0_addVersion) (pc := 30) (x := 4) dX0_addVersion_30 (by decide) ?_
    refine am_imul (I := iX0_addVersion) (pc := 31) dX0_addVersion_31 ?_
    refine am_iload (I := iX0_addVersion) (pc := 32) dX0_addVersion_32 rfl ?_
    refine am_iadd (I := iX0_addVersion) (pc := 34) dX0_addVersion_34 ?_
    have e8 : nI (p * 5 + q) * 4 + nI (cn (p * 5 + q)) = nI ((p * 5 + q) * 4 + cn (p * 5 + q)) := by rw [show (4 : Int32) = nI 4 from rfl, pk_mul, nI_add]
    rw [e8]
    refine am_aload_n (I := iX0_addVersion) (pc := 35) dX0_addVersion_35 rfl rfl ?_
    refine am_aastore (I := iX0_addVersion) (pc := 36) (ci := 3) dX0_addVersion_36 hc.2.1 rfl rfl (vp_in_nI (show (p * 5 + q) * 4 + cn (p * 5 + q) < 200 by omega) (by decide)) hr ?_
    generalize eT1 : ((am_up S.1 v (.inl (2, 200, .inr (.inr (.inr (.inr (va_up VR (nI ((p * 5 + q) * 4 + cn (p * 5 + q))).toNatClampNeg (some r))))))), S.2) : am_S) = T1
    have k1 : T1.1 a = (.inr (0, [.ref v, .ref c, .ref f, .int tot])) := by rw [← eT1]; exact (am_up_n (am_ne hc.1 hc.2.1 (fun e9 => by cases e9))).trans hc.1
    have k2 : T1.1 v = (.inl (2, 200, .inr (.inr (.inr (.inr (va_up VR (nI ((p * 5 + q) * 4 + cn (p * 5 + q))).toNatClampNeg (some r))))))) := by rw [← eT1]; exact am_up_s
    have k3 : T1.1 c = (.inl (0, 50, .inl (fun k => nI (cn k)))) := by rw [← eT1]; exact (am_up_n (am_ne hc.2.2.1 hc.2.1 (fun e9 => by cases e9))).trans hc.2.2.1
    have k4 : T1.1 f = (.inl (0, 5, .inl (fun l => fo (fb l)))) := by rw [← eT1]; exact (am_up_n (am_ne hc.2.2.2.1 hc.2.1 (fun e9 => by cases e9))).trans hc.2.2.2.1
    have k5 : T1.1 r = (.inr (3, [.ref r2, .int rn])) := by rw [← eT1]; exact (am_up_n (am_ne hr hc.2.1 (fun e9 => by cases e9))).trans hr
    refine am_aload_n (I := iX0_addVersion) (pc := 37) dX0_addVersion_37 rfl rfl ?_
    refine am_getf (I := iX0_addVersion) (pc := 38) lf_X0_17 dX0_addVersion_38 k1 rfl ?_
    refine am_iload (I := iX0_addVersion) (pc := 41) dX0_addVersion_41 rfl ?_
    refine am_iload (I := iX0_addVersion) (pc := 43) dX0_addVersion_43 rfl ?_
    refine am_iconst (I := iX0_addVersion) (pc := 45) (x := 1) dX0_addVersion_45 (by decide) ?_
    refine am_iadd (I := iX0_addVersion) (pc := 46) dX0_addVersion_46 ?_
    refine am_iastore (I := iX0_addVersion) (pc := 47) dX0_addVersion_47 k3 rfl (vp_in_nI (show p * 5 + q < 50 by omega) (by decide)) ?_
    generalize eT2 : ((am_up T1.1 c (.inl (0, 50, .inl (upd (fun k => nI (cn k)) (nI (p * 5 + q)).toNatClampNeg ((nI (cn (p * 5 + q))) + 1)))), T1.2) : am_S) = T2
    have k6 : T2.1 a = (.inr (0, [.ref v, .ref c, .ref f, .int tot])) := by rw [← eT2]; exact (am_up_n (am_ne k1 k3 (fun e9 => by cases e9))).trans k1
    have k7 : T2.1 v = (.inl (2, 200, .inr (.inr (.inr (.inr (va_up VR (nI ((p * 5 + q) * 4 + cn (p * 5 + q))).toNatClampNeg (some r))))))) := by rw [← eT2]; exact (am_up_n (am_ne k2 k3 (fun e9 => by cases e9))).trans k2
    have k8 : T2.1 c = (.inl (0, 50, .inl (upd (fun k => nI (cn k)) (nI (p * 5 + q)).toNatClampNeg ((nI (cn (p * 5 + q))) + 1)))) := by rw [← eT2]; exact am_up_s
    have k9 : T2.1 f = (.inl (0, 5, .inl (fun l => fo (fb l)))) := by rw [← eT2]; exact (am_up_n (Ne.symm hc.2.2.2.2.1)).trans k4
    have k10 : T2.1 r = (.inr (3, [.ref r2, .int rn])) := by rw [← eT2]; exact (am_up_n (am_ne k5 k3 (fun e9 => by cases e9))).trans k5
    refine am_aload_n (I := iX0_addVersion) (pc := 48) dX0_addVersion_48 rfl rfl ?_
    refine am_dup (I := iX0_addVersion) (pc := 49) dX0_addVersion_49 rfl ?_
    refine am_getf (I := iX0_addVersion) (pc := 50) lf_X0_24 dX0_addVersion_50 k6 rfl ?_
    refine am_iconst (I := iX0_addVersion) (pc := 53) (x := 1) dX0_addVersion_53 (by decide) ?_
    refine am_iadd (I := iX0_addVersion) (pc := 54) dX0_addVersion_54 ?_
    refine am_putf (I := iX0_addVersion) (pc := 55) (fs' := [.ref v, .ref c, .ref f, .int (tot + 1)]) lf_X0_24 dX0_addVersion_55 k6 (fun _ => ⟨rfl, rfl⟩) (Nat.le_of_ble_eq_true rfl) rfl ?_
    generalize eT3 : ((am_up T2.1 a (.inr (0, [.ref v, .ref c, .ref f, .int (tot + 1)])), T2.2) : am_S) = T3
    have k11 : T3.1 a = (.inr (0, [.ref v, .ref c, .ref f, .int (tot + 1)])) := by rw [← eT3]; exact am_up_s
    have k12 : T3.1 v = (.inl (2, 200, .inr (.inr (.inr (.inr (va_up VR (nI ((p * 5 + q) * 4 + cn (p * 5 + q))).toNatClampNeg (some r))))))) := by rw [← eT3]; exact (am_up_n (am_ne k7 k6 (fun e9 => by cases e9))).trans k7
    have k13 : T3.1 c = (.inl (0, 50, .inl (upd (fun k => nI (cn k)) (nI (p * 5 + q)).toNatClampNeg ((nI (cn (p * 5 + q))) + 1)))) := by rw [← eT3]; exact (am_up_n (am_ne k8 k6 (fun e9 => by cases e9))).trans k8
    have k14 : T3.1 f = (.inl (0, 5, .inl (fun l => fo (fb l)))) := by rw [← eT3]; exact (am_up_n (am_ne k9 k6 (fun e9 => by cases e9))).trans k9
    have k15 : T3.1 r = (.inr (3, [.ref r2, .int rn])) := by rw [← eT3]; exact (am_up_n (am_ne k10 k6 (fun e9 => by cases e9))).trans k10
    refine am_iload (I := iX0_addVersion) (pc := 58) dX0_addVersion_58 rfl ?_
    exact am_iret (I := iX0_addVersion) (pc := 60) dX0_addVersion_60 rfl (Nat.le_refl _) (Nat.le_refl _) (⟨rfl, by unfold cpA; rw [← eT3, ← eT2, ← eT1, nI_clamp (show (p * 5 + q) * 4 + cn (p * 5 + q) < 2 ^ 31 by omega), nI_clamp (show p * 5 + q < 2 ^ 31 by omega), nI_1, upd_nI]⟩)
  · exact absurd (nI_lt (b := 4) h4 (by decide)) c19
set_option maxRecDepth 100000 in
set_option maxHeartbeats 4000000 in
theorem m_Capt_fallBack0 (K : am_K) (l : Launch) (S : am_S) (a v c f : Nat) (VR : Nat → Option Nat) (cn : Nat → Nat) (fb : Nat → Option Nat) (tot : Int32) (q : Nat) (t : Option Nat) (hc : cp S.1 a v c f VR cn fb tot) (hq : q < 5) (ht : ∀ k, t = some k → k < 5) (hr9 : rch fb q 5 t = true) : am_M K l iX0_fallBack 0 0 0 [.ref a, .int (nI q), .int (fo t)] S (fun v S' => v = some (.int 0) ∧ S = S') (fun _ _ => False) := by
  refine am_body (by decide) rfl (by simp [Value.category]) (Nat.le_of_ble_eq_true rfl) (fun xp xe xs xm xa xb xt xc ad0 => ?_)
  show am_W _ _ _ _ _ _ _ _ _ _ _ _ _ _ _ 0 [some (.ref a), some (.int (nI q)), some (.int (fo t)), none, none] [] S 0 0
  refine am_iload_n (I := iX0_fallBack) (pc := 0) dX0_fallBack_0 rfl rfl ?_
  refine am_istore_n (I := iX0_fallBack) (pc := 1) (L' := [some (.ref a), some (.int (nI q)), some (.int (fo t)), some (.int (fo t)), none]) dX0_fallBack_1 rfl (by decide) rfl ?_
  refine am_iconst (I := iX0_fallBack) (pc := 2) (x := 0) dX0_fallBack_2 (by decide) ?_
  refine am_istore (I := iX0_fallBack) (pc := 3) (L' := [some (.ref a), some (.int (nI q)), some (.int (fo t)), some (.int (fo t)), some (.int 0)]) dX0_fallBack_3 (by decide) rfl ?_
  have loop5 : ∀ (k5 : Nat) (i : Nat) (x : Option Nat), 5 - i < k5 → (i ≤ 5) → (∀ k, x = some k → k < 5) → (rch fb q (5 - i) x = rch fb q 5 t) → am_W K iX0_fallBack xp l xe (am_room 0 0 0) xs xm xa xb xt xc S ad0 (am_E K ad0 S (fun v S' => v = some (.int 0) ∧ S = S') (fun _ _ => False) xb xa xs 0 0) 5 [some (.ref a), some (.int (nI q)), some (.int (fo t)), some (.int (fo x)), some (.int (nI i))] [] S 0 0 := by
    intro k5
    induction k5 with
    | zero => intro i x h9; exact absurd h9 (Nat.not_lt_zero _)
    | succ k5 ih5 =>
      intro i x hm5 hi hx he
      refine am_iload (I := iX0_fallBack) (pc := 5) dX0_fallBack_5 rfl ?_
      refine am_iconst (I := iX0_fallBack) (pc := 7) (x := 5) dX0_fallBack_7 (by decide) ?_
      refine am_icmp_ge (I := iX0_fallBack) (pc := 8) (tgt := 36) dX0_fallBack_8 (by decide) (fun c8 => ?_) (fun c8 => ?_)
      · have g8 : 5 ≤ i := by
          rcases Nat.lt_or_ge i 5 with q9 | q9
          · exact absurd c8 (nI_ge (a := i) (b := 5) q9 (by omega))
          · exact q9
        exact absurd hr9 (by rw [← he, show 5 - i = 0 by omega]; exact Bool.false_ne_true)
      · have l8 : i < 5 := by
          rcases Nat.lt_or_ge i 5 with q9 | q9
          · exact q9
          · exact absurd (nI_le (a := 5) (b := i) q9 (by omega)) c8
        refine am_iload_n (I := iX0_fallBack) (pc := 11) dX0_fallBack_11 rfl rfl ?_
        refine am_iconst (I := iX0_fallBack) (pc := 12) (x := (-1)) dX0_fallBack_12 (by decide) ?_
        refine am_icmp_eq (I := iX0_fallBack) (pc := 13) (tgt := 36) dX0_fallBack_13 (by decide) (fun c13 => ?_) (fun c13 => ?_)
        · have ex : x = none := (fo_none hx).mp c13
          exact absurd hr9 (by rw [← he, show 5 - i = (4 - i) + 1 by omega, ex]; exact Bool.false_ne_true)
        · obtain ⟨r, rfl, hr5⟩ := fo_some hx c13
          show am_W _ _ _ _ _ _ _ _ _ _ _ _ _ _ _ 16 [some (.ref a), some (.int (nI q)), some (.int (fo t)), some (.int (nI r)), some (.int (nI i))] [] S 0 0
          refine am_iload_n (I := iX0_fallBack) (pc := 16) dX0_fallBack_16 rfl rfl ?_
          refine am_iload_n (I := iX0_fallBack) (pc := 17) dX0_fallBack_17 rfl rfl ?_
          refine am_icmp_ne (I := iX0_fallBack) (pc := 18) (tgt := 23) dX0_fallBack_18 (by decide) (fun c18 => ?_) (fun c18 => ?_)
          · have hrq : ¬ r = q := fun q9 => c18 (by rw [q9])
            refine am_aload_n (I := iX0_fallBack) (pc := 23) dX0_fallBack_23 rfl rfl ?_
            refine am_getf (I := iX0_fallBack) (pc := 24) lf_X0_21 dX0_fallBack_24 hc.1 rfl ?_
            refine am_iload_n (I := iX0_fallBack) (pc := 27) dX0_fallBack_27 rfl rfl ?_
            refine am_iaload (I := iX0_fallBack) (pc := 28) dX0_fallBack_28 hc.2.2.2.1 rfl (vp_in_nI hr5 (by decide)) ?_
            rw [nI_clamp (show r < 2 ^ 31 by omega)]
            refine am_istore_n (I := iX0_fallBack) (pc := 29) (L' := [some (.ref a), some (.int (nI q)), some (.int (fo t)), some (.int (fo (fb r))), some (.int (nI i))]) dX0_fallBack_29 rfl (by decide) rfl ?_
            refine am_iinc (I := iX0_fallBack) (pc := 30) (y := ((nI i) + 1)) (L' := [some (.ref a), some (.int (nI q)), some (.int (fo t)), some (.int (fo (fb r))), some (.int ((nI i) + 1))]) dX0_fallBack_30 rfl rfl rfl ?_
            refine am_goto (I := iX0_fallBack) (pc := 33) (tgt := 5) dX0_fallBack_33 (by decide) ?_
            exact am_same rfl (by rw [nI_1]) rfl rfl rfl rfl (ih5 (i + 1) (fb r) (by omega) (by omega) (hc.2.2.2.2.2.2 r) (by rw [← he, show 5 - i = (5 - (i + 1)) + 1 by omega, rch, if_neg hrq]))
          · have hrq : r = q := (nI_eq (by omega) (by omega)).mp c18
            refine am_iconst (I := iX0_fallBack) (pc := 21) (x := 0) dX0_fallBack_21 (by decide) ?_
            exact am_zret (I := iX0_fallBack) (pc := 22) dX0_fallBack_22 rfl (by decide) (Nat.le_refl _) (Nat.le_refl _) (⟨rfl, rfl⟩)
  exact am_same rfl (by rw [nI_0]) rfl rfl rfl rfl (loop5 _ 0 t (Nat.lt_succ_self _) (Nat.zero_le _) ht rfl)
set_option maxRecDepth 100000 in
set_option maxHeartbeats 4000000 in
theorem m_Capt_fallBack1 (K : am_K) (l : Launch) (S : am_S) (a v c f : Nat) (VR : Nat → Option Nat) (cn : Nat → Nat) (fb : Nat → Option Nat) (tot : Int32) (q : Nat) (t : Option Nat) (hc : cp S.1 a v c f VR cn fb tot) (hq : q < 5) (ht : ∀ k, t = some k → k < 5) (hr9 : rch fb q 5 t = false) : am_M K l iX0_fallBack 0 0 0 [.ref a, .int (nI q), .int (fo t)] S (fun v S' => v = some (.int 1) ∧ (am_up S.1 f (.inl (0, 5, .inl (fun j => fo (va_up fb q t j)))), S.2) = S') (fun _ _ => False) := by
  refine am_body (by decide) rfl (by simp [Value.category]) (Nat.le_of_ble_eq_true rfl) (fun xp xe xs xm xa xb xt xc ad0 => ?_)
  show am_W _ _ _ _ _ _ _ _ _ _ _ _ _ _ _ 0 [some (.ref a), some (.int (nI q)), some (.int (fo t)), none, none] [] S 0 0
  refine am_iload_n (I := iX0_fallBack) (pc := 0) dX0_fallBack_0 rfl rfl ?_
  refine am_istore_n (I := iX0_fallBack) (pc := 1) (L' := [some (.ref a), some (.int (nI q)), some (.int (fo t)), some (.int (fo t)), none]) dX0_fallBack_1 rfl (by decide) rfl ?_
  refine am_iconst (I := iX0_fallBack) (pc := 2) (x := 0) dX0_fallBack_2 (by decide) ?_
  refine am_istore (I := iX0_fallBack) (pc := 3) (L' := [some (.ref a), some (.int (nI q)), some (.int (fo t)), some (.int (fo t)), some (.int 0)]) dX0_fallBack_3 (by decide) rfl ?_
  have loop5 : ∀ (k5 : Nat) (i : Nat) (x : Option Nat), 5 - i < k5 → (i ≤ 5) → (∀ k, x = some k → k < 5) → (rch fb q (5 - i) x = rch fb q 5 t) → am_W K iX0_fallBack xp l xe (am_room 0 0 0) xs xm xa xb xt xc S ad0 (am_E K ad0 S (fun v S' => v = some (.int 1) ∧ (am_up S.1 f (.inl (0, 5, .inl (fun j => fo (va_up fb q t j)))), S.2) = S') (fun _ _ => False) xb xa xs 0 0) 5 [some (.ref a), some (.int (nI q)), some (.int (fo t)), some (.int (fo x)), some (.int (nI i))] [] S 0 0 := by
    intro k5
    induction k5 with
    | zero => intro i x h9; exact absurd h9 (Nat.not_lt_zero _)
    | succ k5 ih5 =>
      intro i x hm5 hi hx he
      refine am_iload (I := iX0_fallBack) (pc := 5) dX0_fallBack_5 rfl ?_
      refine am_iconst (I := iX0_fallBack) (pc := 7) (x := 5) dX0_fallBack_7 (by decide) ?_
      refine am_icmp_ge (I := iX0_fallBack) (pc := 8) (tgt := 36) dX0_fallBack_8 (by decide) (fun c8 => ?_) (fun c8 => ?_)
      · have g8 : 5 ≤ i := by
          rcases Nat.lt_or_ge i 5 with q9 | q9
          · exact absurd c8 (nI_ge (a := i) (b := 5) q9 (by omega))
          · exact q9
        refine am_aload_n (I := iX0_fallBack) (pc := 36) dX0_fallBack_36 rfl rfl ?_
        refine am_getf (I := iX0_fallBack) (pc := 37) lf_X0_21 dX0_fallBack_37 hc.1 rfl ?_
        refine am_iload_n (I := iX0_fallBack) (pc := 40) dX0_fallBack_40 rfl rfl ?_
        refine am_iload_n (I := iX0_fallBack) (pc := 41) dX0_fallBack_41 rfl rfl ?_
        refine am_iastore (I := iX0_fallBack) (pc := 42) dX0_fallBack_42 hc.2.2.2.1 rfl (vp_in_nI hq (by decide)) ?_
        generalize eT1 : ((am_up S.1 f (.inl (0, 5, .inl (upd (fun l => fo (fb l)) (nI q).toNatClampNeg (fo t)))), S.2) : am_S) = T1
        have k1 : T1.1 a = (.inr (0, [.ref v, .ref c, .ref f, .int tot])) := by rw [← eT1]; exact (am_up_n (am_ne hc.1 hc.2.2.2.1 (fun e9 => by cases e9))).trans hc.1
        have k2 : T1.1 v = (.inl (2, 200, .inr (.inr (.inr (.inr VR))))) := by rw [← eT1]; exact (am_up_n (am_ne hc.2.1 hc.2.2.2.1 (fun e9 => by cases e9))).trans hc.2.1
        have k3 : T1.1 c = (.inl (0, 50, .inl (fun k => nI (cn k)))) := by rw [← eT1]; exact (am_up_n (am_ne hc.2.2.1 hc.2.2.2.1 (fun e9 => by cases e9))).trans hc.2.2.1
        have k4 : T1.1 f = (.inl (0, 5, .inl (upd (fun l => fo (fb l)) (nI q).toNatClampNeg (fo t)))) := by rw [← eT1]; exact am_up_s
        refine am_iconst (I := iX0_fallBack) (pc := 43) (x := 1) dX0_fallBack_43 (by decide) ?_
        exact am_zret (I := iX0_fallBack) (pc := 44) dX0_fallBack_44 rfl (by decide) (Nat.le_refl _) (Nat.le_refl _) (⟨rfl, by rw [← eT1, nI_clamp (show q < 2 ^ 31 by omega), upd_fo]⟩)
      · have l8 : i < 5 := by
          rcases Nat.lt_or_ge i 5 with q9 | q9
          · exact q9
          · exact absurd (nI_le (a := 5) (b := i) q9 (by omega)) c8
        refine am_iload_n (I := iX0_fallBack) (pc := 11) dX0_fallBack_11 rfl rfl ?_
        refine am_iconst (I := iX0_fallBack) (pc := 12) (x := (-1)) dX0_fallBack_12 (by decide) ?_
        refine am_icmp_eq (I := iX0_fallBack) (pc := 13) (tgt := 36) dX0_fallBack_13 (by decide) (fun c13 => ?_) (fun c13 => ?_)
        · have ex : x = none := (fo_none hx).mp c13
          refine am_aload_n (I := iX0_fallBack) (pc := 36) dX0_fallBack_36 rfl rfl ?_
          refine am_getf (I := iX0_fallBack) (pc := 37) lf_X0_21 dX0_fallBack_37 hc.1 rfl ?_
          refine am_iload_n (I := iX0_fallBack) (pc := 40) dX0_fallBack_40 rfl rfl ?_
          refine am_iload_n (I := iX0_fallBack) (pc := 41) dX0_fallBack_41 rfl rfl ?_
          refine am_iastore (I := iX0_fallBack) (pc := 42) dX0_fallBack_42 hc.2.2.2.1 rfl (vp_in_nI hq (by decide)) ?_
          generalize eT2 : ((am_up S.1 f (.inl (0, 5, .inl (upd (fun l => fo (fb l)) (nI q).toNatClampNeg (fo t)))), S.2) : am_S) = T2
          have k5 : T2.1 a = (.inr (0, [.ref v, .ref c, .ref f, .int tot])) := by rw [← eT2]; exact (am_up_n (am_ne hc.1 hc.2.2.2.1 (fun e9 => by cases e9))).trans hc.1
          have k6 : T2.1 v = (.inl (2, 200, .inr (.inr (.inr (.inr VR))))) := by rw [← eT2]; exact (am_up_n (am_ne hc.2.1 hc.2.2.2.1 (fun e9 => by cases e9))).trans hc.2.1
          have k7 : T2.1 c = (.inl (0, 50, .inl (fun k => nI (cn k)))) := by rw [← eT2]; exact (am_up_n (am_ne hc.2.2.1 hc.2.2.2.1 (fun e9 => by cases e9))).trans hc.2.2.1
          have k8 : T2.1 f = (.inl (0, 5, .inl (upd (fun l => fo (fb l)) (nI q).toNatClampNeg (fo t)))) := by rw [← eT2]; exact am_up_s
          refine am_iconst (I := iX0_fallBack) (pc := 43) (x := 1) dX0_fallBack_43 (by decide) ?_
          exact am_zret (I := iX0_fallBack) (pc := 44) dX0_fallBack_44 rfl (by decide) (Nat.le_refl _) (Nat.le_refl _) (⟨rfl, by rw [← eT2, nI_clamp (show q < 2 ^ 31 by omega), upd_fo]⟩)
        · obtain ⟨r, rfl, hr5⟩ := fo_some hx c13
          show am_W _ _ _ _ _ _ _ _ _ _ _ _ _ _ _ 16 [some (.ref a), some (.int (nI q)), some (.int (fo t)), some (.int (nI r)), some (.int (nI i))] [] S 0 0
          refine am_iload_n (I := iX0_fallBack) (pc := 16) dX0_fallBack_16 rfl rfl ?_
          refine am_iload_n (I := iX0_fallBack) (pc := 17) dX0_fallBack_17 rfl rfl ?_
          refine am_icmp_ne (I := iX0_fallBack) (pc := 18) (tgt := 23) dX0_fallBack_18 (by decide) (fun c18 => ?_) (fun c18 => ?_)
          · have hrq : ¬ r = q := fun q9 => c18 (by rw [q9])
            refine am_aload_n (I := iX0_fallBack) (pc := 23) dX0_fallBack_23 rfl rfl ?_
            refine am_getf (I := iX0_fallBack) (pc := 24) lf_X0_21 dX0_fallBack_24 hc.1 rfl ?_
            refine am_iload_n (I := iX0_fallBack) (pc := 27) dX0_fallBack_27 rfl rfl ?_
            refine am_iaload (I := iX0_fallBack) (pc := 28) dX0_fallBack_28 hc.2.2.2.1 rfl (vp_in_nI hr5 (by decide)) ?_
            rw [nI_clamp (show r < 2 ^ 31 by omega)]
            refine am_istore_n (I := iX0_fallBack) (pc := 29) (L' := [some (.ref a), some (.int (nI q)), some (.int (fo t)), some (.int (fo (fb r))), some (.int (nI i))]) dX0_fallBack_29 rfl (by decide) rfl ?_
            refine am_iinc (I := iX0_fallBack) (pc := 30) (y := ((nI i) + 1)) (L' := [some (.ref a), some (.int (nI q)), some (.int (fo t)), some (.int (fo (fb r))), some (.int ((nI i) + 1))]) dX0_fallBack_30 rfl rfl rfl ?_
            refine am_goto (I := iX0_fallBack) (pc := 33) (tgt := 5) dX0_fallBack_33 (by decide) ?_
            exact am_same rfl (by rw [nI_1]) rfl rfl rfl rfl (ih5 (i + 1) (fb r) (by omega) (by omega) (hc.2.2.2.2.2.2 r) (by rw [← he, show 5 - i = (5 - (i + 1)) + 1 by omega, rch, if_neg hrq]))
          · exact absurd hr9 (by rw [← he, show 5 - i = (4 - i) + 1 by omega, rch, if_pos ((nI_eq (by omega) (by omega)).mp c18)]; exact Bool.noConfusion)
  exact am_same rfl (by rw [nI_0]) rfl rfl rfl rfl (loop5 _ 0 t (Nat.lt_succ_self _) (Nat.zero_le _) ht rfl)
