theorem nI_mul (a b : Nat) : nI a * nI b = nI (a * b) := (Int32.ofNat_mul a b).symm
theorem ix5 {p q : Nat} : (5 : Int32) * nI p + nI q = nI (p * 5 + q) := by
  rw [show (5 : Int32) = nI 5 from rfl, nI_mul, nI_add, Nat.mul_comm]
theorem ix4 {k c : Nat} : (4 : Int32) * nI k + nI c = nI (k * 4 + c) := by
  rw [show (4 : Int32) = nI 4 from rfl, nI_mul, nI_add, Nat.mul_comm]
theorem ix80 {k c : Nat} : (80 : Int32) * nI k + nI c = nI (80 * k + c) := by
  rw [show (80 : Int32) = nI 80 from rfl, nI_mul, nI_add]
theorem ix41 {k c : Nat} (h : 0 < c) : (4 : Int32) * nI k + nI c - 1 = nI (k * 4 + (c - 1)) := by
  rw [ix4, show k * 4 + c = (k * 4 + (c - 1)) + 1 by omega, nI_pred]
/-- the fallbacks end -/
def ends (fb : Nat → Option Nat) : Nat → Option Nat → Prop
  | _, none => True
  | 0, some _ => False
  | k + 1, some r => ends fb k (fb r)
theorem ends_some {fb : Nat → Option Nat} {k r : Nat} (h : ends fb k (some r)) : ∃ k', k = k' + 1 ∧ ends fb k' (fb r) := by
  cases k with
  | zero => exact h.elim
  | succ k => exact ⟨k, rfl, h⟩
set_option maxRecDepth 100000 in
set_option maxHeartbeats 4000000 in
theorem q_text_x0 {K : am_K} {l : Launch} {S : am_S} {th pd wd ln sq st ct cl ft zn : Int32} {a26 a27 a28 a29 a30 a31 a32 a33 a34 a35 a36 a37 a38 a39 a40 a41 a42 a43 a44 : Nat → Int32} (x y : Int32) (hb : (x < 0 ∨ 10 ≤ x) ∨ (y < 0 ∨ 5 ≤ y)) : am_M K l iX7_text 2 0 0 [.ref 25, .int x, .int y] (mdS S th pd wd ln sq st ct cl ft zn a26 a27 a28 a29 a30 a31 a32 a33 a34 a35 a36 a37 a38 a39 a40 a41 a42 a43 a44) (fun v S' => v = some (.int (0)) ∧ mdS S 1 pd wd ln sq st ct cl ft zn a26 a27 a28 a29 a30 a31 a32 a33 a34 a35 a36 a37 a38 a39 a40 a41 a42 a43 a44 = S') (fun _ _ => False) := by
  refine am_body (by decide) rfl (by simp [Value.category]) (Nat.le_of_ble_eq_true rfl) (fun xp xe xs xm xa xb xt xc ad0 => ?_)
  show am_W _ _ _ _ _ _ _ _ _ _ _ _ _ _ _ 0 [some (.ref 25), some (.int x), some (.int y), none, none, none, none, none] [] (mdS S th pd wd ln sq st ct cl ft zn a26 a27 a28 a29 a30 a31 a32 a33 a34 a35 a36 a37 a38 a39 a40 a41 a42 a43 a44) 0 0
  refine am_iload_n (I := iX7_text) (pc := 0) dX7_text_0 rfl rfl ?_
  refine am_iload_n (I := iX7_text) (pc := 1) dX7_text_1 rfl rfl ?_
  refine am_callS (I := iX7_text) (pc := 2) (st := []) lv_X7_87 rfl (q_isPair x y) dX7_text_2 rfl (Nat.le_of_ble_eq_true rfl) ⟨Nat.le_of_ble_eq_true rfl, Nat.le_of_ble_eq_true rfl⟩ (Nat.le_of_ble_eq_true rfl) (Nat.le_of_ble_eq_true rfl) rfl (fun v9 T9 z9 _ => ?_) (fun _ _ h9 => h9.elim)
  obtain ⟨rfl, rfl⟩ := z9
  show am_W _ _ _ _ _ _ _ _ _ _ _ _ _ _ _ 5 [some (.ref 25), some (.int x), some (.int y), none, none, none, none, none] [.int (bI (ipr x y))] (mdS S th pd wd ln sq st ct cl ft zn a26 a27 a28 a29 a30 a31 a32 a33 a34 a35 a36 a37 a38 a39 a40 a41 a42 a43 a44) 0 0
  rw [bI_f (ipr_f hb)]
  refine am_istore_n (I := iX7_text) (pc := 5) (L' := [some (.ref 25), some (.int x), some (.int y), some (.int 0), none, none, none, none]) dX7_text_5 rfl (by decide) rfl ?_
  refine am_iload_n (I := iX7_text) (pc := 6) dX7_text_6 rfl rfl ?_
  refine am_if_eq (I := iX7_text) (pc := 7) (tgt := 18) dX7_text_7 (by decide) (fun c7 => ?_) (fun c7 => ?_)
  · refine am_iconst (I := iX7_text) (pc := 18) (x := 0) dX7_text_18 (by decide) ?_
    refine am_istore (I := iX7_text) (pc := 19) (L' := [some (.ref 25), some (.int x), some (.int y), some (.int 0), some (.int 0), none, none, none]) dX7_text_19 (by decide) rfl ?_
    refine am_aload_n (I := iX7_text) (pc := 21) dX7_text_21 rfl rfl ?_
    refine am_iload_n (I := iX7_text) (pc := 22) dX7_text_22 rfl rfl ?_
    refine am_aload_n (I := iX7_text) (pc := 23) dX7_text_23 rfl rfl ?_
    refine am_getf (I := iX7_text) (pc := 24) lf_X7_13 dX7_text_24 md_25 rfl ?_
    refine am_iload (I := iX7_text) (pc := 27) dX7_text_27 rfl ?_
    refine am_iaload (I := iX7_text) (pc := 29) dX7_text_29 md_27 rfl (vp_in_nI (show 0 < 50 by decide) (by decide)) ?_
    refine am_iconst (I := iX7_text) (pc := 30) (x := 4) dX7_text_30 (by decide) ?_
    refine am_icmp_ge (I := iX7_text) (pc := 31) (tgt := 38) dX7_text_31 (by decide) (fun c31 => ?_) (fun c31 => ?_)
    · refine am_iconst (I := iX7_text) (pc := 38) (x := 0) dX7_text_38 (by decide) ?_
      refine am_callV (I := iX7_text) (pc := 39) (st := []) lv_X7_79 (q_goes1 _) dX7_text_39 md_25 rfl (Nat.le_of_ble_eq_true rfl) ⟨Nat.le_of_ble_eq_true rfl, Nat.le_of_ble_eq_true rfl⟩ (Nat.le_of_ble_eq_true rfl) (Nat.le_of_ble_eq_true rfl) rfl (fun v9 T9 z9 _ => ?_) (fun _ _ h9 => h9.elim)
      obtain ⟨rfl, rfl⟩ := z9
      show am_W _ _ _ _ _ _ _ _ _ _ _ _ _ _ _ 42 [some (.ref 25), some (.int x), some (.int y), some (.int 0), some (.int 0), none, none, none] [.int 0] (mdS S 1 pd wd ln sq st ct cl ft zn a26 a27 a28 a29 a30 a31 a32 a33 a34 a35 a36 a37 a38 a39 a40 a41 a42 a43 a44) 0 0
      refine am_if_ne (I := iX7_text) (pc := 42) (tgt := 47) dX7_text_42 (by decide) (fun c42 => ?_) (fun c42 => ?_)
      · exact absurd rfl c42
      · refine am_iconst (I := iX7_text) (pc := 45) (x := 0) dX7_text_45 (by decide) ?_
        exact am_iret (I := iX7_text) (pc := 46) dX7_text_46 rfl (Nat.le_refl _) (Nat.le_refl _) (⟨rfl, rfl⟩)
    · refine am_iconst (I := iX7_text) (pc := 34) (x := 1) dX7_text_34 (by decide) ?_
      refine am_goto (I := iX7_text) (pc := 35) (tgt := 39) dX7_text_35 (by decide) ?_
      refine am_callV (I := iX7_text) (pc := 39) (st := []) lv_X7_79 (q_goes1 _) dX7_text_39 md_25 rfl (Nat.le_of_ble_eq_true rfl) ⟨Nat.le_of_ble_eq_true rfl, Nat.le_of_ble_eq_true rfl⟩ (Nat.le_of_ble_eq_true rfl) (Nat.le_of_ble_eq_true rfl) rfl (fun v9 T9 z9 _ => ?_) (fun _ _ h9 => h9.elim)
      obtain ⟨rfl, rfl⟩ := z9
      show am_W _ _ _ _ _ _ _ _ _ _ _ _ _ _ _ 42 [some (.ref 25), some (.int x), some (.int y), some (.int 0), some (.int 0), none, none, none] [.int 0] (mdS S 1 pd wd ln sq st ct cl ft zn a26 a27 a28 a29 a30 a31 a32 a33 a34 a35 a36 a37 a38 a39 a40 a41 a42 a43 a44) 0 0
      refine am_if_ne (I := iX7_text) (pc := 42) (tgt := 47) dX7_text_42 (by decide) (fun c42 => ?_) (fun c42 => ?_)
      · exact absurd rfl c42
      · refine am_iconst (I := iX7_text) (pc := 45) (x := 0) dX7_text_45 (by decide) ?_
        exact am_iret (I := iX7_text) (pc := 46) dX7_text_46 rfl (Nat.le_refl _) (Nat.le_refl _) (⟨rfl, rfl⟩)
  · exact absurd rfl c7
set_option maxRecDepth 100000 in
set_option maxHeartbeats 4000000 in
theorem q_text_x1 {K : am_K} {l : Launch} {S : am_S} {th pd wd ln sq st ct cl ft zn : Int32} {a26 a28 a29 a30 a31 a32 a33 a34 a35 a36 a37 a38 a39 a40 a41 a42 a43 a44 : Nat → Int32} (cn : Nat → Nat) (p q : Nat) (hp : p < 10) (hq : q < 5) (h4 : 4 ≤ cn (p * 5 + q)) (h5 : cn (p * 5 + q) ≤ 4) : am_M K l iX7_text 2 0 0 [.ref 25, .int (nI p), .int (nI q)] (mdS S th pd wd ln sq st ct cl ft zn a26 (fun k => nI (cn k)) a28 a29 a30 a31 a32 a33 a34 a35 a36 a37 a38 a39 a40 a41 a42 a43 a44) (fun v S' => v = some (.int (0)) ∧ mdS S 2 pd wd ln sq st ct cl ft zn a26 (fun k => nI (cn k)) a28 a29 a30 a31 a32 a33 a34 a35 a36 a37 a38 a39 a40 a41 a42 a43 a44 = S') (fun _ _ => False) := by
  refine am_body (by decide) rfl (by simp [Value.category]) (Nat.le_of_ble_eq_true rfl) (fun xp xe xs xm xa xb xt xc ad0 => ?_)
  show am_W _ _ _ _ _ _ _ _ _ _ _ _ _ _ _ 0 [some (.ref 25), some (.int (nI p)), some (.int (nI q)), none, none, none, none, none] [] (mdS S th pd wd ln sq st ct cl ft zn a26 (fun k => nI (cn k)) a28 a29 a30 a31 a32 a33 a34 a35 a36 a37 a38 a39 a40 a41 a42 a43 a44) 0 0
  refine am_iload_n (I := iX7_text) (pc := 0) dX7_text_0 rfl rfl ?_
  refine am_iload_n (I := iX7_text) (pc := 1) dX7_text_1 rfl rfl ?_
  refine am_callS (I := iX7_text) (pc := 2) (st := []) lv_X7_87 rfl (q_isPair (nI p) (nI q)) dX7_text_2 rfl (Nat.le_of_ble_eq_true rfl) ⟨Nat.le_of_ble_eq_true rfl, Nat.le_of_ble_eq_true rfl⟩ (Nat.le_of_ble_eq_true rfl) (Nat.le_of_ble_eq_true rfl) rfl (fun v9 T9 z9 _ => ?_) (fun _ _ h9 => h9.elim)
  obtain ⟨rfl, rfl⟩ := z9
  show am_W _ _ _ _ _ _ _ _ _ _ _ _ _ _ _ 5 [some (.ref 25), some (.int (nI p)), some (.int (nI q)), none, none, none, none, none] [.int (bI (ipr (nI p) (nI q)))] (mdS S th pd wd ln sq st ct cl ft zn a26 (fun k => nI (cn k)) a28 a29 a30 a31 a32 a33 a34 a35 a36 a37 a38 a39 a40 a41 a42 a43 a44) 0 0
  rw [bI_t (ipr_t hp hq)]
  refine am_istore_n (I := iX7_text) (pc := 5) (L' := [some (.ref 25), some (.int (nI p)), some (.int (nI q)), some (.int 1), none, none, none, none]) dX7_text_5 rfl (by decide) rfl ?_
  refine am_iload_n (I := iX7_text) (pc := 6) dX7_text_6 rfl rfl ?_
  refine am_if_eq (I := iX7_text) (pc := 7) (tgt := 18) dX7_text_7 (by decide) (fun c7 => ?_) (fun c7 => ?_)
  · exact absurd c7 (by decide)
  · refine am_iconst (I := iX7_text) (pc := 10) (x := 5) dX7_text_10 (by decide) ?_
    refine am_iload_n (I := iX7_text) (pc := 11) dX7_text_11 rfl rfl ?_
    refine am_imul (I := iX7_text) (pc := 12) dX7_text_12 ?_
    refine am_iload_n (I := iX7_text) (pc := 13) dX7_text_13 rfl rfl ?_
    refine am_iadd (I := iX7_text) (pc := 14) dX7_text_14 ?_
    refine am_goto (I := iX7_text) (pc := 15) (tgt := 19) dX7_text_15 (by decide) ?_
    rw [ix5]
    refine am_istore (I := iX7_text) (pc := 19) (L' := [some (.ref 25), some (.int (nI p)), some (.int (nI q)), some (.int 1), some (.int (nI (p * 5 + q))), none, none, none]) dX7_text_19 (by decide) rfl ?_
    refine am_aload_n (I := iX7_text) (pc := 21) dX7_text_21 rfl rfl ?_
    refine am_iload_n (I := iX7_text) (pc := 22) dX7_text_22 rfl rfl ?_
    refine am_aload_n (I := iX7_text) (pc := 23) dX7_text_23 rfl rfl ?_
    refine am_getf (I := iX7_text) (pc := 24) lf_X7_13 dX7_text_24 md_25 rfl ?_
    refine am_iload (I := iX7_text) (pc := 27) dX7_text_27 rfl ?_
    refine am_iaload (I := iX7_text) (pc := 29) dX7_text_29 md_27 rfl (vp_in_nI (show p * 5 + q < 50 by omega) (by decide)) ?_
    rw [nI_clamp (show p * 5 + q < 2 ^ 31 by omega)]
    refine am_iconst (I := iX7_text) (pc := 30) (x := 4) dX7_text_30 (by decide) ?_
    refine am_icmp_ge (I := iX7_text) (pc := 31) (tgt := 38) dX7_text_31 (by decide) (fun c31 => ?_) (fun c31 => ?_)
    · refine am_iconst (I := iX7_text) (pc := 38) (x := 0) dX7_text_38 (by decide) ?_
      refine am_callV (I := iX7_text) (pc := 39) (st := []) lv_X7_79 (q_goes2) dX7_text_39 md_25 rfl (Nat.le_of_ble_eq_true rfl) ⟨Nat.le_of_ble_eq_true rfl, Nat.le_of_ble_eq_true rfl⟩ (Nat.le_of_ble_eq_true rfl) (Nat.le_of_ble_eq_true rfl) rfl (fun v9 T9 z9 _ => ?_) (fun _ _ h9 => h9.elim)
      obtain ⟨rfl, rfl⟩ := z9
      show am_W _ _ _ _ _ _ _ _ _ _ _ _ _ _ _ 42 [some (.ref 25), some (.int (nI p)), some (.int (nI q)), some (.int 1), some (.int (nI (p * 5 + q))), none, none, none] [.int 0] (mdS S 2 pd wd ln sq st ct cl ft zn a26 (fun k => nI (cn k)) a28 a29 a30 a31 a32 a33 a34 a35 a36 a37 a38 a39 a40 a41 a42 a43 a44) 0 0
      refine am_if_ne (I := iX7_text) (pc := 42) (tgt := 47) dX7_text_42 (by decide) (fun c42 => ?_) (fun c42 => ?_)
      · exact absurd rfl c42
      · refine am_iconst (I := iX7_text) (pc := 45) (x := 0) dX7_text_45 (by decide) ?_
        exact am_iret (I := iX7_text) (pc := 46) dX7_text_46 rfl (Nat.le_refl _) (Nat.le_refl _) (⟨rfl, rfl⟩)
    · exact absurd (nI_le (a := 4) h4 (by omega)) c31
set_option maxRecDepth 100000 in
set_option maxHeartbeats 4000000 in
theorem q_text_w {K : am_K} {l : Launch} {S : am_S} {th wd ln sq st ct cl ft zn : Int32} {a26 a28 a29 a30 a31 a32 a33 a34 a35 a36 a37 a38 a39 a40 a41 a42 a43 a44 : Nat → Int32} (cn : Nat → Nat) (n : Nat) (p q : Nat) (hp : p < 10) (hq : q < 5) (hn : n ≤ 80) (hv : ∀ j, j < n → sgn (a26 j)) (h4 : cn (p * 5 + q) < 4) (hw : ¬ fwp a26 n n 0 32 = -1) : am_M K l iX7_text 2 0 0 [.ref 25, .int (nI p), .int (nI q)] (mdS S th (nI n) wd ln sq st ct cl ft zn a26 (fun k => nI (cn k)) a28 a29 a30 a31 a32 a33 a34 a35 a36 a37 a38 a39 a40 a41 a42 a43 a44) (fun v S' => v = some (.int (-1 - fwp a26 n n 0 32)) ∧ mdS S 0 (nI n) wd ln sq st ct cl ft zn a26 (fun k => nI (cn k)) a28 a29 a30 a31 a32 a33 a34 a35 a36 a37 a38 a39 a40 a41 a42 a43 a44 = S') (fun _ _ => False) := by
  refine am_body (by decide) rfl (by simp [Value.category]) (Nat.le_of_ble_eq_true rfl) (fun xp xe xs xm xa xb xt xc ad0 => ?_)
  show am_W _ _ _ _ _ _ _ _ _ _ _ _ _ _ _ 0 [some (.ref 25), some (.int (nI p)), some (.int (nI q)), none, none, none, none, none] [] (mdS S th (nI n) wd ln sq st ct cl ft zn a26 (fun k => nI (cn k)) a28 a29 a30 a31 a32 a33 a34 a35 a36 a37 a38 a39 a40 a41 a42 a43 a44) 0 0
  refine am_iload_n (I := iX7_text) (pc := 0) dX7_text_0 rfl rfl ?_
  refine am_iload_n (I := iX7_text) (pc := 1) dX7_text_1 rfl rfl ?_
  refine am_callS (I := iX7_text) (pc := 2) (st := []) lv_X7_87 rfl (q_isPair (nI p) (nI q)) dX7_text_2 rfl (Nat.le_of_ble_eq_true rfl) ⟨Nat.le_of_ble_eq_true rfl, Nat.le_of_ble_eq_true rfl⟩ (Nat.le_of_ble_eq_true rfl) (Nat.le_of_ble_eq_true rfl) rfl (fun v9 T9 z9 _ => ?_) (fun _ _ h9 => h9.elim)
  obtain ⟨rfl, rfl⟩ := z9
  show am_W _ _ _ _ _ _ _ _ _ _ _ _ _ _ _ 5 [some (.ref 25), some (.int (nI p)), some (.int (nI q)), none, none, none, none, none] [.int (bI (ipr (nI p) (nI q)))] (mdS S th (nI n) wd ln sq st ct cl ft zn a26 (fun k => nI (cn k)) a28 a29 a30 a31 a32 a33 a34 a35 a36 a37 a38 a39 a40 a41 a42 a43 a44) 0 0
  rw [bI_t (ipr_t hp hq)]
  refine am_istore_n (I := iX7_text) (pc := 5) (L' := [some (.ref 25), some (.int (nI p)), some (.int (nI q)), some (.int 1), none, none, none, none]) dX7_text_5 rfl (by decide) rfl ?_
  refine am_iload_n (I := iX7_text) (pc := 6) dX7_text_6 rfl rfl ?_
  refine am_if_eq (I := iX7_text) (pc := 7) (tgt := 18) dX7_text_7 (by decide) (fun c7 => ?_) (fun c7 => ?_)
  · exact absurd c7 (by decide)
  · refine am_iconst (I := iX7_text) (pc := 10) (x := 5) dX7_text_10 (by decide) ?_
    refine am_iload_n (I := iX7_text) (pc := 11) dX7_text_11 rfl rfl ?_
    refine am_imul (I := iX7_text) (pc := 12) dX7_text_12 ?_
    refine am_iload_n (I := iX7_text) (pc := 13) dX7_text_13 rfl rfl ?_
    refine am_iadd (I := iX7_text) (pc := 14) dX7_text_14 ?_
    refine am_goto (I := iX7_text) (pc := 15) (tgt := 19) dX7_text_15 (by decide) ?_
    rw [ix5]
    refine am_istore (I := iX7_text) (pc := 19) (L' := [some (.ref 25), some (.int (nI p)), some (.int (nI q)), some (.int 1), some (.int (nI (p * 5 + q))), none, none, none]) dX7_text_19 (by decide) rfl ?_
    refine am_aload_n (I := iX7_text) (pc := 21) dX7_text_21 rfl rfl ?_
    refine am_iload_n (I := iX7_text) (pc := 22) dX7_text_22 rfl rfl ?_
    refine am_aload_n (I := iX7_text) (pc := 23) dX7_text_23 rfl rfl ?_
    refine am_getf (I := iX7_text) (pc := 24) lf_X7_13 dX7_text_24 md_25 rfl ?_
    refine am_iload (I := iX7_text) (pc := 27) dX7_text_27 rfl ?_
    refine am_iaload (I := iX7_text) (pc := 29) dX7_text_29 md_27 rfl (vp_in_nI (show p * 5 + q < 50 by omega) (by decide)) ?_
    rw [nI_clamp (show p * 5 + q < 2 ^ 31 by omega)]
    refine am_iconst (I := iX7_text) (pc := 30) (x := 4) dX7_text_30 (by decide) ?_
    refine am_icmp_ge (I := iX7_text) (pc := 31) (tgt := 38) dX7_text_31 (by decide) (fun c31 => ?_) (fun c31 => ?_)
    · exact absurd c31 (nI_ge (b := 4) h4 (by decide))
    · refine am_iconst (I := iX7_text) (pc := 34) (x := 1) dX7_text_34 (by decide) ?_
      refine am_goto (I := iX7_text) (pc := 35) (tgt := 39) dX7_text_35 (by decide) ?_
      refine am_callV (I := iX7_text) (pc := 39) (st := []) lv_X7_79 (q_goes0) dX7_text_39 md_25 rfl (Nat.le_of_ble_eq_true rfl) ⟨Nat.le_of_ble_eq_true rfl, Nat.le_of_ble_eq_true rfl⟩ (Nat.le_of_ble_eq_true rfl) (Nat.le_of_ble_eq_true rfl) rfl (fun v9 T9 z9 _ => ?_) (fun _ _ h9 => h9.elim)
      obtain ⟨rfl, rfl⟩ := z9
      show am_W _ _ _ _ _ _ _ _ _ _ _ _ _ _ _ 42 [some (.ref 25), some (.int (nI p)), some (.int (nI q)), some (.int 1), some (.int (nI (p * 5 + q))), none, none, none] [.int 1] (mdS S 0 (nI n) wd ln sq st ct cl ft zn a26 (fun k => nI (cn k)) a28 a29 a30 a31 a32 a33 a34 a35 a36 a37 a38 a39 a40 a41 a42 a43 a44) 0 0
      refine am_if_ne (I := iX7_text) (pc := 42) (tgt := 47) dX7_text_42 (by decide) (fun c42 => ?_) (fun c42 => ?_)
      · refine am_aload_n (I := iX7_text) (pc := 47) dX7_text_47 rfl rfl ?_
        refine am_callV (I := iX7_text) (pc := 48) (st := []) lv_X7_90 (q_fault n hn hv) dX7_text_48 md_25 rfl (Nat.le_of_ble_eq_true rfl) ⟨Nat.le_of_ble_eq_true rfl, Nat.le_of_ble_eq_true rfl⟩ (Nat.le_of_ble_eq_true rfl) (Nat.le_of_ble_eq_true rfl) rfl (fun v9 T9 z9 _ => ?_) (fun _ _ h9 => h9.elim)
        obtain ⟨rfl, rfl⟩ := z9
        show am_W _ _ _ _ _ _ _ _ _ _ _ _ _ _ _ 51 [some (.ref 25), some (.int (nI p)), some (.int (nI q)), some (.int 1), some (.int (nI (p * 5 + q))), none, none, none] [.int (fwp a26 n n 0 32)] (mdS S 0 (nI n) wd ln sq st ct cl ft zn a26 (fun k => nI (cn k)) a28 a29 a30 a31 a32 a33 a34 a35 a36 a37 a38 a39 a40 a41 a42 a43 a44) 0 0
        refine am_istore (I := iX7_text) (pc := 51) (L' := [some (.ref 25), some (.int (nI p)), some (.int (nI q)), some (.int 1), some (.int (nI (p * 5 + q))), some (.int (fwp a26 n n 0 32)), none, none]) dX7_text_51 (by decide) rfl ?_
        refine am_iload (I := iX7_text) (pc := 53) dX7_text_53 rfl ?_
        refine am_iconst (I := iX7_text) (pc := 55) (x := (-1)) dX7_text_55 (by decide) ?_
        refine am_icmp_eq (I := iX7_text) (pc := 56) (tgt := 64) dX7_text_56 (by decide) (fun c56 => ?_) (fun c56 => ?_)
        · exact absurd c56 hw
        · refine am_iconst (I := iX7_text) (pc := 59) (x := (-1)) dX7_text_59 (by decide) ?_
          refine am_iload (I := iX7_text) (pc := 60) dX7_text_60 rfl ?_
          refine am_isub (I := iX7_text) (pc := 62) dX7_text_62 ?_
          exact am_iret (I := iX7_text) (pc := 63) dX7_text_63 rfl (Nat.le_refl _) (Nat.le_refl _) (⟨rfl, rfl⟩)
      · exact absurd c42 (by decide)
set_option maxRecDepth 100000 in
set_option maxHeartbeats 4000000 in
theorem q_text {K : am_K} {l : Launch} {S : am_S} {th wd ln sq st ct cl ft zn : Int32} {a26 a28 a29 a30 a31 a32 a33 a34 a35 a36 a37 a38 a39 a40 a41 a42 a43 a44 : Nat → Int32} (cn : Nat → Nat) (n : Nat) (p q : Nat) (hp : p < 10) (hq : q < 5) (hn : n ≤ 80) (hv : ∀ j, j < n → sgn (a26 j)) (h4 : cn (p * 5 + q) < 4) (hw : fwp a26 n n 0 32 = -1) : am_M K l iX7_text 2 0 0 [.ref 25, .int (nI p), .int (nI q)] (mdS S th (nI n) wd ln sq st ct cl ft zn a26 (fun k => nI (cn k)) a28 a29 a30 a31 a32 a33 a34 a35 a36 a37 a38 a39 a40 a41 a42 a43 a44) (fun v S' => v = some (.int (nI (cn (p * 5 + q)))) ∧ mdS S 0 0 wd ln sq st ct cl ft zn a26 (fun j => nI (va_up cn (p * 5 + q) (cn (p * 5 + q) + 1) j)) (upd a28 ((p * 5 + q) * 4 + cn (p * 5 + q)) (nI n)) (rcat a29 (80 * ((p * 5 + q) * 4 + cn (p * 5 + q))) a26 n) a30 a31 a32 a33 a34 a35 a36 a37 a38 a39 a40 a41 a42 a43 a44 = S') (fun _ _ => False) := by
  refine am_body (by decide) rfl (by simp [Value.category]) (Nat.le_of_ble_eq_true rfl) (fun xp xe xs xm xa xb xt xc ad0 => ?_)
  show am_W _ _ _ _ _ _ _ _ _ _ _ _ _ _ _ 0 [some (.ref 25), some (.int (nI p)), some (.int (nI q)), none, none, none, none, none] [] (mdS S th (nI n) wd ln sq st ct cl ft zn a26 (fun k => nI (cn k)) a28 a29 a30 a31 a32 a33 a34 a35 a36 a37 a38 a39 a40 a41 a42 a43 a44) 0 0
  refine am_iload_n (I := iX7_text) (pc := 0) dX7_text_0 rfl rfl ?_
  refine am_iload_n (I := iX7_text) (pc := 1) dX7_text_1 rfl rfl ?_
  refine am_callS (I := iX7_text) (pc := 2) (st := []) lv_X7_87 rfl (q_isPair (nI p) (nI q)) dX7_text_2 rfl (Nat.le_of_ble_eq_true rfl) ⟨Nat.le_of_ble_eq_true rfl, Nat.le_of_ble_eq_true rfl⟩ (Nat.le_of_ble_eq_true rfl) (Nat.le_of_ble_eq_true rfl) rfl (fun v9 T9 z9 _ => ?_) (fun _ _ h9 => h9.elim)
  obtain ⟨rfl, rfl⟩ := z9
  show am_W _ _ _ _ _ _ _ _ _ _ _ _ _ _ _ 5 [some (.ref 25), some (.int (nI p)), some (.int (nI q)), none, none, none, none, none] [.int (bI (ipr (nI p) (nI q)))] (mdS S th (nI n) wd ln sq st ct cl ft zn a26 (fun k => nI (cn k)) a28 a29 a30 a31 a32 a33 a34 a35 a36 a37 a38 a39 a40 a41 a42 a43 a44) 0 0
  rw [bI_t (ipr_t hp hq)]
  refine am_istore_n (I := iX7_text) (pc := 5) (L' := [some (.ref 25), some (.int (nI p)), some (.int (nI q)), some (.int 1), none, none, none, none]) dX7_text_5 rfl (by decide) rfl ?_
  refine am_iload_n (I := iX7_text) (pc := 6) dX7_text_6 rfl rfl ?_
  refine am_if_eq (I := iX7_text) (pc := 7) (tgt := 18) dX7_text_7 (by decide) (fun c7 => ?_) (fun c7 => ?_)
  · exact absurd c7 (by decide)
  · refine am_iconst (I := iX7_text) (pc := 10) (x := 5) dX7_text_10 (by decide) ?_
    refine am_iload_n (I := iX7_text) (pc := 11) dX7_text_11 rfl rfl ?_
    refine am_imul (I := iX7_text) (pc := 12) dX7_text_12 ?_
    refine am_iload_n (I := iX7_text) (pc := 13) dX7_text_13 rfl rfl ?_
    refine am_iadd (I := iX7_text) (pc := 14) dX7_text_14 ?_
    refine am_goto (I := iX7_text) (pc := 15) (tgt := 19) dX7_text_15 (by decide) ?_
    rw [ix5]
    refine am_istore (I := iX7_text) (pc := 19) (L' := [some (.ref 25), some (.int (nI p)), some (.int (nI q)), some (.int 1), some (.int (nI (p * 5 + q))), none, none, none]) dX7_text_19 (by decide) rfl ?_
    refine am_aload_n (I := iX7_text) (pc := 21) dX7_text_21 rfl rfl ?_
    refine am_iload_n (I := iX7_text) (pc := 22) dX7_text_22 rfl rfl ?_
    refine am_aload_n (I := iX7_text) (pc := 23) dX7_text_23 rfl rfl ?_
    refine am_getf (I := iX7_text) (pc := 24) lf_X7_13 dX7_text_24 md_25 rfl ?_
    refine am_iload (I := iX7_text) (pc := 27) dX7_text_27 rfl ?_
    refine am_iaload (I := iX7_text) (pc := 29) dX7_text_29 md_27 rfl (vp_in_nI (show p * 5 + q < 50 by omega) (by decide)) ?_
    rw [nI_clamp (show p * 5 + q < 2 ^ 31 by omega)]
    refine am_iconst (I := iX7_text) (pc := 30) (x := 4) dX7_text_30 (by decide) ?_
    refine am_icmp_ge (I := iX7_text) (pc := 31) (tgt := 38) dX7_text_31 (by decide) (fun c31 => ?_) (fun c31 => ?_)
    · exact absurd c31 (nI_ge (b := 4) h4 (by decide))
    · refine am_iconst (I := iX7_text) (pc := 34) (x := 1) dX7_text_34 (by decide) ?_
      refine am_goto (I := iX7_text) (pc := 35) (tgt := 39) dX7_text_35 (by decide) ?_
      refine am_callV (I := iX7_text) (pc := 39) (st := []) lv_X7_79 (q_goes0) dX7_text_39 md_25 rfl (Nat.le_of_ble_eq_true rfl) ⟨Nat.le_of_ble_eq_true rfl, Nat.le_of_ble_eq_true rfl⟩ (Nat.le_of_ble_eq_true rfl) (Nat.le_of_ble_eq_true rfl) rfl (fun v9 T9 z9 _ => ?_) (fun _ _ h9 => h9.elim)
      obtain ⟨rfl, rfl⟩ := z9
      show am_W _ _ _ _ _ _ _ _ _ _ _ _ _ _ _ 42 [some (.ref 25), some (.int (nI p)), some (.int (nI q)), some (.int 1), some (.int (nI (p * 5 + q))), none, none, none] [.int 1] (mdS S 0 (nI n) wd ln sq st ct cl ft zn a26 (fun k => nI (cn k)) a28 a29 a30 a31 a32 a33 a34 a35 a36 a37 a38 a39 a40 a41 a42 a43 a44) 0 0
      refine am_if_ne (I := iX7_text) (pc := 42) (tgt := 47) dX7_text_42 (by decide) (fun c42 => ?_) (fun c42 => ?_)
      · refine am_aload_n (I := iX7_text) (pc := 47) dX7_text_47 rfl rfl ?_
        refine am_callV (I := iX7_text) (pc := 48) (st := []) lv_X7_90 (q_fault n hn hv) dX7_text_48 md_25 rfl (Nat.le_of_ble_eq_true rfl) ⟨Nat.le_of_ble_eq_true rfl, Nat.le_of_ble_eq_true rfl⟩ (Nat.le_of_ble_eq_true rfl) (Nat.le_of_ble_eq_true rfl) rfl (fun v9 T9 z9 _ => ?_) (fun _ _ h9 => h9.elim)
        obtain ⟨rfl, rfl⟩ := z9
        show am_W _ _ _ _ _ _ _ _ _ _ _ _ _ _ _ 51 [some (.ref 25), some (.int (nI p)), some (.int (nI q)), some (.int 1), some (.int (nI (p * 5 + q))), none, none, none] [.int (fwp a26 n n 0 32)] (mdS S 0 (nI n) wd ln sq st ct cl ft zn a26 (fun k => nI (cn k)) a28 a29 a30 a31 a32 a33 a34 a35 a36 a37 a38 a39 a40 a41 a42 a43 a44) 0 0
        refine am_istore (I := iX7_text) (pc := 51) (L' := [some (.ref 25), some (.int (nI p)), some (.int (nI q)), some (.int 1), some (.int (nI (p * 5 + q))), some (.int (fwp a26 n n 0 32)), none, none]) dX7_text_51 (by decide) rfl ?_
        refine am_iload (I := iX7_text) (pc := 53) dX7_text_53 rfl ?_
        refine am_iconst (I := iX7_text) (pc := 55) (x := (-1)) dX7_text_55 (by decide) ?_
        refine am_icmp_eq (I := iX7_text) (pc := 56) (tgt := 64) dX7_text_56 (by decide) (fun c56 => ?_) (fun c56 => ?_)
        · refine am_iconst (I := iX7_text) (pc := 64) (x := 4) dX7_text_64 (by decide) ?_
          refine am_iload (I := iX7_text) (pc := 65) dX7_text_65 rfl ?_
          refine am_imul (I := iX7_text) (pc := 67) dX7_text_67 ?_
          refine am_aload_n (I := iX7_text) (pc := 68) dX7_text_68 rfl rfl ?_
          refine am_getf (I := iX7_text) (pc := 69) lf_X7_13 dX7_text_69 md_25 rfl ?_
          refine am_iload (I := iX7_text) (pc := 72) dX7_text_72 rfl ?_
          refine am_iaload (I := iX7_text) (pc := 74) dX7_text_74 md_27 rfl (vp_in_nI (show p * 5 + q < 50 by omega) (by decide)) ?_
          rw [nI_clamp (show p * 5 + q < 2 ^ 31 by omega)]
          refine am_iadd (I := iX7_text) (pc := 75) dX7_text_75 ?_
          rw [ix4]
          refine am_istore (I := iX7_text) (pc := 76) (L' := [some (.ref 25), some (.int (nI p)), some (.int (nI q)), some (.int 1), some (.int (nI (p * 5 + q))), some (.int (fwp a26 n n 0 32)), some (.int (nI ((p * 5 + q) * 4 + cn (p * 5 + q)))), none]) dX7_text_76 (by decide) rfl ?_
          refine am_aload_n (I := iX7_text) (pc := 78) dX7_text_78 rfl rfl ?_
          refine am_getf (I := iX7_text) (pc := 79) lf_X7_16 dX7_text_79 md_25 rfl ?_
          refine am_iload (I := iX7_text) (pc := 82) dX7_text_82 rfl ?_
          refine am_aload_n (I := iX7_text) (pc := 84) dX7_text_84 rfl rfl ?_
          refine am_getf (I := iX7_text) (pc := 85) lf_X7_72 dX7_text_85 md_25 rfl ?_
          refine am_iastore (I := iX7_text) (pc := 88) dX7_text_88 md_28 rfl (vp_in_nI (show ((p * 5 + q) * 4 + cn (p * 5 + q)) < 200 by omega) (by decide)) ?_
          rw [nI_clamp (show ((p * 5 + q) * 4 + cn (p * 5 + q)) < 2 ^ 31 by omega)]
          refine am_same (S' := mdS S 0 (nI n) wd ln sq st ct cl ft zn a26 (fun k => nI (cn k)) (upd a28 ((p * 5 + q) * 4 + cn (p * 5 + q)) (nI n)) a29 a30 a31 a32 a33 a34 a35 a36 a37 a38 a39 a40 a41 a42 a43 a44) rfl rfl rfl mdS_28 rfl rfl ?_
          refine am_iconst (I := iX7_text) (pc := 89) (x := 0) dX7_text_89 (by decide) ?_
          refine am_istore (I := iX7_text) (pc := 90) (L' := [some (.ref 25), some (.int (nI p)), some (.int (nI q)), some (.int 1), some (.int (nI (p * 5 + q))), some (.int (fwp a26 n n 0 32)), some (.int (nI ((p * 5 + q) * 4 + cn (p * 5 + q)))), some (.int 0)]) dX7_text_90 (by decide) rfl ?_
          have loop92 : ∀ (k92 : Nat) (i : Nat), n - i < k92 → (i ≤ n) → am_W K iX7_text xp l xe (am_room 2 0 0) xs xm xa xb xt xc (mdS S th (nI n) wd ln sq st ct cl ft zn a26 (fun k => nI (cn k)) a28 a29 a30 a31 a32 a33 a34 a35 a36 a37 a38 a39 a40 a41 a42 a43 a44) ad0 (am_E K ad0 (mdS S th (nI n) wd ln sq st ct cl ft zn a26 (fun k => nI (cn k)) a28 a29 a30 a31 a32 a33 a34 a35 a36 a37 a38 a39 a40 a41 a42 a43 a44) (fun v S' => v = some (.int (nI (cn (p * 5 + q)))) ∧ mdS S 0 0 wd ln sq st ct cl ft zn a26 (fun j => nI (va_up cn (p * 5 + q) (cn (p * 5 + q) + 1) j)) (upd a28 ((p * 5 + q) * 4 + cn (p * 5 + q)) (nI n)) (rcat a29 (80 * ((p * 5 + q) * 4 + cn (p * 5 + q))) a26 n) a30 a31 a32 a33 a34 a35 a36 a37 a38 a39 a40 a41 a42 a43 a44 = S') (fun _ _ => False) xb xa xs 0 0) 92 [some (.ref 25), some (.int (nI p)), some (.int (nI q)), some (.int 1), some (.int (nI (p * 5 + q))), some (.int (fwp a26 n n 0 32)), some (.int (nI ((p * 5 + q) * 4 + cn (p * 5 + q)))), some (.int (nI i))] [] (mdS S 0 (nI n) wd ln sq st ct cl ft zn a26 (fun k => nI (cn k)) (upd a28 ((p * 5 + q) * 4 + cn (p * 5 + q)) (nI n)) (rcat a29 (80 * ((p * 5 + q) * 4 + cn (p * 5 + q))) a26 i) a30 a31 a32 a33 a34 a35 a36 a37 a38 a39 a40 a41 a42 a43 a44) 0 0 := by
            intro k92
            induction k92 with
            | zero => intro i h9; exact absurd h9 (Nat.not_lt_zero _)
            | succ k92 ih92 =>
              intro i hm92 hi
              refine am_iload (I := iX7_text) (pc := 92) dX7_text_92 rfl ?_
              refine am_aload_n (I := iX7_text) (pc := 94) dX7_text_94 rfl rfl ?_
              refine am_getf (I := iX7_text) (pc := 95) lf_X7_72 dX7_text_95 md_25 rfl ?_
              refine am_icmp_ge (I := iX7_text) (pc := 98) (tgt := 127) dX7_text_98 (by decide) (fun c98 => ?_) (fun c98 => ?_)
              · have g98 : n ≤ i := by
                  rcases Nat.lt_or_ge i n with q9 | q9
                  · exact absurd c98 (nI_ge (a := i) (b := n) q9 (by omega))
                  · exact q9
                have ei : i = n := by omega
                rw [ei]
                refine am_aload_n (I := iX7_text) (pc := 127) dX7_text_127 rfl rfl ?_
                refine am_iconst (I := iX7_text) (pc := 128) (x := 0) dX7_text_128 (by decide) ?_
                refine am_putf (I := iX7_text) (pc := 129) (fs' := [.int 0, .int 0, .ref 26, .ref 27, .ref 28, .ref 29, .ref 30, .int wd, .ref 31, .ref 32, .ref 33, .ref 34, .int ln, .int sq, .int st, .ref 35, .ref 36, .ref 37, .ref 38, .int ct, .int cl, .int ft, .ref 39, .int zn, .ref 40, .ref 41, .ref 42, .ref 43, .ref 44]) lf_X7_72 dX7_text_129 md_25 (fun _ => ⟨rfl, rfl⟩) (Nat.le_of_ble_eq_true rfl) rfl ?_
                refine am_same (S' := mdS S 0 0 wd ln sq st ct cl ft zn a26 (fun k => nI (cn k)) (upd a28 ((p * 5 + q) * 4 + cn (p * 5 + q)) (nI n)) (rcat a29 (80 * ((p * 5 + q) * 4 + cn (p * 5 + q))) a26 n) a30 a31 a32 a33 a34 a35 a36 a37 a38 a39 a40 a41 a42 a43 a44) rfl rfl rfl mdS_25 rfl rfl ?_
                refine am_aload_n (I := iX7_text) (pc := 132) dX7_text_132 rfl rfl ?_
                refine am_getf (I := iX7_text) (pc := 133) lf_X7_13 dX7_text_133 md_25 rfl ?_
                refine am_iload (I := iX7_text) (pc := 136) dX7_text_136 rfl ?_
                refine am_dup2 (I := iX7_text) (pc := 138) dX7_text_138 rfl rfl ?_
                refine am_iaload (I := iX7_text) (pc := 139) dX7_text_139 md_27 rfl (vp_in_nI (show p * 5 + q < 50 by omega) (by decide)) ?_
                rw [nI_clamp (show p * 5 + q < 2 ^ 31 by omega)]
                refine am_iconst (I := iX7_text) (pc := 140) (x := 1) dX7_text_140 (by decide) ?_
                refine am_iadd (I := iX7_text) (pc := 141) dX7_text_141 ?_
                rw [nI_1]
                refine am_iastore (I := iX7_text) (pc := 142) dX7_text_142 md_27 rfl (vp_in_nI (show p * 5 + q < 50 by omega) (by decide)) ?_
                rw [nI_clamp (show p * 5 + q < 2 ^ 31 by omega)]
                refine am_same (S' := mdS S 0 0 wd ln sq st ct cl ft zn a26 (upd (fun k => nI (cn k)) (p * 5 + q) (nI (cn (p * 5 + q) + 1))) (upd a28 ((p * 5 + q) * 4 + cn (p * 5 + q)) (nI n)) (rcat a29 (80 * ((p * 5 + q) * 4 + cn (p * 5 + q))) a26 n) a30 a31 a32 a33 a34 a35 a36 a37 a38 a39 a40 a41 a42 a43 a44) rfl rfl rfl mdS_27 rfl rfl ?_
                refine am_same (S' := mdS S 0 0 wd ln sq st ct cl ft zn a26 (fun j => nI (va_up cn (p * 5 + q) (cn (p * 5 + q) + 1) j)) (upd a28 ((p * 5 + q) * 4 + cn (p * 5 + q)) (nI n)) (rcat a29 (80 * ((p * 5 + q) * 4 + cn (p * 5 + q))) a26 n) a30 a31 a32 a33 a34 a35 a36 a37 a38 a39 a40 a41 a42 a43 a44) rfl rfl rfl (by rw [upd_nI]) rfl rfl ?_
                refine am_aload_n (I := iX7_text) (pc := 143) dX7_text_143 rfl rfl ?_
                refine am_getf (I := iX7_text) (pc := 144) lf_X7_13 dX7_text_144 md_25 rfl ?_
                refine am_iload (I := iX7_text) (pc := 147) dX7_text_147 rfl ?_
                refine am_iaload (I := iX7_text) (pc := 149) dX7_text_149 md_27 rfl (vp_in_nI (show p * 5 + q < 50 by omega) (by decide)) ?_
                refine am_same (st' := [.int (nI (cn (p * 5 + q) + 1))]) rfl rfl (by rw [nI_clamp (show p * 5 + q < 2 ^ 31 by omega), va_up_self]) rfl rfl rfl ?_
                refine am_iconst (I := iX7_text) (pc := 150) (x := 1) dX7_text_150 (by decide) ?_
                refine am_isub (I := iX7_text) (pc := 151) dX7_text_151 ?_
                exact am_iret (I := iX7_text) (pc := 152) dX7_text_152 rfl (Nat.le_refl _) (Nat.le_refl _) (⟨by rw [nI_pred], rfl⟩)
              · have l98 : i < n := by
                  rcases Nat.lt_or_ge i n with q9 | q9
                  · exact q9
                  · exact absurd (nI_le (a := n) (b := i) q9 (by omega)) c98
                refine am_aload_n (I := iX7_text) (pc := 101) dX7_text_101 rfl rfl ?_
                refine am_getf (I := iX7_text) (pc := 102) lf_X7_19 dX7_text_102 md_25 rfl ?_
                refine am_bipush (I := iX7_text) (pc := 105) (x := 80) dX7_text_105 (by decide) ?_
                refine am_iload (I := iX7_text) (pc := 107) dX7_text_107 rfl ?_
                refine am_imul (I := iX7_text) (pc := 109) dX7_text_109 ?_
                refine am_iload (I := iX7_text) (pc := 110) dX7_text_110 rfl ?_
                refine am_iadd (I := iX7_text) (pc := 112) dX7_text_112 ?_
                rw [ix80]
                refine am_aload_n (I := iX7_text) (pc := 113) dX7_text_113 rfl rfl ?_
                refine am_getf (I := iX7_text) (pc := 114) lf_X7_7 dX7_text_114 md_25 rfl ?_
                refine am_iload (I := iX7_text) (pc := 117) dX7_text_117 rfl ?_
                refine am_iaload (I := iX7_text) (pc := 119) dX7_text_119 md_26 rfl (vp_in_nI (show i < 80 by omega) (by decide)) ?_
                rw [nI_clamp (show i < 2 ^ 31 by omega)]
                refine am_iastore (I := iX7_text) (pc := 120) dX7_text_120 md_29 rfl (vp_in_nI (show 80 * ((p * 5 + q) * 4 + cn (p * 5 + q)) + i < 16000 by omega) (by decide)) ?_
                rw [nI_clamp (show 80 * ((p * 5 + q) * 4 + cn (p * 5 + q)) + i < 2 ^ 31 by omega)]
                refine am_same (S' := mdS S 0 (nI n) wd ln sq st ct cl ft zn a26 (fun k => nI (cn k)) (upd a28 ((p * 5 + q) * 4 + cn (p * 5 + q)) (nI n)) (upd (rcat a29 (80 * ((p * 5 + q) * 4 + cn (p * 5 + q))) a26 i) (80 * ((p * 5 + q) * 4 + cn (p * 5 + q)) + i) (a26 i)) a30 a31 a32 a33 a34 a35 a36 a37 a38 a39 a40 a41 a42 a43 a44) rfl rfl rfl mdS_29 rfl rfl ?_
                refine am_iinc (I := iX7_text) (pc := 121) (y := ((nI i) + 1)) (L' := [some (.ref 25), some (.int (nI p)), some (.int (nI q)), some (.int 1), some (.int (nI (p * 5 + q))), some (.int (fwp a26 n n 0 32)), some (.int (nI ((p * 5 + q) * 4 + cn (p * 5 + q)))), some (.int ((nI i) + 1))]) dX7_text_121 rfl rfl rfl ?_
                refine am_goto (I := iX7_text) (pc := 124) (tgt := 92) dX7_text_124 (by decide) ?_
                exact am_same rfl (by rw [nI_1]) rfl (by rw [rcat_s]) rfl rfl (ih92 (i + 1) (by omega) (by omega))
          exact am_same rfl (by rw [nI_0]) rfl (by rw [rcat_0]) rfl rfl (loop92 _ 0 (Nat.lt_succ_self _) (Nat.zero_le _))
        · exact absurd hw c56
      · exact absurd c42 (by decide)
set_option maxRecDepth 100000 in
set_option maxHeartbeats 4000000 in
theorem q_falls_x0 {K : am_K} {l : Launch} {S : am_S} {th pd wd ln sq st ct cl ft zn : Int32} {a26 a27 a28 a29 a30 a31 a32 a33 a34 a35 a36 a37 a38 a39 a40 a41 a42 a43 a44 : Nat → Int32} (x y : Int32) (hb : (x < 0 ∨ 5 ≤ x) ∨ (y < -1 ∨ 5 ≤ y)) : am_M K l iX7_falls 1 0 0 [.ref 25, .int x, .int y] (mdS S th pd wd ln sq st ct cl ft zn a26 a27 a28 a29 a30 a31 a32 a33 a34 a35 a36 a37 a38 a39 a40 a41 a42 a43 a44) (fun v S' => v = some (.int (0)) ∧ mdS S 1 pd wd ln sq st ct cl ft zn a26 a27 a28 a29 a30 a31 a32 a33 a34 a35 a36 a37 a38 a39 a40 a41 a42 a43 a44 = S') (fun _ _ => False) := by
  refine am_body (by decide) rfl (by simp [Value.category]) (Nat.le_of_ble_eq_true rfl) (fun xp xe xs xm xa xb xt xc ad0 => ?_)
  show am_W _ _ _ _ _ _ _ _ _ _ _ _ _ _ _ 0 [some (.ref 25), some (.int x), some (.int y), none] [] (mdS S th pd wd ln sq st ct cl ft zn a26 a27 a28 a29 a30 a31 a32 a33 a34 a35 a36 a37 a38 a39 a40 a41 a42 a43 a44) 0 0
  refine am_aload_n (I := iX7_falls) (pc := 0) dX7_falls_0 rfl rfl ?_
  refine am_iload_n (I := iX7_falls) (pc := 1) dX7_falls_1 rfl rfl ?_
  refine am_iconst (I := iX7_falls) (pc := 2) (x := 5) dX7_falls_2 (by decide) ?_
  refine am_callS (I := iX7_falls) (pc := 3) (st := [.ref 25]) lv_X7_83 rfl (q_below x 5) dX7_falls_3 rfl (Nat.le_of_ble_eq_true rfl) ⟨Nat.le_of_ble_eq_true rfl, Nat.le_of_ble_eq_true rfl⟩ (Nat.le_of_ble_eq_true rfl) (Nat.le_of_ble_eq_true rfl) rfl (fun v9 T9 z9 _ => ?_) (fun _ _ h9 => h9.elim)
  obtain ⟨rfl, rfl⟩ := z9
  show am_W _ _ _ _ _ _ _ _ _ _ _ _ _ _ _ 6 [some (.ref 25), some (.int x), some (.int y), none] [.int (bI (blw x 5)), .ref 25] (mdS S th pd wd ln sq st ct cl ft zn a26 a27 a28 a29 a30 a31 a32 a33 a34 a35 a36 a37 a38 a39 a40 a41 a42 a43 a44) 0 0
  refine am_if_eq (I := iX7_falls) (pc := 6) (tgt := 23) dX7_falls_6 (by decide) (fun c6 => ?_) (fun c6 => ?_)
  · refine am_iconst (I := iX7_falls) (pc := 23) (x := 0) dX7_falls_23 (by decide) ?_
    refine am_iconst (I := iX7_falls) (pc := 24) (x := 1) dX7_falls_24 (by decide) ?_
    refine am_callV (I := iX7_falls) (pc := 25) (st := []) lv_X7_79 (q_goes1 _) dX7_falls_25 md_25 rfl (Nat.le_of_ble_eq_true rfl) ⟨Nat.le_of_ble_eq_true rfl, Nat.le_of_ble_eq_true rfl⟩ (Nat.le_of_ble_eq_true rfl) (Nat.le_of_ble_eq_true rfl) rfl (fun v9 T9 z9 _ => ?_) (fun _ _ h9 => h9.elim)
    obtain ⟨rfl, rfl⟩ := z9
    show am_W _ _ _ _ _ _ _ _ _ _ _ _ _ _ _ 28 [some (.ref 25), some (.int x), some (.int y), none] [.int 0] (mdS S 1 pd wd ln sq st ct cl ft zn a26 a27 a28 a29 a30 a31 a32 a33 a34 a35 a36 a37 a38 a39 a40 a41 a42 a43 a44) 0 0
    refine am_if_ne (I := iX7_falls) (pc := 28) (tgt := 33) dX7_falls_28 (by decide) (fun c28 => ?_) (fun c28 => ?_)
    · exact absurd rfl c28
    · refine am_iconst (I := iX7_falls) (pc := 31) (x := 0) dX7_falls_31 (by decide) ?_
      exact am_zret (I := iX7_falls) (pc := 32) dX7_falls_32 rfl (by decide) (Nat.le_refl _) (Nat.le_refl _) (⟨rfl, rfl⟩)
  · refine am_iload_n (I := iX7_falls) (pc := 9) dX7_falls_9 rfl rfl ?_
    refine am_iconst (I := iX7_falls) (pc := 10) (x := (-1)) dX7_falls_10 (by decide) ?_
    refine am_icmp_lt (I := iX7_falls) (pc := 11) (tgt := 23) dX7_falls_11 (by decide) (fun c11 => ?_) (fun c11 => ?_)
    · refine am_iconst (I := iX7_falls) (pc := 23) (x := 0) dX7_falls_23 (by decide) ?_
      refine am_iconst (I := iX7_falls) (pc := 24) (x := 1) dX7_falls_24 (by decide) ?_
      refine am_callV (I := iX7_falls) (pc := 25) (st := []) lv_X7_79 (q_goes1 _) dX7_falls_25 md_25 rfl (Nat.le_of_ble_eq_true rfl) ⟨Nat.le_of_ble_eq_true rfl, Nat.le_of_ble_eq_true rfl⟩ (Nat.le_of_ble_eq_true rfl) (Nat.le_of_ble_eq_true rfl) rfl (fun v9 T9 z9 _ => ?_) (fun _ _ h9 => h9.elim)
      obtain ⟨rfl, rfl⟩ := z9
      show am_W _ _ _ _ _ _ _ _ _ _ _ _ _ _ _ 28 [some (.ref 25), some (.int x), some (.int y), none] [.int 0] (mdS S 1 pd wd ln sq st ct cl ft zn a26 a27 a28 a29 a30 a31 a32 a33 a34 a35 a36 a37 a38 a39 a40 a41 a42 a43 a44) 0 0
      refine am_if_ne (I := iX7_falls) (pc := 28) (tgt := 33) dX7_falls_28 (by decide) (fun c28 => ?_) (fun c28 => ?_)
      · exact absurd rfl c28
      · refine am_iconst (I := iX7_falls) (pc := 31) (x := 0) dX7_falls_31 (by decide) ?_
        exact am_zret (I := iX7_falls) (pc := 32) dX7_falls_32 rfl (by decide) (Nat.le_refl _) (Nat.le_refl _) (⟨rfl, rfl⟩)
    · refine am_iload_n (I := iX7_falls) (pc := 14) dX7_falls_14 rfl rfl ?_
      refine am_iconst (I := iX7_falls) (pc := 15) (x := 5) dX7_falls_15 (by decide) ?_
      refine am_icmp_ge (I := iX7_falls) (pc := 16) (tgt := 23) dX7_falls_16 (by decide) (fun c16 => ?_) (fun c16 => ?_)
      · refine am_iconst (I := iX7_falls) (pc := 23) (x := 0) dX7_falls_23 (by decide) ?_
        refine am_iconst (I := iX7_falls) (pc := 24) (x := 1) dX7_falls_24 (by decide) ?_
        refine am_callV (I := iX7_falls) (pc := 25) (st := []) lv_X7_79 (q_goes1 _) dX7_falls_25 md_25 rfl (Nat.le_of_ble_eq_true rfl) ⟨Nat.le_of_ble_eq_true rfl, Nat.le_of_ble_eq_true rfl⟩ (Nat.le_of_ble_eq_true rfl) (Nat.le_of_ble_eq_true rfl) rfl (fun v9 T9 z9 _ => ?_) (fun _ _ h9 => h9.elim)
        obtain ⟨rfl, rfl⟩ := z9
        show am_W _ _ _ _ _ _ _ _ _ _ _ _ _ _ _ 28 [some (.ref 25), some (.int x), some (.int y), none] [.int 0] (mdS S 1 pd wd ln sq st ct cl ft zn a26 a27 a28 a29 a30 a31 a32 a33 a34 a35 a36 a37 a38 a39 a40 a41 a42 a43 a44) 0 0
        refine am_if_ne (I := iX7_falls) (pc := 28) (tgt := 33) dX7_falls_28 (by decide) (fun c28 => ?_) (fun c28 => ?_)
        · exact absurd rfl c28
        · refine am_iconst (I := iX7_falls) (pc := 31) (x := 0) dX7_falls_31 (by decide) ?_
          exact am_zret (I := iX7_falls) (pc := 32) dX7_falls_32 rfl (by decide) (Nat.le_refl _) (Nat.le_refl _) (⟨rfl, rfl⟩)
      · exact absurd hb (fun q => q.elim (fun q => c6 (by rw [blw_f q]; rfl)) (fun q => q.elim c11 c16))
theorem fo_ge {t : Option Nat} (ht : ∀ k, t = some k → k < 5) : ¬ fo t < -1 := by
  cases t with
  | none => decide
  | some k => exact Int32.not_lt.mpr (Int32.le_of_lt (Int32.lt_of_lt_of_le (show (-1 : Int32) < 0 by decide) (nI_pos' (by have := ht k rfl; omega))))
theorem fo_lt {t : Option Nat} (ht : ∀ k, t = some k → k < 5) : ¬ 5 ≤ fo t := by
  cases t with
  | none => decide
  | some k => exact nI_ge (b := 5) (ht k rfl) (by decide)
theorem fo_nI {t : Option Nat} {q : Nat} (ht : ∀ k, t = some k → k < 5) (hq : q < 5) : fo t = nI q ↔ t = some q := by
  cases t with
  | none =>
    refine ⟨fun h => ?_, fun h => by cases h⟩
    exfalso
    have h1 : (-1 : Int32) = nI q := h
    have h2 := nI_pos (n := q) (by omega)
    rw [← h1] at h2
    exact h2 (by decide)
  | some k =>
    have := ht k rfl
    refine ⟨fun h => ?_, fun h => by cases h; rfl⟩
    rw [(nI_eq (by omega) (by omega)).mp h]
set_option maxRecDepth 100000 in
set_option maxHeartbeats 4000000 in
theorem q_falls0 {K : am_K} {l : Launch} {S : am_S} {th pd wd ln sq st ct cl ft zn : Int32} {a26 a27 a28 a29 a31 a32 a33 a34 a35 a36 a37 a38 a39 a40 a41 a42 a43 a44 : Nat → Int32} (fb : Nat → Option Nat) (q : Nat) (t : Option Nat) (hf : ∀ l k, fb l = some k → k < 5) (hq : q < 5) (ht : ∀ k, t = some k → k < 5) (hen : ends fb 5 t) (hr9 : rch fb q 5 t = true) : am_M K l iX7_falls 1 0 0 [.ref 25, .int (nI q), .int (fo t)] (mdS S th pd wd ln sq st ct cl ft zn a26 a27 a28 a29 (fun l => fo (fb l)) a31 a32 a33 a34 a35 a36 a37 a38 a39 a40 a41 a42 a43 a44) (fun v S' => v = some (.int (0)) ∧ mdS S 0 pd wd ln sq st ct cl ft zn a26 a27 a28 a29 (fun l => fo (fb l)) a31 a32 a33 a34 a35 a36 a37 a38 a39 a40 a41 a42 a43 a44 = S') (fun _ _ => False) := by
  refine am_body (by decide) rfl (by simp [Value.category]) (Nat.le_of_ble_eq_true rfl) (fun xp xe xs xm xa xb xt xc ad0 => ?_)
  show am_W _ _ _ _ _ _ _ _ _ _ _ _ _ _ _ 0 [some (.ref 25), some (.int (nI q)), some (.int (fo t)), none] [] (mdS S th pd wd ln sq st ct cl ft zn a26 a27 a28 a29 (fun l => fo (fb l)) a31 a32 a33 a34 a35 a36 a37 a38 a39 a40 a41 a42 a43 a44) 0 0
  refine am_aload_n (I := iX7_falls) (pc := 0) dX7_falls_0 rfl rfl ?_
  refine am_iload_n (I := iX7_falls) (pc := 1) dX7_falls_1 rfl rfl ?_
  refine am_iconst (I := iX7_falls) (pc := 2) (x := 5) dX7_falls_2 (by decide) ?_
  refine am_callS (I := iX7_falls) (pc := 3) (st := [.ref 25]) lv_X7_83 rfl (q_below (nI q) 5) dX7_falls_3 rfl (Nat.le_of_ble_eq_true rfl) ⟨Nat.le_of_ble_eq_true rfl, Nat.le_of_ble_eq_true rfl⟩ (Nat.le_of_ble_eq_true rfl) (Nat.le_of_ble_eq_true rfl) rfl (fun v9 T9 z9 _ => ?_) (fun _ _ h9 => h9.elim)
  obtain ⟨rfl, rfl⟩ := z9
  show am_W _ _ _ _ _ _ _ _ _ _ _ _ _ _ _ 6 [some (.ref 25), some (.int (nI q)), some (.int (fo t)), none] [.int (bI (blw (nI q) 5)), .ref 25] (mdS S th pd wd ln sq st ct cl ft zn a26 a27 a28 a29 (fun l => fo (fb l)) a31 a32 a33 a34 a35 a36 a37 a38 a39 a40 a41 a42 a43 a44) 0 0
  refine am_if_eq (I := iX7_falls) (pc := 6) (tgt := 23) dX7_falls_6 (by decide) (fun c6 => ?_) (fun c6 => ?_)
  · exact absurd c6 (by rw [show (5 : Int32) = nI 5 from rfl, blw_t hq (by decide)]; decide)
  · refine am_iload_n (I := iX7_falls) (pc := 9) dX7_falls_9 rfl rfl ?_
    refine am_iconst (I := iX7_falls) (pc := 10) (x := (-1)) dX7_falls_10 (by decide) ?_
    refine am_icmp_lt (I := iX7_falls) (pc := 11) (tgt := 23) dX7_falls_11 (by decide) (fun c11 => ?_) (fun c11 => ?_)
    · exact absurd c11 (fo_ge ht)
    · refine am_iload_n (I := iX7_falls) (pc := 14) dX7_falls_14 rfl rfl ?_
      refine am_iconst (I := iX7_falls) (pc := 15) (x := 5) dX7_falls_15 (by decide) ?_
      refine am_icmp_ge (I := iX7_falls) (pc := 16) (tgt := 23) dX7_falls_16 (by decide) (fun c16 => ?_) (fun c16 => ?_)
      · exact absurd c16 (fo_lt ht)
      · refine am_iconst (I := iX7_falls) (pc := 19) (x := 1) dX7_falls_19 (by decide) ?_
        refine am_goto (I := iX7_falls) (pc := 20) (tgt := 24) dX7_falls_20 (by decide) ?_
        refine am_iconst (I := iX7_falls) (pc := 24) (x := 1) dX7_falls_24 (by decide) ?_
        refine am_callV (I := iX7_falls) (pc := 25) (st := []) lv_X7_79 (q_goes0) dX7_falls_25 md_25 rfl (Nat.le_of_ble_eq_true rfl) ⟨Nat.le_of_ble_eq_true rfl, Nat.le_of_ble_eq_true rfl⟩ (Nat.le_of_ble_eq_true rfl) (Nat.le_of_ble_eq_true rfl) rfl (fun v9 T9 z9 _ => ?_) (fun _ _ h9 => h9.elim)
        obtain ⟨rfl, rfl⟩ := z9
        show am_W _ _ _ _ _ _ _ _ _ _ _ _ _ _ _ 28 [some (.ref 25), some (.int (nI q)), some (.int (fo t)), none] [.int 1] (mdS S 0 pd wd ln sq st ct cl ft zn a26 a27 a28 a29 (fun l => fo (fb l)) a31 a32 a33 a34 a35 a36 a37 a38 a39 a40 a41 a42 a43 a44) 0 0
        refine am_if_ne (I := iX7_falls) (pc := 28) (tgt := 33) dX7_falls_28 (by decide) (fun c28 => ?_) (fun c28 => ?_)
        · refine am_iload_n (I := iX7_falls) (pc := 33) dX7_falls_33 rfl rfl ?_
          refine am_istore_n (I := iX7_falls) (pc := 34) (L' := [some (.ref 25), some (.int (nI q)), some (.int (fo t)), some (.int (fo t))]) dX7_falls_34 rfl (by decide) rfl ?_
          have loop35 : ∀ (k35 : Nat) (kf : Nat) (x : Option Nat), kf < k35 → (∀ j, x = some j → j < 5) → (rch fb q kf x = rch fb q 5 t) → (ends fb kf x) → am_W K iX7_falls xp l xe (am_room 1 0 0) xs xm xa xb xt xc (mdS S th pd wd ln sq st ct cl ft zn a26 a27 a28 a29 (fun l => fo (fb l)) a31 a32 a33 a34 a35 a36 a37 a38 a39 a40 a41 a42 a43 a44) ad0 (am_E K ad0 (mdS S th pd wd ln sq st ct cl ft zn a26 a27 a28 a29 (fun l => fo (fb l)) a31 a32 a33 a34 a35 a36 a37 a38 a39 a40 a41 a42 a43 a44) (fun v S' => v = some (.int (0)) ∧ mdS S 0 pd wd ln sq st ct cl ft zn a26 a27 a28 a29 (fun l => fo (fb l)) a31 a32 a33 a34 a35 a36 a37 a38 a39 a40 a41 a42 a43 a44 = S') (fun _ _ => False) xb xa xs 0 0) 35 [some (.ref 25), some (.int (nI q)), some (.int (fo t)), some (.int (fo x))] [] (mdS S 0 pd wd ln sq st ct cl ft zn a26 a27 a28 a29 (fun l => fo (fb l)) a31 a32 a33 a34 a35 a36 a37 a38 a39 a40 a41 a42 a43 a44) 0 0 := by
            intro k35
            induction k35 with
            | zero => intro kf x h9; exact absurd h9 (Nat.not_lt_zero _)
            | succ k35 ih35 =>
              intro kf x hm35 hx he hend
              refine am_iload_n (I := iX7_falls) (pc := 35) dX7_falls_35 rfl rfl ?_
              refine am_iconst (I := iX7_falls) (pc := 36) (x := (-1)) dX7_falls_36 (by decide) ?_
              refine am_icmp_eq (I := iX7_falls) (pc := 37) (tgt := 55) dX7_falls_37 (by decide) (fun c37 => ?_) (fun c37 => ?_)
              · refine am_iload_n (I := iX7_falls) (pc := 55) dX7_falls_55 rfl rfl ?_
                refine am_iload_n (I := iX7_falls) (pc := 56) dX7_falls_56 rfl rfl ?_
                refine am_icmp_ne (I := iX7_falls) (pc := 57) (tgt := 62) dX7_falls_57 (by decide) (fun c57 => ?_) (fun c57 => ?_)
                · exact absurd (hr9.symm.trans (he.symm.trans (show rch fb q kf x = false by rw [(fo_none hx).mp c37]; cases kf <;> rfl))) (by decide)
                · refine am_iconst (I := iX7_falls) (pc := 60) (x := 0) dX7_falls_60 (by decide) ?_
                  exact am_zret (I := iX7_falls) (pc := 61) dX7_falls_61 rfl (by decide) (Nat.le_refl _) (Nat.le_refl _) (⟨rfl, rfl⟩)
              · obtain ⟨r, rfl, hr⟩ := fo_some hx c37
                obtain ⟨kf, rfl, hend'⟩ := ends_some hend
                show am_W _ _ _ _ _ _ _ _ _ _ _ _ _ _ _ 40 [some (.ref 25), some (.int (nI q)), some (.int (fo t)), some (.int (nI r))] [] _ _ _
                refine am_iload_n (I := iX7_falls) (pc := 40) dX7_falls_40 rfl rfl ?_
                refine am_iload_n (I := iX7_falls) (pc := 41) dX7_falls_41 rfl rfl ?_
                refine am_icmp_eq (I := iX7_falls) (pc := 42) (tgt := 55) dX7_falls_42 (by decide) (fun c42 => ?_) (fun c42 => ?_)
                · have er : r = q := (nI_eq (by omega) (by omega)).mp c42
                  refine am_iload_n (I := iX7_falls) (pc := 55) dX7_falls_55 rfl rfl ?_
                  refine am_iload_n (I := iX7_falls) (pc := 56) dX7_falls_56 rfl rfl ?_
                  refine am_icmp_ne (I := iX7_falls) (pc := 57) (tgt := 62) dX7_falls_57 (by decide) (fun c57 => ?_) (fun c57 => ?_)
                  · exact absurd (by rw [er]) c57
                  · refine am_iconst (I := iX7_falls) (pc := 60) (x := 0) dX7_falls_60 (by decide) ?_
                    exact am_zret (I := iX7_falls) (pc := 61) dX7_falls_61 rfl (by decide) (Nat.le_refl _) (Nat.le_refl _) (⟨rfl, rfl⟩)
                · have er : ¬ r = q := fun e9 => c42 (by rw [e9])
                  refine am_aload_n (I := iX7_falls) (pc := 45) dX7_falls_45 rfl rfl ?_
                  refine am_getf (I := iX7_falls) (pc := 46) lf_X7_22 dX7_falls_46 md_25 rfl ?_
                  refine am_iload_n (I := iX7_falls) (pc := 49) dX7_falls_49 rfl rfl ?_
                  refine am_iaload (I := iX7_falls) (pc := 50) dX7_falls_50 md_30 rfl (vp_in_nI (show r < 5 by omega) (by decide)) ?_
                  rw [nI_clamp (show r < 2 ^ 31 by omega)]
                  refine am_istore_n (I := iX7_falls) (pc := 51) (L' := [some (.ref 25), some (.int (nI q)), some (.int (fo t)), some (.int (fo (fb r)))]) dX7_falls_51 rfl (by decide) rfl ?_
                  refine am_goto (I := iX7_falls) (pc := 52) (tgt := 35) dX7_falls_52 (by decide) ?_
                  exact am_same rfl rfl rfl rfl rfl rfl (ih35 kf (fb r) (by omega) (hf r) (by rw [← he, rch, if_neg er]) hend')
          exact am_same rfl rfl rfl rfl rfl rfl (loop35 _ 5 t (Nat.lt_succ_self _) ht rfl hen)
        · exact absurd c28 (by decide)
set_option maxRecDepth 100000 in
set_option maxHeartbeats 4000000 in
theorem q_falls1 {K : am_K} {l : Launch} {S : am_S} {th pd wd ln sq st ct cl ft zn : Int32} {a26 a27 a28 a29 a31 a32 a33 a34 a35 a36 a37 a38 a39 a40 a41 a42 a43 a44 : Nat → Int32} (fb : Nat → Option Nat) (q : Nat) (t : Option Nat) (hf : ∀ l k, fb l = some k → k < 5) (hq : q < 5) (ht : ∀ k, t = some k → k < 5) (hen : ends fb 5 t) (hr9 : rch fb q 5 t = false) : am_M K l iX7_falls 1 0 0 [.ref 25, .int (nI q), .int (fo t)] (mdS S th pd wd ln sq st ct cl ft zn a26 a27 a28 a29 (fun l => fo (fb l)) a31 a32 a33 a34 a35 a36 a37 a38 a39 a40 a41 a42 a43 a44) (fun v S' => v = some (.int (1)) ∧ mdS S 0 pd wd ln sq st ct cl ft zn a26 a27 a28 a29 (fun j => fo (va_up fb q t j)) a31 a32 a33 a34 a35 a36 a37 a38 a39 a40 a41 a42 a43 a44 = S') (fun _ _ => False) := by
  refine am_body (by decide) rfl (by simp [Value.category]) (Nat.le_of_ble_eq_true rfl) (fun xp xe xs xm xa xb xt xc ad0 => ?_)
  show am_W _ _ _ _ _ _ _ _ _ _ _ _ _ _ _ 0 [some (.ref 25), some (.int (nI q)), some (.int (fo t)), none] [] (mdS S th pd wd ln sq st ct cl ft zn a26 a27 a28 a29 (fun l => fo (fb l)) a31 a32 a33 a34 a35 a36 a37 a38 a39 a40 a41 a42 a43 a44) 0 0
  refine am_aload_n (I := iX7_falls) (pc := 0) dX7_falls_0 rfl rfl ?_
  refine am_iload_n (I := iX7_falls) (pc := 1) dX7_falls_1 rfl rfl ?_
  refine am_iconst (I := iX7_falls) (pc := 2) (x := 5) dX7_falls_2 (by decide) ?_
  refine am_callS (I := iX7_falls) (pc := 3) (st := [.ref 25]) lv_X7_83 rfl (q_below (nI q) 5) dX7_falls_3 rfl (Nat.le_of_ble_eq_true rfl) ⟨Nat.le_of_ble_eq_true rfl, Nat.le_of_ble_eq_true rfl⟩ (Nat.le_of_ble_eq_true rfl) (Nat.le_of_ble_eq_true rfl) rfl (fun v9 T9 z9 _ => ?_) (fun _ _ h9 => h9.elim)
  obtain ⟨rfl, rfl⟩ := z9
  show am_W _ _ _ _ _ _ _ _ _ _ _ _ _ _ _ 6 [some (.ref 25), some (.int (nI q)), some (.int (fo t)), none] [.int (bI (blw (nI q) 5)), .ref 25] (mdS S th pd wd ln sq st ct cl ft zn a26 a27 a28 a29 (fun l => fo (fb l)) a31 a32 a33 a34 a35 a36 a37 a38 a39 a40 a41 a42 a43 a44) 0 0
  refine am_if_eq (I := iX7_falls) (pc := 6) (tgt := 23) dX7_falls_6 (by decide) (fun c6 => ?_) (fun c6 => ?_)
  · exact absurd c6 (by rw [show (5 : Int32) = nI 5 from rfl, blw_t hq (by decide)]; decide)
  · refine am_iload_n (I := iX7_falls) (pc := 9) dX7_falls_9 rfl rfl ?_
    refine am_iconst (I := iX7_falls) (pc := 10) (x := (-1)) dX7_falls_10 (by decide) ?_
    refine am_icmp_lt (I := iX7_falls) (pc := 11) (tgt := 23) dX7_falls_11 (by decide) (fun c11 => ?_) (fun c11 => ?_)
    · exact absurd c11 (fo_ge ht)
    · refine am_iload_n (I := iX7_falls) (pc := 14) dX7_falls_14 rfl rfl ?_
      refine am_iconst (I := iX7_falls) (pc := 15) (x := 5) dX7_falls_15 (by decide) ?_
      refine am_icmp_ge (I := iX7_falls) (pc := 16) (tgt := 23) dX7_falls_16 (by decide) (fun c16 => ?_) (fun c16 => ?_)
      · exact absurd c16 (fo_lt ht)
      · refine am_iconst (I := iX7_falls) (pc := 19) (x := 1) dX7_falls_19 (by decide) ?_
        refine am_goto (I := iX7_falls) (pc := 20) (tgt := 24) dX7_falls_20 (by decide) ?_
        refine am_iconst (I := iX7_falls) (pc := 24) (x := 1) dX7_falls_24 (by decide) ?_
        refine am_callV (I := iX7_falls) (pc := 25) (st := []) lv_X7_79 (q_goes0) dX7_falls_25 md_25 rfl (Nat.le_of_ble_eq_true rfl) ⟨Nat.le_of_ble_eq_true rfl, Nat.le_of_ble_eq_true rfl⟩ (Nat.le_of_ble_eq_true rfl) (Nat.le_of_ble_eq_true rfl) rfl (fun v9 T9 z9 _ => ?_) (fun _ _ h9 => h9.elim)
        obtain ⟨rfl, rfl⟩ := z9
        show am_W _ _ _ _ _ _ _ _ _ _ _ _ _ _ _ 28 [some (.ref 25), some (.int (nI q)), some (.int (fo t)), none] [.int 1] (mdS S 0 pd wd ln sq st ct cl ft zn a26 a27 a28 a29 (fun l => fo (fb l)) a31 a32 a33 a34 a35 a36 a37 a38 a39 a40 a41 a42 a43 a44) 0 0
        refine am_if_ne (I := iX7_falls) (pc := 28) (tgt := 33) dX7_falls_28 (by decide) (fun c28 => ?_) (fun c28 => ?_)
        · refine am_iload_n (I := iX7_falls) (pc := 33) dX7_falls_33 rfl rfl ?_
          refine am_istore_n (I := iX7_falls) (pc := 34) (L' := [some (.ref 25), some (.int (nI q)), some (.int (fo t)), some (.int (fo t))]) dX7_falls_34 rfl (by decide) rfl ?_
          have loop35 : ∀ (k35 : Nat) (kf : Nat) (x : Option Nat), kf < k35 → (∀ j, x = some j → j < 5) → (rch fb q kf x = rch fb q 5 t) → (ends fb kf x) → am_W K iX7_falls xp l xe (am_room 1 0 0) xs xm xa xb xt xc (mdS S th pd wd ln sq st ct cl ft zn a26 a27 a28 a29 (fun l => fo (fb l)) a31 a32 a33 a34 a35 a36 a37 a38 a39 a40 a41 a42 a43 a44) ad0 (am_E K ad0 (mdS S th pd wd ln sq st ct cl ft zn a26 a27 a28 a29 (fun l => fo (fb l)) a31 a32 a33 a34 a35 a36 a37 a38 a39 a40 a41 a42 a43 a44) (fun v S' => v = some (.int (1)) ∧ mdS S 0 pd wd ln sq st ct cl ft zn a26 a27 a28 a29 (fun j => fo (va_up fb q t j)) a31 a32 a33 a34 a35 a36 a37 a38 a39 a40 a41 a42 a43 a44 = S') (fun _ _ => False) xb xa xs 0 0) 35 [some (.ref 25), some (.int (nI q)), some (.int (fo t)), some (.int (fo x))] [] (mdS S 0 pd wd ln sq st ct cl ft zn a26 a27 a28 a29 (fun l => fo (fb l)) a31 a32 a33 a34 a35 a36 a37 a38 a39 a40 a41 a42 a43 a44) 0 0 := by
            intro k35
            induction k35 with
            | zero => intro kf x h9; exact absurd h9 (Nat.not_lt_zero _)
            | succ k35 ih35 =>
              intro kf x hm35 hx he hend
              refine am_iload_n (I := iX7_falls) (pc := 35) dX7_falls_35 rfl rfl ?_
              refine am_iconst (I := iX7_falls) (pc := 36) (x := (-1)) dX7_falls_36 (by decide) ?_
              refine am_icmp_eq (I := iX7_falls) (pc := 37) (tgt := 55) dX7_falls_37 (by decide) (fun c37 => ?_) (fun c37 => ?_)
              · refine am_iload_n (I := iX7_falls) (pc := 55) dX7_falls_55 rfl rfl ?_
                refine am_iload_n (I := iX7_falls) (pc := 56) dX7_falls_56 rfl rfl ?_
                refine am_icmp_ne (I := iX7_falls) (pc := 57) (tgt := 62) dX7_falls_57 (by decide) (fun c57 => ?_) (fun c57 => ?_)
                · refine am_aload_n (I := iX7_falls) (pc := 62) dX7_falls_62 rfl rfl ?_
                  refine am_getf (I := iX7_falls) (pc := 63) lf_X7_22 dX7_falls_63 md_25 rfl ?_
                  refine am_iload_n (I := iX7_falls) (pc := 66) dX7_falls_66 rfl rfl ?_
                  refine am_iload_n (I := iX7_falls) (pc := 67) dX7_falls_67 rfl rfl ?_
                  refine am_iastore (I := iX7_falls) (pc := 68) dX7_falls_68 md_30 rfl (vp_in_nI hq (by decide)) ?_
                  rw [nI_clamp (show q < 2 ^ 31 by omega)]
                  refine am_same (S' := mdS S 0 pd wd ln sq st ct cl ft zn a26 a27 a28 a29 (upd (fun l => fo (fb l)) q (fo t)) a31 a32 a33 a34 a35 a36 a37 a38 a39 a40 a41 a42 a43 a44) rfl rfl rfl mdS_30 rfl rfl ?_
                  refine am_same (S' := mdS S 0 pd wd ln sq st ct cl ft zn a26 a27 a28 a29 (fun j => fo (va_up fb q t j)) a31 a32 a33 a34 a35 a36 a37 a38 a39 a40 a41 a42 a43 a44) rfl rfl rfl (by rw [upd_fo]) rfl rfl ?_
                  refine am_iconst (I := iX7_falls) (pc := 69) (x := 1) dX7_falls_69 (by decide) ?_
                  exact am_zret (I := iX7_falls) (pc := 70) dX7_falls_70 rfl (by decide) (Nat.le_refl _) (Nat.le_refl _) (⟨rfl, rfl⟩)
                · exact absurd ((fo_nI hx hq).mp c57) (by rw [(fo_none hx).mp c37]; intro h9; cases h9)
              · obtain ⟨r, rfl, hr⟩ := fo_some hx c37
                obtain ⟨kf, rfl, hend'⟩ := ends_some hend
                show am_W _ _ _ _ _ _ _ _ _ _ _ _ _ _ _ 40 [some (.ref 25), some (.int (nI q)), some (.int (fo t)), some (.int (nI r))] [] _ _ _
                refine am_iload_n (I := iX7_falls) (pc := 40) dX7_falls_40 rfl rfl ?_
                refine am_iload_n (I := iX7_falls) (pc := 41) dX7_falls_41 rfl rfl ?_
                refine am_icmp_eq (I := iX7_falls) (pc := 42) (tgt := 55) dX7_falls_42 (by decide) (fun c42 => ?_) (fun c42 => ?_)
                · have er : r = q := (nI_eq (by omega) (by omega)).mp c42
                  refine am_iload_n (I := iX7_falls) (pc := 55) dX7_falls_55 rfl rfl ?_
                  refine am_iload_n (I := iX7_falls) (pc := 56) dX7_falls_56 rfl rfl ?_
                  refine am_icmp_ne (I := iX7_falls) (pc := 57) (tgt := 62) dX7_falls_57 (by decide) (fun c57 => ?_) (fun c57 => ?_)
                  · refine am_aload_n (I := iX7_falls) (pc := 62) dX7_falls_62 rfl rfl ?_
                    refine am_getf (I := iX7_falls) (pc := 63) lf_X7_22 dX7_falls_63 md_25 rfl ?_
                    refine am_iload_n (I := iX7_falls) (pc := 66) dX7_falls_66 rfl rfl ?_
                    refine am_iload_n (I := iX7_falls) (pc := 67) dX7_falls_67 rfl rfl ?_
                    refine am_iastore (I := iX7_falls) (pc := 68) dX7_falls_68 md_30 rfl (vp_in_nI hq (by decide)) ?_
                    rw [nI_clamp (show q < 2 ^ 31 by omega)]
                    refine am_same (S' := mdS S 0 pd wd ln sq st ct cl ft zn a26 a27 a28 a29 (upd (fun l => fo (fb l)) q (fo t)) a31 a32 a33 a34 a35 a36 a37 a38 a39 a40 a41 a42 a43 a44) rfl rfl rfl mdS_30 rfl rfl ?_
                    refine am_same (S' := mdS S 0 pd wd ln sq st ct cl ft zn a26 a27 a28 a29 (fun j => fo (va_up fb q t j)) a31 a32 a33 a34 a35 a36 a37 a38 a39 a40 a41 a42 a43 a44) rfl rfl rfl (by rw [upd_fo]) rfl rfl ?_
                    refine am_iconst (I := iX7_falls) (pc := 69) (x := 1) dX7_falls_69 (by decide) ?_
                    exact am_zret (I := iX7_falls) (pc := 70) dX7_falls_70 rfl (by decide) (Nat.le_refl _) (Nat.le_refl _) (⟨rfl, rfl⟩)
                  · exact absurd (hr9.symm.trans (he.symm.trans (show rch fb q (kf + 1) (some r) = true by rw [er, rch, if_pos rfl]))) (by decide)
                · have er : ¬ r = q := fun e9 => c42 (by rw [e9])
                  refine am_aload_n (I := iX7_falls) (pc := 45) dX7_falls_45 rfl rfl ?_
                  refine am_getf (I := iX7_falls) (pc := 46) lf_X7_22 dX7_falls_46 md_25 rfl ?_
                  refine am_iload_n (I := iX7_falls) (pc := 49) dX7_falls_49 rfl rfl ?_
                  refine am_iaload (I := iX7_falls) (pc := 50) dX7_falls_50 md_30 rfl (vp_in_nI (show r < 5 by omega) (by decide)) ?_
                  rw [nI_clamp (show r < 2 ^ 31 by omega)]
                  refine am_istore_n (I := iX7_falls) (pc := 51) (L' := [some (.ref 25), some (.int (nI q)), some (.int (fo t)), some (.int (fo (fb r)))]) dX7_falls_51 rfl (by decide) rfl ?_
                  refine am_goto (I := iX7_falls) (pc := 52) (tgt := 35) dX7_falls_52 (by decide) ?_
                  exact am_same rfl rfl rfl rfl rfl rfl (ih35 kf (fb r) (by omega) (hf r) (by rw [← he, rch, if_neg er]) hend')
          exact am_same rfl rfl rfl rfl rfl rfl (loop35 _ 5 t (Nat.lt_succ_self _) ht rfl hen)
        · exact absurd c28 (by decide)
set_option maxRecDepth 100000 in
set_option maxHeartbeats 4000000 in
theorem q_shownIn {K : am_K} {l : Launch} {S : am_S} {th pd wd ln sq st ct cl ft zn : Int32} {a26 a28 a29 a31 a32 a33 a34 a35 a36 a37 a38 a39 a40 a41 a42 a43 a44 : Nat → Int32} (cn : Nat → Nat) (fb : Nat → Option Nat) (p q : Nat) (h4 : ∀ k, cn k ≤ 4) (hf : ∀ l k, fb l = some k → k < 5) (hp : p < 10) (hq : q < 5) (hen : ends fb 5 (some q)) : am_M K l iX7_shownIn 0 0 0 [.ref 25, .int (nI p), .int (nI q)] (mdS S th pd wd ln sq st ct cl ft zn a26 (fun k => nI (cn k)) a28 a29 (fun l => fo (fb l)) a31 a32 a33 a34 a35 a36 a37 a38 a39 a40 a41 a42 a43 a44) (fun v S' => v = some (.int (fo (sh cn fb p 5 (some q)))) ∧ mdS S th pd wd ln sq st ct cl ft zn a26 (fun k => nI (cn k)) a28 a29 (fun l => fo (fb l)) a31 a32 a33 a34 a35 a36 a37 a38 a39 a40 a41 a42 a43 a44 = S') (fun _ _ => False) := by
  refine am_body (by decide) rfl (by simp [Value.category]) (Nat.le_of_ble_eq_true rfl) (fun xp xe xs xm xa xb xt xc ad0 => ?_)
  show am_W _ _ _ _ _ _ _ _ _ _ _ _ _ _ _ 0 [some (.ref 25), some (.int (nI p)), some (.int (nI q)), none] [] (mdS S th pd wd ln sq st ct cl ft zn a26 (fun k => nI (cn k)) a28 a29 (fun l => fo (fb l)) a31 a32 a33 a34 a35 a36 a37 a38 a39 a40 a41 a42 a43 a44) 0 0
  refine am_iload_n (I := iX7_shownIn) (pc := 0) dX7_shownIn_0 rfl rfl ?_
  refine am_istore_n (I := iX7_shownIn) (pc := 1) (L' := [some (.ref 25), some (.int (nI p)), some (.int (nI q)), some (.int (nI q))]) dX7_shownIn_1 rfl (by decide) rfl ?_
  have loop2 : ∀ (k2 : Nat) (kf : Nat) (x : Option Nat), kf < k2 → (∀ j, x = some j → j < 5) → (sh cn fb p kf x = sh cn fb p 5 (some q)) → (ends fb kf x) → am_W K iX7_shownIn xp l xe (am_room 0 0 0) xs xm xa xb xt xc (mdS S th pd wd ln sq st ct cl ft zn a26 (fun k => nI (cn k)) a28 a29 (fun l => fo (fb l)) a31 a32 a33 a34 a35 a36 a37 a38 a39 a40 a41 a42 a43 a44) ad0 (am_E K ad0 (mdS S th pd wd ln sq st ct cl ft zn a26 (fun k => nI (cn k)) a28 a29 (fun l => fo (fb l)) a31 a32 a33 a34 a35 a36 a37 a38 a39 a40 a41 a42 a43 a44) (fun v S' => v = some (.int (fo (sh cn fb p 5 (some q)))) ∧ mdS S th pd wd ln sq st ct cl ft zn a26 (fun k => nI (cn k)) a28 a29 (fun l => fo (fb l)) a31 a32 a33 a34 a35 a36 a37 a38 a39 a40 a41 a42 a43 a44 = S') (fun _ _ => False) xb xa xs 0 0) 2 [some (.ref 25), some (.int (nI p)), some (.int (nI q)), some (.int (fo x))] [] (mdS S th pd wd ln sq st ct cl ft zn a26 (fun k => nI (cn k)) a28 a29 (fun l => fo (fb l)) a31 a32 a33 a34 a35 a36 a37 a38 a39 a40 a41 a42 a43 a44) 0 0 := by
    intro k2
    induction k2 with
    | zero => intro kf x h9; exact absurd h9 (Nat.not_lt_zero _)
    | succ k2 ih2 =>
      intro kf x hm2 hx he hend
      refine am_iload_n (I := iX7_shownIn) (pc := 2) dX7_shownIn_2 rfl rfl ?_
      refine am_iconst (I := iX7_shownIn) (pc := 3) (x := (-1)) dX7_shownIn_3 (by decide) ?_
      refine am_icmp_eq (I := iX7_shownIn) (pc := 4) (tgt := 30) dX7_shownIn_4 (by decide) (fun c4 => ?_) (fun c4 => ?_)
      · refine am_iload_n (I := iX7_shownIn) (pc := 30) dX7_shownIn_30 rfl rfl ?_
        exact am_iret (I := iX7_shownIn) (pc := 31) dX7_shownIn_31 rfl (Nat.le_refl _) (Nat.le_refl _) (⟨by rw [← he, (fo_none hx).mp c4]; cases kf <;> rfl, rfl⟩)
      · obtain ⟨r, rfl, hr⟩ := fo_some hx c4
        obtain ⟨kf, rfl, hend'⟩ := ends_some hend
        show am_W _ _ _ _ _ _ _ _ _ _ _ _ _ _ _ 7 [some (.ref 25), some (.int (nI p)), some (.int (nI q)), some (.int (nI r))] [] _ _ _
        refine am_aload_n (I := iX7_shownIn) (pc := 7) dX7_shownIn_7 rfl rfl ?_
        refine am_getf (I := iX7_shownIn) (pc := 8) lf_X7_13 dX7_shownIn_8 md_25 rfl ?_
        refine am_iconst (I := iX7_shownIn) (pc := 11) (x := 5) dX7_shownIn_11 (by decide) ?_
        refine am_iload_n (I := iX7_shownIn) (pc := 12) dX7_shownIn_12 rfl rfl ?_
        refine am_imul (I := iX7_shownIn) (pc := 13) dX7_shownIn_13 ?_
        refine am_iload_n (I := iX7_shownIn) (pc := 14) dX7_shownIn_14 rfl rfl ?_
        refine am_iadd (I := iX7_shownIn) (pc := 15) dX7_shownIn_15 ?_
        rw [ix5]
        refine am_iaload (I := iX7_shownIn) (pc := 16) dX7_shownIn_16 md_27 rfl (vp_in_nI (show p * 5 + r < 50 by omega) (by decide)) ?_
        rw [nI_clamp (show p * 5 + r < 2 ^ 31 by omega)]
        refine am_if_ne (I := iX7_shownIn) (pc := 17) (tgt := 30) dX7_shownIn_17 (by decide) (fun c17 => ?_) (fun c17 => ?_)
        · have h0 : 0 < cn (p * 5 + r) := Nat.pos_of_ne_zero (fun e9 => c17 (by rw [e9]; rfl))
          refine am_iload_n (I := iX7_shownIn) (pc := 30) dX7_shownIn_30 rfl rfl ?_
          exact am_iret (I := iX7_shownIn) (pc := 31) dX7_shownIn_31 rfl (Nat.le_refl _) (Nat.le_refl _) (⟨by rw [← he, sh, if_pos h0]; rfl, rfl⟩)
        · have h0 : cn (p * 5 + r) = 0 := (nI_eq (b := 0) (by have := h4 (p * 5 + r); omega) (by decide)).mp c17
          refine am_aload_n (I := iX7_shownIn) (pc := 20) dX7_shownIn_20 rfl rfl ?_
          refine am_getf (I := iX7_shownIn) (pc := 21) lf_X7_22 dX7_shownIn_21 md_25 rfl ?_
          refine am_iload_n (I := iX7_shownIn) (pc := 24) dX7_shownIn_24 rfl rfl ?_
          refine am_iaload (I := iX7_shownIn) (pc := 25) dX7_shownIn_25 md_30 rfl (vp_in_nI hr (by decide)) ?_
          rw [nI_clamp (show r < 2 ^ 31 by omega)]
          refine am_istore_n (I := iX7_shownIn) (pc := 26) (L' := [some (.ref 25), some (.int (nI p)), some (.int (nI q)), some (.int (fo (fb r)))]) dX7_shownIn_26 rfl (by decide) rfl ?_
          refine am_goto (I := iX7_shownIn) (pc := 27) (tgt := 2) dX7_shownIn_27 (by decide) ?_
          exact am_same rfl rfl rfl rfl rfl rfl (ih2 kf (fb r) (by omega) (hf r) (by rw [← he, sh, if_neg (by omega)]) hend')
  exact am_same rfl rfl rfl rfl rfl rfl (loop2 _ 5 (some q) (Nat.lt_succ_self _) (fun j h9 => by cases h9; exact hq) rfl hen)
set_option maxRecDepth 100000 in
set_option maxHeartbeats 4000000 in
theorem q_shown_x0 {K : am_K} {l : Launch} {S : am_S} {th pd wd ln sq st ct cl ft zn : Int32} {a26 a27 a28 a29 a30 a31 a32 a33 a34 a35 a36 a37 a38 a39 a40 a41 a42 a43 a44 : Nat → Int32} (x y : Int32) (hb : (x < 0 ∨ 10 ≤ x) ∨ (y < 0 ∨ 5 ≤ y)) : am_M K l iX7_shown 2 0 0 [.ref 25, .int x, .int y] (mdS S th pd wd ln sq st ct cl ft zn a26 a27 a28 a29 a30 a31 a32 a33 a34 a35 a36 a37 a38 a39 a40 a41 a42 a43 a44) (fun v S' => v = some (.int (0)) ∧ mdS S 1 pd wd ln sq st ct cl ft zn a26 a27 a28 a29 a30 a31 a32 a33 a34 a35 a36 a37 a38 a39 a40 a41 a42 a43 a44 = S') (fun _ _ => False) := by
  refine am_body (by decide) rfl (by simp [Value.category]) (Nat.le_of_ble_eq_true rfl) (fun xp xe xs xm xa xb xt xc ad0 => ?_)
  show am_W _ _ _ _ _ _ _ _ _ _ _ _ _ _ _ 0 [some (.ref 25), some (.int x), some (.int y)] [] (mdS S th pd wd ln sq st ct cl ft zn a26 a27 a28 a29 a30 a31 a32 a33 a34 a35 a36 a37 a38 a39 a40 a41 a42 a43 a44) 0 0
  refine am_aload_n (I := iX7_shown) (pc := 0) dX7_shown_0 rfl rfl ?_
  refine am_iload_n (I := iX7_shown) (pc := 1) dX7_shown_1 rfl rfl ?_
  refine am_iload_n (I := iX7_shown) (pc := 2) dX7_shown_2 rfl rfl ?_
  refine am_callS (I := iX7_shown) (pc := 3) (st := [.ref 25]) lv_X7_87 rfl (q_isPair x y) dX7_shown_3 rfl (Nat.le_of_ble_eq_true rfl) ⟨Nat.le_of_ble_eq_true rfl, Nat.le_of_ble_eq_true rfl⟩ (Nat.le_of_ble_eq_true rfl) (Nat.le_of_ble_eq_true rfl) rfl (fun v9 T9 z9 _ => ?_) (fun _ _ h9 => h9.elim)
  obtain ⟨rfl, rfl⟩ := z9
  show am_W _ _ _ _ _ _ _ _ _ _ _ _ _ _ _ 6 [some (.ref 25), some (.int x), some (.int y)] [.int (bI (ipr x y)), .ref 25] (mdS S th pd wd ln sq st ct cl ft zn a26 a27 a28 a29 a30 a31 a32 a33 a34 a35 a36 a37 a38 a39 a40 a41 a42 a43 a44) 0 0
  refine am_iconst (I := iX7_shown) (pc := 6) (x := 1) dX7_shown_6 (by decide) ?_
  rw [bI_f (ipr_f hb)]
  refine am_callV (I := iX7_shown) (pc := 7) (st := []) lv_X7_79 (q_goes1 _) dX7_shown_7 md_25 rfl (Nat.le_of_ble_eq_true rfl) ⟨Nat.le_of_ble_eq_true rfl, Nat.le_of_ble_eq_true rfl⟩ (Nat.le_of_ble_eq_true rfl) (Nat.le_of_ble_eq_true rfl) rfl (fun v9 T9 z9 _ => ?_) (fun _ _ h9 => h9.elim)
  obtain ⟨rfl, rfl⟩ := z9
  show am_W _ _ _ _ _ _ _ _ _ _ _ _ _ _ _ 10 [some (.ref 25), some (.int x), some (.int y)] [.int 0] (mdS S 1 pd wd ln sq st ct cl ft zn a26 a27 a28 a29 a30 a31 a32 a33 a34 a35 a36 a37 a38 a39 a40 a41 a42 a43 a44) 0 0
  refine am_if_eq (I := iX7_shown) (pc := 10) (tgt := 22) dX7_shown_10 (by decide) (fun c10 => ?_) (fun c10 => ?_)
  · refine am_iconst (I := iX7_shown) (pc := 22) (x := 0) dX7_shown_22 (by decide) ?_
    exact am_iret (I := iX7_shown) (pc := 23) dX7_shown_23 rfl (Nat.le_refl _) (Nat.le_refl _) (⟨rfl, rfl⟩)
  · exact absurd rfl c10
set_option maxRecDepth 100000 in
set_option maxHeartbeats 4000000 in
theorem q_shown {K : am_K} {l : Launch} {S : am_S} {th pd wd ln sq st ct cl ft zn : Int32} {a26 a28 a29 a31 a32 a33 a34 a35 a36 a37 a38 a39 a40 a41 a42 a43 a44 : Nat → Int32} (cn : Nat → Nat) (fb : Nat → Option Nat) (p q : Nat) (h4 : ∀ k, cn k ≤ 4) (hf : ∀ l k, fb l = some k → k < 5) (hp : p < 10) (hq : q < 5) (hen : ends fb 5 (some q)) : am_M K l iX7_shown 2 0 0 [.ref 25, .int (nI p), .int (nI q)] (mdS S th pd wd ln sq st ct cl ft zn a26 (fun k => nI (cn k)) a28 a29 (fun l => fo (fb l)) a31 a32 a33 a34 a35 a36 a37 a38 a39 a40 a41 a42 a43 a44) (fun v S' => v = some (.int (fo (sh cn fb p 5 (some q)))) ∧ mdS S 0 pd wd ln sq st ct cl ft zn a26 (fun k => nI (cn k)) a28 a29 (fun l => fo (fb l)) a31 a32 a33 a34 a35 a36 a37 a38 a39 a40 a41 a42 a43 a44 = S') (fun _ _ => False) := by
  refine am_body (by decide) rfl (by simp [Value.category]) (Nat.le_of_ble_eq_true rfl) (fun xp xe xs xm xa xb xt xc ad0 => ?_)
  show am_W _ _ _ _ _ _ _ _ _ _ _ _ _ _ _ 0 [some (.ref 25), some (.int (nI p)), some (.int (nI q))] [] (mdS S th pd wd ln sq st ct cl ft zn a26 (fun k => nI (cn k)) a28 a29 (fun l => fo (fb l)) a31 a32 a33 a34 a35 a36 a37 a38 a39 a40 a41 a42 a43 a44) 0 0
  refine am_aload_n (I := iX7_shown) (pc := 0) dX7_shown_0 rfl rfl ?_
  refine am_iload_n (I := iX7_shown) (pc := 1) dX7_shown_1 rfl rfl ?_
  refine am_iload_n (I := iX7_shown) (pc := 2) dX7_shown_2 rfl rfl ?_
  refine am_callS (I := iX7_shown) (pc := 3) (st := [.ref 25]) lv_X7_87 rfl (q_isPair (nI p) (nI q)) dX7_shown_3 rfl (Nat.le_of_ble_eq_true rfl) ⟨Nat.le_of_ble_eq_true rfl, Nat.le_of_ble_eq_true rfl⟩ (Nat.le_of_ble_eq_true rfl) (Nat.le_of_ble_eq_true rfl) rfl (fun v9 T9 z9 _ => ?_) (fun _ _ h9 => h9.elim)
  obtain ⟨rfl, rfl⟩ := z9
  show am_W _ _ _ _ _ _ _ _ _ _ _ _ _ _ _ 6 [some (.ref 25), some (.int (nI p)), some (.int (nI q))] [.int (bI (ipr (nI p) (nI q))), .ref 25] (mdS S th pd wd ln sq st ct cl ft zn a26 (fun k => nI (cn k)) a28 a29 (fun l => fo (fb l)) a31 a32 a33 a34 a35 a36 a37 a38 a39 a40 a41 a42 a43 a44) 0 0
  refine am_iconst (I := iX7_shown) (pc := 6) (x := 1) dX7_shown_6 (by decide) ?_
  rw [bI_t (ipr_t hp hq)]
  refine am_callV (I := iX7_shown) (pc := 7) (st := []) lv_X7_79 (q_goes0) dX7_shown_7 md_25 rfl (Nat.le_of_ble_eq_true rfl) ⟨Nat.le_of_ble_eq_true rfl, Nat.le_of_ble_eq_true rfl⟩ (Nat.le_of_ble_eq_true rfl) (Nat.le_of_ble_eq_true rfl) rfl (fun v9 T9 z9 _ => ?_) (fun _ _ h9 => h9.elim)
  obtain ⟨rfl, rfl⟩ := z9
  show am_W _ _ _ _ _ _ _ _ _ _ _ _ _ _ _ 10 [some (.ref 25), some (.int (nI p)), some (.int (nI q))] [.int 1] (mdS S 0 pd wd ln sq st ct cl ft zn a26 (fun k => nI (cn k)) a28 a29 (fun l => fo (fb l)) a31 a32 a33 a34 a35 a36 a37 a38 a39 a40 a41 a42 a43 a44) 0 0
  refine am_if_eq (I := iX7_shown) (pc := 10) (tgt := 22) dX7_shown_10 (by decide) (fun c10 => ?_) (fun c10 => ?_)
  · exact absurd c10 (by decide)
  · refine am_aload_n (I := iX7_shown) (pc := 13) dX7_shown_13 rfl rfl ?_
    refine am_iload_n (I := iX7_shown) (pc := 14) dX7_shown_14 rfl rfl ?_
    refine am_iload_n (I := iX7_shown) (pc := 15) dX7_shown_15 rfl rfl ?_
    refine am_callV (I := iX7_shown) (pc := 16) (st := []) lv_X7_94 (q_shownIn cn fb p q h4 hf hp hq hen) dX7_shown_16 md_25 rfl (Nat.le_of_ble_eq_true rfl) ⟨Nat.le_of_ble_eq_true rfl, Nat.le_of_ble_eq_true rfl⟩ (Nat.le_of_ble_eq_true rfl) (Nat.le_of_ble_eq_true rfl) rfl (fun v9 T9 z9 _ => ?_) (fun _ _ h9 => h9.elim)
    obtain ⟨rfl, rfl⟩ := z9
    show am_W _ _ _ _ _ _ _ _ _ _ _ _ _ _ _ 19 [some (.ref 25), some (.int (nI p)), some (.int (nI q))] [.int (fo (sh cn fb p 5 (some q)))] (mdS S 0 pd wd ln sq st ct cl ft zn a26 (fun k => nI (cn k)) a28 a29 (fun l => fo (fb l)) a31 a32 a33 a34 a35 a36 a37 a38 a39 a40 a41 a42 a43 a44) 0 0
    refine am_goto (I := iX7_shown) (pc := 19) (tgt := 23) dX7_shown_19 (by decide) ?_
    exact am_iret (I := iX7_shown) (pc := 23) dX7_shown_23 rfl (Nat.le_refl _) (Nat.le_refl _) (⟨rfl, rfl⟩)
set_option maxRecDepth 100000 in
set_option maxHeartbeats 4000000 in
theorem q_latest0 {K : am_K} {l : Launch} {S : am_S} {th pd wd ln sq st ct cl ft zn : Int32} {a26 a28 a29 a31 a32 a33 a34 a35 a36 a37 a38 a39 a40 a41 a42 a43 a44 : Nat → Int32} (cn : Nat → Nat) (fb : Nat → Option Nat) (p q : Nat) (h4 : ∀ k, cn k ≤ 4) (hf : ∀ l k, fb l = some k → k < 5) (hp : p < 10) (hq : q < 5) (hen : ends fb 5 (some q)) (hs : sh cn fb p 5 (some q) = none) : am_M K l iX7_latest 1 0 0 [.ref 25, .int (nI p), .int (nI q)] (mdS S th pd wd ln sq st ct cl ft zn a26 (fun k => nI (cn k)) a28 a29 (fun l => fo (fb l)) a31 a32 a33 a34 a35 a36 a37 a38 a39 a40 a41 a42 a43 a44) (fun v S' => v = some (.int (-1)) ∧ mdS S th pd wd ln sq st ct cl ft zn a26 (fun k => nI (cn k)) a28 a29 (fun l => fo (fb l)) a31 a32 a33 a34 a35 a36 a37 a38 a39 a40 a41 a42 a43 a44 = S') (fun _ _ => False) := by
  refine am_body (by decide) rfl (by simp [Value.category]) (Nat.le_of_ble_eq_true rfl) (fun xp xe xs xm xa xb xt xc ad0 => ?_)
  show am_W _ _ _ _ _ _ _ _ _ _ _ _ _ _ _ 0 [some (.ref 25), some (.int (nI p)), some (.int (nI q)), none] [] (mdS S th pd wd ln sq st ct cl ft zn a26 (fun k => nI (cn k)) a28 a29 (fun l => fo (fb l)) a31 a32 a33 a34 a35 a36 a37 a38 a39 a40 a41 a42 a43 a44) 0 0
  refine am_aload_n (I := iX7_latest) (pc := 0) dX7_latest_0 rfl rfl ?_
  refine am_iload_n (I := iX7_latest) (pc := 1) dX7_latest_1 rfl rfl ?_
  refine am_iload_n (I := iX7_latest) (pc := 2) dX7_latest_2 rfl rfl ?_
  refine am_callV (I := iX7_latest) (pc := 3) (st := []) lv_X7_94 (q_shownIn cn fb p q h4 hf hp hq hen) dX7_latest_3 md_25 rfl (Nat.le_of_ble_eq_true rfl) ⟨Nat.le_of_ble_eq_true rfl, Nat.le_of_ble_eq_true rfl⟩ (Nat.le_of_ble_eq_true rfl) (Nat.le_of_ble_eq_true rfl) rfl (fun v9 T9 z9 _ => ?_) (fun _ _ h9 => h9.elim)
  obtain ⟨rfl, rfl⟩ := z9
  show am_W _ _ _ _ _ _ _ _ _ _ _ _ _ _ _ 6 [some (.ref 25), some (.int (nI p)), some (.int (nI q)), none] [.int (fo (sh cn fb p 5 (some q)))] (mdS S th pd wd ln sq st ct cl ft zn a26 (fun k => nI (cn k)) a28 a29 (fun l => fo (fb l)) a31 a32 a33 a34 a35 a36 a37 a38 a39 a40 a41 a42 a43 a44) 0 0
  refine am_istore_n (I := iX7_latest) (pc := 6) (L' := [some (.ref 25), some (.int (nI p)), some (.int (nI q)), some (.int (fo (sh cn fb p 5 (some q))))]) dX7_latest_6 rfl (by decide) rfl ?_
  refine am_iload_n (I := iX7_latest) (pc := 7) dX7_latest_7 rfl rfl ?_
  refine am_iconst (I := iX7_latest) (pc := 8) (x := (-1)) dX7_latest_8 (by decide) ?_
  refine am_icmp_ne (I := iX7_latest) (pc := 9) (tgt := 16) dX7_latest_9 (by decide) (fun c9 => ?_) (fun c9 => ?_)
  · exact absurd (by rw [hs]; rfl) c9
  · refine am_iconst (I := iX7_latest) (pc := 12) (x := (-1)) dX7_latest_12 (by decide) ?_
    refine am_goto (I := iX7_latest) (pc := 13) (tgt := 36) dX7_latest_13 (by decide) ?_
    exact am_iret (I := iX7_latest) (pc := 36) dX7_latest_36 rfl (Nat.le_refl _) (Nat.le_refl _) (⟨rfl, rfl⟩)
set_option maxRecDepth 100000 in
set_option maxHeartbeats 4000000 in
theorem q_latest1 {K : am_K} {l : Launch} {S : am_S} {th pd wd ln sq st ct cl ft zn : Int32} {a26 a28 a29 a31 a32 a33 a34 a35 a36 a37 a38 a39 a40 a41 a42 a43 a44 : Nat → Int32} (cn : Nat → Nat) (fb : Nat → Option Nat) (p q : Nat) (r : Nat) (h4 : ∀ k, cn k ≤ 4) (hf : ∀ l k, fb l = some k → k < 5) (hp : p < 10) (hq : q < 5) (hen : ends fb 5 (some q)) (hs : sh cn fb p 5 (some q) = some r) : am_M K l iX7_latest 1 0 0 [.ref 25, .int (nI p), .int (nI q)] (mdS S th pd wd ln sq st ct cl ft zn a26 (fun k => nI (cn k)) a28 a29 (fun l => fo (fb l)) a31 a32 a33 a34 a35 a36 a37 a38 a39 a40 a41 a42 a43 a44) (fun v S' => v = some (.int (nI ((p * 5 + r) * 4 + (cn (p * 5 + r) - 1)))) ∧ mdS S th pd wd ln sq st ct cl ft zn a26 (fun k => nI (cn k)) a28 a29 (fun l => fo (fb l)) a31 a32 a33 a34 a35 a36 a37 a38 a39 a40 a41 a42 a43 a44 = S') (fun _ _ => False) := by
  refine am_body (by decide) rfl (by simp [Value.category]) (Nat.le_of_ble_eq_true rfl) (fun xp xe xs xm xa xb xt xc ad0 => ?_)
  show am_W _ _ _ _ _ _ _ _ _ _ _ _ _ _ _ 0 [some (.ref 25), some (.int (nI p)), some (.int (nI q)), none] [] (mdS S th pd wd ln sq st ct cl ft zn a26 (fun k => nI (cn k)) a28 a29 (fun l => fo (fb l)) a31 a32 a33 a34 a35 a36 a37 a38 a39 a40 a41 a42 a43 a44) 0 0
  refine am_aload_n (I := iX7_latest) (pc := 0) dX7_latest_0 rfl rfl ?_
  refine am_iload_n (I := iX7_latest) (pc := 1) dX7_latest_1 rfl rfl ?_
  refine am_iload_n (I := iX7_latest) (pc := 2) dX7_latest_2 rfl rfl ?_
  refine am_callV (I := iX7_latest) (pc := 3) (st := []) lv_X7_94 (q_shownIn cn fb p q h4 hf hp hq hen) dX7_latest_3 md_25 rfl (Nat.le_of_ble_eq_true rfl) ⟨Nat.le_of_ble_eq_true rfl, Nat.le_of_ble_eq_true rfl⟩ (Nat.le_of_ble_eq_true rfl) (Nat.le_of_ble_eq_true rfl) rfl (fun v9 T9 z9 _ => ?_) (fun _ _ h9 => h9.elim)
  obtain ⟨rfl, rfl⟩ := z9
  show am_W _ _ _ _ _ _ _ _ _ _ _ _ _ _ _ 6 [some (.ref 25), some (.int (nI p)), some (.int (nI q)), none] [.int (fo (sh cn fb p 5 (some q)))] (mdS S th pd wd ln sq st ct cl ft zn a26 (fun k => nI (cn k)) a28 a29 (fun l => fo (fb l)) a31 a32 a33 a34 a35 a36 a37 a38 a39 a40 a41 a42 a43 a44) 0 0
  obtain ⟨hr, h0⟩ := sh_lt (cn := cn) (fb := fb) (p := p) hf 5 (some q) (fun j h9 => by cases h9; exact hq) r hs
  rw [hs]
  show am_W _ _ _ _ _ _ _ _ _ _ _ _ _ _ _ 6 [some (.ref 25), some (.int (nI p)), some (.int (nI q)), none] [.int (nI r)] _ _ _
  refine am_istore_n (I := iX7_latest) (pc := 6) (L' := [some (.ref 25), some (.int (nI p)), some (.int (nI q)), some (.int (nI r))]) dX7_latest_6 rfl (by decide) rfl ?_
  refine am_iload_n (I := iX7_latest) (pc := 7) dX7_latest_7 rfl rfl ?_
  refine am_iconst (I := iX7_latest) (pc := 8) (x := (-1)) dX7_latest_8 (by decide) ?_
  refine am_icmp_ne (I := iX7_latest) (pc := 9) (tgt := 16) dX7_latest_9 (by decide) (fun c9 => ?_) (fun c9 => ?_)
  · refine am_iconst (I := iX7_latest) (pc := 16) (x := 4) dX7_latest_16 (by decide) ?_
    refine am_iconst (I := iX7_latest) (pc := 17) (x := 5) dX7_latest_17 (by decide) ?_
    refine am_iload_n (I := iX7_latest) (pc := 18) dX7_latest_18 rfl rfl ?_
    refine am_imul (I := iX7_latest) (pc := 19) dX7_latest_19 ?_
    refine am_iload_n (I := iX7_latest) (pc := 20) dX7_latest_20 rfl rfl ?_
    refine am_iadd (I := iX7_latest) (pc := 21) dX7_latest_21 ?_
    rw [ix5]
    refine am_imul (I := iX7_latest) (pc := 22) dX7_latest_22 ?_
    refine am_aload_n (I := iX7_latest) (pc := 23) dX7_latest_23 rfl rfl ?_
    refine am_getf (I := iX7_latest) (pc := 24) lf_X7_13 dX7_latest_24 md_25 rfl ?_
    refine am_iconst (I := iX7_latest) (pc := 27) (x := 5) dX7_latest_27 (by decide) ?_
    refine am_iload_n (I := iX7_latest) (pc := 28) dX7_latest_28 rfl rfl ?_
    refine am_imul (I := iX7_latest) (pc := 29) dX7_latest_29 ?_
    refine am_iload_n (I := iX7_latest) (pc := 30) dX7_latest_30 rfl rfl ?_
    refine am_iadd (I := iX7_latest) (pc := 31) dX7_latest_31 ?_
    rw [ix5]
    refine am_iaload (I := iX7_latest) (pc := 32) dX7_latest_32 md_27 rfl (vp_in_nI (show p * 5 + r < 50 by omega) (by decide)) ?_
    rw [nI_clamp (show p * 5 + r < 2 ^ 31 by omega)]
    refine am_iadd (I := iX7_latest) (pc := 33) dX7_latest_33 ?_
    refine am_iconst (I := iX7_latest) (pc := 34) (x := 1) dX7_latest_34 (by decide) ?_
    refine am_isub (I := iX7_latest) (pc := 35) dX7_latest_35 ?_
    exact am_iret (I := iX7_latest) (pc := 36) dX7_latest_36 rfl (Nat.le_refl _) (Nat.le_refl _) (⟨by rw [ix41 h0], rfl⟩)
  · exact absurd c9 (fun e9 => by have h9 := nI_pos (n := r) (by omega); rw [e9] at h9; exact h9 (by decide))
set_option maxRecDepth 100000 in
set_option maxHeartbeats 4000000 in
theorem q_sign_x0 {K : am_K} {l : Launch} {S : am_S} {th pd wd ln sq st ct cl ft zn : Int32} {a26 a27 a28 a29 a30 a31 a32 a33 a34 a35 a36 a37 a38 a39 a40 a41 a42 a43 a44 : Nat → Int32} (x y u w : Int32) (hb : (x < 0 ∨ 10 ≤ x) ∨ (y < 0 ∨ 5 ≤ y)) : am_M K l iX7_sign 2 0 0 [.ref 25, .int x, .int y, .int u, .int w] (mdS S th pd wd ln sq st ct cl ft zn a26 a27 a28 a29 a30 a31 a32 a33 a34 a35 a36 a37 a38 a39 a40 a41 a42 a43 a44) (fun v S' => v = some (.int (0)) ∧ mdS S 1 pd wd ln sq st ct cl ft zn a26 a27 a28 a29 a30 a31 a32 a33 a34 a35 a36 a37 a38 a39 a40 a41 a42 a43 a44 = S') (fun _ _ => False) := by
  refine am_body (by decide) rfl (by simp [Value.category]) (Nat.le_of_ble_eq_true rfl) (fun xp xe xs xm xa xb xt xc ad0 => ?_)
  show am_W _ _ _ _ _ _ _ _ _ _ _ _ _ _ _ 0 [some (.ref 25), some (.int x), some (.int y), some (.int u), some (.int w), none, none] [] (mdS S th pd wd ln sq st ct cl ft zn a26 a27 a28 a29 a30 a31 a32 a33 a34 a35 a36 a37 a38 a39 a40 a41 a42 a43 a44) 0 0
  refine am_iload_n (I := iX7_sign) (pc := 0) dX7_sign_0 rfl rfl ?_
  refine am_iload_n (I := iX7_sign) (pc := 1) dX7_sign_1 rfl rfl ?_
  refine am_callS (I := iX7_sign) (pc := 2) (st := []) lv_X7_87 rfl (q_isPair x y) dX7_sign_2 rfl (Nat.le_of_ble_eq_true rfl) ⟨Nat.le_of_ble_eq_true rfl, Nat.le_of_ble_eq_true rfl⟩ (Nat.le_of_ble_eq_true rfl) (Nat.le_of_ble_eq_true rfl) rfl (fun v9 T9 z9 _ => ?_) (fun _ _ h9 => h9.elim)
  obtain ⟨rfl, rfl⟩ := z9
  show am_W _ _ _ _ _ _ _ _ _ _ _ _ _ _ _ 5 [some (.ref 25), some (.int x), some (.int y), some (.int u), some (.int w), none, none] [.int (bI (ipr x y))] (mdS S th pd wd ln sq st ct cl ft zn a26 a27 a28 a29 a30 a31 a32 a33 a34 a35 a36 a37 a38 a39 a40 a41 a42 a43 a44) 0 0
  refine am_if_eq (I := iX7_sign) (pc := 5) (tgt := 41) dX7_sign_5 (by decide) (fun c5 => ?_) (fun c5 => ?_)
  · refine am_iconst (I := iX7_sign) (pc := 41) (x := 0) dX7_sign_41 (by decide) ?_
    refine am_istore (I := iX7_sign) (pc := 42) (L' := [some (.ref 25), some (.int x), some (.int y), some (.int u), some (.int w), some (.int 0), none]) dX7_sign_42 (by decide) rfl ?_
    refine am_iload (I := iX7_sign) (pc := 44) dX7_sign_44 rfl ?_
    refine am_if_eq (I := iX7_sign) (pc := 46) (tgt := 61) dX7_sign_46 (by decide) (fun c46 => ?_) (fun c46 => ?_)
    · refine am_iconst (I := iX7_sign) (pc := 61) (x := 0) dX7_sign_61 (by decide) ?_
      refine am_istore (I := iX7_sign) (pc := 62) (L' := [some (.ref 25), some (.int x), some (.int y), some (.int u), some (.int w), some (.int 0), some (.int 0)]) dX7_sign_62 (by decide) rfl ?_
      refine am_aload_n (I := iX7_sign) (pc := 64) dX7_sign_64 rfl rfl ?_
      refine am_iload (I := iX7_sign) (pc := 65) dX7_sign_65 rfl ?_
      refine am_if_eq (I := iX7_sign) (pc := 67) (tgt := 92) dX7_sign_67 (by decide) (fun c67 => ?_) (fun c67 => ?_)
      · refine am_iconst (I := iX7_sign) (pc := 92) (x := 0) dX7_sign_92 (by decide) ?_
        refine am_iconst (I := iX7_sign) (pc := 93) (x := 1) dX7_sign_93 (by decide) ?_
        refine am_callV (I := iX7_sign) (pc := 94) (st := []) lv_X7_79 (q_goes1 _) dX7_sign_94 md_25 rfl (Nat.le_of_ble_eq_true rfl) ⟨Nat.le_of_ble_eq_true rfl, Nat.le_of_ble_eq_true rfl⟩ (Nat.le_of_ble_eq_true rfl) (Nat.le_of_ble_eq_true rfl) rfl (fun v9 T9 z9 _ => ?_) (fun _ _ h9 => h9.elim)
        obtain ⟨rfl, rfl⟩ := z9
        show am_W _ _ _ _ _ _ _ _ _ _ _ _ _ _ _ 97 [some (.ref 25), some (.int x), some (.int y), some (.int u), some (.int w), some (.int 0), some (.int 0)] [.int 0] (mdS S 1 pd wd ln sq st ct cl ft zn a26 a27 a28 a29 a30 a31 a32 a33 a34 a35 a36 a37 a38 a39 a40 a41 a42 a43 a44) 0 0
        refine am_if_ne (I := iX7_sign) (pc := 97) (tgt := 102) dX7_sign_97 (by decide) (fun c97 => ?_) (fun c97 => ?_)
        · exact absurd rfl c97
        · refine am_iconst (I := iX7_sign) (pc := 100) (x := 0) dX7_sign_100 (by decide) ?_
          exact am_iret (I := iX7_sign) (pc := 101) dX7_sign_101 rfl (Nat.le_refl _) (Nat.le_refl _) (⟨rfl, rfl⟩)
      · exact absurd rfl c67
    · exact absurd rfl c46
  · exact absurd (bI_f (ipr_f hb)) c5
set_option maxRecDepth 100000 in
set_option maxHeartbeats 4000000 in
theorem q_sign_v0 {K : am_K} {l : Launch} {S : am_S} {th pd wd ln sq st ct cl ft zn : Int32} {a26 a28 a29 a30 a31 a32 a33 a34 a35 a36 a37 a38 a39 a40 a41 a42 a43 a44 : Nat → Int32} (cn : Nat → Nat) (p q : Nat) (u w : Int32) (hp : p < 10) (hq : q < 5) (hu : u < 0 ∨ nI (cn (p * 5 + q)) ≤ u) : am_M K l iX7_sign 2 0 0 [.ref 25, .int (nI p), .int (nI q), .int u, .int w] (mdS S th pd wd ln sq st ct cl ft zn a26 (fun k => nI (cn k)) a28 a29 a30 a31 a32 a33 a34 a35 a36 a37 a38 a39 a40 a41 a42 a43 a44) (fun v S' => v = some (.int (0)) ∧ mdS S 1 pd wd ln sq st ct cl ft zn a26 (fun k => nI (cn k)) a28 a29 a30 a31 a32 a33 a34 a35 a36 a37 a38 a39 a40 a41 a42 a43 a44 = S') (fun _ _ => False) := by
  refine am_body (by decide) rfl (by simp [Value.category]) (Nat.le_of_ble_eq_true rfl) (fun xp xe xs xm xa xb xt xc ad0 => ?_)
  show am_W _ _ _ _ _ _ _ _ _ _ _ _ _ _ _ 0 [some (.ref 25), some (.int (nI p)), some (.int (nI q)), some (.int u), some (.int w), none, none] [] (mdS S th pd wd ln sq st ct cl ft zn a26 (fun k => nI (cn k)) a28 a29 a30 a31 a32 a33 a34 a35 a36 a37 a38 a39 a40 a41 a42 a43 a44) 0 0
  refine am_iload_n (I := iX7_sign) (pc := 0) dX7_sign_0 rfl rfl ?_
  refine am_iload_n (I := iX7_sign) (pc := 1) dX7_sign_1 rfl rfl ?_
  refine am_callS (I := iX7_sign) (pc := 2) (st := []) lv_X7_87 rfl (q_isPair (nI p) (nI q)) dX7_sign_2 rfl (Nat.le_of_ble_eq_true rfl) ⟨Nat.le_of_ble_eq_true rfl, Nat.le_of_ble_eq_true rfl⟩ (Nat.le_of_ble_eq_true rfl) (Nat.le_of_ble_eq_true rfl) rfl (fun v9 T9 z9 _ => ?_) (fun _ _ h9 => h9.elim)
  obtain ⟨rfl, rfl⟩ := z9
  show am_W _ _ _ _ _ _ _ _ _ _ _ _ _ _ _ 5 [some (.ref 25), some (.int (nI p)), some (.int (nI q)), some (.int u), some (.int w), none, none] [.int (bI (ipr (nI p) (nI q)))] (mdS S th pd wd ln sq st ct cl ft zn a26 (fun k => nI (cn k)) a28 a29 a30 a31 a32 a33 a34 a35 a36 a37 a38 a39 a40 a41 a42 a43 a44) 0 0
  refine am_if_eq (I := iX7_sign) (pc := 5) (tgt := 41) dX7_sign_5 (by decide) (fun c5 => ?_) (fun c5 => ?_)
  · exact absurd c5 (by rw [ipr_t hp hq]; decide)
  · refine am_iload_n (I := iX7_sign) (pc := 8) dX7_sign_8 rfl rfl ?_
    refine am_iload_n (I := iX7_sign) (pc := 9) dX7_sign_9 rfl rfl ?_
    refine am_iload_n (I := iX7_sign) (pc := 10) dX7_sign_10 rfl rfl ?_
    refine am_callS (I := iX7_sign) (pc := 11) (st := [.int u]) lv_X7_87 rfl (q_isPair (nI p) (nI q)) dX7_sign_11 rfl (Nat.le_of_ble_eq_true rfl) ⟨Nat.le_of_ble_eq_true rfl, Nat.le_of_ble_eq_true rfl⟩ (Nat.le_of_ble_eq_true rfl) (Nat.le_of_ble_eq_true rfl) rfl (fun v9 T9 z9 _ => ?_) (fun _ _ h9 => h9.elim)
    obtain ⟨rfl, rfl⟩ := z9
    show am_W _ _ _ _ _ _ _ _ _ _ _ _ _ _ _ 14 [some (.ref 25), some (.int (nI p)), some (.int (nI q)), some (.int u), some (.int w), none, none] [.int (bI (ipr (nI p) (nI q))), .int u] (mdS S th pd wd ln sq st ct cl ft zn a26 (fun k => nI (cn k)) a28 a29 a30 a31 a32 a33 a34 a35 a36 a37 a38 a39 a40 a41 a42 a43 a44) 0 0
    refine am_if_eq (I := iX7_sign) (pc := 14) (tgt := 30) dX7_sign_14 (by decide) (fun c14 => ?_) (fun c14 => ?_)
    · exact absurd c14 (by rw [ipr_t hp hq]; decide)
    · refine am_aload_n (I := iX7_sign) (pc := 17) dX7_sign_17 rfl rfl ?_
      refine am_getf (I := iX7_sign) (pc := 18) lf_X7_13 dX7_sign_18 md_25 rfl ?_
      refine am_iconst (I := iX7_sign) (pc := 21) (x := 5) dX7_sign_21 (by decide) ?_
      refine am_iload_n (I := iX7_sign) (pc := 22) dX7_sign_22 rfl rfl ?_
      refine am_imul (I := iX7_sign) (pc := 23) dX7_sign_23 ?_
      refine am_iload_n (I := iX7_sign) (pc := 24) dX7_sign_24 rfl rfl ?_
      refine am_iadd (I := iX7_sign) (pc := 25) dX7_sign_25 ?_
      rw [ix5]
      refine am_iaload (I := iX7_sign) (pc := 26) dX7_sign_26 md_27 rfl (vp_in_nI (show p * 5 + q < 50 by omega) (by decide)) ?_
      rw [nI_clamp (show p * 5 + q < 2 ^ 31 by omega)]
      refine am_goto (I := iX7_sign) (pc := 27) (tgt := 31) dX7_sign_27 (by decide) ?_
      refine am_callS (I := iX7_sign) (pc := 31) (st := []) lv_X7_83 rfl (q_below u (nI (cn (p * 5 + q)))) dX7_sign_31 rfl (Nat.le_of_ble_eq_true rfl) ⟨Nat.le_of_ble_eq_true rfl, Nat.le_of_ble_eq_true rfl⟩ (Nat.le_of_ble_eq_true rfl) (Nat.le_of_ble_eq_true rfl) rfl (fun v9 T9 z9 _ => ?_) (fun _ _ h9 => h9.elim)
      obtain ⟨rfl, rfl⟩ := z9
      show am_W _ _ _ _ _ _ _ _ _ _ _ _ _ _ _ 34 [some (.ref 25), some (.int (nI p)), some (.int (nI q)), some (.int u), some (.int w), none, none] [.int (bI (blw u (nI (cn (p * 5 + q)))))] (mdS S th pd wd ln sq st ct cl ft zn a26 (fun k => nI (cn k)) a28 a29 a30 a31 a32 a33 a34 a35 a36 a37 a38 a39 a40 a41 a42 a43 a44) 0 0
      refine am_if_eq (I := iX7_sign) (pc := 34) (tgt := 41) dX7_sign_34 (by decide) (fun c34 => ?_) (fun c34 => ?_)
      · refine am_iconst (I := iX7_sign) (pc := 41) (x := 0) dX7_sign_41 (by decide) ?_
        refine am_istore (I := iX7_sign) (pc := 42) (L' := [some (.ref 25), some (.int (nI p)), some (.int (nI q)), some (.int u), some (.int w), some (.int 0), none]) dX7_sign_42 (by decide) rfl ?_
        refine am_iload (I := iX7_sign) (pc := 44) dX7_sign_44 rfl ?_
        refine am_if_eq (I := iX7_sign) (pc := 46) (tgt := 61) dX7_sign_46 (by decide) (fun c46 => ?_) (fun c46 => ?_)
        · refine am_iconst (I := iX7_sign) (pc := 61) (x := 0) dX7_sign_61 (by decide) ?_
          refine am_istore (I := iX7_sign) (pc := 62) (L' := [some (.ref 25), some (.int (nI p)), some (.int (nI q)), some (.int u), some (.int w), some (.int 0), some (.int 0)]) dX7_sign_62 (by decide) rfl ?_
          refine am_aload_n (I := iX7_sign) (pc := 64) dX7_sign_64 rfl rfl ?_
          refine am_iload (I := iX7_sign) (pc := 65) dX7_sign_65 rfl ?_
          refine am_if_eq (I := iX7_sign) (pc := 67) (tgt := 92) dX7_sign_67 (by decide) (fun c67 => ?_) (fun c67 => ?_)
          · refine am_iconst (I := iX7_sign) (pc := 92) (x := 0) dX7_sign_92 (by decide) ?_
            refine am_iconst (I := iX7_sign) (pc := 93) (x := 1) dX7_sign_93 (by decide) ?_
            refine am_callV (I := iX7_sign) (pc := 94) (st := []) lv_X7_79 (q_goes1 _) dX7_sign_94 md_25 rfl (Nat.le_of_ble_eq_true rfl) ⟨Nat.le_of_ble_eq_true rfl, Nat.le_of_ble_eq_true rfl⟩ (Nat.le_of_ble_eq_true rfl) (Nat.le_of_ble_eq_true rfl) rfl (fun v9 T9 z9 _ => ?_) (fun _ _ h9 => h9.elim)
            obtain ⟨rfl, rfl⟩ := z9
            show am_W _ _ _ _ _ _ _ _ _ _ _ _ _ _ _ 97 [some (.ref 25), some (.int (nI p)), some (.int (nI q)), some (.int u), some (.int w), some (.int 0), some (.int 0)] [.int 0] (mdS S 1 pd wd ln sq st ct cl ft zn a26 (fun k => nI (cn k)) a28 a29 a30 a31 a32 a33 a34 a35 a36 a37 a38 a39 a40 a41 a42 a43 a44) 0 0
            refine am_if_ne (I := iX7_sign) (pc := 97) (tgt := 102) dX7_sign_97 (by decide) (fun c97 => ?_) (fun c97 => ?_)
            · exact absurd rfl c97
            · refine am_iconst (I := iX7_sign) (pc := 100) (x := 0) dX7_sign_100 (by decide) ?_
              exact am_iret (I := iX7_sign) (pc := 101) dX7_sign_101 rfl (Nat.le_refl _) (Nat.le_refl _) (⟨rfl, rfl⟩)
          · exact absurd rfl c67
        · exact absurd rfl c46
      · exact absurd (bI_f (blw_f hu)) c34
set_option maxRecDepth 100000 in
set_option maxHeartbeats 4000000 in
theorem q_sign_i0 {K : am_K} {l : Launch} {S : am_S} {th pd wd ln sq st ct cl ft zn : Int32} {a26 a28 a29 a30 a31 a32 a33 a34 a35 a36 a37 a38 a39 a40 a41 a42 a43 a44 : Nat → Int32} (cn : Nat → Nat) (p q : Nat) (j m : Nat) (w : Int32) (hp : p < 10) (hq : q < 5) (h5 : cn (p * 5 + q) ≤ 4) (hj : j < cn (p * 5 + q)) (hm : a28 ((p * 5 + q) * 4 + j) = nI m) (hm8 : m ≤ 80) (hw : w < -1 ∨ nI m ≤ w) : am_M K l iX7_sign 2 0 0 [.ref 25, .int (nI p), .int (nI q), .int (nI j), .int w] (mdS S th pd wd ln sq st ct cl ft zn a26 (fun k => nI (cn k)) a28 a29 a30 a31 a32 a33 a34 a35 a36 a37 a38 a39 a40 a41 a42 a43 a44) (fun v S' => v = some (.int (0)) ∧ mdS S 1 pd wd ln sq st ct cl ft zn a26 (fun k => nI (cn k)) a28 a29 a30 a31 a32 a33 a34 a35 a36 a37 a38 a39 a40 a41 a42 a43 a44 = S') (fun _ _ => False) := by
  refine am_body (by decide) rfl (by simp [Value.category]) (Nat.le_of_ble_eq_true rfl) (fun xp xe xs xm xa xb xt xc ad0 => ?_)
  show am_W _ _ _ _ _ _ _ _ _ _ _ _ _ _ _ 0 [some (.ref 25), some (.int (nI p)), some (.int (nI q)), some (.int (nI j)), some (.int w), none, none] [] (mdS S th pd wd ln sq st ct cl ft zn a26 (fun k => nI (cn k)) a28 a29 a30 a31 a32 a33 a34 a35 a36 a37 a38 a39 a40 a41 a42 a43 a44) 0 0
  refine am_iload_n (I := iX7_sign) (pc := 0) dX7_sign_0 rfl rfl ?_
  refine am_iload_n (I := iX7_sign) (pc := 1) dX7_sign_1 rfl rfl ?_
  refine am_callS (I := iX7_sign) (pc := 2) (st := []) lv_X7_87 rfl (q_isPair (nI p) (nI q)) dX7_sign_2 rfl (Nat.le_of_ble_eq_true rfl) ⟨Nat.le_of_ble_eq_true rfl, Nat.le_of_ble_eq_true rfl⟩ (Nat.le_of_ble_eq_true rfl) (Nat.le_of_ble_eq_true rfl) rfl (fun v9 T9 z9 _ => ?_) (fun _ _ h9 => h9.elim)
  obtain ⟨rfl, rfl⟩ := z9
  show am_W _ _ _ _ _ _ _ _ _ _ _ _ _ _ _ 5 [some (.ref 25), some (.int (nI p)), some (.int (nI q)), some (.int (nI j)), some (.int w), none, none] [.int (bI (ipr (nI p) (nI q)))] (mdS S th pd wd ln sq st ct cl ft zn a26 (fun k => nI (cn k)) a28 a29 a30 a31 a32 a33 a34 a35 a36 a37 a38 a39 a40 a41 a42 a43 a44) 0 0
  refine am_if_eq (I := iX7_sign) (pc := 5) (tgt := 41) dX7_sign_5 (by decide) (fun c5 => ?_) (fun c5 => ?_)
  · exact absurd c5 (by rw [ipr_t hp hq]; decide)
  · refine am_iload_n (I := iX7_sign) (pc := 8) dX7_sign_8 rfl rfl ?_
    refine am_iload_n (I := iX7_sign) (pc := 9) dX7_sign_9 rfl rfl ?_
    refine am_iload_n (I := iX7_sign) (pc := 10) dX7_sign_10 rfl rfl ?_
    refine am_callS (I := iX7_sign) (pc := 11) (st := [.int (nI j)]) lv_X7_87 rfl (q_isPair (nI p) (nI q)) dX7_sign_11 rfl (Nat.le_of_ble_eq_true rfl) ⟨Nat.le_of_ble_eq_true rfl, Nat.le_of_ble_eq_true rfl⟩ (Nat.le_of_ble_eq_true rfl) (Nat.le_of_ble_eq_true rfl) rfl (fun v9 T9 z9 _ => ?_) (fun _ _ h9 => h9.elim)
    obtain ⟨rfl, rfl⟩ := z9
    show am_W _ _ _ _ _ _ _ _ _ _ _ _ _ _ _ 14 [some (.ref 25), some (.int (nI p)), some (.int (nI q)), some (.int (nI j)), some (.int w), none, none] [.int (bI (ipr (nI p) (nI q))), .int (nI j)] (mdS S th pd wd ln sq st ct cl ft zn a26 (fun k => nI (cn k)) a28 a29 a30 a31 a32 a33 a34 a35 a36 a37 a38 a39 a40 a41 a42 a43 a44) 0 0
    refine am_if_eq (I := iX7_sign) (pc := 14) (tgt := 30) dX7_sign_14 (by decide) (fun c14 => ?_) (fun c14 => ?_)
    · exact absurd c14 (by rw [ipr_t hp hq]; decide)
    · refine am_aload_n (I := iX7_sign) (pc := 17) dX7_sign_17 rfl rfl ?_
      refine am_getf (I := iX7_sign) (pc := 18) lf_X7_13 dX7_sign_18 md_25 rfl ?_
      refine am_iconst (I := iX7_sign) (pc := 21) (x := 5) dX7_sign_21 (by decide) ?_
      refine am_iload_n (I := iX7_sign) (pc := 22) dX7_sign_22 rfl rfl ?_
      refine am_imul (I := iX7_sign) (pc := 23) dX7_sign_23 ?_
      refine am_iload_n (I := iX7_sign) (pc := 24) dX7_sign_24 rfl rfl ?_
      refine am_iadd (I := iX7_sign) (pc := 25) dX7_sign_25 ?_
      rw [ix5]
      refine am_iaload (I := iX7_sign) (pc := 26) dX7_sign_26 md_27 rfl (vp_in_nI (show p * 5 + q < 50 by omega) (by decide)) ?_
      rw [nI_clamp (show p * 5 + q < 2 ^ 31 by omega)]
      refine am_goto (I := iX7_sign) (pc := 27) (tgt := 31) dX7_sign_27 (by decide) ?_
      refine am_callS (I := iX7_sign) (pc := 31) (st := []) lv_X7_83 rfl (q_below (nI j) (nI (cn (p * 5 + q)))) dX7_sign_31 rfl (Nat.le_of_ble_eq_true rfl) ⟨Nat.le_of_ble_eq_true rfl, Nat.le_of_ble_eq_true rfl⟩ (Nat.le_of_ble_eq_true rfl) (Nat.le_of_ble_eq_true rfl) rfl (fun v9 T9 z9 _ => ?_) (fun _ _ h9 => h9.elim)
      obtain ⟨rfl, rfl⟩ := z9
      show am_W _ _ _ _ _ _ _ _ _ _ _ _ _ _ _ 34 [some (.ref 25), some (.int (nI p)), some (.int (nI q)), some (.int (nI j)), some (.int w), none, none] [.int (bI (blw (nI j) (nI (cn (p * 5 + q)))))] (mdS S th pd wd ln sq st ct cl ft zn a26 (fun k => nI (cn k)) a28 a29 a30 a31 a32 a33 a34 a35 a36 a37 a38 a39 a40 a41 a42 a43 a44) 0 0
      refine am_if_eq (I := iX7_sign) (pc := 34) (tgt := 41) dX7_sign_34 (by decide) (fun c34 => ?_) (fun c34 => ?_)
      · exact absurd c34 (by rw [blw_t hj (by omega)]; decide)
      · refine am_iconst (I := iX7_sign) (pc := 37) (x := 1) dX7_sign_37 (by decide) ?_
        refine am_goto (I := iX7_sign) (pc := 38) (tgt := 42) dX7_sign_38 (by decide) ?_
        refine am_istore (I := iX7_sign) (pc := 42) (L' := [some (.ref 25), some (.int (nI p)), some (.int (nI q)), some (.int (nI j)), some (.int w), some (.int 1), none]) dX7_sign_42 (by decide) rfl ?_
        refine am_iload (I := iX7_sign) (pc := 44) dX7_sign_44 rfl ?_
        refine am_if_eq (I := iX7_sign) (pc := 46) (tgt := 61) dX7_sign_46 (by decide) (fun c46 => ?_) (fun c46 => ?_)
        · exact absurd c46 (by decide)
        · refine am_iconst (I := iX7_sign) (pc := 49) (x := 4) dX7_sign_49 (by decide) ?_
          refine am_iconst (I := iX7_sign) (pc := 50) (x := 5) dX7_sign_50 (by decide) ?_
          refine am_iload_n (I := iX7_sign) (pc := 51) dX7_sign_51 rfl rfl ?_
          refine am_imul (I := iX7_sign) (pc := 52) dX7_sign_52 ?_
          refine am_iload_n (I := iX7_sign) (pc := 53) dX7_sign_53 rfl rfl ?_
          refine am_iadd (I := iX7_sign) (pc := 54) dX7_sign_54 ?_
          rw [ix5]
          refine am_imul (I := iX7_sign) (pc := 55) dX7_sign_55 ?_
          refine am_iload_n (I := iX7_sign) (pc := 56) dX7_sign_56 rfl rfl ?_
          refine am_iadd (I := iX7_sign) (pc := 57) dX7_sign_57 ?_
          refine am_goto (I := iX7_sign) (pc := 58) (tgt := 62) dX7_sign_58 (by decide) ?_
          rw [ix4]
          refine am_istore (I := iX7_sign) (pc := 62) (L' := [some (.ref 25), some (.int (nI p)), some (.int (nI q)), some (.int (nI j)), some (.int w), some (.int 1), some (.int (nI ((p * 5 + q) * 4 + j)))]) dX7_sign_62 (by decide) rfl ?_
          refine am_aload_n (I := iX7_sign) (pc := 64) dX7_sign_64 rfl rfl ?_
          refine am_iload (I := iX7_sign) (pc := 65) dX7_sign_65 rfl ?_
          refine am_if_eq (I := iX7_sign) (pc := 67) (tgt := 92) dX7_sign_67 (by decide) (fun c67 => ?_) (fun c67 => ?_)
          · exact absurd c67 (by decide)
          · refine am_iload (I := iX7_sign) (pc := 70) dX7_sign_70 rfl ?_
            refine am_iconst (I := iX7_sign) (pc := 72) (x := (-1)) dX7_sign_72 (by decide) ?_
            refine am_icmp_lt (I := iX7_sign) (pc := 73) (tgt := 92) dX7_sign_73 (by decide) (fun c73 => ?_) (fun c73 => ?_)
            · refine am_iconst (I := iX7_sign) (pc := 92) (x := 0) dX7_sign_92 (by decide) ?_
              refine am_iconst (I := iX7_sign) (pc := 93) (x := 1) dX7_sign_93 (by decide) ?_
              refine am_callV (I := iX7_sign) (pc := 94) (st := []) lv_X7_79 (q_goes1 _) dX7_sign_94 md_25 rfl (Nat.le_of_ble_eq_true rfl) ⟨Nat.le_of_ble_eq_true rfl, Nat.le_of_ble_eq_true rfl⟩ (Nat.le_of_ble_eq_true rfl) (Nat.le_of_ble_eq_true rfl) rfl (fun v9 T9 z9 _ => ?_) (fun _ _ h9 => h9.elim)
              obtain ⟨rfl, rfl⟩ := z9
              show am_W _ _ _ _ _ _ _ _ _ _ _ _ _ _ _ 97 [some (.ref 25), some (.int (nI p)), some (.int (nI q)), some (.int (nI j)), some (.int w), some (.int 1), some (.int (nI ((p * 5 + q) * 4 + j)))] [.int 0] (mdS S 1 pd wd ln sq st ct cl ft zn a26 (fun k => nI (cn k)) a28 a29 a30 a31 a32 a33 a34 a35 a36 a37 a38 a39 a40 a41 a42 a43 a44) 0 0
              refine am_if_ne (I := iX7_sign) (pc := 97) (tgt := 102) dX7_sign_97 (by decide) (fun c97 => ?_) (fun c97 => ?_)
              · exact absurd rfl c97
              · refine am_iconst (I := iX7_sign) (pc := 100) (x := 0) dX7_sign_100 (by decide) ?_
                exact am_iret (I := iX7_sign) (pc := 101) dX7_sign_101 rfl (Nat.le_refl _) (Nat.le_refl _) (⟨rfl, rfl⟩)
            · refine am_iload (I := iX7_sign) (pc := 76) dX7_sign_76 rfl ?_
              refine am_aload_n (I := iX7_sign) (pc := 78) dX7_sign_78 rfl rfl ?_
              refine am_getf (I := iX7_sign) (pc := 79) lf_X7_16 dX7_sign_79 md_25 rfl ?_
              refine am_iload (I := iX7_sign) (pc := 82) dX7_sign_82 rfl ?_
              refine am_iaload (I := iX7_sign) (pc := 84) dX7_sign_84 md_28 rfl (vp_in_nI (show ((p * 5 + q) * 4 + j) < 200 by omega) (by decide)) ?_
              refine am_same (st' := [.int (nI m), .int w, .ref 25]) rfl rfl (by rw [nI_clamp (show ((p * 5 + q) * 4 + j) < 2 ^ 31 by omega), hm]) rfl rfl rfl ?_
              refine am_icmp_ge (I := iX7_sign) (pc := 85) (tgt := 92) dX7_sign_85 (by decide) (fun c85 => ?_) (fun c85 => ?_)
              · refine am_iconst (I := iX7_sign) (pc := 92) (x := 0) dX7_sign_92 (by decide) ?_
                refine am_iconst (I := iX7_sign) (pc := 93) (x := 1) dX7_sign_93 (by decide) ?_
                refine am_callV (I := iX7_sign) (pc := 94) (st := []) lv_X7_79 (q_goes1 _) dX7_sign_94 md_25 rfl (Nat.le_of_ble_eq_true rfl) ⟨Nat.le_of_ble_eq_true rfl, Nat.le_of_ble_eq_true rfl⟩ (Nat.le_of_ble_eq_true rfl) (Nat.le_of_ble_eq_true rfl) rfl (fun v9 T9 z9 _ => ?_) (fun _ _ h9 => h9.elim)
                obtain ⟨rfl, rfl⟩ := z9
                show am_W _ _ _ _ _ _ _ _ _ _ _ _ _ _ _ 97 [some (.ref 25), some (.int (nI p)), some (.int (nI q)), some (.int (nI j)), some (.int w), some (.int 1), some (.int (nI ((p * 5 + q) * 4 + j)))] [.int 0] (mdS S 1 pd wd ln sq st ct cl ft zn a26 (fun k => nI (cn k)) a28 a29 a30 a31 a32 a33 a34 a35 a36 a37 a38 a39 a40 a41 a42 a43 a44) 0 0
                refine am_if_ne (I := iX7_sign) (pc := 97) (tgt := 102) dX7_sign_97 (by decide) (fun c97 => ?_) (fun c97 => ?_)
                · exact absurd rfl c97
                · refine am_iconst (I := iX7_sign) (pc := 100) (x := 0) dX7_sign_100 (by decide) ?_
                  exact am_iret (I := iX7_sign) (pc := 101) dX7_sign_101 rfl (Nat.le_refl _) (Nat.le_refl _) (⟨rfl, rfl⟩)
              · exact absurd hw (fun q => q.elim c73 c85)
set_option maxRecDepth 100000 in
set_option maxHeartbeats 4000000 in
theorem q_sign_n {K : am_K} {l : Launch} {S : am_S} {th pd wd ln sq st ct cl ft zn : Int32} {a26 a28 a29 a30 a31 a32 a33 a34 a35 a36 a37 a38 a39 a40 a41 a42 a43 a44 : Nat → Int32} (cn : Nat → Nat) (p q : Nat) (j m : Nat) (hp : p < 10) (hq : q < 5) (h5 : cn (p * 5 + q) ≤ 4) (hj : j < cn (p * 5 + q)) (hm : a28 ((p * 5 + q) * 4 + j) = nI m) (hm8 : m ≤ 80) : am_M K l iX7_sign 2 0 0 [.ref 25, .int (nI p), .int (nI q), .int (nI j), .int (-1)] (mdS S th pd wd ln sq st ct cl ft zn a26 (fun k => nI (cn k)) a28 a29 a30 a31 a32 a33 a34 a35 a36 a37 a38 a39 a40 a41 a42 a43 a44) (fun v S' => v = some (.int (nI m)) ∧ mdS S 0 pd wd ln sq st ct cl ft zn a26 (fun k => nI (cn k)) a28 a29 a30 a31 a32 a33 a34 a35 a36 a37 a38 a39 a40 a41 a42 a43 a44 = S') (fun _ _ => False) := by
  refine am_body (by decide) rfl (by simp [Value.category]) (Nat.le_of_ble_eq_true rfl) (fun xp xe xs xm xa xb xt xc ad0 => ?_)
  show am_W _ _ _ _ _ _ _ _ _ _ _ _ _ _ _ 0 [some (.ref 25), some (.int (nI p)), some (.int (nI q)), some (.int (nI j)), some (.int (-1)), none, none] [] (mdS S th pd wd ln sq st ct cl ft zn a26 (fun k => nI (cn k)) a28 a29 a30 a31 a32 a33 a34 a35 a36 a37 a38 a39 a40 a41 a42 a43 a44) 0 0
  refine am_iload_n (I := iX7_sign) (pc := 0) dX7_sign_0 rfl rfl ?_
  refine am_iload_n (I := iX7_sign) (pc := 1) dX7_sign_1 rfl rfl ?_
  refine am_callS (I := iX7_sign) (pc := 2) (st := []) lv_X7_87 rfl (q_isPair (nI p) (nI q)) dX7_sign_2 rfl (Nat.le_of_ble_eq_true rfl) ⟨Nat.le_of_ble_eq_true rfl, Nat.le_of_ble_eq_true rfl⟩ (Nat.le_of_ble_eq_true rfl) (Nat.le_of_ble_eq_true rfl) rfl (fun v9 T9 z9 _ => ?_) (fun _ _ h9 => h9.elim)
  obtain ⟨rfl, rfl⟩ := z9
  show am_W _ _ _ _ _ _ _ _ _ _ _ _ _ _ _ 5 [some (.ref 25), some (.int (nI p)), some (.int (nI q)), some (.int (nI j)), some (.int (-1)), none, none] [.int (bI (ipr (nI p) (nI q)))] (mdS S th pd wd ln sq st ct cl ft zn a26 (fun k => nI (cn k)) a28 a29 a30 a31 a32 a33 a34 a35 a36 a37 a38 a39 a40 a41 a42 a43 a44) 0 0
  refine am_if_eq (I := iX7_sign) (pc := 5) (tgt := 41) dX7_sign_5 (by decide) (fun c5 => ?_) (fun c5 => ?_)
  · exact absurd c5 (by rw [ipr_t hp hq]; decide)
  · refine am_iload_n (I := iX7_sign) (pc := 8) dX7_sign_8 rfl rfl ?_
    refine am_iload_n (I := iX7_sign) (pc := 9) dX7_sign_9 rfl rfl ?_
    refine am_iload_n (I := iX7_sign) (pc := 10) dX7_sign_10 rfl rfl ?_
    refine am_callS (I := iX7_sign) (pc := 11) (st := [.int (nI j)]) lv_X7_87 rfl (q_isPair (nI p) (nI q)) dX7_sign_11 rfl (Nat.le_of_ble_eq_true rfl) ⟨Nat.le_of_ble_eq_true rfl, Nat.le_of_ble_eq_true rfl⟩ (Nat.le_of_ble_eq_true rfl) (Nat.le_of_ble_eq_true rfl) rfl (fun v9 T9 z9 _ => ?_) (fun _ _ h9 => h9.elim)
    obtain ⟨rfl, rfl⟩ := z9
    show am_W _ _ _ _ _ _ _ _ _ _ _ _ _ _ _ 14 [some (.ref 25), some (.int (nI p)), some (.int (nI q)), some (.int (nI j)), some (.int (-1)), none, none] [.int (bI (ipr (nI p) (nI q))), .int (nI j)] (mdS S th pd wd ln sq st ct cl ft zn a26 (fun k => nI (cn k)) a28 a29 a30 a31 a32 a33 a34 a35 a36 a37 a38 a39 a40 a41 a42 a43 a44) 0 0
    refine am_if_eq (I := iX7_sign) (pc := 14) (tgt := 30) dX7_sign_14 (by decide) (fun c14 => ?_) (fun c14 => ?_)
    · exact absurd c14 (by rw [ipr_t hp hq]; decide)
    · refine am_aload_n (I := iX7_sign) (pc := 17) dX7_sign_17 rfl rfl ?_
      refine am_getf (I := iX7_sign) (pc := 18) lf_X7_13 dX7_sign_18 md_25 rfl ?_
      refine am_iconst (I := iX7_sign) (pc := 21) (x := 5) dX7_sign_21 (by decide) ?_
      refine am_iload_n (I := iX7_sign) (pc := 22) dX7_sign_22 rfl rfl ?_
      refine am_imul (I := iX7_sign) (pc := 23) dX7_sign_23 ?_
      refine am_iload_n (I := iX7_sign) (pc := 24) dX7_sign_24 rfl rfl ?_
      refine am_iadd (I := iX7_sign) (pc := 25) dX7_sign_25 ?_
      rw [ix5]
      refine am_iaload (I := iX7_sign) (pc := 26) dX7_sign_26 md_27 rfl (vp_in_nI (show p * 5 + q < 50 by omega) (by decide)) ?_
      rw [nI_clamp (show p * 5 + q < 2 ^ 31 by omega)]
      refine am_goto (I := iX7_sign) (pc := 27) (tgt := 31) dX7_sign_27 (by decide) ?_
      refine am_callS (I := iX7_sign) (pc := 31) (st := []) lv_X7_83 rfl (q_below (nI j) (nI (cn (p * 5 + q)))) dX7_sign_31 rfl (Nat.le_of_ble_eq_true rfl) ⟨Nat.le_of_ble_eq_true rfl, Nat.le_of_ble_eq_true rfl⟩ (Nat.le_of_ble_eq_true rfl) (Nat.le_of_ble_eq_true rfl) rfl (fun v9 T9 z9 _ => ?_) (fun _ _ h9 => h9.elim)
      obtain ⟨rfl, rfl⟩ := z9
      show am_W _ _ _ _ _ _ _ _ _ _ _ _ _ _ _ 34 [some (.ref 25), some (.int (nI p)), some (.int (nI q)), some (.int (nI j)), some (.int (-1)), none, none] [.int (bI (blw (nI j) (nI (cn (p * 5 + q)))))] (mdS S th pd wd ln sq st ct cl ft zn a26 (fun k => nI (cn k)) a28 a29 a30 a31 a32 a33 a34 a35 a36 a37 a38 a39 a40 a41 a42 a43 a44) 0 0
      refine am_if_eq (I := iX7_sign) (pc := 34) (tgt := 41) dX7_sign_34 (by decide) (fun c34 => ?_) (fun c34 => ?_)
      · exact absurd c34 (by rw [blw_t hj (by omega)]; decide)
      · refine am_iconst (I := iX7_sign) (pc := 37) (x := 1) dX7_sign_37 (by decide) ?_
        refine am_goto (I := iX7_sign) (pc := 38) (tgt := 42) dX7_sign_38 (by decide) ?_
        refine am_istore (I := iX7_sign) (pc := 42) (L' := [some (.ref 25), some (.int (nI p)), some (.int (nI q)), some (.int (nI j)), some (.int (-1)), some (.int 1), none]) dX7_sign_42 (by decide) rfl ?_
        refine am_iload (I := iX7_sign) (pc := 44) dX7_sign_44 rfl ?_
        refine am_if_eq (I := iX7_sign) (pc := 46) (tgt := 61) dX7_sign_46 (by decide) (fun c46 => ?_) (fun c46 => ?_)
        · exact absurd c46 (by decide)
        · refine am_iconst (I := iX7_sign) (pc := 49) (x := 4) dX7_sign_49 (by decide) ?_
          refine am_iconst (I := iX7_sign) (pc := 50) (x := 5) dX7_sign_50 (by decide) ?_
          refine am_iload_n (I := iX7_sign) (pc := 51) dX7_sign_51 rfl rfl ?_
          refine am_imul (I := iX7_sign) (pc := 52) dX7_sign_52 ?_
          refine am_iload_n (I := iX7_sign) (pc := 53) dX7_sign_53 rfl rfl ?_
          refine am_iadd (I := iX7_sign) (pc := 54) dX7_sign_54 ?_
          rw [ix5]
          refine am_imul (I := iX7_sign) (pc := 55) dX7_sign_55 ?_
          refine am_iload_n (I := iX7_sign) (pc := 56) dX7_sign_56 rfl rfl ?_
          refine am_iadd (I := iX7_sign) (pc := 57) dX7_sign_57 ?_
          refine am_goto (I := iX7_sign) (pc := 58) (tgt := 62) dX7_sign_58 (by decide) ?_
          rw [ix4]
          refine am_istore (I := iX7_sign) (pc := 62) (L' := [some (.ref 25), some (.int (nI p)), some (.int (nI q)), some (.int (nI j)), some (.int (-1)), some (.int 1), some (.int (nI ((p * 5 + q) * 4 + j)))]) dX7_sign_62 (by decide) rfl ?_
          refine am_aload_n (I := iX7_sign) (pc := 64) dX7_sign_64 rfl rfl ?_
          refine am_iload (I := iX7_sign) (pc := 65) dX7_sign_65 rfl ?_
          refine am_if_eq (I := iX7_sign) (pc := 67) (tgt := 92) dX7_sign_67 (by decide) (fun c67 => ?_) (fun c67 => ?_)
          · exact absurd c67 (by decide)
          · refine am_iload (I := iX7_sign) (pc := 70) dX7_sign_70 rfl ?_
            refine am_iconst (I := iX7_sign) (pc := 72) (x := (-1)) dX7_sign_72 (by decide) ?_
            refine am_icmp_lt (I := iX7_sign) (pc := 73) (tgt := 92) dX7_sign_73 (by decide) (fun c73 => ?_) (fun c73 => ?_)
            · exact absurd c73 (by decide)
            · refine am_iload (I := iX7_sign) (pc := 76) dX7_sign_76 rfl ?_
              refine am_aload_n (I := iX7_sign) (pc := 78) dX7_sign_78 rfl rfl ?_
              refine am_getf (I := iX7_sign) (pc := 79) lf_X7_16 dX7_sign_79 md_25 rfl ?_
              refine am_iload (I := iX7_sign) (pc := 82) dX7_sign_82 rfl ?_
              refine am_iaload (I := iX7_sign) (pc := 84) dX7_sign_84 md_28 rfl (vp_in_nI (show ((p * 5 + q) * 4 + j) < 200 by omega) (by decide)) ?_
              refine am_same (st' := [.int (nI m), .int (-1), .ref 25]) rfl rfl (by rw [nI_clamp (show ((p * 5 + q) * 4 + j) < 2 ^ 31 by omega), hm]) rfl rfl rfl ?_
              refine am_icmp_ge (I := iX7_sign) (pc := 85) (tgt := 92) dX7_sign_85 (by decide) (fun c85 => ?_) (fun c85 => ?_)
              · exact absurd c85 (Int32.not_le.mpr (Int32.lt_of_lt_of_le (show (-1 : Int32) < 0 by decide) (nI_pos' (by omega))))
              · refine am_iconst (I := iX7_sign) (pc := 88) (x := 1) dX7_sign_88 (by decide) ?_
                refine am_goto (I := iX7_sign) (pc := 89) (tgt := 93) dX7_sign_89 (by decide) ?_
                refine am_iconst (I := iX7_sign) (pc := 93) (x := 1) dX7_sign_93 (by decide) ?_
                refine am_callV (I := iX7_sign) (pc := 94) (st := []) lv_X7_79 (q_goes0) dX7_sign_94 md_25 rfl (Nat.le_of_ble_eq_true rfl) ⟨Nat.le_of_ble_eq_true rfl, Nat.le_of_ble_eq_true rfl⟩ (Nat.le_of_ble_eq_true rfl) (Nat.le_of_ble_eq_true rfl) rfl (fun v9 T9 z9 _ => ?_) (fun _ _ h9 => h9.elim)
                obtain ⟨rfl, rfl⟩ := z9
                show am_W _ _ _ _ _ _ _ _ _ _ _ _ _ _ _ 97 [some (.ref 25), some (.int (nI p)), some (.int (nI q)), some (.int (nI j)), some (.int (-1)), some (.int 1), some (.int (nI ((p * 5 + q) * 4 + j)))] [.int 1] (mdS S 0 pd wd ln sq st ct cl ft zn a26 (fun k => nI (cn k)) a28 a29 a30 a31 a32 a33 a34 a35 a36 a37 a38 a39 a40 a41 a42 a43 a44) 0 0
                refine am_if_ne (I := iX7_sign) (pc := 97) (tgt := 102) dX7_sign_97 (by decide) (fun c97 => ?_) (fun c97 => ?_)
                · refine am_iload (I := iX7_sign) (pc := 102) dX7_sign_102 rfl ?_
                  refine am_iconst (I := iX7_sign) (pc := 104) (x := (-1)) dX7_sign_104 (by decide) ?_
                  refine am_icmp_ne (I := iX7_sign) (pc := 105) (tgt := 118) dX7_sign_105 (by decide) (fun c105 => ?_) (fun c105 => ?_)
                  · exact absurd c105 (by decide)
                  · refine am_aload_n (I := iX7_sign) (pc := 108) dX7_sign_108 rfl rfl ?_
                    refine am_getf (I := iX7_sign) (pc := 109) lf_X7_16 dX7_sign_109 md_25 rfl ?_
                    refine am_iload (I := iX7_sign) (pc := 112) dX7_sign_112 rfl ?_
                    refine am_iaload (I := iX7_sign) (pc := 114) dX7_sign_114 md_28 rfl (vp_in_nI (show ((p * 5 + q) * 4 + j) < 200 by omega) (by decide)) ?_
                    refine am_same (st' := [.int (nI m)]) rfl rfl (by rw [nI_clamp (show ((p * 5 + q) * 4 + j) < 2 ^ 31 by omega), hm]) rfl rfl rfl ?_
                    refine am_goto (I := iX7_sign) (pc := 115) (tgt := 131) dX7_sign_115 (by decide) ?_
                    exact am_iret (I := iX7_sign) (pc := 131) dX7_sign_131 rfl (Nat.le_refl _) (Nat.le_refl _) (⟨rfl, rfl⟩)
                · exact absurd c97 (by decide)
set_option maxRecDepth 100000 in
set_option maxHeartbeats 4000000 in
theorem q_sign {K : am_K} {l : Launch} {S : am_S} {th pd wd ln sq st ct cl ft zn : Int32} {a26 a28 a29 a30 a31 a32 a33 a34 a35 a36 a37 a38 a39 a40 a41 a42 a43 a44 : Nat → Int32} (cn : Nat → Nat) (p q : Nat) (j m : Nat) (i : Nat) (hp : p < 10) (hq : q < 5) (h5 : cn (p * 5 + q) ≤ 4) (hj : j < cn (p * 5 + q)) (hm : a28 ((p * 5 + q) * 4 + j) = nI m) (hm8 : m ≤ 80) (hi : i < m) : am_M K l iX7_sign 2 0 0 [.ref 25, .int (nI p), .int (nI q), .int (nI j), .int (nI i)] (mdS S th pd wd ln sq st ct cl ft zn a26 (fun k => nI (cn k)) a28 a29 a30 a31 a32 a33 a34 a35 a36 a37 a38 a39 a40 a41 a42 a43 a44) (fun v S' => v = some (.int (a29 (80 * ((p * 5 + q) * 4 + j) + i))) ∧ mdS S 0 pd wd ln sq st ct cl ft zn a26 (fun k => nI (cn k)) a28 a29 a30 a31 a32 a33 a34 a35 a36 a37 a38 a39 a40 a41 a42 a43 a44 = S') (fun _ _ => False) := by
  refine am_body (by decide) rfl (by simp [Value.category]) (Nat.le_of_ble_eq_true rfl) (fun xp xe xs xm xa xb xt xc ad0 => ?_)
  show am_W _ _ _ _ _ _ _ _ _ _ _ _ _ _ _ 0 [some (.ref 25), some (.int (nI p)), some (.int (nI q)), some (.int (nI j)), some (.int (nI i)), none, none] [] (mdS S th pd wd ln sq st ct cl ft zn a26 (fun k => nI (cn k)) a28 a29 a30 a31 a32 a33 a34 a35 a36 a37 a38 a39 a40 a41 a42 a43 a44) 0 0
  refine am_iload_n (I := iX7_sign) (pc := 0) dX7_sign_0 rfl rfl ?_
  refine am_iload_n (I := iX7_sign) (pc := 1) dX7_sign_1 rfl rfl ?_
  refine am_callS (I := iX7_sign) (pc := 2) (st := []) lv_X7_87 rfl (q_isPair (nI p) (nI q)) dX7_sign_2 rfl (Nat.le_of_ble_eq_true rfl) ⟨Nat.le_of_ble_eq_true rfl, Nat.le_of_ble_eq_true rfl⟩ (Nat.le_of_ble_eq_true rfl) (Nat.le_of_ble_eq_true rfl) rfl (fun v9 T9 z9 _ => ?_) (fun _ _ h9 => h9.elim)
  obtain ⟨rfl, rfl⟩ := z9
  show am_W _ _ _ _ _ _ _ _ _ _ _ _ _ _ _ 5 [some (.ref 25), some (.int (nI p)), some (.int (nI q)), some (.int (nI j)), some (.int (nI i)), none, none] [.int (bI (ipr (nI p) (nI q)))] (mdS S th pd wd ln sq st ct cl ft zn a26 (fun k => nI (cn k)) a28 a29 a30 a31 a32 a33 a34 a35 a36 a37 a38 a39 a40 a41 a42 a43 a44) 0 0
  refine am_if_eq (I := iX7_sign) (pc := 5) (tgt := 41) dX7_sign_5 (by decide) (fun c5 => ?_) (fun c5 => ?_)
  · exact absurd c5 (by rw [ipr_t hp hq]; decide)
  · refine am_iload_n (I := iX7_sign) (pc := 8) dX7_sign_8 rfl rfl ?_
    refine am_iload_n (I := iX7_sign) (pc := 9) dX7_sign_9 rfl rfl ?_
    refine am_iload_n (I := iX7_sign) (pc := 10) dX7_sign_10 rfl rfl ?_
    refine am_callS (I := iX7_sign) (pc := 11) (st := [.int (nI j)]) lv_X7_87 rfl (q_isPair (nI p) (nI q)) dX7_sign_11 rfl (Nat.le_of_ble_eq_true rfl) ⟨Nat.le_of_ble_eq_true rfl, Nat.le_of_ble_eq_true rfl⟩ (Nat.le_of_ble_eq_true rfl) (Nat.le_of_ble_eq_true rfl) rfl (fun v9 T9 z9 _ => ?_) (fun _ _ h9 => h9.elim)
    obtain ⟨rfl, rfl⟩ := z9
    show am_W _ _ _ _ _ _ _ _ _ _ _ _ _ _ _ 14 [some (.ref 25), some (.int (nI p)), some (.int (nI q)), some (.int (nI j)), some (.int (nI i)), none, none] [.int (bI (ipr (nI p) (nI q))), .int (nI j)] (mdS S th pd wd ln sq st ct cl ft zn a26 (fun k => nI (cn k)) a28 a29 a30 a31 a32 a33 a34 a35 a36 a37 a38 a39 a40 a41 a42 a43 a44) 0 0
    refine am_if_eq (I := iX7_sign) (pc := 14) (tgt := 30) dX7_sign_14 (by decide) (fun c14 => ?_) (fun c14 => ?_)
    · exact absurd c14 (by rw [ipr_t hp hq]; decide)
    · refine am_aload_n (I := iX7_sign) (pc := 17) dX7_sign_17 rfl rfl ?_
      refine am_getf (I := iX7_sign) (pc := 18) lf_X7_13 dX7_sign_18 md_25 rfl ?_
      refine am_iconst (I := iX7_sign) (pc := 21) (x := 5) dX7_sign_21 (by decide) ?_
      refine am_iload_n (I := iX7_sign) (pc := 22) dX7_sign_22 rfl rfl ?_
      refine am_imul (I := iX7_sign) (pc := 23) dX7_sign_23 ?_
      refine am_iload_n (I := iX7_sign) (pc := 24) dX7_sign_24 rfl rfl ?_
      refine am_iadd (I := iX7_sign) (pc := 25) dX7_sign_25 ?_
      rw [ix5]
      refine am_iaload (I := iX7_sign) (pc := 26) dX7_sign_26 md_27 rfl (vp_in_nI (show p * 5 + q < 50 by omega) (by decide)) ?_
      rw [nI_clamp (show p * 5 + q < 2 ^ 31 by omega)]
      refine am_goto (I := iX7_sign) (pc := 27) (tgt := 31) dX7_sign_27 (by decide) ?_
      refine am_callS (I := iX7_sign) (pc := 31) (st := []) lv_X7_83 rfl (q_below (nI j) (nI (cn (p * 5 + q)))) dX7_sign_31 rfl (Nat.le_of_ble_eq_true rfl) ⟨Nat.le_of_ble_eq_true rfl, Nat.le_of_ble_eq_true rfl⟩ (Nat.le_of_ble_eq_true rfl) (Nat.le_of_ble_eq_true rfl) rfl (fun v9 T9 z9 _ => ?_) (fun _ _ h9 => h9.elim)
      obtain ⟨rfl, rfl⟩ := z9
      show am_W _ _ _ _ _ _ _ _ _ _ _ _ _ _ _ 34 [some (.ref 25), some (.int (nI p)), some (.int (nI q)), some (.int (nI j)), some (.int (nI i)), none, none] [.int (bI (blw (nI j) (nI (cn (p * 5 + q)))))] (mdS S th pd wd ln sq st ct cl ft zn a26 (fun k => nI (cn k)) a28 a29 a30 a31 a32 a33 a34 a35 a36 a37 a38 a39 a40 a41 a42 a43 a44) 0 0
      refine am_if_eq (I := iX7_sign) (pc := 34) (tgt := 41) dX7_sign_34 (by decide) (fun c34 => ?_) (fun c34 => ?_)
      · exact absurd c34 (by rw [blw_t hj (by omega)]; decide)
      · refine am_iconst (I := iX7_sign) (pc := 37) (x := 1) dX7_sign_37 (by decide) ?_
        refine am_goto (I := iX7_sign) (pc := 38) (tgt := 42) dX7_sign_38 (by decide) ?_
        refine am_istore (I := iX7_sign) (pc := 42) (L' := [some (.ref 25), some (.int (nI p)), some (.int (nI q)), some (.int (nI j)), some (.int (nI i)), some (.int 1), none]) dX7_sign_42 (by decide) rfl ?_
        refine am_iload (I := iX7_sign) (pc := 44) dX7_sign_44 rfl ?_
        refine am_if_eq (I := iX7_sign) (pc := 46) (tgt := 61) dX7_sign_46 (by decide) (fun c46 => ?_) (fun c46 => ?_)
        · exact absurd c46 (by decide)
        · refine am_iconst (I := iX7_sign) (pc := 49) (x := 4) dX7_sign_49 (by decide) ?_
          refine am_iconst (I := iX7_sign) (pc := 50) (x := 5) dX7_sign_50 (by decide) ?_
          refine am_iload_n (I := iX7_sign) (pc := 51) dX7_sign_51 rfl rfl ?_
          refine am_imul (I := iX7_sign) (pc := 52) dX7_sign_52 ?_
          refine am_iload_n (I := iX7_sign) (pc := 53) dX7_sign_53 rfl rfl ?_
          refine am_iadd (I := iX7_sign) (pc := 54) dX7_sign_54 ?_
          rw [ix5]
          refine am_imul (I := iX7_sign) (pc := 55) dX7_sign_55 ?_
          refine am_iload_n (I := iX7_sign) (pc := 56) dX7_sign_56 rfl rfl ?_
          refine am_iadd (I := iX7_sign) (pc := 57) dX7_sign_57 ?_
          refine am_goto (I := iX7_sign) (pc := 58) (tgt := 62) dX7_sign_58 (by decide) ?_
          rw [ix4]
          refine am_istore (I := iX7_sign) (pc := 62) (L' := [some (.ref 25), some (.int (nI p)), some (.int (nI q)), some (.int (nI j)), some (.int (nI i)), some (.int 1), some (.int (nI ((p * 5 + q) * 4 + j)))]) dX7_sign_62 (by decide) rfl ?_
          refine am_aload_n (I := iX7_sign) (pc := 64) dX7_sign_64 rfl rfl ?_
          refine am_iload (I := iX7_sign) (pc := 65) dX7_sign_65 rfl ?_
          refine am_if_eq (I := iX7_sign) (pc := 67) (tgt := 92) dX7_sign_67 (by decide) (fun c67 => ?_) (fun c67 => ?_)
          · exact absurd c67 (by decide)
          · refine am_iload (I := iX7_sign) (pc := 70) dX7_sign_70 rfl ?_
            refine am_iconst (I := iX7_sign) (pc := 72) (x := (-1)) dX7_sign_72 (by decide) ?_
            refine am_icmp_lt (I := iX7_sign) (pc := 73) (tgt := 92) dX7_sign_73 (by decide) (fun c73 => ?_) (fun c73 => ?_)
            · exact absurd c73 (Int32.not_lt.mpr (Int32.le_of_lt (Int32.lt_of_lt_of_le (show (-1 : Int32) < 0 by decide) (nI_pos' (by omega)))))
            · refine am_iload (I := iX7_sign) (pc := 76) dX7_sign_76 rfl ?_
              refine am_aload_n (I := iX7_sign) (pc := 78) dX7_sign_78 rfl rfl ?_
              refine am_getf (I := iX7_sign) (pc := 79) lf_X7_16 dX7_sign_79 md_25 rfl ?_
              refine am_iload (I := iX7_sign) (pc := 82) dX7_sign_82 rfl ?_
              refine am_iaload (I := iX7_sign) (pc := 84) dX7_sign_84 md_28 rfl (vp_in_nI (show ((p * 5 + q) * 4 + j) < 200 by omega) (by decide)) ?_
              refine am_same (st' := [.int (nI m), .int (nI i), .ref 25]) rfl rfl (by rw [nI_clamp (show ((p * 5 + q) * 4 + j) < 2 ^ 31 by omega), hm]) rfl rfl rfl ?_
              refine am_icmp_ge (I := iX7_sign) (pc := 85) (tgt := 92) dX7_sign_85 (by decide) (fun c85 => ?_) (fun c85 => ?_)
              · exact absurd c85 (nI_ge hi (by omega))
              · refine am_iconst (I := iX7_sign) (pc := 88) (x := 1) dX7_sign_88 (by decide) ?_
                refine am_goto (I := iX7_sign) (pc := 89) (tgt := 93) dX7_sign_89 (by decide) ?_
                refine am_iconst (I := iX7_sign) (pc := 93) (x := 1) dX7_sign_93 (by decide) ?_
                refine am_callV (I := iX7_sign) (pc := 94) (st := []) lv_X7_79 (q_goes0) dX7_sign_94 md_25 rfl (Nat.le_of_ble_eq_true rfl) ⟨Nat.le_of_ble_eq_true rfl, Nat.le_of_ble_eq_true rfl⟩ (Nat.le_of_ble_eq_true rfl) (Nat.le_of_ble_eq_true rfl) rfl (fun v9 T9 z9 _ => ?_) (fun _ _ h9 => h9.elim)
                obtain ⟨rfl, rfl⟩ := z9
                show am_W _ _ _ _ _ _ _ _ _ _ _ _ _ _ _ 97 [some (.ref 25), some (.int (nI p)), some (.int (nI q)), some (.int (nI j)), some (.int (nI i)), some (.int 1), some (.int (nI ((p * 5 + q) * 4 + j)))] [.int 1] (mdS S 0 pd wd ln sq st ct cl ft zn a26 (fun k => nI (cn k)) a28 a29 a30 a31 a32 a33 a34 a35 a36 a37 a38 a39 a40 a41 a42 a43 a44) 0 0
                refine am_if_ne (I := iX7_sign) (pc := 97) (tgt := 102) dX7_sign_97 (by decide) (fun c97 => ?_) (fun c97 => ?_)
                · refine am_iload (I := iX7_sign) (pc := 102) dX7_sign_102 rfl ?_
                  refine am_iconst (I := iX7_sign) (pc := 104) (x := (-1)) dX7_sign_104 (by decide) ?_
                  refine am_icmp_ne (I := iX7_sign) (pc := 105) (tgt := 118) dX7_sign_105 (by decide) (fun c105 => ?_) (fun c105 => ?_)
                  · refine am_aload_n (I := iX7_sign) (pc := 118) dX7_sign_118 rfl rfl ?_
                    refine am_getf (I := iX7_sign) (pc := 119) lf_X7_19 dX7_sign_119 md_25 rfl ?_
                    refine am_bipush (I := iX7_sign) (pc := 122) (x := 80) dX7_sign_122 (by decide) ?_
                    refine am_iload (I := iX7_sign) (pc := 124) dX7_sign_124 rfl ?_
                    refine am_imul (I := iX7_sign) (pc := 126) dX7_sign_126 ?_
                    refine am_iload (I := iX7_sign) (pc := 127) dX7_sign_127 rfl ?_
                    refine am_iadd (I := iX7_sign) (pc := 129) dX7_sign_129 ?_
                    rw [ix80]
                    refine am_iaload (I := iX7_sign) (pc := 130) dX7_sign_130 md_29 rfl (vp_in_nI (show 80 * ((p * 5 + q) * 4 + j) + i < 16000 by omega) (by decide)) ?_
                    rw [nI_clamp (show 80 * ((p * 5 + q) * 4 + j) + i < 2 ^ 31 by omega)]
                    exact am_iret (I := iX7_sign) (pc := 131) dX7_sign_131 rfl (Nat.le_refl _) (Nat.le_refl _) (⟨rfl, rfl⟩)
                  · exact absurd c105 (fun e9 => by have h9 := nI_pos (n := i) (by omega); rw [e9] at h9; exact h9 (by decide))
                · exact absurd c97 (by decide)
