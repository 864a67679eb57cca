theorem ctS_at {S : am_S} {a w z : Nat} {CR : Nat → Option Nat} {tot : Int32} (h1 : z ≠ a) (h2 : z ≠ w) : (ctS S a w CR tot).1 z = S.1 z := (am_up_n h1).trans (am_up_n h2)
def lnN (B E LF : Nat → Int32) (w : Int32) (g : Nat → Int32) (m : Nat) : Nat := (nct (fun j => (ires w (wB g m B (m + 1)) (wE g m E (m + 1)) (flL w (wB g m B (m + 1)) (wE g m E (m + 1)) (cnt (sep g m) (m + 1)) LF ((cnt (sep g m) (m + 1)) - (j + 1))) (cnt (sep g m) (m + 1)) j).2) (cnt (sep g m) (m + 1)) (cnt (sep g m) (m + 1)) 0)
def lnS0 (S : am_S) (B E LF NF LB LS : Nat → Int32) (W ln : Nat) (sm : Int32) (g : Nat → Int32) (m : Nat) : am_S := sgS S 8 9 10 11 12 13 14 (wB g m B (m + 1)) (wE g m E (m + 1)) LF NF LB LS (cnt (sep g m) (m + 1)) ln sm
def lnS1 (S : am_S) (B E LF NF LB LS : Nat → Int32) (W ln : Nat) (sm : Int32) (w : Int32) (g : Nat → Int32) (m : Nat) : am_S := sgS S 8 9 10 11 12 13 14 (wB g m B (m + 1)) (wE g m E (m + 1)) (flL w (wB g m B (m + 1)) (wE g m E (m + 1)) (cnt (sep g m) (m + 1)) LF (cnt (sep g m) (m + 1))) (flN w (wB g m B (m + 1)) (wE g m E (m + 1)) (cnt (sep g m) (m + 1)) LF NF (cnt (sep g m) (m + 1))) (rcat LB 0 (fun j => (wB g m B (m + 1)) (tfi (fun j => (ires w (wB g m B (m + 1)) (wE g m E (m + 1)) (flL w (wB g m B (m + 1)) (wE g m E (m + 1)) (cnt (sep g m) (m + 1)) LF ((cnt (sep g m) (m + 1)) - (j + 1))) (cnt (sep g m) (m + 1)) j).2) j)) (nct (fun j => (ires w (wB g m B (m + 1)) (wE g m E (m + 1)) (flL w (wB g m B (m + 1)) (wE g m E (m + 1)) (cnt (sep g m) (m + 1)) LF ((cnt (sep g m) (m + 1)) - (j + 1))) (cnt (sep g m) (m + 1)) j).2) (cnt (sep g m) (m + 1)) (cnt (sep g m) (m + 1)) 0)) (rcat LS 0 (fun j => (wE g m E (m + 1)) ((fun j => (ires w (wB g m B (m + 1)) (wE g m E (m + 1)) (flL w (wB g m B (m + 1)) (wE g m E (m + 1)) (cnt (sep g m) (m + 1)) LF ((cnt (sep g m) (m + 1)) - (j + 1))) (cnt (sep g m) (m + 1)) j).2) (tfi (fun j => (ires w (wB g m B (m + 1)) (wE g m E (m + 1)) (flL w (wB g m B (m + 1)) (wE g m E (m + 1)) (cnt (sep g m) (m + 1)) LF ((cnt (sep g m) (m + 1)) - (j + 1))) (cnt (sep g m) (m + 1)) j).2) j) - 1) - (wB g m B (m + 1)) (tfi (fun j => (ires w (wB g m B (m + 1)) (wE g m E (m + 1)) (flL w (wB g m B (m + 1)) (wE g m E (m + 1)) (cnt (sep g m) (m + 1)) LF ((cnt (sep g m) (m + 1)) - (j + 1))) (cnt (sep g m) (m + 1)) j).2) j)) (nct (fun j => (ires w (wB g m B (m + 1)) (wE g m E (m + 1)) (flL w (wB g m B (m + 1)) (wE g m E (m + 1)) (cnt (sep g m) (m + 1)) LF ((cnt (sep g m) (m + 1)) - (j + 1))) (cnt (sep g m) (m + 1)) j).2) (cnt (sep g m) (m + 1)) (cnt (sep g m) (m + 1)) 0)) (cnt (sep g m) (m + 1)) (nct (fun j => (ires w (wB g m B (m + 1)) (wE g m E (m + 1)) (flL w (wB g m B (m + 1)) (wE g m E (m + 1)) (cnt (sep g m) (m + 1)) LF ((cnt (sep g m) (m + 1)) - (j + 1))) (cnt (sep g m) (m + 1)) j).2) (cnt (sep g m) (m + 1)) (cnt (sep g m) (m + 1)) 0) ((flL w (wB g m B (m + 1)) (wE g m E (m + 1)) (cnt (sep g m) (m + 1)) LF (cnt (sep g m) (m + 1))) 0)
set_option maxRecDepth 100000 in
set_option maxHeartbeats 4000000 in
theorem p_lines_x2 (K : am_K) (l : Launch) (S : am_S) (p q : Nat) (w : Int32) (hx : S.1 1 = clx) (hp : p < 10) (hq : q < 5) (hw : w < 1 ∨ 60 < w) : am_M K l iX6_lines 8 2 82 [.ref 1, .int (nI p), .int (nI q), .int w] S (fun v S' => False) (fun j S' => j = 2 ∧ S = S') := by
  refine am_body (by decide) rfl (by simp [Value.category]) (Nat.le_of_ble_eq_true rfl) (fun xp xe xs xm xa xb xt xc ad0 => ?_)
  show am_W _ _ _ _ _ _ _ _ _ _ _ _ _ _ _ 0 [some (.ref 1), some (.int (nI p)), some (.int (nI q)), some (.int w), none] [] S 0 0
  refine am_iload_n (I := iX6_lines) (pc := 0) dX6_lines_0 rfl rfl ?_
  refine am_iload_n (I := iX6_lines) (pc := 1) dX6_lines_1 rfl rfl ?_
  refine am_callS (I := iX6_lines) (pc := 2) (st := []) lv_X6_82 rfl (m_needCL K l _ p q hp hq) dX6_lines_2 rfl (Nat.le_of_ble_eq_true rfl) ⟨Nat.le_of_ble_eq_true rfl, Nat.le_of_ble_eq_true rfl⟩ (Nat.le_of_ble_eq_true rfl) (Nat.le_of_ble_eq_true rfl) rfl (fun v9 T9 z9 _ => ?_) (fun _ _ h9 => h9.elim)
  obtain ⟨rfl, rfl⟩ := z9
  show am_W _ _ _ _ _ _ _ _ _ _ _ _ _ _ _ 5 [some (.ref 1), some (.int (nI p)), some (.int (nI q)), some (.int w), none] [] S 0 0
  refine am_iload_n (I := iX6_lines) (pc := 5) dX6_lines_5 rfl rfl ?_
  refine am_iconst (I := iX6_lines) (pc := 6) (x := 1) dX6_lines_6 (by decide) ?_
  refine am_icmp_lt (I := iX6_lines) (pc := 7) (tgt := 16) dX6_lines_7 (by decide) (fun c7 => ?_) (fun c7 => ?_)
  · exact am_throw (I := iX6_lines) (pc := 16) lt_X6_71_129_75 rfl dX6_lines_16 dX6_lines_19 dX6_lines_20 dX6_lines_22 dX6_lines_25 (Nat.le_of_ble_eq_true rfl) (Nat.le_of_ble_eq_true rfl) (Nat.le_of_ble_eq_true rfl) (Nat.le_of_ble_eq_true rfl) (Nat.le_of_ble_eq_true rfl) (Nat.le_of_ble_eq_true rfl) (⟨rfl, rfl⟩)
  · refine am_iload_n (I := iX6_lines) (pc := 10) dX6_lines_10 rfl rfl ?_
    refine am_bipush (I := iX6_lines) (pc := 11) (x := 60) dX6_lines_11 (by decide) ?_
    refine am_icmp_le (I := iX6_lines) (pc := 13) (tgt := 26) dX6_lines_13 (by decide) (fun c13 => ?_) (fun c13 => ?_)
    · exact absurd c13 (Int32.not_le.mpr (hw.resolve_left c7))
    · exact am_throw (I := iX6_lines) (pc := 16) lt_X6_71_129_75 rfl dX6_lines_16 dX6_lines_19 dX6_lines_20 dX6_lines_22 dX6_lines_25 (Nat.le_of_ble_eq_true rfl) (Nat.le_of_ble_eq_true rfl) (Nat.le_of_ble_eq_true rfl) (Nat.le_of_ble_eq_true rfl) (Nat.le_of_ble_eq_true rfl) (Nat.le_of_ble_eq_true rfl) (⟨rfl, rfl⟩)
set_option maxRecDepth 100000 in
set_option maxHeartbeats 4000000 in
theorem p_lines_n (K : am_K) (l : Launch) (S : am_S) (VR : Nat → Option Nat) (cn : Nat → Nat) (fb : Nat → Option Nat) (tot : Int32) (p q : Nat) (w : Int32) (hx : S.1 1 = clx) (hc : cp S.1 4 5 6 7 VR cn fb tot) (hp : p < 10) (hq : q < 5) (hs0 : sh cn fb p 5 (some q) = none) (hw : ¬ w < 1 ∧ w ≤ 60) : am_M K l iX6_lines 8 2 82 [.ref 1, .int (nI p), .int (nI q), .int w] S (fun v S' => v = some (.int (-1)) ∧ S = S') (fun _ _ => False) := by
  refine am_body (by decide) rfl (by simp [Value.category]) (Nat.le_of_ble_eq_true rfl) (fun xp xe xs xm xa xb xt xc ad0 => ?_)
  show am_W _ _ _ _ _ _ _ _ _ _ _ _ _ _ _ 0 [some (.ref 1), some (.int (nI p)), some (.int (nI q)), some (.int w), none] [] S 0 0
  refine am_iload_n (I := iX6_lines) (pc := 0) dX6_lines_0 rfl rfl ?_
  refine am_iload_n (I := iX6_lines) (pc := 1) dX6_lines_1 rfl rfl ?_
  refine am_callS (I := iX6_lines) (pc := 2) (st := []) lv_X6_82 rfl (m_needCL K l _ p q hp hq) dX6_lines_2 rfl (Nat.le_of_ble_eq_true rfl) ⟨Nat.le_of_ble_eq_true rfl, Nat.le_of_ble_eq_true rfl⟩ (Nat.le_of_ble_eq_true rfl) (Nat.le_of_ble_eq_true rfl) rfl (fun v9 T9 z9 _ => ?_) (fun _ _ h9 => h9.elim)
  obtain ⟨rfl, rfl⟩ := z9
  show am_W _ _ _ _ _ _ _ _ _ _ _ _ _ _ _ 5 [some (.ref 1), some (.int (nI p)), some (.int (nI q)), some (.int w), none] [] S 0 0
  refine am_iload_n (I := iX6_lines) (pc := 5) dX6_lines_5 rfl rfl ?_
  refine am_iconst (I := iX6_lines) (pc := 6) (x := 1) dX6_lines_6 (by decide) ?_
  refine am_icmp_lt (I := iX6_lines) (pc := 7) (tgt := 16) dX6_lines_7 (by decide) (fun c7 => ?_) (fun c7 => ?_)
  · exact absurd c7 hw.1
  · refine am_iload_n (I := iX6_lines) (pc := 10) dX6_lines_10 rfl rfl ?_
    refine am_bipush (I := iX6_lines) (pc := 11) (x := 60) dX6_lines_11 (by decide) ?_
    refine am_icmp_le (I := iX6_lines) (pc := 13) (tgt := 26) dX6_lines_13 (by decide) (fun c13 => ?_) (fun c13 => ?_)
    · refine am_aload_n (I := iX6_lines) (pc := 26) dX6_lines_26 rfl rfl ?_
      refine am_getf (I := iX6_lines) (pc := 27) lf_X6_21 dX6_lines_27 hx rfl ?_
      refine am_iload_n (I := iX6_lines) (pc := 30) dX6_lines_30 rfl rfl ?_
      refine am_iload_n (I := iX6_lines) (pc := 31) dX6_lines_31 rfl rfl ?_
      refine am_callV (I := iX6_lines) (pc := 32) (st := []) lv_X6_131 (m_Capt_latest0 K l _ 4 5 6 7 VR cn fb tot p q hc hp hq hs0) dX6_lines_32 hc.1 rfl (Nat.le_of_ble_eq_true rfl) ⟨Nat.le_of_ble_eq_true rfl, Nat.le_of_ble_eq_true rfl⟩ (Nat.le_of_ble_eq_true rfl) (Nat.le_of_ble_eq_true rfl) rfl (fun v9 T9 z9 _ => ?_) (fun _ _ h9 => h9.elim)
      obtain ⟨rfl, rfl⟩ := z9
      show am_W _ _ _ _ _ _ _ _ _ _ _ _ _ _ _ 35 [some (.ref 1), some (.int (nI p)), some (.int (nI q)), some (.int w), none] [.null] S 0 0
      refine am_astoreN (I := iX6_lines) (pc := 35) (L' := [some (.ref 1), some (.int (nI p)), some (.int (nI q)), some (.int w), some (.null)]) dX6_lines_35 (by decide) rfl ?_
      refine am_aloadN (I := iX6_lines) (pc := 37) dX6_lines_37 rfl ?_
      refine am_ifnullN (I := iX6_lines) (pc := 39) (tgt := 55) dX6_lines_39 (by decide) ?_
      refine am_iconst (I := iX6_lines) (pc := 55) (x := (-1)) dX6_lines_55 (by decide) ?_
      exact am_iret (I := iX6_lines) (pc := 56) dX6_lines_56 rfl (Nat.zero_le _) (Nat.zero_le _) (⟨rfl, rfl⟩)
    · exact absurd hw.2 c13
set_option maxRecDepth 100000 in
set_option maxHeartbeats 4000000 in
theorem p_lines0 (K : am_K) (l : Launch) (S : am_S) (VR : Nat → Option Nat) (cn : Nat → Nat) (fb : Nat → Option Nat) (tot : Int32) (vr : Nat → Nat) (p q r : Nat) (tb tc : Nat) (g : Nat → Int32) (m : Nat) (B E LF NF LB LS : Nat → Int32) (W ln : Nat) (sm : Int32) (w : Int32) (hx : S.1 1 = clx) (hc : cp S.1 4 5 6 7 VR cn fb tot) (hv : ∀ k j, k < 50 → j < cn k → VR (k * 4 + j) = some (vr (k * 4 + j))) (hp : p < 10) (hq : q < 5) (hs1 : sh cn fb p 5 (some q) = some r) (ht : rw S.1 (vr ((p * 5 + r) * 4 + (cn (p * 5 + r) - 1))) tb tc g m) (hw : ¬ w < 1 ∧ w ≤ 60) (hs : sg S.1 8 9 10 11 12 13 14 B E LF NF LB LS W ln sm) (htn : tb ≠ 9 ∧ tb ≠ 10 ∧ tb ≠ 11 ∧ tb ≠ 12 ∧ tb ≠ 13 ∧ tb ≠ 14) (hW : (cnt (sep g m) (m + 1)) ≤ 40) (hl : ¬ lww (wB g m B (m + 1)) (wE g m E (m + 1)) (cnt (sep g m) (m + 1)) ≤ w) : am_M K l iX6_lines 8 2 82 [.ref 1, .int (nI p), .int (nI q), .int w] S (fun v S' => v = some (.int (-1)) ∧ lnS0 S B E LF NF LB LS W ln sm g m = S') (fun _ _ => False) := by
  refine am_body (by decide) rfl (by simp [Value.category]) (Nat.le_of_ble_eq_true rfl) (fun xp xe xs xm xa xb xt xc ad0 => ?_)
  show am_W _ _ _ _ _ _ _ _ _ _ _ _ _ _ _ 0 [some (.ref 1), some (.int (nI p)), some (.int (nI q)), some (.int w), none] [] S 0 0
  refine am_iload_n (I := iX6_lines) (pc := 0) dX6_lines_0 rfl rfl ?_
  refine am_iload_n (I := iX6_lines) (pc := 1) dX6_lines_1 rfl rfl ?_
  refine am_callS (I := iX6_lines) (pc := 2) (st := []) lv_X6_82 rfl (m_needCL K l _ p q hp hq) dX6_lines_2 rfl (Nat.le_of_ble_eq_true rfl) ⟨Nat.le_of_ble_eq_true rfl, Nat.le_of_ble_eq_true rfl⟩ (Nat.le_of_ble_eq_true rfl) (Nat.le_of_ble_eq_true rfl) rfl (fun v9 T9 z9 _ => ?_) (fun _ _ h9 => h9.elim)
  obtain ⟨rfl, rfl⟩ := z9
  show am_W _ _ _ _ _ _ _ _ _ _ _ _ _ _ _ 5 [some (.ref 1), some (.int (nI p)), some (.int (nI q)), some (.int w), none] [] S 0 0
  refine am_iload_n (I := iX6_lines) (pc := 5) dX6_lines_5 rfl rfl ?_
  refine am_iconst (I := iX6_lines) (pc := 6) (x := 1) dX6_lines_6 (by decide) ?_
  refine am_icmp_lt (I := iX6_lines) (pc := 7) (tgt := 16) dX6_lines_7 (by decide) (fun c7 => ?_) (fun c7 => ?_)
  · exact absurd c7 hw.1
  · refine am_iload_n (I := iX6_lines) (pc := 10) dX6_lines_10 rfl rfl ?_
    refine am_bipush (I := iX6_lines) (pc := 11) (x := 60) dX6_lines_11 (by decide) ?_
    refine am_icmp_le (I := iX6_lines) (pc := 13) (tgt := 26) dX6_lines_13 (by decide) (fun c13 => ?_) (fun c13 => ?_)
    · refine am_aload_n (I := iX6_lines) (pc := 26) dX6_lines_26 rfl rfl ?_
      refine am_getf (I := iX6_lines) (pc := 27) lf_X6_21 dX6_lines_27 hx rfl ?_
      refine am_iload_n (I := iX6_lines) (pc := 30) dX6_lines_30 rfl rfl ?_
      refine am_iload_n (I := iX6_lines) (pc := 31) dX6_lines_31 rfl rfl ?_
      refine am_callV (I := iX6_lines) (pc := 32) (st := []) lv_X6_131 (m_Capt_latest1 K l _ 4 5 6 7 VR cn fb tot vr p q r hc hv hp hq hs1) dX6_lines_32 hc.1 rfl (Nat.le_of_ble_eq_true rfl) ⟨Nat.le_of_ble_eq_true rfl, Nat.le_of_ble_eq_true rfl⟩ (Nat.le_of_ble_eq_true rfl) (Nat.le_of_ble_eq_true rfl) rfl (fun v9 T9 z9 _ => ?_) (fun _ _ h9 => h9.elim)
      obtain ⟨rfl, rfl⟩ := z9
      show am_W _ _ _ _ _ _ _ _ _ _ _ _ _ _ _ 35 [some (.ref 1), some (.int (nI p)), some (.int (nI q)), some (.int w), none] [.ref (vr ((p * 5 + r) * 4 + (cn (p * 5 + r) - 1)))] S 0 0
      refine am_astore (I := iX6_lines) (pc := 35) (L' := [some (.ref 1), some (.int (nI p)), some (.int (nI q)), some (.int w), some (.ref (vr ((p * 5 + r) * 4 + (cn (p * 5 + r) - 1))))]) dX6_lines_35 (by decide) rfl ?_
      refine am_aload (I := iX6_lines) (pc := 37) dX6_lines_37 rfl ?_
      refine am_ifnull (I := iX6_lines) (pc := 39) dX6_lines_39 ?_
      refine am_aload_n (I := iX6_lines) (pc := 42) dX6_lines_42 rfl rfl ?_
      refine am_getf (I := iX6_lines) (pc := 43) lf_X6_28 dX6_lines_43 hx rfl ?_
      refine am_aload (I := iX6_lines) (pc := 46) dX6_lines_46 rfl ?_
      refine am_iload_n (I := iX6_lines) (pc := 48) dX6_lines_48 rfl rfl ?_
      refine am_callV (I := iX6_lines) (pc := 49) (st := []) lv_X6_135 (m_Set_set0 K l _ 8 9 10 11 12 13 14 B E LF NF LB LS W ln sm (vr ((p * 5 + r) * 4 + (cn (p * 5 + r) - 1))) tb tc g m w hs (by decide) ht htn hW hl) dX6_lines_49 hs.1 rfl (Nat.le_of_ble_eq_true rfl) ⟨Nat.le_of_ble_eq_true rfl, Nat.le_of_ble_eq_true rfl⟩ (Nat.le_of_ble_eq_true rfl) (Nat.le_of_ble_eq_true rfl) rfl (fun v9 T9 z9 _ => ?_) (fun _ _ h9 => h9.elim)
      obtain ⟨rfl, eT9⟩ := z9
      have hx9 : T9.1 1 = clx := by rw [← eT9]; exact (sgS_at (by decide) (by decide) (by decide) (by decide) (by decide) (by decide) (by decide)).trans hx
      show am_W _ _ _ _ _ _ _ _ _ _ _ _ _ _ _ 52 [some (.ref 1), some (.int (nI p)), some (.int (nI q)), some (.int w), some (.ref (vr ((p * 5 + r) * 4 + (cn (p * 5 + r) - 1))))] [.int 0] T9 0 0
      refine am_if_ne (I := iX6_lines) (pc := 52) (tgt := 57) dX6_lines_52 (by decide) (fun c52 => ?_) (fun c52 => ?_)
      · exact absurd rfl c52
      · refine am_iconst (I := iX6_lines) (pc := 55) (x := (-1)) dX6_lines_55 (by decide) ?_
        exact am_iret (I := iX6_lines) (pc := 56) dX6_lines_56 rfl (Nat.zero_le _) (Nat.zero_le _) (⟨rfl, eT9⟩)
    · exact absurd hw.2 c13
set_option maxRecDepth 100000 in
set_option maxHeartbeats 4000000 in
theorem p_lines1 (K : am_K) (l : Launch) (S : am_S) (VR : Nat → Option Nat) (cn : Nat → Nat) (fb : Nat → Option Nat) (tot : Int32) (vr : Nat → Nat) (p q r : Nat) (tb tc : Nat) (g : Nat → Int32) (m : Nat) (B E LF NF LB LS : Nat → Int32) (W ln : Nat) (sm : Int32) (w : Int32) (hx : S.1 1 = clx) (hc : cp S.1 4 5 6 7 VR cn fb tot) (hv : ∀ k j, k < 50 → j < cn k → VR (k * 4 + j) = some (vr (k * 4 + j))) (hp : p < 10) (hq : q < 5) (hs1 : sh cn fb p 5 (some q) = some r) (ht : rw S.1 (vr ((p * 5 + r) * 4 + (cn (p * 5 + r) - 1))) tb tc g m) (hw : ¬ w < 1 ∧ w ≤ 60) (hs : sg S.1 8 9 10 11 12 13 14 B E LF NF LB LS W ln sm) (htn : tb ≠ 9 ∧ tb ≠ 10 ∧ tb ≠ 11 ∧ tb ≠ 12 ∧ tb ≠ 13 ∧ tb ≠ 14) (hW : (cnt (sep g m) (m + 1)) ≤ 40) (hl : lww (wB g m B (m + 1)) (wE g m E (m + 1)) (cnt (sep g m) (m + 1)) ≤ w) : am_M K l iX6_lines 8 2 82 [.ref 1, .int (nI p), .int (nI q), .int w] S (fun v S' => v = some (.int (nI (lnN B E LF w g m))) ∧ lnS1 S B E LF NF LB LS W ln sm w g m = S') (fun _ _ => False) := by
  refine am_body (by decide) rfl (by simp [Value.category]) (Nat.le_of_ble_eq_true rfl) (fun xp xe xs xm xa xb xt xc ad0 => ?_)
  show am_W _ _ _ _ _ _ _ _ _ _ _ _ _ _ _ 0 [some (.ref 1), some (.int (nI p)), some (.int (nI q)), some (.int w), none] [] S 0 0
  refine am_iload_n (I := iX6_lines) (pc := 0) dX6_lines_0 rfl rfl ?_
  refine am_iload_n (I := iX6_lines) (pc := 1) dX6_lines_1 rfl rfl ?_
  refine am_callS (I := iX6_lines) (pc := 2) (st := []) lv_X6_82 rfl (m_needCL K l _ p q hp hq) dX6_lines_2 rfl (Nat.le_of_ble_eq_true rfl) ⟨Nat.le_of_ble_eq_true rfl, Nat.le_of_ble_eq_true rfl⟩ (Nat.le_of_ble_eq_true rfl) (Nat.le_of_ble_eq_true rfl) rfl (fun v9 T9 z9 _ => ?_) (fun _ _ h9 => h9.elim)
  obtain ⟨rfl, rfl⟩ := z9
  show am_W _ _ _ _ _ _ _ _ _ _ _ _ _ _ _ 5 [some (.ref 1), some (.int (nI p)), some (.int (nI q)), some (.int w), none] [] S 0 0
  refine am_iload_n (I := iX6_lines) (pc := 5) dX6_lines_5 rfl rfl ?_
  refine am_iconst (I := iX6_lines) (pc := 6) (x := 1) dX6_lines_6 (by decide) ?_
  refine am_icmp_lt (I := iX6_lines) (pc := 7) (tgt := 16) dX6_lines_7 (by decide) (fun c7 => ?_) (fun c7 => ?_)
  · exact absurd c7 hw.1
  · refine am_iload_n (I := iX6_lines) (pc := 10) dX6_lines_10 rfl rfl ?_
    refine am_bipush (I := iX6_lines) (pc := 11) (x := 60) dX6_lines_11 (by decide) ?_
    refine am_icmp_le (I := iX6_lines) (pc := 13) (tgt := 26) dX6_lines_13 (by decide) (fun c13 => ?_) (fun c13 => ?_)
    · refine am_aload_n (I := iX6_lines) (pc := 26) dX6_lines_26 rfl rfl ?_
      refine am_getf (I := iX6_lines) (pc := 27) lf_X6_21 dX6_lines_27 hx rfl ?_
      refine am_iload_n (I := iX6_lines) (pc := 30) dX6_lines_30 rfl rfl ?_
      refine am_iload_n (I := iX6_lines) (pc := 31) dX6_lines_31 rfl rfl ?_
      refine am_callV (I := iX6_lines) (pc := 32) (st := []) lv_X6_131 (m_Capt_latest1 K l _ 4 5 6 7 VR cn fb tot vr p q r hc hv hp hq hs1) dX6_lines_32 hc.1 rfl (Nat.le_of_ble_eq_true rfl) ⟨Nat.le_of_ble_eq_true rfl, Nat.le_of_ble_eq_true rfl⟩ (Nat.le_of_ble_eq_true rfl) (Nat.le_of_ble_eq_true rfl) rfl (fun v9 T9 z9 _ => ?_) (fun _ _ h9 => h9.elim)
      obtain ⟨rfl, rfl⟩ := z9
      show am_W _ _ _ _ _ _ _ _ _ _ _ _ _ _ _ 35 [some (.ref 1), some (.int (nI p)), some (.int (nI q)), some (.int w), none] [.ref (vr ((p * 5 + r) * 4 + (cn (p * 5 + r) - 1)))] S 0 0
      refine am_astore (I := iX6_lines) (pc := 35) (L' := [some (.ref 1), some (.int (nI p)), some (.int (nI q)), some (.int w), some (.ref (vr ((p * 5 + r) * 4 + (cn (p * 5 + r) - 1))))]) dX6_lines_35 (by decide) rfl ?_
      refine am_aload (I := iX6_lines) (pc := 37) dX6_lines_37 rfl ?_
      refine am_ifnull (I := iX6_lines) (pc := 39) dX6_lines_39 ?_
      refine am_aload_n (I := iX6_lines) (pc := 42) dX6_lines_42 rfl rfl ?_
      refine am_getf (I := iX6_lines) (pc := 43) lf_X6_28 dX6_lines_43 hx rfl ?_
      refine am_aload (I := iX6_lines) (pc := 46) dX6_lines_46 rfl ?_
      refine am_iload_n (I := iX6_lines) (pc := 48) dX6_lines_48 rfl rfl ?_
      refine am_callV (I := iX6_lines) (pc := 49) (st := []) lv_X6_135 (m_Set_set1 K l _ 8 9 10 11 12 13 14 B E LF NF LB LS W ln sm (vr ((p * 5 + r) * 4 + (cn (p * 5 + r) - 1))) tb tc g m w hs (by decide) ht htn hW hl) dX6_lines_49 hs.1 rfl (Nat.le_of_ble_eq_true rfl) ⟨Nat.le_of_ble_eq_true rfl, Nat.le_of_ble_eq_true rfl⟩ (Nat.le_of_ble_eq_true rfl) (Nat.le_of_ble_eq_true rfl) rfl (fun v9 T9 z9 _ => ?_) (fun _ _ h9 => h9.elim)
      obtain ⟨rfl, eT9⟩ := z9
      have hx9 : T9.1 1 = clx := by rw [← eT9]; exact (sgS_at (by decide) (by decide) (by decide) (by decide) (by decide) (by decide) (by decide)).trans hx
      have hs9 : sg T9.1 8 9 10 11 12 13 14 (wB g m B (m + 1)) (wE g m E (m + 1)) (flL w (wB g m B (m + 1)) (wE g m E (m + 1)) (cnt (sep g m) (m + 1)) LF (cnt (sep g m) (m + 1))) (flN w (wB g m B (m + 1)) (wE g m E (m + 1)) (cnt (sep g m) (m + 1)) LF NF (cnt (sep g m) (m + 1))) (rcat LB 0 (fun j => (wB g m B (m + 1)) (tfi (fun j => (ires w (wB g m B (m + 1)) (wE g m E (m + 1)) (flL w (wB g m B (m + 1)) (wE g m E (m + 1)) (cnt (sep g m) (m + 1)) LF ((cnt (sep g m) (m + 1)) - (j + 1))) (cnt (sep g m) (m + 1)) j).2) j)) (nct (fun j => (ires w (wB g m B (m + 1)) (wE g m E (m + 1)) (flL w (wB g m B (m + 1)) (wE g m E (m + 1)) (cnt (sep g m) (m + 1)) LF ((cnt (sep g m) (m + 1)) - (j + 1))) (cnt (sep g m) (m + 1)) j).2) (cnt (sep g m) (m + 1)) (cnt (sep g m) (m + 1)) 0)) (rcat LS 0 (fun j => (wE g m E (m + 1)) ((fun j => (ires w (wB g m B (m + 1)) (wE g m E (m + 1)) (flL w (wB g m B (m + 1)) (wE g m E (m + 1)) (cnt (sep g m) (m + 1)) LF ((cnt (sep g m) (m + 1)) - (j + 1))) (cnt (sep g m) (m + 1)) j).2) (tfi (fun j => (ires w (wB g m B (m + 1)) (wE g m E (m + 1)) (flL w (wB g m B (m + 1)) (wE g m E (m + 1)) (cnt (sep g m) (m + 1)) LF ((cnt (sep g m) (m + 1)) - (j + 1))) (cnt (sep g m) (m + 1)) j).2) j) - 1) - (wB g m B (m + 1)) (tfi (fun j => (ires w (wB g m B (m + 1)) (wE g m E (m + 1)) (flL w (wB g m B (m + 1)) (wE g m E (m + 1)) (cnt (sep g m) (m + 1)) LF ((cnt (sep g m) (m + 1)) - (j + 1))) (cnt (sep g m) (m + 1)) j).2) j)) (nct (fun j => (ires w (wB g m B (m + 1)) (wE g m E (m + 1)) (flL w (wB g m B (m + 1)) (wE g m E (m + 1)) (cnt (sep g m) (m + 1)) LF ((cnt (sep g m) (m + 1)) - (j + 1))) (cnt (sep g m) (m + 1)) j).2) (cnt (sep g m) (m + 1)) (cnt (sep g m) (m + 1)) 0)) (cnt (sep g m) (m + 1)) (nct (fun j => (ires w (wB g m B (m + 1)) (wE g m E (m + 1)) (flL w (wB g m B (m + 1)) (wE g m E (m + 1)) (cnt (sep g m) (m + 1)) LF ((cnt (sep g m) (m + 1)) - (j + 1))) (cnt (sep g m) (m + 1)) j).2) (cnt (sep g m) (m + 1)) (cnt (sep g m) (m + 1)) 0) ((flL w (wB g m B (m + 1)) (wE g m E (m + 1)) (cnt (sep g m) (m + 1)) LF (cnt (sep g m) (m + 1))) 0) := by rw [← eT9]; exact sgS_sg (by decide) (by decide)
      show am_W _ _ _ _ _ _ _ _ _ _ _ _ _ _ _ 52 [some (.ref 1), some (.int (nI p)), some (.int (nI q)), some (.int w), some (.ref (vr ((p * 5 + r) * 4 + (cn (p * 5 + r) - 1))))] [.int 1] T9 0 0
      refine am_if_ne (I := iX6_lines) (pc := 52) (tgt := 57) dX6_lines_52 (by decide) (fun c52 => ?_) (fun c52 => ?_)
      · refine am_aload_n (I := iX6_lines) (pc := 57) dX6_lines_57 rfl rfl ?_
        refine am_getf (I := iX6_lines) (pc := 58) lf_X6_28 dX6_lines_58 hx9 rfl ?_
        refine am_callV (I := iX6_lines) (pc := 61) (st := []) lv_X6_139 (m_Set_lineCount K l _ 8 9 10 11 12 13 14 _ _ _ _ _ _ _ _ _ hs9) dX6_lines_61 hs9.1 rfl (Nat.le_of_ble_eq_true rfl) ⟨Nat.le_of_ble_eq_true rfl, Nat.le_of_ble_eq_true rfl⟩ (Nat.le_of_ble_eq_true rfl) (Nat.le_of_ble_eq_true rfl) rfl (fun v9 T9 z9 _ => ?_) (fun _ _ h9 => h9.elim)
        obtain ⟨rfl, rfl⟩ := z9
        show am_W _ _ _ _ _ _ _ _ _ _ _ _ _ _ _ 64 [some (.ref 1), some (.int (nI p)), some (.int (nI q)), some (.int w), some (.ref (vr ((p * 5 + r) * 4 + (cn (p * 5 + r) - 1))))] [.int (nI (nct (fun j => (ires w (wB g m B (m + 1)) (wE g m E (m + 1)) (flL w (wB g m B (m + 1)) (wE g m E (m + 1)) (cnt (sep g m) (m + 1)) LF ((cnt (sep g m) (m + 1)) - (j + 1))) (cnt (sep g m) (m + 1)) j).2) (cnt (sep g m) (m + 1)) (cnt (sep g m) (m + 1)) 0))] T9 0 0
        exact am_iret (I := iX6_lines) (pc := 64) dX6_lines_64 rfl (Nat.zero_le _) (Nat.zero_le _) (⟨rfl, eT9⟩)
      · exact absurd c52 (by decide)
    · exact absurd hw.2 c13
set_option maxRecDepth 100000 in
set_option maxHeartbeats 4000000 in
theorem p_line_w0 (K : am_K) (l : Launch) (S : am_S) (x y : Int32) (hx : S.1 1 = clx) (hy : ¬ y = 0 ∧ ¬ y = 1) : am_M K l iX6_line 8 2 82 [.ref 1, .int x, .int y] S (fun v S' => False) (fun j S' => j = 0 ∧ S = S') := by
  refine am_body (by decide) rfl (by simp [Value.category]) (Nat.le_of_ble_eq_true rfl) (fun xp xe xs xm xa xb xt xc ad0 => ?_)
  show am_W _ _ _ _ _ _ _ _ _ _ _ _ _ _ _ 0 [some (.ref 1), some (.int x), some (.int y)] [] S 0 0
  refine am_iload_n (I := iX6_line) (pc := 0) dX6_line_0 rfl rfl ?_
  refine am_if_eq (I := iX6_line) (pc := 1) (tgt := 19) dX6_line_1 (by decide) (fun c1 => ?_) (fun c1 => ?_)
  · exact absurd c1 hy.1
  · refine am_iload_n (I := iX6_line) (pc := 4) dX6_line_4 rfl rfl ?_
    refine am_iconst (I := iX6_line) (pc := 5) (x := 1) dX6_line_5 (by decide) ?_
    refine am_icmp_eq (I := iX6_line) (pc := 6) (tgt := 19) dX6_line_6 (by decide) (fun c6 => ?_) (fun c6 => ?_)
    · exact absurd c6 hy.2
    · exact am_throw (I := iX6_line) (pc := 9) lt_X6_118_142_122 rfl dX6_line_9 dX6_line_12 dX6_line_13 dX6_line_15 dX6_line_18 (Nat.le_of_ble_eq_true rfl) (Nat.le_of_ble_eq_true rfl) (Nat.le_of_ble_eq_true rfl) (Nat.le_of_ble_eq_true rfl) (Nat.le_of_ble_eq_true rfl) (Nat.le_of_ble_eq_true rfl) (⟨rfl, rfl⟩)
set_option maxRecDepth 100000 in
set_option maxHeartbeats 4000000 in
theorem p_line_k0 (K : am_K) (l : Launch) (S : am_S) (B E LF NF LB LS : Nat → Int32) (W ln : Nat) (sm : Int32) (x y : Int32) (hx : S.1 1 = clx) (hs : sg S.1 8 9 10 11 12 13 14 B E LF NF LB LS W ln sm) (hl : ln ≤ 40) (hy : y = 0 ∨ y = 1) (hk : ln = 0 ∨ x < -1 ∨ nI ln ≤ x) : am_M K l iX6_line 8 2 82 [.ref 1, .int x, .int y] S (fun v S' => False) (fun j S' => j = 0 ∧ S = S') := by
  refine am_body (by decide) rfl (by simp [Value.category]) (Nat.le_of_ble_eq_true rfl) (fun xp xe xs xm xa xb xt xc ad0 => ?_)
  show am_W _ _ _ _ _ _ _ _ _ _ _ _ _ _ _ 0 [some (.ref 1), some (.int x), some (.int y)] [] S 0 0
  refine am_iload_n (I := iX6_line) (pc := 0) dX6_line_0 rfl rfl ?_
  refine am_if_eq (I := iX6_line) (pc := 1) (tgt := 19) dX6_line_1 (by decide) (fun c1 => ?_) (fun c1 => ?_)
  · refine am_aload_n (I := iX6_line) (pc := 19) dX6_line_19 rfl rfl ?_
    refine am_getf (I := iX6_line) (pc := 20) lf_X6_28 dX6_line_20 hx rfl ?_
    refine am_callV (I := iX6_line) (pc := 23) (st := []) lv_X6_139 (m_Set_lineCount K l _ 8 9 10 11 12 13 14 B E LF NF LB LS W ln sm hs) dX6_line_23 hs.1 rfl (Nat.le_of_ble_eq_true rfl) ⟨Nat.le_of_ble_eq_true rfl, Nat.le_of_ble_eq_true rfl⟩ (Nat.le_of_ble_eq_true rfl) (Nat.le_of_ble_eq_true rfl) rfl (fun v9 T9 z9 _ => ?_) (fun _ _ h9 => h9.elim)
    obtain ⟨rfl, rfl⟩ := z9
    show am_W _ _ _ _ _ _ _ _ _ _ _ _ _ _ _ 26 [some (.ref 1), some (.int x), some (.int y)] [.int (nI ln)] S 0 0
    refine am_if_eq (I := iX6_line) (pc := 26) (tgt := 45) dX6_line_26 (by decide) (fun c26 => ?_) (fun c26 => ?_)
    · exact am_throw (I := iX6_line) (pc := 45) lt_X6_118_144_122 rfl dX6_line_45 dX6_line_48 dX6_line_49 dX6_line_51 dX6_line_54 (Nat.le_of_ble_eq_true rfl) (Nat.le_of_ble_eq_true rfl) (Nat.le_of_ble_eq_true rfl) (Nat.le_of_ble_eq_true rfl) (Nat.le_of_ble_eq_true rfl) (Nat.le_of_ble_eq_true rfl) (⟨rfl, rfl⟩)
    · refine am_iload_n (I := iX6_line) (pc := 29) dX6_line_29 rfl rfl ?_
      refine am_iconst (I := iX6_line) (pc := 30) (x := (-1)) dX6_line_30 (by decide) ?_
      refine am_icmp_lt (I := iX6_line) (pc := 31) (tgt := 45) dX6_line_31 (by decide) (fun c31 => ?_) (fun c31 => ?_)
      · exact am_throw (I := iX6_line) (pc := 45) lt_X6_118_144_122 rfl dX6_line_45 dX6_line_48 dX6_line_49 dX6_line_51 dX6_line_54 (Nat.le_of_ble_eq_true rfl) (Nat.le_of_ble_eq_true rfl) (Nat.le_of_ble_eq_true rfl) (Nat.le_of_ble_eq_true rfl) (Nat.le_of_ble_eq_true rfl) (Nat.le_of_ble_eq_true rfl) (⟨rfl, rfl⟩)
      · refine am_iload_n (I := iX6_line) (pc := 34) dX6_line_34 rfl rfl ?_
        refine am_aload_n (I := iX6_line) (pc := 35) dX6_line_35 rfl rfl ?_
        refine am_getf (I := iX6_line) (pc := 36) lf_X6_28 dX6_line_36 hx rfl ?_
        refine am_callV (I := iX6_line) (pc := 39) (st := [.int x]) lv_X6_139 (m_Set_lineCount K l _ 8 9 10 11 12 13 14 B E LF NF LB LS W ln sm hs) dX6_line_39 hs.1 rfl (Nat.le_of_ble_eq_true rfl) ⟨Nat.le_of_ble_eq_true rfl, Nat.le_of_ble_eq_true rfl⟩ (Nat.le_of_ble_eq_true rfl) (Nat.le_of_ble_eq_true rfl) rfl (fun v9 T9 z9 _ => ?_) (fun _ _ h9 => h9.elim)
        obtain ⟨rfl, rfl⟩ := z9
        show am_W _ _ _ _ _ _ _ _ _ _ _ _ _ _ _ 42 [some (.ref 1), some (.int x), some (.int y)] [.int (nI ln), .int x] S 0 0
        refine am_icmp_lt (I := iX6_line) (pc := 42) (tgt := 55) dX6_line_42 (by decide) (fun c42 => ?_) (fun c42 => ?_)
        · exact absurd c42 (Int32.not_lt.mpr ((hk.resolve_left (fun q => c26 (by rw [q]; rfl))).resolve_left c31))
        · exact am_throw (I := iX6_line) (pc := 45) lt_X6_118_144_122 rfl dX6_line_45 dX6_line_48 dX6_line_49 dX6_line_51 dX6_line_54 (Nat.le_of_ble_eq_true rfl) (Nat.le_of_ble_eq_true rfl) (Nat.le_of_ble_eq_true rfl) (Nat.le_of_ble_eq_true rfl) (Nat.le_of_ble_eq_true rfl) (Nat.le_of_ble_eq_true rfl) (⟨rfl, rfl⟩)
  · refine am_iload_n (I := iX6_line) (pc := 4) dX6_line_4 rfl rfl ?_
    refine am_iconst (I := iX6_line) (pc := 5) (x := 1) dX6_line_5 (by decide) ?_
    refine am_icmp_eq (I := iX6_line) (pc := 6) (tgt := 19) dX6_line_6 (by decide) (fun c6 => ?_) (fun c6 => ?_)
    · refine am_aload_n (I := iX6_line) (pc := 19) dX6_line_19 rfl rfl ?_
      refine am_getf (I := iX6_line) (pc := 20) lf_X6_28 dX6_line_20 hx rfl ?_
      refine am_callV (I := iX6_line) (pc := 23) (st := []) lv_X6_139 (m_Set_lineCount K l _ 8 9 10 11 12 13 14 B E LF NF LB LS W ln sm hs) dX6_line_23 hs.1 rfl (Nat.le_of_ble_eq_true rfl) ⟨Nat.le_of_ble_eq_true rfl, Nat.le_of_ble_eq_true rfl⟩ (Nat.le_of_ble_eq_true rfl) (Nat.le_of_ble_eq_true rfl) rfl (fun v9 T9 z9 _ => ?_) (fun _ _ h9 => h9.elim)
      obtain ⟨rfl, rfl⟩ := z9
      show am_W _ _ _ _ _ _ _ _ _ _ _ _ _ _ _ 26 [some (.ref 1), some (.int x), some (.int y)] [.int (nI ln)] S 0 0
      refine am_if_eq (I := iX6_line) (pc := 26) (tgt := 45) dX6_line_26 (by decide) (fun c26 => ?_) (fun c26 => ?_)
      · exact am_throw (I := iX6_line) (pc := 45) lt_X6_118_144_122 rfl dX6_line_45 dX6_line_48 dX6_line_49 dX6_line_51 dX6_line_54 (Nat.le_of_ble_eq_true rfl) (Nat.le_of_ble_eq_true rfl) (Nat.le_of_ble_eq_true rfl) (Nat.le_of_ble_eq_true rfl) (Nat.le_of_ble_eq_true rfl) (Nat.le_of_ble_eq_true rfl) (⟨rfl, rfl⟩)
      · refine am_iload_n (I := iX6_line) (pc := 29) dX6_line_29 rfl rfl ?_
        refine am_iconst (I := iX6_line) (pc := 30) (x := (-1)) dX6_line_30 (by decide) ?_
        refine am_icmp_lt (I := iX6_line) (pc := 31) (tgt := 45) dX6_line_31 (by decide) (fun c31 => ?_) (fun c31 => ?_)
        · exact am_throw (I := iX6_line) (pc := 45) lt_X6_118_144_122 rfl dX6_line_45 dX6_line_48 dX6_line_49 dX6_line_51 dX6_line_54 (Nat.le_of_ble_eq_true rfl) (Nat.le_of_ble_eq_true rfl) (Nat.le_of_ble_eq_true rfl) (Nat.le_of_ble_eq_true rfl) (Nat.le_of_ble_eq_true rfl) (Nat.le_of_ble_eq_true rfl) (⟨rfl, rfl⟩)
        · refine am_iload_n (I := iX6_line) (pc := 34) dX6_line_34 rfl rfl ?_
          refine am_aload_n (I := iX6_line) (pc := 35) dX6_line_35 rfl rfl ?_
          refine am_getf (I := iX6_line) (pc := 36) lf_X6_28 dX6_line_36 hx rfl ?_
          refine am_callV (I := iX6_line) (pc := 39) (st := [.int x]) lv_X6_139 (m_Set_lineCount K l _ 8 9 10 11 12 13 14 B E LF NF LB LS W ln sm hs) dX6_line_39 hs.1 rfl (Nat.le_of_ble_eq_true rfl) ⟨Nat.le_of_ble_eq_true rfl, Nat.le_of_ble_eq_true rfl⟩ (Nat.le_of_ble_eq_true rfl) (Nat.le_of_ble_eq_true rfl) rfl (fun v9 T9 z9 _ => ?_) (fun _ _ h9 => h9.elim)
          obtain ⟨rfl, rfl⟩ := z9
          show am_W _ _ _ _ _ _ _ _ _ _ _ _ _ _ _ 42 [some (.ref 1), some (.int x), some (.int y)] [.int (nI ln), .int x] S 0 0
          refine am_icmp_lt (I := iX6_line) (pc := 42) (tgt := 55) dX6_line_42 (by decide) (fun c42 => ?_) (fun c42 => ?_)
          · exact absurd c42 (Int32.not_lt.mpr ((hk.resolve_left (fun q => c26 (by rw [q]; rfl))).resolve_left c31))
          · exact am_throw (I := iX6_line) (pc := 45) lt_X6_118_144_122 rfl dX6_line_45 dX6_line_48 dX6_line_49 dX6_line_51 dX6_line_54 (Nat.le_of_ble_eq_true rfl) (Nat.le_of_ble_eq_true rfl) (Nat.le_of_ble_eq_true rfl) (Nat.le_of_ble_eq_true rfl) (Nat.le_of_ble_eq_true rfl) (Nat.le_of_ble_eq_true rfl) (⟨rfl, rfl⟩)
    · exact absurd hy (fun q => q.elim c1 c6)
set_option maxRecDepth 100000 in
set_option maxHeartbeats 4000000 in
theorem p_line_s (K : am_K) (l : Launch) (S : am_S) (B E LF NF LB LS : Nat → Int32) (W ln : Nat) (sm : Int32) (y : Int32) (hx : S.1 1 = clx) (hs : sg S.1 8 9 10 11 12 13 14 B E LF NF LB LS W ln sm) (hl : ln ≤ 40) (h0 : 0 < ln) (hy : y = 0 ∨ y = 1) : am_M K l iX6_line 8 2 82 [.ref 1, .int (-1), .int y] S (fun v S' => v = some (.int (sm)) ∧ S = S') (fun _ _ => False) := by
  refine am_body (by decide) rfl (by simp [Value.category]) (Nat.le_of_ble_eq_true rfl) (fun xp xe xs xm xa xb xt xc ad0 => ?_)
  show am_W _ _ _ _ _ _ _ _ _ _ _ _ _ _ _ 0 [some (.ref 1), some (.int (-1)), some (.int y)] [] S 0 0
  refine am_iload_n (I := iX6_line) (pc := 0) dX6_line_0 rfl rfl ?_
  refine am_if_eq (I := iX6_line) (pc := 1) (tgt := 19) dX6_line_1 (by decide) (fun c1 => ?_) (fun c1 => ?_)
  · refine am_aload_n (I := iX6_line) (pc := 19) dX6_line_19 rfl rfl ?_
    refine am_getf (I := iX6_line) (pc := 20) lf_X6_28 dX6_line_20 hx rfl ?_
    refine am_callV (I := iX6_line) (pc := 23) (st := []) lv_X6_139 (m_Set_lineCount K l _ 8 9 10 11 12 13 14 B E LF NF LB LS W ln sm hs) dX6_line_23 hs.1 rfl (Nat.le_of_ble_eq_true rfl) ⟨Nat.le_of_ble_eq_true rfl, Nat.le_of_ble_eq_true rfl⟩ (Nat.le_of_ble_eq_true rfl) (Nat.le_of_ble_eq_true rfl) rfl (fun v9 T9 z9 _ => ?_) (fun _ _ h9 => h9.elim)
    obtain ⟨rfl, rfl⟩ := z9
    show am_W _ _ _ _ _ _ _ _ _ _ _ _ _ _ _ 26 [some (.ref 1), some (.int (-1)), some (.int y)] [.int (nI ln)] S 0 0
    refine am_if_eq (I := iX6_line) (pc := 26) (tgt := 45) dX6_line_26 (by decide) (fun c26 => ?_) (fun c26 => ?_)
    · exact absurd c26 (nI_ne0 h0 (by omega))
    · refine am_iload_n (I := iX6_line) (pc := 29) dX6_line_29 rfl rfl ?_
      refine am_iconst (I := iX6_line) (pc := 30) (x := (-1)) dX6_line_30 (by decide) ?_
      refine am_icmp_lt (I := iX6_line) (pc := 31) (tgt := 45) dX6_line_31 (by decide) (fun c31 => ?_) (fun c31 => ?_)
      · exact absurd c31 (by decide)
      · refine am_iload_n (I := iX6_line) (pc := 34) dX6_line_34 rfl rfl ?_
        refine am_aload_n (I := iX6_line) (pc := 35) dX6_line_35 rfl rfl ?_
        refine am_getf (I := iX6_line) (pc := 36) lf_X6_28 dX6_line_36 hx rfl ?_
        refine am_callV (I := iX6_line) (pc := 39) (st := [.int (-1)]) lv_X6_139 (m_Set_lineCount K l _ 8 9 10 11 12 13 14 B E LF NF LB LS W ln sm hs) dX6_line_39 hs.1 rfl (Nat.le_of_ble_eq_true rfl) ⟨Nat.le_of_ble_eq_true rfl, Nat.le_of_ble_eq_true rfl⟩ (Nat.le_of_ble_eq_true rfl) (Nat.le_of_ble_eq_true rfl) rfl (fun v9 T9 z9 _ => ?_) (fun _ _ h9 => h9.elim)
        obtain ⟨rfl, rfl⟩ := z9
        show am_W _ _ _ _ _ _ _ _ _ _ _ _ _ _ _ 42 [some (.ref 1), some (.int (-1)), some (.int y)] [.int (nI ln), .int (-1)] S 0 0
        refine am_icmp_lt (I := iX6_line) (pc := 42) (tgt := 55) dX6_line_42 (by decide) (fun c42 => ?_) (fun c42 => ?_)
        · refine am_iload_n (I := iX6_line) (pc := 55) dX6_line_55 rfl rfl ?_
          refine am_iconst (I := iX6_line) (pc := 56) (x := (-1)) dX6_line_56 (by decide) ?_
          refine am_icmp_ne (I := iX6_line) (pc := 57) (tgt := 68) dX6_line_57 (by decide) (fun c57 => ?_) (fun c57 => ?_)
          · exact absurd c57 (by decide)
          · refine am_aload_n (I := iX6_line) (pc := 60) dX6_line_60 rfl rfl ?_
            refine am_getf (I := iX6_line) (pc := 61) lf_X6_28 dX6_line_61 hx rfl ?_
            refine am_callV (I := iX6_line) (pc := 64) (st := []) lv_X6_146 (m_Set_sum K l _ 8 9 10 11 12 13 14 B E LF NF LB LS W ln sm hs) dX6_line_64 hs.1 rfl (Nat.le_of_ble_eq_true rfl) ⟨Nat.le_of_ble_eq_true rfl, Nat.le_of_ble_eq_true rfl⟩ (Nat.le_of_ble_eq_true rfl) (Nat.le_of_ble_eq_true rfl) rfl (fun v9 T9 z9 _ => ?_) (fun _ _ h9 => h9.elim)
            obtain ⟨rfl, rfl⟩ := z9
            show am_W _ _ _ _ _ _ _ _ _ _ _ _ _ _ _ 67 [some (.ref 1), some (.int (-1)), some (.int y)] [.int sm] S 0 0
            exact am_iret (I := iX6_line) (pc := 67) dX6_line_67 rfl (Nat.zero_le _) (Nat.zero_le _) (⟨rfl, rfl⟩)
        · exact absurd (Int32.lt_of_lt_of_le (show (-1 : Int32) < 0 by decide) (nI_pos' (by omega))) c42
  · refine am_iload_n (I := iX6_line) (pc := 4) dX6_line_4 rfl rfl ?_
    refine am_iconst (I := iX6_line) (pc := 5) (x := 1) dX6_line_5 (by decide) ?_
    refine am_icmp_eq (I := iX6_line) (pc := 6) (tgt := 19) dX6_line_6 (by decide) (fun c6 => ?_) (fun c6 => ?_)
    · refine am_aload_n (I := iX6_line) (pc := 19) dX6_line_19 rfl rfl ?_
      refine am_getf (I := iX6_line) (pc := 20) lf_X6_28 dX6_line_20 hx rfl ?_
      refine am_callV (I := iX6_line) (pc := 23) (st := []) lv_X6_139 (m_Set_lineCount K l _ 8 9 10 11 12 13 14 B E LF NF LB LS W ln sm hs) dX6_line_23 hs.1 rfl (Nat.le_of_ble_eq_true rfl) ⟨Nat.le_of_ble_eq_true rfl, Nat.le_of_ble_eq_true rfl⟩ (Nat.le_of_ble_eq_true rfl) (Nat.le_of_ble_eq_true rfl) rfl (fun v9 T9 z9 _ => ?_) (fun _ _ h9 => h9.elim)
      obtain ⟨rfl, rfl⟩ := z9
      show am_W _ _ _ _ _ _ _ _ _ _ _ _ _ _ _ 26 [some (.ref 1), some (.int (-1)), some (.int y)] [.int (nI ln)] S 0 0
      refine am_if_eq (I := iX6_line) (pc := 26) (tgt := 45) dX6_line_26 (by decide) (fun c26 => ?_) (fun c26 => ?_)
      · exact absurd c26 (nI_ne0 h0 (by omega))
      · refine am_iload_n (I := iX6_line) (pc := 29) dX6_line_29 rfl rfl ?_
        refine am_iconst (I := iX6_line) (pc := 30) (x := (-1)) dX6_line_30 (by decide) ?_
        refine am_icmp_lt (I := iX6_line) (pc := 31) (tgt := 45) dX6_line_31 (by decide) (fun c31 => ?_) (fun c31 => ?_)
        · exact absurd c31 (by decide)
        · refine am_iload_n (I := iX6_line) (pc := 34) dX6_line_34 rfl rfl ?_
          refine am_aload_n (I := iX6_line) (pc := 35) dX6_line_35 rfl rfl ?_
          refine am_getf (I := iX6_line) (pc := 36) lf_X6_28 dX6_line_36 hx rfl ?_
          refine am_callV (I := iX6_line) (pc := 39) (st := [.int (-1)]) lv_X6_139 (m_Set_lineCount K l _ 8 9 10 11 12 13 14 B E LF NF LB LS W ln sm hs) dX6_line_39 hs.1 rfl (Nat.le_of_ble_eq_true rfl) ⟨Nat.le_of_ble_eq_true rfl, Nat.le_of_ble_eq_true rfl⟩ (Nat.le_of_ble_eq_true rfl) (Nat.le_of_ble_eq_true rfl) rfl (fun v9 T9 z9 _ => ?_) (fun _ _ h9 => h9.elim)
          obtain ⟨rfl, rfl⟩ := z9
          show am_W _ _ _ _ _ _ _ _ _ _ _ _ _ _ _ 42 [some (.ref 1), some (.int (-1)), some (.int y)] [.int (nI ln), .int (-1)] S 0 0
          refine am_icmp_lt (I := iX6_line) (pc := 42) (tgt := 55) dX6_line_42 (by decide) (fun c42 => ?_) (fun c42 => ?_)
          · refine am_iload_n (I := iX6_line) (pc := 55) dX6_line_55 rfl rfl ?_
            refine am_iconst (I := iX6_line) (pc := 56) (x := (-1)) dX6_line_56 (by decide) ?_
            refine am_icmp_ne (I := iX6_line) (pc := 57) (tgt := 68) dX6_line_57 (by decide) (fun c57 => ?_) (fun c57 => ?_)
            · exact absurd c57 (by decide)
            · refine am_aload_n (I := iX6_line) (pc := 60) dX6_line_60 rfl rfl ?_
              refine am_getf (I := iX6_line) (pc := 61) lf_X6_28 dX6_line_61 hx rfl ?_
              refine am_callV (I := iX6_line) (pc := 64) (st := []) lv_X6_146 (m_Set_sum K l _ 8 9 10 11 12 13 14 B E LF NF LB LS W ln sm hs) dX6_line_64 hs.1 rfl (Nat.le_of_ble_eq_true rfl) ⟨Nat.le_of_ble_eq_true rfl, Nat.le_of_ble_eq_true rfl⟩ (Nat.le_of_ble_eq_true rfl) (Nat.le_of_ble_eq_true rfl) rfl (fun v9 T9 z9 _ => ?_) (fun _ _ h9 => h9.elim)
              obtain ⟨rfl, rfl⟩ := z9
              show am_W _ _ _ _ _ _ _ _ _ _ _ _ _ _ _ 67 [some (.ref 1), some (.int (-1)), some (.int y)] [.int sm] S 0 0
              exact am_iret (I := iX6_line) (pc := 67) dX6_line_67 rfl (Nat.zero_le _) (Nat.zero_le _) (⟨rfl, rfl⟩)
          · exact absurd (Int32.lt_of_lt_of_le (show (-1 : Int32) < 0 by decide) (nI_pos' (by omega))) c42
    · exact absurd hy (fun q => q.elim c1 c6)
set_option maxRecDepth 100000 in
set_option maxHeartbeats 4000000 in
theorem p_line_b (K : am_K) (l : Launch) (S : am_S) (B E LF NF LB LS : Nat → Int32) (W ln : Nat) (sm : Int32) (k : Nat) (hx : S.1 1 = clx) (hs : sg S.1 8 9 10 11 12 13 14 B E LF NF LB LS W ln sm) (hl : ln ≤ 40) (hk : k < ln) : am_M K l iX6_line 8 2 82 [.ref 1, .int (nI k), .int 0] S (fun v S' => v = some (.int (LB k)) ∧ S = S') (fun _ _ => False) := by
  refine am_body (by decide) rfl (by simp [Value.category]) (Nat.le_of_ble_eq_true rfl) (fun xp xe xs xm xa xb xt xc ad0 => ?_)
  show am_W _ _ _ _ _ _ _ _ _ _ _ _ _ _ _ 0 [some (.ref 1), some (.int (nI k)), some (.int 0)] [] S 0 0
  refine am_iload_n (I := iX6_line) (pc := 0) dX6_line_0 rfl rfl ?_
  refine am_if_eq (I := iX6_line) (pc := 1) (tgt := 19) dX6_line_1 (by decide) (fun c1 => ?_) (fun c1 => ?_)
  · refine am_aload_n (I := iX6_line) (pc := 19) dX6_line_19 rfl rfl ?_
    refine am_getf (I := iX6_line) (pc := 20) lf_X6_28 dX6_line_20 hx rfl ?_
    refine am_callV (I := iX6_line) (pc := 23) (st := []) lv_X6_139 (m_Set_lineCount K l _ 8 9 10 11 12 13 14 B E LF NF LB LS W ln sm hs) dX6_line_23 hs.1 rfl (Nat.le_of_ble_eq_true rfl) ⟨Nat.le_of_ble_eq_true rfl, Nat.le_of_ble_eq_true rfl⟩ (Nat.le_of_ble_eq_true rfl) (Nat.le_of_ble_eq_true rfl) rfl (fun v9 T9 z9 _ => ?_) (fun _ _ h9 => h9.elim)
    obtain ⟨rfl, rfl⟩ := z9
    show am_W _ _ _ _ _ _ _ _ _ _ _ _ _ _ _ 26 [some (.ref 1), some (.int (nI k)), some (.int 0)] [.int (nI ln)] S 0 0
    refine am_if_eq (I := iX6_line) (pc := 26) (tgt := 45) dX6_line_26 (by decide) (fun c26 => ?_) (fun c26 => ?_)
    · exact absurd c26 (nI_ne0 (by omega) (by omega))
    · refine am_iload_n (I := iX6_line) (pc := 29) dX6_line_29 rfl rfl ?_
      refine am_iconst (I := iX6_line) (pc := 30) (x := (-1)) dX6_line_30 (by decide) ?_
      refine am_icmp_lt (I := iX6_line) (pc := 31) (tgt := 45) dX6_line_31 (by decide) (fun c31 => ?_) (fun c31 => ?_)
      · exact absurd c31 (Int32.not_lt.mpr (Int32.le_of_lt (Int32.lt_of_lt_of_le (show (-1 : Int32) < 0 by decide) (nI_pos' (by omega)))))
      · refine am_iload_n (I := iX6_line) (pc := 34) dX6_line_34 rfl rfl ?_
        refine am_aload_n (I := iX6_line) (pc := 35) dX6_line_35 rfl rfl ?_
        refine am_getf (I := iX6_line) (pc := 36) lf_X6_28 dX6_line_36 hx rfl ?_
        refine am_callV (I := iX6_line) (pc := 39) (st := [.int (nI k)]) lv_X6_139 (m_Set_lineCount K l _ 8 9 10 11 12 13 14 B E LF NF LB LS W ln sm hs) dX6_line_39 hs.1 rfl (Nat.le_of_ble_eq_true rfl) ⟨Nat.le_of_ble_eq_true rfl, Nat.le_of_ble_eq_true rfl⟩ (Nat.le_of_ble_eq_true rfl) (Nat.le_of_ble_eq_true rfl) rfl (fun v9 T9 z9 _ => ?_) (fun _ _ h9 => h9.elim)
        obtain ⟨rfl, rfl⟩ := z9
        show am_W _ _ _ _ _ _ _ _ _ _ _ _ _ _ _ 42 [some (.ref 1), some (.int (nI k)), some (.int 0)] [.int (nI ln), .int (nI k)] S 0 0
        refine am_icmp_lt (I := iX6_line) (pc := 42) (tgt := 55) dX6_line_42 (by decide) (fun c42 => ?_) (fun c42 => ?_)
        · refine am_iload_n (I := iX6_line) (pc := 55) dX6_line_55 rfl rfl ?_
          refine am_iconst (I := iX6_line) (pc := 56) (x := (-1)) dX6_line_56 (by decide) ?_
          refine am_icmp_ne (I := iX6_line) (pc := 57) (tgt := 68) dX6_line_57 (by decide) (fun c57 => ?_) (fun c57 => ?_)
          · refine am_iload_n (I := iX6_line) (pc := 68) dX6_line_68 rfl rfl ?_
            refine am_if_ne (I := iX6_line) (pc := 69) (tgt := 83) dX6_line_69 (by decide) (fun c69 => ?_) (fun c69 => ?_)
            · exact absurd rfl c69
            · refine am_aload_n (I := iX6_line) (pc := 72) dX6_line_72 rfl rfl ?_
              refine am_getf (I := iX6_line) (pc := 73) lf_X6_28 dX6_line_73 hx rfl ?_
              refine am_iload_n (I := iX6_line) (pc := 76) dX6_line_76 rfl rfl ?_
              refine am_callV (I := iX6_line) (pc := 77) (st := []) lv_X6_149 (m_Set_begin K l _ 8 9 10 11 12 13 14 B E LF NF LB LS W ln sm k hs hk hl) dX6_line_77 hs.1 rfl (Nat.le_of_ble_eq_true rfl) ⟨Nat.le_of_ble_eq_true rfl, Nat.le_of_ble_eq_true rfl⟩ (Nat.le_of_ble_eq_true rfl) (Nat.le_of_ble_eq_true rfl) rfl (fun v9 T9 z9 _ => ?_) (fun _ _ h9 => h9.elim)
              obtain ⟨rfl, rfl⟩ := z9
              show am_W _ _ _ _ _ _ _ _ _ _ _ _ _ _ _ 80 [some (.ref 1), some (.int (nI k)), some (.int 0)] [.int (LB k)] S 0 0
              refine am_goto (I := iX6_line) (pc := 80) (tgt := 91) dX6_line_80 (by decide) ?_
              exact am_iret (I := iX6_line) (pc := 91) dX6_line_91 rfl (Nat.zero_le _) (Nat.zero_le _) (⟨rfl, rfl⟩)
          · exact absurd c57 (fun e9 => by have h9 := nI_pos (n := k) (by omega); rw [e9] at h9; exact h9 (by decide))
        · exact absurd (nI_lt hk (by omega)) c42
  · exact absurd rfl c1
set_option maxRecDepth 100000 in
set_option maxHeartbeats 4000000 in
theorem p_line_l (K : am_K) (l : Launch) (S : am_S) (B E LF NF LB LS : Nat → Int32) (W ln : Nat) (sm : Int32) (k : Nat) (hx : S.1 1 = clx) (hs : sg S.1 8 9 10 11 12 13 14 B E LF NF LB LS W ln sm) (hl : ln ≤ 40) (hk : k < ln) : am_M K l iX6_line 8 2 82 [.ref 1, .int (nI k), .int 1] S (fun v S' => v = some (.int (LS k)) ∧ S = S') (fun _ _ => False) := by
  refine am_body (by decide) rfl (by simp [Value.category]) (Nat.le_of_ble_eq_true rfl) (fun xp xe xs xm xa xb xt xc ad0 => ?_)
  show am_W _ _ _ _ _ _ _ _ _ _ _ _ _ _ _ 0 [some (.ref 1), some (.int (nI k)), some (.int 1)] [] S 0 0
  refine am_iload_n (I := iX6_line) (pc := 0) dX6_line_0 rfl rfl ?_
  refine am_if_eq (I := iX6_line) (pc := 1) (tgt := 19) dX6_line_1 (by decide) (fun c1 => ?_) (fun c1 => ?_)
  · exact absurd c1 (by decide)
  · refine am_iload_n (I := iX6_line) (pc := 4) dX6_line_4 rfl rfl ?_
    refine am_iconst (I := iX6_line) (pc := 5) (x := 1) dX6_line_5 (by decide) ?_
    refine am_icmp_eq (I := iX6_line) (pc := 6) (tgt := 19) dX6_line_6 (by decide) (fun c6 => ?_) (fun c6 => ?_)
    · refine am_aload_n (I := iX6_line) (pc := 19) dX6_line_19 rfl rfl ?_
      refine am_getf (I := iX6_line) (pc := 20) lf_X6_28 dX6_line_20 hx rfl ?_
      refine am_callV (I := iX6_line) (pc := 23) (st := []) lv_X6_139 (m_Set_lineCount K l _ 8 9 10 11 12 13 14 B E LF NF LB LS W ln sm hs) dX6_line_23 hs.1 rfl (Nat.le_of_ble_eq_true rfl) ⟨Nat.le_of_ble_eq_true rfl, Nat.le_of_ble_eq_true rfl⟩ (Nat.le_of_ble_eq_true rfl) (Nat.le_of_ble_eq_true rfl) rfl (fun v9 T9 z9 _ => ?_) (fun _ _ h9 => h9.elim)
      obtain ⟨rfl, rfl⟩ := z9
      show am_W _ _ _ _ _ _ _ _ _ _ _ _ _ _ _ 26 [some (.ref 1), some (.int (nI k)), some (.int 1)] [.int (nI ln)] S 0 0
      refine am_if_eq (I := iX6_line) (pc := 26) (tgt := 45) dX6_line_26 (by decide) (fun c26 => ?_) (fun c26 => ?_)
      · exact absurd c26 (nI_ne0 (by omega) (by omega))
      · refine am_iload_n (I := iX6_line) (pc := 29) dX6_line_29 rfl rfl ?_
        refine am_iconst (I := iX6_line) (pc := 30) (x := (-1)) dX6_line_30 (by decide) ?_
        refine am_icmp_lt (I := iX6_line) (pc := 31) (tgt := 45) dX6_line_31 (by decide) (fun c31 => ?_) (fun c31 => ?_)
        · exact absurd c31 (Int32.not_lt.mpr (Int32.le_of_lt (Int32.lt_of_lt_of_le (show (-1 : Int32) < 0 by decide) (nI_pos' (by omega)))))
        · refine am_iload_n (I := iX6_line) (pc := 34) dX6_line_34 rfl rfl ?_
          refine am_aload_n (I := iX6_line) (pc := 35) dX6_line_35 rfl rfl ?_
          refine am_getf (I := iX6_line) (pc := 36) lf_X6_28 dX6_line_36 hx rfl ?_
          refine am_callV (I := iX6_line) (pc := 39) (st := [.int (nI k)]) lv_X6_139 (m_Set_lineCount K l _ 8 9 10 11 12 13 14 B E LF NF LB LS W ln sm hs) dX6_line_39 hs.1 rfl (Nat.le_of_ble_eq_true rfl) ⟨Nat.le_of_ble_eq_true rfl, Nat.le_of_ble_eq_true rfl⟩ (Nat.le_of_ble_eq_true rfl) (Nat.le_of_ble_eq_true rfl) rfl (fun v9 T9 z9 _ => ?_) (fun _ _ h9 => h9.elim)
          obtain ⟨rfl, rfl⟩ := z9
          show am_W _ _ _ _ _ _ _ _ _ _ _ _ _ _ _ 42 [some (.ref 1), some (.int (nI k)), some (.int 1)] [.int (nI ln), .int (nI k)] S 0 0
          refine am_icmp_lt (I := iX6_line) (pc := 42) (tgt := 55) dX6_line_42 (by decide) (fun c42 => ?_) (fun c42 => ?_)
          · refine am_iload_n (I := iX6_line) (pc := 55) dX6_line_55 rfl rfl ?_
            refine am_iconst (I := iX6_line) (pc := 56) (x := (-1)) dX6_line_56 (by decide) ?_
            refine am_icmp_ne (I := iX6_line) (pc := 57) (tgt := 68) dX6_line_57 (by decide) (fun c57 => ?_) (fun c57 => ?_)
            · refine am_iload_n (I := iX6_line) (pc := 68) dX6_line_68 rfl rfl ?_
              refine am_if_ne (I := iX6_line) (pc := 69) (tgt := 83) dX6_line_69 (by decide) (fun c69 => ?_) (fun c69 => ?_)
              · refine am_aload_n (I := iX6_line) (pc := 83) dX6_line_83 rfl rfl ?_
                refine am_getf (I := iX6_line) (pc := 84) lf_X6_28 dX6_line_84 hx rfl ?_
                refine am_iload_n (I := iX6_line) (pc := 87) dX6_line_87 rfl rfl ?_
                refine am_callV (I := iX6_line) (pc := 88) (st := []) lv_X6_152 (m_Set_signs K l _ 8 9 10 11 12 13 14 B E LF NF LB LS W ln sm k hs hk hl) dX6_line_88 hs.1 rfl (Nat.le_of_ble_eq_true rfl) ⟨Nat.le_of_ble_eq_true rfl, Nat.le_of_ble_eq_true rfl⟩ (Nat.le_of_ble_eq_true rfl) (Nat.le_of_ble_eq_true rfl) rfl (fun v9 T9 z9 _ => ?_) (fun _ _ h9 => h9.elim)
                obtain ⟨rfl, rfl⟩ := z9
                show am_W _ _ _ _ _ _ _ _ _ _ _ _ _ _ _ 91 [some (.ref 1), some (.int (nI k)), some (.int 1)] [.int (LS k)] S 0 0
                exact am_iret (I := iX6_line) (pc := 91) dX6_line_91 rfl (Nat.zero_le _) (Nat.zero_le _) (⟨rfl, rfl⟩)
              · exact absurd c69 (by decide)
            · exact absurd c57 (fun e9 => by have h9 := nI_pos (n := k) (by omega); rw [e9] at h9; exact h9 (by decide))
          · exact absurd (nI_lt hk (by omega)) c42
    · exact absurd c6 (by decide)
set_option maxRecDepth 100000 in
set_option maxHeartbeats 4000000 in
theorem p_level_n (K : am_K) (l : Launch) (S : am_S) (VR : Nat → Option Nat) (cn : Nat → Nat) (fb : Nat → Option Nat) (tot : Int32) (p q : Nat) (hx : S.1 1 = clx) (hc : cp S.1 4 5 6 7 VR cn fb tot) (hp : p < 10) (hq : q < 5) (hs0 : sh cn fb p 5 (some q) = none) : am_M K l iX6_level 8 2 82 [.ref 1, .int (nI p), .int (nI q)] S (fun v S' => v = some (.int (-1)) ∧ S = S') (fun _ _ => False) := by
  refine am_body (by decide) rfl (by simp [Value.category]) (Nat.le_of_ble_eq_true rfl) (fun xp xe xs xm xa xb xt xc ad0 => ?_)
  show am_W _ _ _ _ _ _ _ _ _ _ _ _ _ _ _ 0 [some (.ref 1), some (.int (nI p)), some (.int (nI q)), none] [] S 0 0
  refine am_iload_n (I := iX6_level) (pc := 0) dX6_level_0 rfl rfl ?_
  refine am_iload_n (I := iX6_level) (pc := 1) dX6_level_1 rfl rfl ?_
  refine am_callS (I := iX6_level) (pc := 2) (st := []) lv_X6_82 rfl (m_needCL K l _ p q hp hq) dX6_level_2 rfl (Nat.le_of_ble_eq_true rfl) ⟨Nat.le_of_ble_eq_true rfl, Nat.le_of_ble_eq_true rfl⟩ (Nat.le_of_ble_eq_true rfl) (Nat.le_of_ble_eq_true rfl) rfl (fun v9 T9 z9 _ => ?_) (fun _ _ h9 => h9.elim)
  obtain ⟨rfl, rfl⟩ := z9
  show am_W _ _ _ _ _ _ _ _ _ _ _ _ _ _ _ 5 [some (.ref 1), some (.int (nI p)), some (.int (nI q)), none] [] S 0 0
  refine am_aload_n (I := iX6_level) (pc := 5) dX6_level_5 rfl rfl ?_
  refine am_getf (I := iX6_level) (pc := 6) lf_X6_21 dX6_level_6 hx rfl ?_
  refine am_iload_n (I := iX6_level) (pc := 9) dX6_level_9 rfl rfl ?_
  refine am_iload_n (I := iX6_level) (pc := 10) dX6_level_10 rfl rfl ?_
  refine am_callV (I := iX6_level) (pc := 11) (st := []) lv_X6_131 (m_Capt_latest0 K l _ 4 5 6 7 VR cn fb tot p q hc hp hq hs0) dX6_level_11 hc.1 rfl (Nat.le_of_ble_eq_true rfl) ⟨Nat.le_of_ble_eq_true rfl, Nat.le_of_ble_eq_true rfl⟩ (Nat.le_of_ble_eq_true rfl) (Nat.le_of_ble_eq_true rfl) rfl (fun v9 T9 z9 _ => ?_) (fun _ _ h9 => h9.elim)
  obtain ⟨rfl, rfl⟩ := z9
  show am_W _ _ _ _ _ _ _ _ _ _ _ _ _ _ _ 14 [some (.ref 1), some (.int (nI p)), some (.int (nI q)), none] [.null] S 0 0
  refine am_astore_nN (I := iX6_level) (pc := 14) (L' := [some (.ref 1), some (.int (nI p)), some (.int (nI q)), some (.null)]) dX6_level_14 rfl (by decide) rfl ?_
  refine am_aload_nN (I := iX6_level) (pc := 15) dX6_level_15 rfl rfl ?_
  refine am_ifnonnullN (I := iX6_level) (pc := 16) dX6_level_16 ?_
  refine am_iconst (I := iX6_level) (pc := 19) (x := (-1)) dX6_level_19 (by decide) ?_
  refine am_goto (I := iX6_level) (pc := 20) (tgt := 27) dX6_level_20 (by decide) ?_
  exact am_iret (I := iX6_level) (pc := 27) dX6_level_27 rfl (Nat.zero_le _) (Nat.zero_le _) (⟨rfl, rfl⟩)
set_option maxRecDepth 100000 in
set_option maxHeartbeats 4000000 in
theorem p_level (K : am_K) (l : Launch) (S : am_S) (VR : Nat → Option Nat) (cn : Nat → Nat) (fb : Nat → Option Nat) (tot : Int32) (vr : Nat → Nat) (p q r : Nat) (tb tc : Nat) (g : Nat → Int32) (m : Nat) (hx : S.1 1 = clx) (hc : cp S.1 4 5 6 7 VR cn fb tot) (hv : ∀ k j, k < 50 → j < cn k → VR (k * 4 + j) = some (vr (k * 4 + j))) (hp : p < 10) (hq : q < 5) (hs1 : sh cn fb p 5 (some q) = some r) (ht : rw S.1 (vr ((p * 5 + r) * 4 + (cn (p * 5 + r) - 1))) tb tc g m) : am_M K l iX6_level 8 2 82 [.ref 1, .int (nI p), .int (nI q)] S (fun v S' => v = some (.int (lvl g m)) ∧ S = S') (fun _ _ => False) := by
  refine am_body (by decide) rfl (by simp [Value.category]) (Nat.le_of_ble_eq_true rfl) (fun xp xe xs xm xa xb xt xc ad0 => ?_)
  show am_W _ _ _ _ _ _ _ _ _ _ _ _ _ _ _ 0 [some (.ref 1), some (.int (nI p)), some (.int (nI q)), none] [] S 0 0
  refine am_iload_n (I := iX6_level) (pc := 0) dX6_level_0 rfl rfl ?_
  refine am_iload_n (I := iX6_level) (pc := 1) dX6_level_1 rfl rfl ?_
  refine am_callS (I := iX6_level) (pc := 2) (st := []) lv_X6_82 rfl (m_needCL K l _ p q hp hq) dX6_level_2 rfl (Nat.le_of_ble_eq_true rfl) ⟨Nat.le_of_ble_eq_true rfl, Nat.le_of_ble_eq_true rfl⟩ (Nat.le_of_ble_eq_true rfl) (Nat.le_of_ble_eq_true rfl) rfl (fun v9 T9 z9 _ => ?_) (fun _ _ h9 => h9.elim)
  obtain ⟨rfl, rfl⟩ := z9
  show am_W _ _ _ _ _ _ _ _ _ _ _ _ _ _ _ 5 [some (.ref 1), some (.int (nI p)), some (.int (nI q)), none] [] S 0 0
  refine am_aload_n (I := iX6_level) (pc := 5) dX6_level_5 rfl rfl ?_
  refine am_getf (I := iX6_level) (pc := 6) lf_X6_21 dX6_level_6 hx rfl ?_
  refine am_iload_n (I := iX6_level) (pc := 9) dX6_level_9 rfl rfl ?_
  refine am_iload_n (I := iX6_level) (pc := 10) dX6_level_10 rfl rfl ?_
  refine am_callV (I := iX6_level) (pc := 11) (st := []) lv_X6_131 (m_Capt_latest1 K l _ 4 5 6 7 VR cn fb tot vr p q r hc hv hp hq hs1) dX6_level_11 hc.1 rfl (Nat.le_of_ble_eq_true rfl) ⟨Nat.le_of_ble_eq_true rfl, Nat.le_of_ble_eq_true rfl⟩ (Nat.le_of_ble_eq_true rfl) (Nat.le_of_ble_eq_true rfl) rfl (fun v9 T9 z9 _ => ?_) (fun _ _ h9 => h9.elim)
  obtain ⟨rfl, rfl⟩ := z9
  show am_W _ _ _ _ _ _ _ _ _ _ _ _ _ _ _ 14 [some (.ref 1), some (.int (nI p)), some (.int (nI q)), none] [.ref (vr ((p * 5 + r) * 4 + (cn (p * 5 + r) - 1)))] S 0 0
  refine am_astore_n (I := iX6_level) (pc := 14) (L' := [some (.ref 1), some (.int (nI p)), some (.int (nI q)), some (.ref (vr ((p * 5 + r) * 4 + (cn (p * 5 + r) - 1))))]) dX6_level_14 rfl (by decide) rfl ?_
  refine am_aload_n (I := iX6_level) (pc := 15) dX6_level_15 rfl rfl ?_
  refine am_ifnonnull (I := iX6_level) (pc := 16) (tgt := 23) dX6_level_16 (by decide) ?_
  refine am_aload_n (I := iX6_level) (pc := 23) dX6_level_23 rfl rfl ?_
  refine am_callS (I := iX6_level) (pc := 24) (st := []) lv_X6_155 rfl (m_levelOf K l _ (vr ((p * 5 + r) * 4 + (cn (p * 5 + r) - 1))) tb tc g m ht) dX6_level_24 rfl (Nat.le_of_ble_eq_true rfl) ⟨Nat.le_of_ble_eq_true rfl, Nat.le_of_ble_eq_true rfl⟩ (Nat.le_of_ble_eq_true rfl) (Nat.le_of_ble_eq_true rfl) rfl (fun v9 T9 z9 _ => ?_) (fun _ _ h9 => h9.elim)
  obtain ⟨rfl, rfl⟩ := z9
  show am_W _ _ _ _ _ _ _ _ _ _ _ _ _ _ _ 27 [some (.ref 1), some (.int (nI p)), some (.int (nI q)), some (.ref (vr ((p * 5 + r) * 4 + (cn (p * 5 + r) - 1))))] [.int (lvl g m)] S 0 0
  exact am_iret (I := iX6_level) (pc := 27) dX6_level_27 rfl (Nat.zero_le _) (Nat.zero_le _) (⟨rfl, rfl⟩)
set_option maxRecDepth 100000 in
set_option maxHeartbeats 4000000 in
theorem p_contract_x1 (K : am_K) (l : Launch) (S : am_S) (f : Nat → Int32) (n : Nat) (x : Int32) (hx : S.1 1 = clx) (hr : rw S.1 2 3 80 f n) (hb : cbc f n = false) : am_M K l iX6_contract 8 2 82 [.ref 1, .int x] S (fun v S' => False) (fun j S' => j = 1 ∧ S = S') := by
  refine am_body (by decide) rfl (by simp [Value.category]) (Nat.le_of_ble_eq_true rfl) (fun xp xe xs xm xa xb xt xc ad0 => ?_)
  show am_W _ _ _ _ _ _ _ _ _ _ _ _ _ _ _ 0 [some (.ref 1), some (.int x)] [] S 0 0
  refine am_aload_n (I := iX6_contract) (pc := 0) dX6_contract_0 rfl rfl ?_
  refine am_getf (I := iX6_contract) (pc := 1) lf_X6_14 dX6_contract_1 hx rfl ?_
  refine am_callS (I := iX6_contract) (pc := 4) (st := []) lv_X6_158 rfl (m_canBe K l _ 2 3 80 f n hr) dX6_contract_4 rfl (Nat.le_of_ble_eq_true rfl) ⟨Nat.le_of_ble_eq_true rfl, Nat.le_of_ble_eq_true rfl⟩ (Nat.le_of_ble_eq_true rfl) (Nat.le_of_ble_eq_true rfl) rfl (fun v9 T9 z9 _ => ?_) (fun _ _ h9 => h9.elim)
  obtain ⟨rfl, rfl⟩ := z9
  show am_W _ _ _ _ _ _ _ _ _ _ _ _ _ _ _ 7 [some (.ref 1), some (.int x)] [.int (bI (cbc f n))] S 0 0
  refine am_if_ne (I := iX6_contract) (pc := 7) (tgt := 20) dX6_contract_7 (by decide) (fun c7 => ?_) (fun c7 => ?_)
  · exact absurd (bI_f hb) c7
  · exact am_throw (I := iX6_contract) (pc := 10) lt_X6_60_162_64 rfl dX6_contract_10 dX6_contract_13 dX6_contract_14 dX6_contract_16 dX6_contract_19 (Nat.le_of_ble_eq_true rfl) (Nat.le_of_ble_eq_true rfl) (Nat.le_of_ble_eq_true rfl) (Nat.le_of_ble_eq_true rfl) (Nat.le_of_ble_eq_true rfl) (Nat.le_of_ble_eq_true rfl) (⟨rfl, rfl⟩)
set_option maxRecDepth 100000 in
set_option maxHeartbeats 4000000 in
theorem p_contract_x2 (K : am_K) (l : Launch) (S : am_S) (f : Nat → Int32) (n : Nat) (x : Int32) (hx : S.1 1 = clx) (hr : rw S.1 2 3 80 f n) (hb : cbc f n = true) (hx2 : x < 28 ∨ 63 < x) : am_M K l iX6_contract 8 2 82 [.ref 1, .int x] S (fun v S' => False) (fun j S' => j = 2 ∧ S = S') := by
  refine am_body (by decide) rfl (by simp [Value.category]) (Nat.le_of_ble_eq_true rfl) (fun xp xe xs xm xa xb xt xc ad0 => ?_)
  show am_W _ _ _ _ _ _ _ _ _ _ _ _ _ _ _ 0 [some (.ref 1), some (.int x)] [] S 0 0
  refine am_aload_n (I := iX6_contract) (pc := 0) dX6_contract_0 rfl rfl ?_
  refine am_getf (I := iX6_contract) (pc := 1) lf_X6_14 dX6_contract_1 hx rfl ?_
  refine am_callS (I := iX6_contract) (pc := 4) (st := []) lv_X6_158 rfl (m_canBe K l _ 2 3 80 f n hr) dX6_contract_4 rfl (Nat.le_of_ble_eq_true rfl) ⟨Nat.le_of_ble_eq_true rfl, Nat.le_of_ble_eq_true rfl⟩ (Nat.le_of_ble_eq_true rfl) (Nat.le_of_ble_eq_true rfl) rfl (fun v9 T9 z9 _ => ?_) (fun _ _ h9 => h9.elim)
  obtain ⟨rfl, rfl⟩ := z9
  show am_W _ _ _ _ _ _ _ _ _ _ _ _ _ _ _ 7 [some (.ref 1), some (.int x)] [.int (bI (cbc f n))] S 0 0
  refine am_if_ne (I := iX6_contract) (pc := 7) (tgt := 20) dX6_contract_7 (by decide) (fun c7 => ?_) (fun c7 => ?_)
  · refine am_iload_n (I := iX6_contract) (pc := 20) dX6_contract_20 rfl rfl ?_
    refine am_bipush (I := iX6_contract) (pc := 21) (x := 28) dX6_contract_21 (by decide) ?_
    refine am_icmp_lt (I := iX6_contract) (pc := 23) (tgt := 32) dX6_contract_23 (by decide) (fun c23 => ?_) (fun c23 => ?_)
    · exact am_throw (I := iX6_contract) (pc := 32) lt_X6_71_164_75 rfl dX6_contract_32 dX6_contract_35 dX6_contract_36 dX6_contract_38 dX6_contract_41 (Nat.le_of_ble_eq_true rfl) (Nat.le_of_ble_eq_true rfl) (Nat.le_of_ble_eq_true rfl) (Nat.le_of_ble_eq_true rfl) (Nat.le_of_ble_eq_true rfl) (Nat.le_of_ble_eq_true rfl) (⟨rfl, rfl⟩)
    · refine am_iload_n (I := iX6_contract) (pc := 26) dX6_contract_26 rfl rfl ?_
      refine am_bipush (I := iX6_contract) (pc := 27) (x := 63) dX6_contract_27 (by decide) ?_
      refine am_icmp_le (I := iX6_contract) (pc := 29) (tgt := 42) dX6_contract_29 (by decide) (fun c29 => ?_) (fun c29 => ?_)
      · exact absurd c29 (Int32.not_le.mpr (hx2.resolve_left c23))
      · exact am_throw (I := iX6_contract) (pc := 32) lt_X6_71_164_75 rfl dX6_contract_32 dX6_contract_35 dX6_contract_36 dX6_contract_38 dX6_contract_41 (Nat.le_of_ble_eq_true rfl) (Nat.le_of_ble_eq_true rfl) (Nat.le_of_ble_eq_true rfl) (Nat.le_of_ble_eq_true rfl) (Nat.le_of_ble_eq_true rfl) (Nat.le_of_ble_eq_true rfl) (⟨rfl, rfl⟩)
  · exact absurd c7 (by rw [hb]; decide)
set_option maxRecDepth 100000 in
set_option maxHeartbeats 4000000 in
theorem p_contract_r (K : am_K) (l : Launch) (S : am_S) (f : Nat → Int32) (n : Nat) (CR : Nat → Option Nat) (sz : Nat → Nat) (lt : Nat → Nat → Int32) (ra rb : Nat → Nat) (ctot : Int32) (k r : Nat) (hx : S.1 1 = clx) (hr : rw S.1 2 3 80 f n) (hct : ct S.1 15 16 CR sz lt ra rb ctot) (hb : cbc f n = true) (hk : k < 36) (hn : CR k = some r) : am_M K l iX6_contract 8 2 82 [.ref 1, .int (nI (28 + k))] S (fun v S' => v = some (.int (0)) ∧ S = S') (fun _ _ => False) := by
  refine am_body (by decide) rfl (by simp [Value.category]) (Nat.le_of_ble_eq_true rfl) (fun xp xe xs xm xa xb xt xc ad0 => ?_)
  show am_W _ _ _ _ _ _ _ _ _ _ _ _ _ _ _ 0 [some (.ref 1), some (.int (nI (28 + k)))] [] S 0 0
  refine am_aload_n (I := iX6_contract) (pc := 0) dX6_contract_0 rfl rfl ?_
  refine am_getf (I := iX6_contract) (pc := 1) lf_X6_14 dX6_contract_1 hx rfl ?_
  refine am_callS (I := iX6_contract) (pc := 4) (st := []) lv_X6_158 rfl (m_canBe K l _ 2 3 80 f n hr) dX6_contract_4 rfl (Nat.le_of_ble_eq_true rfl) ⟨Nat.le_of_ble_eq_true rfl, Nat.le_of_ble_eq_true rfl⟩ (Nat.le_of_ble_eq_true rfl) (Nat.le_of_ble_eq_true rfl) rfl (fun v9 T9 z9 _ => ?_) (fun _ _ h9 => h9.elim)
  obtain ⟨rfl, rfl⟩ := z9
  show am_W _ _ _ _ _ _ _ _ _ _ _ _ _ _ _ 7 [some (.ref 1), some (.int (nI (28 + k)))] [.int (bI (cbc f n))] S 0 0
  refine am_if_ne (I := iX6_contract) (pc := 7) (tgt := 20) dX6_contract_7 (by decide) (fun c7 => ?_) (fun c7 => ?_)
  · refine am_iload_n (I := iX6_contract) (pc := 20) dX6_contract_20 rfl rfl ?_
    refine am_bipush (I := iX6_contract) (pc := 21) (x := 28) dX6_contract_21 (by decide) ?_
    refine am_icmp_lt (I := iX6_contract) (pc := 23) (tgt := 32) dX6_contract_23 (by decide) (fun c23 => ?_) (fun c23 => ?_)
    · exact absurd c23 (nI_nlt (a := 28 + k) (b := 28) (by omega) (by omega))
    · refine am_iload_n (I := iX6_contract) (pc := 26) dX6_contract_26 rfl rfl ?_
      refine am_bipush (I := iX6_contract) (pc := 27) (x := 63) dX6_contract_27 (by decide) ?_
      refine am_icmp_le (I := iX6_contract) (pc := 29) (tgt := 42) dX6_contract_29 (by decide) (fun c29 => ?_) (fun c29 => ?_)
      · refine am_aload_n (I := iX6_contract) (pc := 42) dX6_contract_42 rfl rfl ?_
        refine am_getf (I := iX6_contract) (pc := 43) lf_X6_35 dX6_contract_43 hx rfl ?_
        refine am_iload_n (I := iX6_contract) (pc := 46) dX6_contract_46 rfl rfl ?_
        refine am_callV (I := iX6_contract) (pc := 47) (st := []) lv_X6_166 (m_Con_rowOfS K l _ 15 16 CR sz lt ra rb ctot k r hct hk hn) dX6_contract_47 hct.1 rfl (Nat.le_of_ble_eq_true rfl) ⟨Nat.le_of_ble_eq_true rfl, Nat.le_of_ble_eq_true rfl⟩ (Nat.le_of_ble_eq_true rfl) (Nat.le_of_ble_eq_true rfl) rfl (fun v9 T9 z9 _ => ?_) (fun _ _ h9 => h9.elim)
        obtain ⟨rfl, rfl⟩ := z9
        show am_W _ _ _ _ _ _ _ _ _ _ _ _ _ _ _ 50 [some (.ref 1), some (.int (nI (28 + k)))] [.ref r] S 0 0
        refine am_ifnonnull (I := iX6_contract) (pc := 50) (tgt := 67) dX6_contract_50 (by decide) ?_
        refine am_iconst (I := iX6_contract) (pc := 67) (x := 0) dX6_contract_67 (by decide) ?_
        exact am_zret (I := iX6_contract) (pc := 68) dX6_contract_68 rfl (by decide) (Nat.zero_le _) (Nat.zero_le _) (⟨rfl, rfl⟩)
      · exact absurd (nI_le (b := 63) (show 28 + k ≤ 63 by omega) (by decide)) c29
  · exact absurd c7 (by rw [hb]; decide)
set_option maxRecDepth 100000 in
set_option maxHeartbeats 4000000 in
theorem p_contract_h (K : am_K) (l : Launch) (S : am_S) (f : Nat → Int32) (n : Nat) (CR : Nat → Option Nat) (sz : Nat → Nat) (lt : Nat → Nat → Int32) (ra rb : Nat → Nat) (ctot : Int32) (k : Nat) (hx : S.1 1 = clx) (hr : rw S.1 2 3 80 f n) (hct : ct S.1 15 16 CR sz lt ra rb ctot) (hb : cbc f n = true) (hk : k < 36) (hn : CR k = none) (hn2 : 2 ≤ n) (hh : (lg sz lt f n 0 36).2 = n) : am_M K l iX6_contract 8 2 82 [.ref 1, .int (nI (28 + k))] S (fun v S' => v = some (.int (0)) ∧ S = S') (fun _ _ => False) := by
  refine am_body (by decide) rfl (by simp [Value.category]) (Nat.le_of_ble_eq_true rfl) (fun xp xe xs xm xa xb xt xc ad0 => ?_)
  show am_W _ _ _ _ _ _ _ _ _ _ _ _ _ _ _ 0 [some (.ref 1), some (.int (nI (28 + k)))] [] S 0 0
  refine am_aload_n (I := iX6_contract) (pc := 0) dX6_contract_0 rfl rfl ?_
  refine am_getf (I := iX6_contract) (pc := 1) lf_X6_14 dX6_contract_1 hx rfl ?_
  refine am_callS (I := iX6_contract) (pc := 4) (st := []) lv_X6_158 rfl (m_canBe K l _ 2 3 80 f n hr) dX6_contract_4 rfl (Nat.le_of_ble_eq_true rfl) ⟨Nat.le_of_ble_eq_true rfl, Nat.le_of_ble_eq_true rfl⟩ (Nat.le_of_ble_eq_true rfl) (Nat.le_of_ble_eq_true rfl) rfl (fun v9 T9 z9 _ => ?_) (fun _ _ h9 => h9.elim)
  obtain ⟨rfl, rfl⟩ := z9
  show am_W _ _ _ _ _ _ _ _ _ _ _ _ _ _ _ 7 [some (.ref 1), some (.int (nI (28 + k)))] [.int (bI (cbc f n))] S 0 0
  refine am_if_ne (I := iX6_contract) (pc := 7) (tgt := 20) dX6_contract_7 (by decide) (fun c7 => ?_) (fun c7 => ?_)
  · refine am_iload_n (I := iX6_contract) (pc := 20) dX6_contract_20 rfl rfl ?_
    refine am_bipush (I := iX6_contract) (pc := 21) (x := 28) dX6_contract_21 (by decide) ?_
    refine am_icmp_lt (I := iX6_contract) (pc := 23) (tgt := 32) dX6_contract_23 (by decide) (fun c23 => ?_) (fun c23 => ?_)
    · exact absurd c23 (nI_nlt (a := 28 + k) (b := 28) (by omega) (by omega))
    · refine am_iload_n (I := iX6_contract) (pc := 26) dX6_contract_26 rfl rfl ?_
      refine am_bipush (I := iX6_contract) (pc := 27) (x := 63) dX6_contract_27 (by decide) ?_
      refine am_icmp_le (I := iX6_contract) (pc := 29) (tgt := 42) dX6_contract_29 (by decide) (fun c29 => ?_) (fun c29 => ?_)
      · refine am_aload_n (I := iX6_contract) (pc := 42) dX6_contract_42 rfl rfl ?_
        refine am_getf (I := iX6_contract) (pc := 43) lf_X6_35 dX6_contract_43 hx rfl ?_
        refine am_iload_n (I := iX6_contract) (pc := 46) dX6_contract_46 rfl rfl ?_
        refine am_callV (I := iX6_contract) (pc := 47) (st := []) lv_X6_166 (m_Con_rowOfN K l _ 15 16 CR sz lt ra rb ctot k hct hk hn) dX6_contract_47 hct.1 rfl (Nat.le_of_ble_eq_true rfl) ⟨Nat.le_of_ble_eq_true rfl, Nat.le_of_ble_eq_true rfl⟩ (Nat.le_of_ble_eq_true rfl) (Nat.le_of_ble_eq_true rfl) rfl (fun v9 T9 z9 _ => ?_) (fun _ _ h9 => h9.elim)
        obtain ⟨rfl, rfl⟩ := z9
        show am_W _ _ _ _ _ _ _ _ _ _ _ _ _ _ _ 50 [some (.ref 1), some (.int (nI (28 + k)))] [.null] S 0 0
        refine am_ifnonnullN (I := iX6_contract) (pc := 50) dX6_contract_50 ?_
        refine am_aload_n (I := iX6_contract) (pc := 53) dX6_contract_53 rfl rfl ?_
        refine am_getf (I := iX6_contract) (pc := 54) lf_X6_35 dX6_contract_54 hx rfl ?_
        refine am_aload_n (I := iX6_contract) (pc := 57) dX6_contract_57 rfl rfl ?_
        refine am_getf (I := iX6_contract) (pc := 58) lf_X6_14 dX6_contract_58 hx rfl ?_
        refine am_callV (I := iX6_contract) (pc := 61) (st := []) lv_X6_170 (m_Con_has K l _ 15 16 CR sz lt ra rb ctot 2 3 80 f n hct hr hn2) dX6_contract_61 hct.1 rfl (Nat.le_of_ble_eq_true rfl) ⟨Nat.le_of_ble_eq_true rfl, Nat.le_of_ble_eq_true rfl⟩ (Nat.le_of_ble_eq_true rfl) (Nat.le_of_ble_eq_true rfl) rfl (fun v9 T9 z9 _ => ?_) (fun _ _ h9 => h9.elim)
        obtain ⟨rfl, rfl⟩ := z9
        show am_W _ _ _ _ _ _ _ _ _ _ _ _ _ _ _ 64 [some (.ref 1), some (.int (nI (28 + k)))] [.int (bI (decide ((lg sz lt f n 0 36).2 = n)))] S 0 0
        refine am_if_eq (I := iX6_contract) (pc := 64) (tgt := 69) dX6_contract_64 (by decide) (fun c64 => ?_) (fun c64 => ?_)
        · exact absurd c64 (by rw [decide_eq_true hh]; decide)
        · refine am_iconst (I := iX6_contract) (pc := 67) (x := 0) dX6_contract_67 (by decide) ?_
          exact am_zret (I := iX6_contract) (pc := 68) dX6_contract_68 rfl (by decide) (Nat.zero_le _) (Nat.zero_le _) (⟨rfl, rfl⟩)
      · exact absurd (nI_le (b := 63) (show 28 + k ≤ 63 by omega) (by decide)) c29
  · exact absurd c7 (by rw [hb]; decide)
def cnS (S : am_S) (CR : Nat → Option Nat) (ctot : Int32) (k : Nat) (f : Nat → Int32) (n : Nat) : am_S := (am_up (ctS (rwC S f n) 15 16 (va_up CR k (some S.2)) (ctot + 1)).1 2 (.inr (3, [.ref 3, .int 0])), (ctS (rwC S f n) 15 16 (va_up CR k (some S.2)) (ctot + 1)).2)
set_option maxRecDepth 100000 in
set_option maxHeartbeats 4000000 in
theorem p_contract (K : am_K) (l : Launch) (S : am_S) (f : Nat → Int32) (n : Nat) (CR : Nat → Option Nat) (sz : Nat → Nat) (lt : Nat → Nat → Int32) (ra rb : Nat → Nat) (ctot : Int32) (k : Nat) (hx : S.1 1 = clx) (hr : rw S.1 2 3 80 f n) (hct : ct S.1 15 16 CR sz lt ra rb ctot) (hb : cbc f n = true) (hk : k < 36) (hn : CR k = none) (hn2 : 2 ≤ n) (hh : ¬ (lg sz lt f n 0 36).2 = n) : am_M K l iX6_contract 8 2 82 [.ref 1, .int (nI (28 + k))] S (fun v S' => v = some (.int (1)) ∧ cnS S CR ctot k f n = S') (fun _ _ => False) := by
  refine am_body (by decide) rfl (by simp [Value.category]) (Nat.le_of_ble_eq_true rfl) (fun xp xe xs xm xa xb xt xc ad0 => ?_)
  show am_W _ _ _ _ _ _ _ _ _ _ _ _ _ _ _ 0 [some (.ref 1), some (.int (nI (28 + k)))] [] S 0 0
  refine am_aload_n (I := iX6_contract) (pc := 0) dX6_contract_0 rfl rfl ?_
  refine am_getf (I := iX6_contract) (pc := 1) lf_X6_14 dX6_contract_1 hx rfl ?_
  refine am_callS (I := iX6_contract) (pc := 4) (st := []) lv_X6_158 rfl (m_canBe K l _ 2 3 80 f n hr) dX6_contract_4 rfl (Nat.le_of_ble_eq_true rfl) ⟨Nat.le_of_ble_eq_true rfl, Nat.le_of_ble_eq_true rfl⟩ (Nat.le_of_ble_eq_true rfl) (Nat.le_of_ble_eq_true rfl) rfl (fun v9 T9 z9 _ => ?_) (fun _ _ h9 => h9.elim)
  obtain ⟨rfl, rfl⟩ := z9
  show am_W _ _ _ _ _ _ _ _ _ _ _ _ _ _ _ 7 [some (.ref 1), some (.int (nI (28 + k)))] [.int (bI (cbc f n))] S 0 0
  refine am_if_ne (I := iX6_contract) (pc := 7) (tgt := 20) dX6_contract_7 (by decide) (fun c7 => ?_) (fun c7 => ?_)
  · refine am_iload_n (I := iX6_contract) (pc := 20) dX6_contract_20 rfl rfl ?_
    refine am_bipush (I := iX6_contract) (pc := 21) (x := 28) dX6_contract_21 (by decide) ?_
    refine am_icmp_lt (I := iX6_contract) (pc := 23) (tgt := 32) dX6_contract_23 (by decide) (fun c23 => ?_) (fun c23 => ?_)
    · exact absurd c23 (nI_nlt (a := 28 + k) (b := 28) (by omega) (by omega))
    · refine am_iload_n (I := iX6_contract) (pc := 26) dX6_contract_26 rfl rfl ?_
      refine am_bipush (I := iX6_contract) (pc := 27) (x := 63) dX6_contract_27 (by decide) ?_
      refine am_icmp_le (I := iX6_contract) (pc := 29) (tgt := 42) dX6_contract_29 (by decide) (fun c29 => ?_) (fun c29 => ?_)
      · refine am_aload_n (I := iX6_contract) (pc := 42) dX6_contract_42 rfl rfl ?_
        refine am_getf (I := iX6_contract) (pc := 43) lf_X6_35 dX6_contract_43 hx rfl ?_
        refine am_iload_n (I := iX6_contract) (pc := 46) dX6_contract_46 rfl rfl ?_
        refine am_callV (I := iX6_contract) (pc := 47) (st := []) lv_X6_166 (m_Con_rowOfN K l _ 15 16 CR sz lt ra rb ctot k hct hk hn) dX6_contract_47 hct.1 rfl (Nat.le_of_ble_eq_true rfl) ⟨Nat.le_of_ble_eq_true rfl, Nat.le_of_ble_eq_true rfl⟩ (Nat.le_of_ble_eq_true rfl) (Nat.le_of_ble_eq_true rfl) rfl (fun v9 T9 z9 _ => ?_) (fun _ _ h9 => h9.elim)
        obtain ⟨rfl, rfl⟩ := z9
        show am_W _ _ _ _ _ _ _ _ _ _ _ _ _ _ _ 50 [some (.ref 1), some (.int (nI (28 + k)))] [.null] S 0 0
        refine am_ifnonnullN (I := iX6_contract) (pc := 50) dX6_contract_50 ?_
        refine am_aload_n (I := iX6_contract) (pc := 53) dX6_contract_53 rfl rfl ?_
        refine am_getf (I := iX6_contract) (pc := 54) lf_X6_35 dX6_contract_54 hx rfl ?_
        refine am_aload_n (I := iX6_contract) (pc := 57) dX6_contract_57 rfl rfl ?_
        refine am_getf (I := iX6_contract) (pc := 58) lf_X6_14 dX6_contract_58 hx rfl ?_
        refine am_callV (I := iX6_contract) (pc := 61) (st := []) lv_X6_170 (m_Con_has K l _ 15 16 CR sz lt ra rb ctot 2 3 80 f n hct hr hn2) dX6_contract_61 hct.1 rfl (Nat.le_of_ble_eq_true rfl) ⟨Nat.le_of_ble_eq_true rfl, Nat.le_of_ble_eq_true rfl⟩ (Nat.le_of_ble_eq_true rfl) (Nat.le_of_ble_eq_true rfl) rfl (fun v9 T9 z9 _ => ?_) (fun _ _ h9 => h9.elim)
        obtain ⟨rfl, rfl⟩ := z9
        show am_W _ _ _ _ _ _ _ _ _ _ _ _ _ _ _ 64 [some (.ref 1), some (.int (nI (28 + k)))] [.int (bI (decide ((lg sz lt f n 0 36).2 = n)))] S 0 0
        refine am_if_eq (I := iX6_contract) (pc := 64) (tgt := 69) dX6_contract_64 (by decide) (fun c64 => ?_) (fun c64 => ?_)
        · refine am_aload_n (I := iX6_contract) (pc := 69) dX6_contract_69 rfl rfl ?_
          refine am_getf (I := iX6_contract) (pc := 70) lf_X6_35 dX6_contract_70 hx rfl ?_
          refine am_iload_n (I := iX6_contract) (pc := 73) dX6_contract_73 rfl rfl ?_
          refine am_aload_n (I := iX6_contract) (pc := 74) dX6_contract_74 rfl rfl ?_
          refine am_getf (I := iX6_contract) (pc := 75) lf_X6_14 dX6_contract_75 hx rfl ?_
          refine am_free (fun hf => ?_)
          refine am_callV (I := iX6_contract) (pc := 78) (st := [.int (nI (28 + k)), .ref 15]) lv_X6_96 (m_Row_copy K l _ 2 3 80 f n hr) dX6_contract_78 hr.1 rfl (Nat.le_of_ble_eq_true rfl) ⟨Nat.le_of_ble_eq_true rfl, Nat.le_of_ble_eq_true rfl⟩ (Nat.le_of_ble_eq_true rfl) (show 0 + (2 + n) ≤ 82 by have := hr.2.2.1; omega) rfl (fun v9 T1 z9 _ => ?_) (fun _ _ h9 => h9.elim)
          obtain ⟨rfl, eT1⟩ := z9
          have hlt : ∀ (a : Nat) (c : am_C), S.1 a = c → c ≠ .inr (1000, []) → a < S.2 := fun a c h1 h2 => by
            rcases Nat.lt_or_ge a S.2 with q9 | q9
            · exact q9
            · exact absurd (h1.symm.trans (hf a (Or.inr q9))) h2
          have hk1 : ∀ (a : Nat) (c : am_C), S.1 a = c → c ≠ .inr (1000, []) → T1.1 a = c := fun a c h1 h2 => by rw [← eT1]; exact (rwC_at (hlt a c h1 h2)).trans h1
          show am_W _ _ _ _ _ _ _ _ _ _ _ _ _ _ _ 81 [some (.ref 1), some (.int (nI (28 + k)))] [.ref S.2, .int (nI (28 + k)), .ref 15] T1 2 (0 + (2 + n))
          have hc1 : ct T1.1 15 16 CR sz lt ra rb ctot := ct_keep hct ((hk1 _ _ hct.1 (fun e9 => by cases e9)).trans hct.1.symm) ((hk1 _ _ hct.2.1 (fun e9 => by cases e9)).trans hct.2.1.symm) (fun k h1 h2 => by
            have h3 := (ct_row hct h1 h2).2.1
            exact ⟨(hk1 _ _ h3.1 (fun e9 => by cases e9)).trans h3.1.symm, (hk1 _ _ h3.2.1 (fun e9 => by cases e9)).trans h3.2.1.symm⟩)
          have hr1 : T1.1 S.2 = .inr (3, [.ref (S.2 + 1), .int (nI n)]) := by rw [← eT1]; exact (rwC_rw (by have := hr.2.2.1; omega)).1
          refine am_callV (I := iX6_contract) (pc := 81) (st := []) lv_X6_173 (m_Con_put K l _ 15 16 CR sz lt ra rb ctot k S.2 (S.2 + 1) (nI n) hc1 hk hr1) dX6_contract_81 hc1.1 rfl (Nat.le_of_ble_eq_true rfl) ⟨Nat.le_of_ble_eq_true rfl, Nat.le_of_ble_eq_true rfl⟩ (Nat.le_of_ble_eq_true rfl) (show 0 + (2 + n) + 0 ≤ 82 by have := hr.2.2.1; omega) rfl (fun v9 T2 z9 _ => ?_) (fun _ _ h9 => h9.elim)
          obtain ⟨rfl, eT2⟩ := z9
          have hx2 : T2.1 1 = clx := by rw [← eT2]; exact (ctS_at (by decide) (by decide)).trans (hk1 _ _ hx (fun e9 => by cases e9))
          have hr2 : rw T2.1 2 3 80 f n := by rw [← eT2]; exact ⟨(ctS_at (by decide) (by decide)).trans (hk1 _ _ hr.1 (fun e9 => by cases e9)), (ctS_at (by decide) (by decide)).trans (hk1 _ _ hr.2.1 (fun e9 => by cases e9)), hr.2.2⟩
          show am_W _ _ _ _ _ _ _ _ _ _ _ _ _ _ _ 84 [some (.ref 1), some (.int (nI (28 + k)))] [] T2 2 (0 + (2 + n) + 0)
          refine am_aload_n (I := iX6_contract) (pc := 84) dX6_contract_84 rfl rfl ?_
          refine am_getf (I := iX6_contract) (pc := 85) lf_X6_14 dX6_contract_85 hx2 rfl ?_
          refine am_callV (I := iX6_contract) (pc := 88) (st := []) lv_X6_79 (m_Row_empty K l _ 2 3 80 f n hr2) dX6_contract_88 hr2.1 rfl (Nat.le_of_ble_eq_true rfl) ⟨Nat.le_of_ble_eq_true rfl, Nat.le_of_ble_eq_true rfl⟩ (Nat.le_of_ble_eq_true rfl) (show 0 + (2 + n) + 0 + 0 ≤ 82 by have := hr.2.2.1; omega) rfl (fun v9 T3 z9 _ => ?_) (fun _ _ h9 => h9.elim)
          obtain ⟨rfl, eT3⟩ := z9
          show am_W _ _ _ _ _ _ _ _ _ _ _ _ _ _ _ 91 [some (.ref 1), some (.int (nI (28 + k)))] [] T3 2 (0 + (2 + n) + 0)
          refine am_iconst (I := iX6_contract) (pc := 91) (x := 1) dX6_contract_91 (by decide) ?_
          exact am_zret (I := iX6_contract) (pc := 92) dX6_contract_92 rfl (by decide) (Nat.le_of_ble_eq_true rfl) (show 0 + (2 + n) + 0 + 0 ≤ 82 by have := hr.2.2.1; omega) (⟨rfl, by rw [← eT3, ← eT2, ← eT1]; rfl⟩)
        · exact absurd (bI_f (decide_eq_false hh)) c64
      · exact absurd (nI_le (b := 63) (show 28 + k ≤ 63 by omega) (by decide)) c29
  · exact absurd c7 (by rw [hb]; decide)
set_option maxRecDepth 100000 in
set_option maxHeartbeats 4000000 in
theorem p_fingers_n (K : am_K) (l : Launch) (S : am_S) (VR : Nat → Option Nat) (cn : Nat → Nat) (fb : Nat → Option Nat) (tot : Int32) (p q : Nat) (hx : S.1 1 = clx) (hc : cp S.1 4 5 6 7 VR cn fb tot) (hp : p < 10) (hq : q < 5) (hs0 : sh cn fb p 5 (some q) = none) : am_M K l iX6_fingers 8 2 82 [.ref 1, .int (nI p), .int (nI q)] S (fun v S' => v = some (.int (-1)) ∧ S = S') (fun _ _ => False) := by
  refine am_body (by decide) rfl (by simp [Value.category]) (Nat.le_of_ble_eq_true rfl) (fun xp xe xs xm xa xb xt xc ad0 => ?_)
  show am_W _ _ _ _ _ _ _ _ _ _ _ _ _ _ _ 0 [some (.ref 1), some (.int (nI p)), some (.int (nI q)), none] [] S 0 0
  refine am_iload_n (I := iX6_fingers) (pc := 0) dX6_fingers_0 rfl rfl ?_
  refine am_iload_n (I := iX6_fingers) (pc := 1) dX6_fingers_1 rfl rfl ?_
  refine am_callS (I := iX6_fingers) (pc := 2) (st := []) lv_X6_82 rfl (m_needCL K l _ p q hp hq) dX6_fingers_2 rfl (Nat.le_of_ble_eq_true rfl) ⟨Nat.le_of_ble_eq_true rfl, Nat.le_of_ble_eq_true rfl⟩ (Nat.le_of_ble_eq_true rfl) (Nat.le_of_ble_eq_true rfl) rfl (fun v9 T9 z9 _ => ?_) (fun _ _ h9 => h9.elim)
  obtain ⟨rfl, rfl⟩ := z9
  show am_W _ _ _ _ _ _ _ _ _ _ _ _ _ _ _ 5 [some (.ref 1), some (.int (nI p)), some (.int (nI q)), none] [] S 0 0
  refine am_aload_n (I := iX6_fingers) (pc := 5) dX6_fingers_5 rfl rfl ?_
  refine am_getf (I := iX6_fingers) (pc := 6) lf_X6_21 dX6_fingers_6 hx rfl ?_
  refine am_iload_n (I := iX6_fingers) (pc := 9) dX6_fingers_9 rfl rfl ?_
  refine am_iload_n (I := iX6_fingers) (pc := 10) dX6_fingers_10 rfl rfl ?_
  refine am_callV (I := iX6_fingers) (pc := 11) (st := []) lv_X6_131 (m_Capt_latest0 K l _ 4 5 6 7 VR cn fb tot p q hc hp hq hs0) dX6_fingers_11 hc.1 rfl (Nat.le_of_ble_eq_true rfl) ⟨Nat.le_of_ble_eq_true rfl, Nat.le_of_ble_eq_true rfl⟩ (Nat.le_of_ble_eq_true rfl) (Nat.le_of_ble_eq_true rfl) rfl (fun v9 T9 z9 _ => ?_) (fun _ _ h9 => h9.elim)
  obtain ⟨rfl, rfl⟩ := z9
  show am_W _ _ _ _ _ _ _ _ _ _ _ _ _ _ _ 14 [some (.ref 1), some (.int (nI p)), some (.int (nI q)), none] [.null] S 0 0
  refine am_astore_nN (I := iX6_fingers) (pc := 14) (L' := [some (.ref 1), some (.int (nI p)), some (.int (nI q)), some (.null)]) dX6_fingers_14 rfl (by decide) rfl ?_
  refine am_aload_nN (I := iX6_fingers) (pc := 15) dX6_fingers_15 rfl rfl ?_
  refine am_ifnonnullN (I := iX6_fingers) (pc := 16) dX6_fingers_16 ?_
  refine am_iconst (I := iX6_fingers) (pc := 19) (x := (-1)) dX6_fingers_19 (by decide) ?_
  exact am_iret (I := iX6_fingers) (pc := 20) dX6_fingers_20 rfl (Nat.zero_le _) (Nat.zero_le _) (⟨rfl, rfl⟩)
set_option maxRecDepth 100000 in
set_option maxHeartbeats 4000000 in
theorem p_fingers (K : am_K) (l : Launch) (S : am_S) (VR : Nat → Option Nat) (cn : Nat → Nat) (fb : Nat → Option Nat) (tot : Int32) (vr : Nat → Nat) (p q r : Nat) (tb tc : Nat) (g : Nat → Int32) (m : Nat) (CR : Nat → Option Nat) (sz : Nat → Nat) (lt : Nat → Nat → Int32) (ra rb : Nat → Nat) (ctot : Int32) (cf : Nat → Int32) (cm : Nat) (hx : S.1 1 = clx) (hc : cp S.1 4 5 6 7 VR cn fb tot) (hv : ∀ k j, k < 50 → j < cn k → VR (k * 4 + j) = some (vr (k * 4 + j))) (hp : p < 10) (hq : q < 5) (hs1 : sh cn fb p 5 (some q) = some r) (ht : rw S.1 (vr ((p * 5 + r) * 4 + (cn (p * 5 + r) - 1))) tb tc g m) (hct : ct S.1 15 16 CR sz lt ra rb ctot) (hcl : rw S.1 17 18 80 cf cm) (hne : vr ((p * 5 + r) * 4 + (cn (p * 5 + r) - 1)) ≠ 17 ∧ tb ≠ 18) (hnk : ∀ k, k < 36 → 0 < sz k → ra k ≠ 17 ∧ rb k ≠ 18) (hw8 : (wns (wst sz lt g m) m m 0) ≤ 80) : am_M K l iX6_fingers 8 2 82 [.ref 1, .int (nI p), .int (nI q)] S (fun v S' => v = some (.int (nI (wns (wst sz lt g m) m m 0))) ∧ rwS S 17 18 80 (rcat cf 0 (fun j => wcl sz lt g m (wps (wst sz lt g m) j)) (wns (wst sz lt g m) m m 0)) (wns (wst sz lt g m) m m 0) = S') (fun _ _ => False) := by
  refine am_body (by decide) rfl (by simp [Value.category]) (Nat.le_of_ble_eq_true rfl) (fun xp xe xs xm xa xb xt xc ad0 => ?_)
  show am_W _ _ _ _ _ _ _ _ _ _ _ _ _ _ _ 0 [some (.ref 1), some (.int (nI p)), some (.int (nI q)), none] [] S 0 0
  refine am_iload_n (I := iX6_fingers) (pc := 0) dX6_fingers_0 rfl rfl ?_
  refine am_iload_n (I := iX6_fingers) (pc := 1) dX6_fingers_1 rfl rfl ?_
  refine am_callS (I := iX6_fingers) (pc := 2) (st := []) lv_X6_82 rfl (m_needCL K l _ p q hp hq) dX6_fingers_2 rfl (Nat.le_of_ble_eq_true rfl) ⟨Nat.le_of_ble_eq_true rfl, Nat.le_of_ble_eq_true rfl⟩ (Nat.le_of_ble_eq_true rfl) (Nat.le_of_ble_eq_true rfl) rfl (fun v9 T9 z9 _ => ?_) (fun _ _ h9 => h9.elim)
  obtain ⟨rfl, rfl⟩ := z9
  show am_W _ _ _ _ _ _ _ _ _ _ _ _ _ _ _ 5 [some (.ref 1), some (.int (nI p)), some (.int (nI q)), none] [] S 0 0
  refine am_aload_n (I := iX6_fingers) (pc := 5) dX6_fingers_5 rfl rfl ?_
  refine am_getf (I := iX6_fingers) (pc := 6) lf_X6_21 dX6_fingers_6 hx rfl ?_
  refine am_iload_n (I := iX6_fingers) (pc := 9) dX6_fingers_9 rfl rfl ?_
  refine am_iload_n (I := iX6_fingers) (pc := 10) dX6_fingers_10 rfl rfl ?_
  refine am_callV (I := iX6_fingers) (pc := 11) (st := []) lv_X6_131 (m_Capt_latest1 K l _ 4 5 6 7 VR cn fb tot vr p q r hc hv hp hq hs1) dX6_fingers_11 hc.1 rfl (Nat.le_of_ble_eq_true rfl) ⟨Nat.le_of_ble_eq_true rfl, Nat.le_of_ble_eq_true rfl⟩ (Nat.le_of_ble_eq_true rfl) (Nat.le_of_ble_eq_true rfl) rfl (fun v9 T9 z9 _ => ?_) (fun _ _ h9 => h9.elim)
  obtain ⟨rfl, rfl⟩ := z9
  show am_W _ _ _ _ _ _ _ _ _ _ _ _ _ _ _ 14 [some (.ref 1), some (.int (nI p)), some (.int (nI q)), none] [.ref (vr ((p * 5 + r) * 4 + (cn (p * 5 + r) - 1)))] S 0 0
  refine am_astore_n (I := iX6_fingers) (pc := 14) (L' := [some (.ref 1), some (.int (nI p)), some (.int (nI q)), some (.ref (vr ((p * 5 + r) * 4 + (cn (p * 5 + r) - 1))))]) dX6_fingers_14 rfl (by decide) rfl ?_
  refine am_aload_n (I := iX6_fingers) (pc := 15) dX6_fingers_15 rfl rfl ?_
  refine am_ifnonnull (I := iX6_fingers) (pc := 16) (tgt := 21) dX6_fingers_16 (by decide) ?_
  refine am_aload_n (I := iX6_fingers) (pc := 21) dX6_fingers_21 rfl rfl ?_
  refine am_getf (I := iX6_fingers) (pc := 22) lf_X6_35 dX6_fingers_22 hx rfl ?_
  refine am_aload_n (I := iX6_fingers) (pc := 25) dX6_fingers_25 rfl rfl ?_
  refine am_aload_n (I := iX6_fingers) (pc := 26) dX6_fingers_26 rfl rfl ?_
  refine am_getf (I := iX6_fingers) (pc := 27) lf_X6_39 dX6_fingers_27 hx rfl ?_
  refine am_callV (I := iX6_fingers) (pc := 30) (st := []) lv_X6_177 (m_Con_write K l _ 15 16 CR sz lt ra rb ctot (vr ((p * 5 + r) * 4 + (cn (p * 5 + r) - 1))) tb tc g m 17 18 cf cm hct ht hcl hne hnk) dX6_fingers_30 hct.1 rfl (Nat.le_of_ble_eq_true rfl) ⟨Nat.le_of_ble_eq_true rfl, Nat.le_of_ble_eq_true rfl⟩ (Nat.le_of_ble_eq_true rfl) (Nat.le_of_ble_eq_true rfl) rfl (fun v9 T9 z9 _ => ?_) (fun _ _ h9 => h9.elim)
  obtain ⟨rfl, eT9⟩ := z9
  have hx9 : T9.1 1 = clx := by rw [← eT9]; exact (rwS_at (by decide) (by decide)).trans hx
  have hr9 : rw T9.1 17 18 80 (rcat cf 0 (fun j => wcl sz lt g m (wps (wst sz lt g m) j)) (wns (wst sz lt g m) m m 0)) (wns (wst sz lt g m) m m 0) := by rw [← eT9]; exact rwS_rw (by decide) (Nat.le_trans hw8 (by decide)) (by decide)
  show am_W _ _ _ _ _ _ _ _ _ _ _ _ _ _ _ 33 [some (.ref 1), some (.int (nI p)), some (.int (nI q)), some (.ref (vr ((p * 5 + r) * 4 + (cn (p * 5 + r) - 1))))] [] T9 0 0
  refine am_aload_n (I := iX6_fingers) (pc := 33) dX6_fingers_33 rfl rfl ?_
  refine am_getf (I := iX6_fingers) (pc := 34) lf_X6_39 dX6_fingers_34 hx9 rfl ?_
  refine am_callV (I := iX6_fingers) (pc := 37) (st := []) lv_X6_56 (m_Row_length K l _ 17 18 80 _ _ hr9) dX6_fingers_37 hr9.1 rfl (Nat.le_of_ble_eq_true rfl) ⟨Nat.le_of_ble_eq_true rfl, Nat.le_of_ble_eq_true rfl⟩ (Nat.le_of_ble_eq_true rfl) (Nat.le_of_ble_eq_true rfl) rfl (fun v9 T9 z9 _ => ?_) (fun _ _ h9 => h9.elim)
  obtain ⟨rfl, rfl⟩ := z9
  show am_W _ _ _ _ _ _ _ _ _ _ _ _ _ _ _ 40 [some (.ref 1), some (.int (nI p)), some (.int (nI q)), some (.ref (vr ((p * 5 + r) * 4 + (cn (p * 5 + r) - 1))))] [.int (nI (wns (wst sz lt g m) m m 0))] T9 0 0
  exact am_iret (I := iX6_fingers) (pc := 40) dX6_fingers_40 rfl (Nat.zero_le _) (Nat.zero_le _) (⟨rfl, eT9⟩)
set_option maxRecDepth 100000 in
set_option maxHeartbeats 4000000 in
theorem p_cell_x0 (K : am_K) (l : Launch) (S : am_S) (cf : Nat → Int32) (cm : Nat) (x : Int32) (hx : S.1 1 = clx) (hcl : rw S.1 17 18 80 cf cm) (hx0 : x < 0 ∨ nI cm ≤ x) : am_M K l iX6_cell 8 2 82 [.ref 1, .int x] S (fun v S' => False) (fun j S' => j = 0 ∧ S = S') := by
  refine am_body (by decide) rfl (by simp [Value.category]) (Nat.le_of_ble_eq_true rfl) (fun xp xe xs xm xa xb xt xc ad0 => ?_)
  show am_W _ _ _ _ _ _ _ _ _ _ _ _ _ _ _ 0 [some (.ref 1), some (.int x)] [] S 0 0
  refine am_iload_n (I := iX6_cell) (pc := 0) dX6_cell_0 rfl rfl ?_
  refine am_if_lt (I := iX6_cell) (pc := 1) (tgt := 15) dX6_cell_1 (by decide) (fun c1 => ?_) (fun c1 => ?_)
  · exact am_throw (I := iX6_cell) (pc := 15) lt_X6_118_181_122 rfl dX6_cell_15 dX6_cell_18 dX6_cell_19 dX6_cell_21 dX6_cell_24 (Nat.le_of_ble_eq_true rfl) (Nat.le_of_ble_eq_true rfl) (Nat.le_of_ble_eq_true rfl) (Nat.le_of_ble_eq_true rfl) (Nat.le_of_ble_eq_true rfl) (Nat.le_of_ble_eq_true rfl) (⟨rfl, rfl⟩)
  · refine am_iload_n (I := iX6_cell) (pc := 4) dX6_cell_4 rfl rfl ?_
    refine am_aload_n (I := iX6_cell) (pc := 5) dX6_cell_5 rfl rfl ?_
    refine am_getf (I := iX6_cell) (pc := 6) lf_X6_39 dX6_cell_6 hx rfl ?_
    refine am_callV (I := iX6_cell) (pc := 9) (st := [.int x]) lv_X6_56 (m_Row_length K l _ 17 18 80 cf cm hcl) dX6_cell_9 hcl.1 rfl (Nat.le_of_ble_eq_true rfl) ⟨Nat.le_of_ble_eq_true rfl, Nat.le_of_ble_eq_true rfl⟩ (Nat.le_of_ble_eq_true rfl) (Nat.le_of_ble_eq_true rfl) rfl (fun v9 T9 z9 _ => ?_) (fun _ _ h9 => h9.elim)
    obtain ⟨rfl, rfl⟩ := z9
    show am_W _ _ _ _ _ _ _ _ _ _ _ _ _ _ _ 12 [some (.ref 1), some (.int x)] [.int (nI cm), .int x] S 0 0
    refine am_icmp_lt (I := iX6_cell) (pc := 12) (tgt := 25) dX6_cell_12 (by decide) (fun c12 => ?_) (fun c12 => ?_)
    · exact absurd c12 (Int32.not_lt.mpr (hx0.resolve_left c1))
    · exact am_throw (I := iX6_cell) (pc := 15) lt_X6_118_181_122 rfl dX6_cell_15 dX6_cell_18 dX6_cell_19 dX6_cell_21 dX6_cell_24 (Nat.le_of_ble_eq_true rfl) (Nat.le_of_ble_eq_true rfl) (Nat.le_of_ble_eq_true rfl) (Nat.le_of_ble_eq_true rfl) (Nat.le_of_ble_eq_true rfl) (Nat.le_of_ble_eq_true rfl) (⟨rfl, rfl⟩)
set_option maxRecDepth 100000 in
set_option maxHeartbeats 4000000 in
theorem p_cell (K : am_K) (l : Launch) (S : am_S) (cf : Nat → Int32) (cm : Nat) (k : Nat) (hx : S.1 1 = clx) (hcl : rw S.1 17 18 80 cf cm) (hk : k < cm) : am_M K l iX6_cell 8 2 82 [.ref 1, .int (nI k)] S (fun v S' => v = some (.int (cf k)) ∧ S = S') (fun _ _ => False) := by
  refine am_body (by decide) rfl (by simp [Value.category]) (Nat.le_of_ble_eq_true rfl) (fun xp xe xs xm xa xb xt xc ad0 => ?_)
  show am_W _ _ _ _ _ _ _ _ _ _ _ _ _ _ _ 0 [some (.ref 1), some (.int (nI k))] [] S 0 0
  refine am_iload_n (I := iX6_cell) (pc := 0) dX6_cell_0 rfl rfl ?_
  refine am_if_lt (I := iX6_cell) (pc := 1) (tgt := 15) dX6_cell_1 (by decide) (fun c1 => ?_) (fun c1 => ?_)
  · exact absurd c1 (nI_pos (by have := hcl.2.2.1; omega))
  · refine am_iload_n (I := iX6_cell) (pc := 4) dX6_cell_4 rfl rfl ?_
    refine am_aload_n (I := iX6_cell) (pc := 5) dX6_cell_5 rfl rfl ?_
    refine am_getf (I := iX6_cell) (pc := 6) lf_X6_39 dX6_cell_6 hx rfl ?_
    refine am_callV (I := iX6_cell) (pc := 9) (st := [.int (nI k)]) lv_X6_56 (m_Row_length K l _ 17 18 80 cf cm hcl) dX6_cell_9 hcl.1 rfl (Nat.le_of_ble_eq_true rfl) ⟨Nat.le_of_ble_eq_true rfl, Nat.le_of_ble_eq_true rfl⟩ (Nat.le_of_ble_eq_true rfl) (Nat.le_of_ble_eq_true rfl) rfl (fun v9 T9 z9 _ => ?_) (fun _ _ h9 => h9.elim)
    obtain ⟨rfl, rfl⟩ := z9
    show am_W _ _ _ _ _ _ _ _ _ _ _ _ _ _ _ 12 [some (.ref 1), some (.int (nI k))] [.int (nI cm), .int (nI k)] S 0 0
    refine am_icmp_lt (I := iX6_cell) (pc := 12) (tgt := 25) dX6_cell_12 (by decide) (fun c12 => ?_) (fun c12 => ?_)
    · refine am_aload_n (I := iX6_cell) (pc := 25) dX6_cell_25 rfl rfl ?_
      refine am_getf (I := iX6_cell) (pc := 26) lf_X6_39 dX6_cell_26 hx rfl ?_
      refine am_iload_n (I := iX6_cell) (pc := 29) dX6_cell_29 rfl rfl ?_
      refine am_callV (I := iX6_cell) (pc := 30) (st := []) lv_X6_125 (m_Row_at K l _ 17 18 80 cf cm (nI k) hcl) dX6_cell_30 hcl.1 rfl (Nat.le_of_ble_eq_true rfl) ⟨Nat.le_of_ble_eq_true rfl, Nat.le_of_ble_eq_true rfl⟩ (Nat.le_of_ble_eq_true rfl) (Nat.le_of_ble_eq_true rfl) rfl (fun v9 T9 z9 _ => ?_) (fun _ _ h9 => h9.elim)
      obtain ⟨rfl, rfl⟩ := z9
      show am_W _ _ _ _ _ _ _ _ _ _ _ _ _ _ _ 33 [some (.ref 1), some (.int (nI k))] [.int (rv cf cm (nI k))] S 0 0
      exact am_iret (I := iX6_cell) (pc := 33) dX6_cell_33 rfl (Nat.zero_le _) (Nat.zero_le _) (⟨by rw [rv_nI hk (by have := hcl.2.2.1; omega)], rfl⟩)
    · exact absurd (nI_lt hk (by have := hcl.2.2.1; omega)) c12
set_option maxRecDepth 100000 in
set_option maxHeartbeats 4000000 in
theorem p_back_x1 (K : am_K) (l : Launch) (S : am_S) (cf : Nat → Int32) (hx : S.1 1 = clx) (hcl : rw S.1 17 18 80 cf 0) : am_M K l iX6_back 8 2 82 [.ref 1] S (fun v S' => False) (fun j S' => j = 1 ∧ S = S') := by
  refine am_body (by decide) rfl (by simp [Value.category]) (Nat.le_of_ble_eq_true rfl) (fun xp xe xs xm xa xb xt xc ad0 => ?_)
  show am_W _ _ _ _ _ _ _ _ _ _ _ _ _ _ _ 0 [some (.ref 1)] [] S 0 0
  refine am_aload_n (I := iX6_back) (pc := 0) dX6_back_0 rfl rfl ?_
  refine am_getf (I := iX6_back) (pc := 1) lf_X6_39 dX6_back_1 hx rfl ?_
  refine am_callV (I := iX6_back) (pc := 4) (st := []) lv_X6_56 (m_Row_length K l _ 17 18 80 cf 0 hcl) dX6_back_4 hcl.1 rfl (Nat.le_of_ble_eq_true rfl) ⟨Nat.le_of_ble_eq_true rfl, Nat.le_of_ble_eq_true rfl⟩ (Nat.le_of_ble_eq_true rfl) (Nat.le_of_ble_eq_true rfl) rfl (fun v9 T9 z9 _ => ?_) (fun _ _ h9 => h9.elim)
  obtain ⟨rfl, rfl⟩ := z9
  show am_W _ _ _ _ _ _ _ _ _ _ _ _ _ _ _ 7 [some (.ref 1)] [.int (nI 0)] S 0 0
  refine am_if_ne (I := iX6_back) (pc := 7) (tgt := 20) dX6_back_7 (by decide) (fun c7 => ?_) (fun c7 => ?_)
  · exact absurd rfl c7
  · exact am_throw (I := iX6_back) (pc := 10) lt_X6_60_183_64 rfl dX6_back_10 dX6_back_13 dX6_back_14 dX6_back_16 dX6_back_19 (Nat.le_of_ble_eq_true rfl) (Nat.le_of_ble_eq_true rfl) (Nat.le_of_ble_eq_true rfl) (Nat.le_of_ble_eq_true rfl) (Nat.le_of_ble_eq_true rfl) (Nat.le_of_ble_eq_true rfl) (⟨rfl, rfl⟩)
set_option maxRecDepth 100000 in
set_option maxHeartbeats 4000000 in
theorem p_back (K : am_K) (l : Launch) (S : am_S) (f : Nat → Int32) (n : Nat) (CR : Nat → Option Nat) (sz : Nat → Nat) (lt : Nat → Nat → Int32) (ra rb : Nat → Nat) (ctot : Int32) (cf : Nat → Int32) (cm : Nat) (ck : Nat → Option Nat) (hx : S.1 1 = clx) (hr : rw S.1 2 3 80 f n) (hct : ct S.1 15 16 CR sz lt ra rb ctot) (hcl : rw S.1 17 18 80 cf cm) (h0 : 0 < cm) (hnk : ∀ k, k < 36 → 0 < sz k → ra k ≠ 2 ∧ rb k ≠ 3) (hck : ∀ k, k < cm → (ck k = none ∧ cf k < 28) ∨ ∃ j, ck k = some j ∧ cf k = nI (28 + j) ∧ j < 36 ∧ 0 < sz j) (h80 : (rnn ck sz cm) ≤ 80) : am_M K l iX6_back 8 2 82 [.ref 1] S (fun v S' => v = some (.int (nI (rnn ck sz cm))) ∧ rwS S 2 3 80 (rff ck sz lt cf f cm) (rnn ck sz cm) = S') (fun _ _ => False) := by
  refine am_body (by decide) rfl (by simp [Value.category]) (Nat.le_of_ble_eq_true rfl) (fun xp xe xs xm xa xb xt xc ad0 => ?_)
  show am_W _ _ _ _ _ _ _ _ _ _ _ _ _ _ _ 0 [some (.ref 1)] [] S 0 0
  refine am_aload_n (I := iX6_back) (pc := 0) dX6_back_0 rfl rfl ?_
  refine am_getf (I := iX6_back) (pc := 1) lf_X6_39 dX6_back_1 hx rfl ?_
  refine am_callV (I := iX6_back) (pc := 4) (st := []) lv_X6_56 (m_Row_length K l _ 17 18 80 cf cm hcl) dX6_back_4 hcl.1 rfl (Nat.le_of_ble_eq_true rfl) ⟨Nat.le_of_ble_eq_true rfl, Nat.le_of_ble_eq_true rfl⟩ (Nat.le_of_ble_eq_true rfl) (Nat.le_of_ble_eq_true rfl) rfl (fun v9 T9 z9 _ => ?_) (fun _ _ h9 => h9.elim)
  obtain ⟨rfl, rfl⟩ := z9
  show am_W _ _ _ _ _ _ _ _ _ _ _ _ _ _ _ 7 [some (.ref 1)] [.int (nI cm)] S 0 0
  refine am_if_ne (I := iX6_back) (pc := 7) (tgt := 20) dX6_back_7 (by decide) (fun c7 => ?_) (fun c7 => ?_)
  · refine am_aload_n (I := iX6_back) (pc := 20) dX6_back_20 rfl rfl ?_
    refine am_getf (I := iX6_back) (pc := 21) lf_X6_35 dX6_back_21 hx rfl ?_
    refine am_aload_n (I := iX6_back) (pc := 24) dX6_back_24 rfl rfl ?_
    refine am_getf (I := iX6_back) (pc := 25) lf_X6_39 dX6_back_25 hx rfl ?_
    refine am_aload_n (I := iX6_back) (pc := 28) dX6_back_28 rfl rfl ?_
    refine am_getf (I := iX6_back) (pc := 29) lf_X6_14 dX6_back_29 hx rfl ?_
    refine am_callV (I := iX6_back) (pc := 32) (st := []) lv_X6_185 (m_Con_read K l _ 15 16 CR sz lt ra rb ctot 17 18 80 cf cm 2 3 f n ck hct hcl hr (by decide) hnk hck h80) dX6_back_32 hct.1 rfl (Nat.le_of_ble_eq_true rfl) ⟨Nat.le_of_ble_eq_true rfl, Nat.le_of_ble_eq_true rfl⟩ (Nat.le_of_ble_eq_true rfl) (Nat.le_of_ble_eq_true rfl) rfl (fun v9 T9 z9 _ => ?_) (fun _ _ h9 => h9.elim)
    obtain ⟨rfl, eT9⟩ := z9
    have hx9 : T9.1 1 = clx := by rw [← eT9]; exact (rwS_at (by decide) (by decide)).trans hx
    have hr9 : rw T9.1 2 3 80 (rff ck sz lt cf f cm) (rnn ck sz cm) := by rw [← eT9]; exact rwS_rw (by decide) h80 (by decide)
    show am_W _ _ _ _ _ _ _ _ _ _ _ _ _ _ _ 35 [some (.ref 1)] [] T9 0 0
    refine am_aload_n (I := iX6_back) (pc := 35) dX6_back_35 rfl rfl ?_
    refine am_getf (I := iX6_back) (pc := 36) lf_X6_14 dX6_back_36 hx9 rfl ?_
    refine am_callV (I := iX6_back) (pc := 39) (st := []) lv_X6_56 (m_Row_length K l _ 2 3 80 _ _ hr9) dX6_back_39 hr9.1 rfl (Nat.le_of_ble_eq_true rfl) ⟨Nat.le_of_ble_eq_true rfl, Nat.le_of_ble_eq_true rfl⟩ (Nat.le_of_ble_eq_true rfl) (Nat.le_of_ble_eq_true rfl) rfl (fun v9 T9 z9 _ => ?_) (fun _ _ h9 => h9.elim)
    obtain ⟨rfl, rfl⟩ := z9
    show am_W _ _ _ _ _ _ _ _ _ _ _ _ _ _ _ 42 [some (.ref 1)] [.int (nI (rnn ck sz cm))] T9 0 0
    exact am_iret (I := iX6_back) (pc := 42) dX6_back_42 rfl (Nat.zero_le _) (Nat.zero_le _) (⟨rfl, eT9⟩)
  · exact absurd c7 (nI_ne0 h0 (by have := hcl.2.2.1; omega))
set_option maxRecDepth 100000 in
set_option maxHeartbeats 4000000 in
theorem p_zone_x1 (K : am_K) (l : Launch) (S : am_S) (fx fy fr : Nat → Int32) (z : Nat) (x y w : Int32) (hx : S.1 1 = clx) (hz : zn S.1 19 20 21 22 fx fy fr z) (h16 : 16 ≤ z) : am_M K l iX6_zone 8 2 82 [.ref 1, .int x, .int y, .int w] S (fun v S' => False) (fun j S' => j = 1 ∧ S = S') := by
  refine am_body (by decide) rfl (by simp [Value.category]) (Nat.le_of_ble_eq_true rfl) (fun xp xe xs xm xa xb xt xc ad0 => ?_)
  show am_W _ _ _ _ _ _ _ _ _ _ _ _ _ _ _ 0 [some (.ref 1), some (.int x), some (.int y), some (.int w), none] [] S 0 0
  refine am_aload_n (I := iX6_zone) (pc := 0) dX6_zone_0 rfl rfl ?_
  refine am_getf (I := iX6_zone) (pc := 1) lf_X6_45 dX6_zone_1 hx rfl ?_
  refine am_callV (I := iX6_zone) (pc := 4) (st := []) lv_X6_188 (m_Zones_total K l _ 19 20 21 22 fx fy fr z hz) dX6_zone_4 hz.1 rfl (Nat.le_of_ble_eq_true rfl) ⟨Nat.le_of_ble_eq_true rfl, Nat.le_of_ble_eq_true rfl⟩ (Nat.le_of_ble_eq_true rfl) (Nat.le_of_ble_eq_true rfl) rfl (fun v9 T9 z9 _ => ?_) (fun _ _ h9 => h9.elim)
  obtain ⟨rfl, rfl⟩ := z9
  show am_W _ _ _ _ _ _ _ _ _ _ _ _ _ _ _ 7 [some (.ref 1), some (.int x), some (.int y), some (.int w), none] [.int (nI z)] S 0 0
  refine am_bipush (I := iX6_zone) (pc := 7) (x := 16) dX6_zone_7 (by decide) ?_
  refine am_icmp_lt (I := iX6_zone) (pc := 9) (tgt := 22) dX6_zone_9 (by decide) (fun c9 => ?_) (fun c9 => ?_)
  · exact absurd c9 (nI_nlt (b := 16) h16 (by have := hz.2.2.2.2.1; omega))
  · exact am_throw (I := iX6_zone) (pc := 12) lt_X6_60_191_64 rfl dX6_zone_12 dX6_zone_15 dX6_zone_16 dX6_zone_18 dX6_zone_21 (Nat.le_of_ble_eq_true rfl) (Nat.le_of_ble_eq_true rfl) (Nat.le_of_ble_eq_true rfl) (Nat.le_of_ble_eq_true rfl) (Nat.le_of_ble_eq_true rfl) (Nat.le_of_ble_eq_true rfl) (⟨rfl, rfl⟩)
set_option maxRecDepth 100000 in
set_option maxHeartbeats 4000000 in
theorem p_zone_p2 (K : am_K) (l : Launch) (S : am_S) (fx fy fr : Nat → Int32) (z : Nat) (x y w : Int32) (hx : S.1 1 = clx) (hz : zn S.1 19 20 21 22 fx fy fr z) (h16 : z < 16) (hp : ¬ (-10000 ≤ x ∧ x ≤ 10000 ∧ -10000 ≤ y ∧ y ≤ 10000)) : am_M K l iX6_zone 8 2 82 [.ref 1, .int x, .int y, .int w] S (fun v S' => False) (fun j S' => j = 2 ∧ S = S') := by
  refine am_body (by decide) rfl (by simp [Value.category]) (Nat.le_of_ble_eq_true rfl) (fun xp xe xs xm xa xb xt xc ad0 => ?_)
  show am_W _ _ _ _ _ _ _ _ _ _ _ _ _ _ _ 0 [some (.ref 1), some (.int x), some (.int y), some (.int w), none] [] S 0 0
  refine am_aload_n (I := iX6_zone) (pc := 0) dX6_zone_0 rfl rfl ?_
  refine am_getf (I := iX6_zone) (pc := 1) lf_X6_45 dX6_zone_1 hx rfl ?_
  refine am_callV (I := iX6_zone) (pc := 4) (st := []) lv_X6_188 (m_Zones_total K l _ 19 20 21 22 fx fy fr z hz) dX6_zone_4 hz.1 rfl (Nat.le_of_ble_eq_true rfl) ⟨Nat.le_of_ble_eq_true rfl, Nat.le_of_ble_eq_true rfl⟩ (Nat.le_of_ble_eq_true rfl) (Nat.le_of_ble_eq_true rfl) rfl (fun v9 T9 z9 _ => ?_) (fun _ _ h9 => h9.elim)
  obtain ⟨rfl, rfl⟩ := z9
  show am_W _ _ _ _ _ _ _ _ _ _ _ _ _ _ _ 7 [some (.ref 1), some (.int x), some (.int y), some (.int w), none] [.int (nI z)] S 0 0
  refine am_bipush (I := iX6_zone) (pc := 7) (x := 16) dX6_zone_7 (by decide) ?_
  refine am_icmp_lt (I := iX6_zone) (pc := 9) (tgt := 22) dX6_zone_9 (by decide) (fun c9 => ?_) (fun c9 => ?_)
  · refine am_iload_n (I := iX6_zone) (pc := 22) dX6_zone_22 rfl rfl ?_
    refine am_iload_n (I := iX6_zone) (pc := 23) dX6_zone_23 rfl rfl ?_
    refine am_callS (I := iX6_zone) (pc := 24) (st := []) lv_X6_193 rfl (m_needPointX K l _ x y hp) dX6_zone_24 rfl (Nat.le_of_ble_eq_true rfl) ⟨Nat.le_of_ble_eq_true rfl, Nat.le_of_ble_eq_true rfl⟩ (Nat.le_of_ble_eq_true rfl) (Nat.le_of_ble_eq_true rfl) rfl (fun v9 T9 z9 _ => z9.elim) (fun j9 T9 x9 _ => ?_)
    obtain ⟨rfl, rfl⟩ := x9
    exact am_out rfl (Nat.le_of_ble_eq_true rfl) (Nat.le_of_ble_eq_true rfl) ⟨rfl, rfl⟩
  · exact absurd (nI_lt (b := 16) h16 (by decide)) c9
set_option maxRecDepth 100000 in
set_option maxHeartbeats 4000000 in
theorem p_zone_r2 (K : am_K) (l : Launch) (S : am_S) (fx fy fr : Nat → Int32) (z : Nat) (x y w : Int32) (hx : S.1 1 = clx) (hz : zn S.1 19 20 21 22 fx fy fr z) (h16 : z < 16) (hp : (-10000 ≤ x ∧ x ≤ 10000 ∧ -10000 ≤ y ∧ y ≤ 10000)) (hw : w < 1 ∨ 10000 < w) : am_M K l iX6_zone 8 2 82 [.ref 1, .int x, .int y, .int w] S (fun v S' => False) (fun j S' => j = 2 ∧ S = S') := by
  refine am_body (by decide) rfl (by simp [Value.category]) (Nat.le_of_ble_eq_true rfl) (fun xp xe xs xm xa xb xt xc ad0 => ?_)
  show am_W _ _ _ _ _ _ _ _ _ _ _ _ _ _ _ 0 [some (.ref 1), some (.int x), some (.int y), some (.int w), none] [] S 0 0
  refine am_aload_n (I := iX6_zone) (pc := 0) dX6_zone_0 rfl rfl ?_
  refine am_getf (I := iX6_zone) (pc := 1) lf_X6_45 dX6_zone_1 hx rfl ?_
  refine am_callV (I := iX6_zone) (pc := 4) (st := []) lv_X6_188 (m_Zones_total K l _ 19 20 21 22 fx fy fr z hz) dX6_zone_4 hz.1 rfl (Nat.le_of_ble_eq_true rfl) ⟨Nat.le_of_ble_eq_true rfl, Nat.le_of_ble_eq_true rfl⟩ (Nat.le_of_ble_eq_true rfl) (Nat.le_of_ble_eq_true rfl) rfl (fun v9 T9 z9 _ => ?_) (fun _ _ h9 => h9.elim)
  obtain ⟨rfl, rfl⟩ := z9
  show am_W _ _ _ _ _ _ _ _ _ _ _ _ _ _ _ 7 [some (.ref 1), some (.int x), some (.int y), some (.int w), none] [.int (nI z)] S 0 0
  refine am_bipush (I := iX6_zone) (pc := 7) (x := 16) dX6_zone_7 (by decide) ?_
  refine am_icmp_lt (I := iX6_zone) (pc := 9) (tgt := 22) dX6_zone_9 (by decide) (fun c9 => ?_) (fun c9 => ?_)
  · refine am_iload_n (I := iX6_zone) (pc := 22) dX6_zone_22 rfl rfl ?_
    refine am_iload_n (I := iX6_zone) (pc := 23) dX6_zone_23 rfl rfl ?_
    refine am_callS (I := iX6_zone) (pc := 24) (st := []) lv_X6_193 rfl (m_needPoint K l _ x y hp) dX6_zone_24 rfl (Nat.le_of_ble_eq_true rfl) ⟨Nat.le_of_ble_eq_true rfl, Nat.le_of_ble_eq_true rfl⟩ (Nat.le_of_ble_eq_true rfl) (Nat.le_of_ble_eq_true rfl) rfl (fun v9 T9 z9 _ => ?_) (fun _ _ h9 => h9.elim)
    obtain ⟨rfl, rfl⟩ := z9
    show am_W _ _ _ _ _ _ _ _ _ _ _ _ _ _ _ 27 [some (.ref 1), some (.int x), some (.int y), some (.int w), none] [] S 0 0
    refine am_iload_n (I := iX6_zone) (pc := 27) dX6_zone_27 rfl rfl ?_
    refine am_iconst (I := iX6_zone) (pc := 28) (x := 1) dX6_zone_28 (by decide) ?_
    refine am_icmp_lt (I := iX6_zone) (pc := 29) (tgt := 39) dX6_zone_29 (by decide) (fun c29 => ?_) (fun c29 => ?_)
    · exact am_throw (I := iX6_zone) (pc := 39) lt_X6_71_196_75 rfl dX6_zone_39 dX6_zone_42 dX6_zone_43 dX6_zone_45 dX6_zone_48 (Nat.le_of_ble_eq_true rfl) (Nat.le_of_ble_eq_true rfl) (Nat.le_of_ble_eq_true rfl) (Nat.le_of_ble_eq_true rfl) (Nat.le_of_ble_eq_true rfl) (Nat.le_of_ble_eq_true rfl) (⟨rfl, rfl⟩)
    · refine am_iload_n (I := iX6_zone) (pc := 32) dX6_zone_32 rfl rfl ?_
      refine am_sipush (I := iX6_zone) (pc := 33) (x := 10000) dX6_zone_33 (by decide) ?_
      refine am_icmp_le (I := iX6_zone) (pc := 36) (tgt := 49) dX6_zone_36 (by decide) (fun c36 => ?_) (fun c36 => ?_)
      · exact absurd c36 (Int32.not_le.mpr (hw.resolve_left c29))
      · exact am_throw (I := iX6_zone) (pc := 39) lt_X6_71_196_75 rfl dX6_zone_39 dX6_zone_42 dX6_zone_43 dX6_zone_45 dX6_zone_48 (Nat.le_of_ble_eq_true rfl) (Nat.le_of_ble_eq_true rfl) (Nat.le_of_ble_eq_true rfl) (Nat.le_of_ble_eq_true rfl) (Nat.le_of_ble_eq_true rfl) (Nat.le_of_ble_eq_true rfl) (⟨rfl, rfl⟩)
  · exact absurd (nI_lt (b := 16) h16 (by decide)) c9
set_option maxRecDepth 100000 in
set_option maxHeartbeats 4000000 in
theorem p_zone_o (K : am_K) (l : Launch) (S : am_S) (fx fy fr : Nat → Int32) (z : Nat) (x y w : Int32) (hx : S.1 1 = clx) (hz : zn S.1 19 20 21 22 fx fy fr z) (h16 : z < 16) (hp : (-10000 ≤ x ∧ x ≤ 10000 ∧ -10000 ≤ y ∧ y ≤ 10000)) (hw : ¬ w < 1 ∧ w ≤ 10000) (ho : ¬ srch (zov fx fy fr x y w) z = -1) : am_M K l iX6_zone 8 2 82 [.ref 1, .int x, .int y, .int w] S (fun v S' => v = some (.int (-1 - srch (zov fx fy fr x y w) z)) ∧ S = S') (fun _ _ => False) := by
  refine am_body (by decide) rfl (by simp [Value.category]) (Nat.le_of_ble_eq_true rfl) (fun xp xe xs xm xa xb xt xc ad0 => ?_)
  show am_W _ _ _ _ _ _ _ _ _ _ _ _ _ _ _ 0 [some (.ref 1), some (.int x), some (.int y), some (.int w), none] [] S 0 0
  refine am_aload_n (I := iX6_zone) (pc := 0) dX6_zone_0 rfl rfl ?_
  refine am_getf (I := iX6_zone) (pc := 1) lf_X6_45 dX6_zone_1 hx rfl ?_
  refine am_callV (I := iX6_zone) (pc := 4) (st := []) lv_X6_188 (m_Zones_total K l _ 19 20 21 22 fx fy fr z hz) dX6_zone_4 hz.1 rfl (Nat.le_of_ble_eq_true rfl) ⟨Nat.le_of_ble_eq_true rfl, Nat.le_of_ble_eq_true rfl⟩ (Nat.le_of_ble_eq_true rfl) (Nat.le_of_ble_eq_true rfl) rfl (fun v9 T9 z9 _ => ?_) (fun _ _ h9 => h9.elim)
  obtain ⟨rfl, rfl⟩ := z9
  show am_W _ _ _ _ _ _ _ _ _ _ _ _ _ _ _ 7 [some (.ref 1), some (.int x), some (.int y), some (.int w), none] [.int (nI z)] S 0 0
  refine am_bipush (I := iX6_zone) (pc := 7) (x := 16) dX6_zone_7 (by decide) ?_
  refine am_icmp_lt (I := iX6_zone) (pc := 9) (tgt := 22) dX6_zone_9 (by decide) (fun c9 => ?_) (fun c9 => ?_)
  · refine am_iload_n (I := iX6_zone) (pc := 22) dX6_zone_22 rfl rfl ?_
    refine am_iload_n (I := iX6_zone) (pc := 23) dX6_zone_23 rfl rfl ?_
    refine am_callS (I := iX6_zone) (pc := 24) (st := []) lv_X6_193 rfl (m_needPoint K l _ x y hp) dX6_zone_24 rfl (Nat.le_of_ble_eq_true rfl) ⟨Nat.le_of_ble_eq_true rfl, Nat.le_of_ble_eq_true rfl⟩ (Nat.le_of_ble_eq_true rfl) (Nat.le_of_ble_eq_true rfl) rfl (fun v9 T9 z9 _ => ?_) (fun _ _ h9 => h9.elim)
    obtain ⟨rfl, rfl⟩ := z9
    show am_W _ _ _ _ _ _ _ _ _ _ _ _ _ _ _ 27 [some (.ref 1), some (.int x), some (.int y), some (.int w), none] [] S 0 0
    refine am_iload_n (I := iX6_zone) (pc := 27) dX6_zone_27 rfl rfl ?_
    refine am_iconst (I := iX6_zone) (pc := 28) (x := 1) dX6_zone_28 (by decide) ?_
    refine am_icmp_lt (I := iX6_zone) (pc := 29) (tgt := 39) dX6_zone_29 (by decide) (fun c29 => ?_) (fun c29 => ?_)
    · exact absurd c29 hw.1
    · refine am_iload_n (I := iX6_zone) (pc := 32) dX6_zone_32 rfl rfl ?_
      refine am_sipush (I := iX6_zone) (pc := 33) (x := 10000) dX6_zone_33 (by decide) ?_
      refine am_icmp_le (I := iX6_zone) (pc := 36) (tgt := 49) dX6_zone_36 (by decide) (fun c36 => ?_) (fun c36 => ?_)
      · refine am_aload_n (I := iX6_zone) (pc := 49) dX6_zone_49 rfl rfl ?_
        refine am_getf (I := iX6_zone) (pc := 50) lf_X6_45 dX6_zone_50 hx rfl ?_
        refine am_iload_n (I := iX6_zone) (pc := 53) dX6_zone_53 rfl rfl ?_
        refine am_iload_n (I := iX6_zone) (pc := 54) dX6_zone_54 rfl rfl ?_
        refine am_iload_n (I := iX6_zone) (pc := 55) dX6_zone_55 rfl rfl ?_
        refine am_callV (I := iX6_zone) (pc := 56) (st := []) lv_X6_198 (m_Zones_lowestOverlapped K l _ 19 20 21 22 fx fy fr z x y w hz) dX6_zone_56 hz.1 rfl (Nat.le_of_ble_eq_true rfl) ⟨Nat.le_of_ble_eq_true rfl, Nat.le_of_ble_eq_true rfl⟩ (Nat.le_of_ble_eq_true rfl) (Nat.le_of_ble_eq_true rfl) rfl (fun v9 T9 z9 _ => ?_) (fun _ _ h9 => h9.elim)
        obtain ⟨rfl, rfl⟩ := z9
        show am_W _ _ _ _ _ _ _ _ _ _ _ _ _ _ _ 59 [some (.ref 1), some (.int x), some (.int y), some (.int w), none] [.int (srch (zov fx fy fr x y w) z)] S 0 0
        refine am_istore (I := iX6_zone) (pc := 59) (L' := [some (.ref 1), some (.int x), some (.int y), some (.int w), some (.int (srch (zov fx fy fr x y w) z))]) dX6_zone_59 (by decide) rfl ?_
        refine am_iload (I := iX6_zone) (pc := 61) dX6_zone_61 rfl ?_
        refine am_iconst (I := iX6_zone) (pc := 63) (x := (-1)) dX6_zone_63 (by decide) ?_
        refine am_icmp_eq (I := iX6_zone) (pc := 64) (tgt := 72) dX6_zone_64 (by decide) (fun c64 => ?_) (fun c64 => ?_)
        · exact absurd c64 ho
        · refine am_iconst (I := iX6_zone) (pc := 67) (x := (-1)) dX6_zone_67 (by decide) ?_
          refine am_iload (I := iX6_zone) (pc := 68) dX6_zone_68 rfl ?_
          refine am_isub (I := iX6_zone) (pc := 70) dX6_zone_70 ?_
          exact am_iret (I := iX6_zone) (pc := 71) dX6_zone_71 rfl (Nat.zero_le _) (Nat.zero_le _) (⟨rfl, rfl⟩)
      · exact absurd hw.2 c36
  · exact absurd (nI_lt (b := 16) h16 (by decide)) c9
set_option maxRecDepth 100000 in
set_option maxHeartbeats 4000000 in
theorem p_zone (K : am_K) (l : Launch) (S : am_S) (fx fy fr : Nat → Int32) (z : Nat) (x y w : Int32) (hx : S.1 1 = clx) (hz : zn S.1 19 20 21 22 fx fy fr z) (h16 : z < 16) (hp : (-10000 ≤ x ∧ x ≤ 10000 ∧ -10000 ≤ y ∧ y ≤ 10000)) (hw : ¬ w < 1 ∧ w ≤ 10000) (ho : srch (zov fx fy fr x y w) z = -1) : am_M K l iX6_zone 8 2 82 [.ref 1, .int x, .int y, .int w] S (fun v S' => v = some (.int (nI z)) ∧ znS S 19 20 21 22 (upd fx z x) (upd fy z y) (upd fr z w) (z + 1) = S') (fun _ _ => False) := by
  refine am_body (by decide) rfl (by simp [Value.category]) (Nat.le_of_ble_eq_true rfl) (fun xp xe xs xm xa xb xt xc ad0 => ?_)
  show am_W _ _ _ _ _ _ _ _ _ _ _ _ _ _ _ 0 [some (.ref 1), some (.int x), some (.int y), some (.int w), none] [] S 0 0
  refine am_aload_n (I := iX6_zone) (pc := 0) dX6_zone_0 rfl rfl ?_
  refine am_getf (I := iX6_zone) (pc := 1) lf_X6_45 dX6_zone_1 hx rfl ?_
  refine am_callV (I := iX6_zone) (pc := 4) (st := []) lv_X6_188 (m_Zones_total K l _ 19 20 21 22 fx fy fr z hz) dX6_zone_4 hz.1 rfl (Nat.le_of_ble_eq_true rfl) ⟨Nat.le_of_ble_eq_true rfl, Nat.le_of_ble_eq_true rfl⟩ (Nat.le_of_ble_eq_true rfl) (Nat.le_of_ble_eq_true rfl) rfl (fun v9 T9 z9 _ => ?_) (fun _ _ h9 => h9.elim)
  obtain ⟨rfl, rfl⟩ := z9
  show am_W _ _ _ _ _ _ _ _ _ _ _ _ _ _ _ 7 [some (.ref 1), some (.int x), some (.int y), some (.int w), none] [.int (nI z)] S 0 0
  refine am_bipush (I := iX6_zone) (pc := 7) (x := 16) dX6_zone_7 (by decide) ?_
  refine am_icmp_lt (I := iX6_zone) (pc := 9) (tgt := 22) dX6_zone_9 (by decide) (fun c9 => ?_) (fun c9 => ?_)
  · refine am_iload_n (I := iX6_zone) (pc := 22) dX6_zone_22 rfl rfl ?_
    refine am_iload_n (I := iX6_zone) (pc := 23) dX6_zone_23 rfl rfl ?_
    refine am_callS (I := iX6_zone) (pc := 24) (st := []) lv_X6_193 rfl (m_needPoint K l _ x y hp) dX6_zone_24 rfl (Nat.le_of_ble_eq_true rfl) ⟨Nat.le_of_ble_eq_true rfl, Nat.le_of_ble_eq_true rfl⟩ (Nat.le_of_ble_eq_true rfl) (Nat.le_of_ble_eq_true rfl) rfl (fun v9 T9 z9 _ => ?_) (fun _ _ h9 => h9.elim)
    obtain ⟨rfl, rfl⟩ := z9
    show am_W _ _ _ _ _ _ _ _ _ _ _ _ _ _ _ 27 [some (.ref 1), some (.int x), some (.int y), some (.int w), none] [] S 0 0
    refine am_iload_n (I := iX6_zone) (pc := 27) dX6_zone_27 rfl rfl ?_
    refine am_iconst (I := iX6_zone) (pc := 28) (x := 1) dX6_zone_28 (by decide) ?_
    refine am_icmp_lt (I := iX6_zone) (pc := 29) (tgt := 39) dX6_zone_29 (by decide) (fun c29 => ?_) (fun c29 => ?_)
    · exact absurd c29 hw.1
    · refine am_iload_n (I := iX6_zone) (pc := 32) dX6_zone_32 rfl rfl ?_
      refine am_sipush (I := iX6_zone) (pc := 33) (x := 10000) dX6_zone_33 (by decide) ?_
      refine am_icmp_le (I := iX6_zone) (pc := 36) (tgt := 49) dX6_zone_36 (by decide) (fun c36 => ?_) (fun c36 => ?_)
      · refine am_aload_n (I := iX6_zone) (pc := 49) dX6_zone_49 rfl rfl ?_
        refine am_getf (I := iX6_zone) (pc := 50) lf_X6_45 dX6_zone_50 hx rfl ?_
        refine am_iload_n (I := iX6_zone) (pc := 53) dX6_zone_53 rfl rfl ?_
        refine am_iload_n (I := iX6_zone) (pc := 54) dX6_zone_54 rfl rfl ?_
        refine am_iload_n (I := iX6_zone) (pc := 55) dX6_zone_55 rfl rfl ?_
        refine am_callV (I := iX6_zone) (pc := 56) (st := []) lv_X6_198 (m_Zones_lowestOverlapped K l _ 19 20 21 22 fx fy fr z x y w hz) dX6_zone_56 hz.1 rfl (Nat.le_of_ble_eq_true rfl) ⟨Nat.le_of_ble_eq_true rfl, Nat.le_of_ble_eq_true rfl⟩ (Nat.le_of_ble_eq_true rfl) (Nat.le_of_ble_eq_true rfl) rfl (fun v9 T9 z9 _ => ?_) (fun _ _ h9 => h9.elim)
        obtain ⟨rfl, rfl⟩ := z9
        show am_W _ _ _ _ _ _ _ _ _ _ _ _ _ _ _ 59 [some (.ref 1), some (.int x), some (.int y), some (.int w), none] [.int (srch (zov fx fy fr x y w) z)] S 0 0
        refine am_istore (I := iX6_zone) (pc := 59) (L' := [some (.ref 1), some (.int x), some (.int y), some (.int w), some (.int (srch (zov fx fy fr x y w) z))]) dX6_zone_59 (by decide) rfl ?_
        refine am_iload (I := iX6_zone) (pc := 61) dX6_zone_61 rfl ?_
        refine am_iconst (I := iX6_zone) (pc := 63) (x := (-1)) dX6_zone_63 (by decide) ?_
        refine am_icmp_eq (I := iX6_zone) (pc := 64) (tgt := 72) dX6_zone_64 (by decide) (fun c64 => ?_) (fun c64 => ?_)
        · refine am_aload_n (I := iX6_zone) (pc := 72) dX6_zone_72 rfl rfl ?_
          refine am_getf (I := iX6_zone) (pc := 73) lf_X6_45 dX6_zone_73 hx rfl ?_
          refine am_iload_n (I := iX6_zone) (pc := 76) dX6_zone_76 rfl rfl ?_
          refine am_iload_n (I := iX6_zone) (pc := 77) dX6_zone_77 rfl rfl ?_
          refine am_iload_n (I := iX6_zone) (pc := 78) dX6_zone_78 rfl rfl ?_
          refine am_callV (I := iX6_zone) (pc := 79) (st := []) lv_X6_202 (m_Zones_add K l _ 19 20 21 22 fx fy fr z x y w hz h16) dX6_zone_79 hz.1 rfl (Nat.le_of_ble_eq_true rfl) ⟨Nat.le_of_ble_eq_true rfl, Nat.le_of_ble_eq_true rfl⟩ (Nat.le_of_ble_eq_true rfl) (Nat.le_of_ble_eq_true rfl) rfl (fun v9 T9 z9 _ => ?_) (fun _ _ h9 => h9.elim)
          obtain ⟨rfl, eT9⟩ := z9
          show am_W _ _ _ _ _ _ _ _ _ _ _ _ _ _ _ 82 [some (.ref 1), some (.int x), some (.int y), some (.int w), some (.int (srch (zov fx fy fr x y w) z))] [.int (nI z)] T9 0 0
          exact am_iret (I := iX6_zone) (pc := 82) dX6_zone_82 rfl (Nat.zero_le _) (Nat.zero_le _) (⟨rfl, eT9⟩)
        · exact absurd ho c64
      · exact absurd hw.2 c36
  · exact absurd (nI_lt (b := 16) h16 (by decide)) c9
set_option maxRecDepth 100000 in
set_option maxHeartbeats 4000000 in
theorem p_heard_x2 (K : am_K) (l : Launch) (S : am_S) (x y : Int32) (hx : S.1 1 = clx) (hp : ¬ (-10000 ≤ x ∧ x ≤ 10000 ∧ -10000 ≤ y ∧ y ≤ 10000)) : am_M K l iX6_heard 8 2 82 [.ref 1, .int x, .int y] S (fun v S' => False) (fun j S' => j = 2 ∧ S = S') := by
  refine am_body (by decide) rfl (by simp [Value.category]) (Nat.le_of_ble_eq_true rfl) (fun xp xe xs xm xa xb xt xc ad0 => ?_)
  show am_W _ _ _ _ _ _ _ _ _ _ _ _ _ _ _ 0 [some (.ref 1), some (.int x), some (.int y)] [] S 0 0
  refine am_iload_n (I := iX6_heard) (pc := 0) dX6_heard_0 rfl rfl ?_
  refine am_iload_n (I := iX6_heard) (pc := 1) dX6_heard_1 rfl rfl ?_
  refine am_callS (I := iX6_heard) (pc := 2) (st := []) lv_X6_193 rfl (m_needPointX K l _ x y hp) dX6_heard_2 rfl (Nat.le_of_ble_eq_true rfl) ⟨Nat.le_of_ble_eq_true rfl, Nat.le_of_ble_eq_true rfl⟩ (Nat.le_of_ble_eq_true rfl) (Nat.le_of_ble_eq_true rfl) rfl (fun v9 T9 z9 _ => z9.elim) (fun j9 T9 x9 _ => ?_)
  obtain ⟨rfl, rfl⟩ := x9
  exact am_out rfl (Nat.le_of_ble_eq_true rfl) (Nat.le_of_ble_eq_true rfl) ⟨rfl, rfl⟩
set_option maxRecDepth 100000 in
set_option maxHeartbeats 4000000 in
theorem p_heard (K : am_K) (l : Launch) (S : am_S) (fx fy fr : Nat → Int32) (z : Nat) (x y : Int32) (hx : S.1 1 = clx) (hz : zn S.1 19 20 21 22 fx fy fr z) (hp : (-10000 ≤ x ∧ x ≤ 10000 ∧ -10000 ≤ y ∧ y ≤ 10000)) : am_M K l iX6_heard 8 2 82 [.ref 1, .int x, .int y] S (fun v S' => v = some (.int (srch (zin fx fy fr x y) z)) ∧ S = S') (fun _ _ => False) := by
  refine am_body (by decide) rfl (by simp [Value.category]) (Nat.le_of_ble_eq_true rfl) (fun xp xe xs xm xa xb xt xc ad0 => ?_)
  show am_W _ _ _ _ _ _ _ _ _ _ _ _ _ _ _ 0 [some (.ref 1), some (.int x), some (.int y)] [] S 0 0
  refine am_iload_n (I := iX6_heard) (pc := 0) dX6_heard_0 rfl rfl ?_
  refine am_iload_n (I := iX6_heard) (pc := 1) dX6_heard_1 rfl rfl ?_
  refine am_callS (I := iX6_heard) (pc := 2) (st := []) lv_X6_193 rfl (m_needPoint K l _ x y hp) dX6_heard_2 rfl (Nat.le_of_ble_eq_true rfl) ⟨Nat.le_of_ble_eq_true rfl, Nat.le_of_ble_eq_true rfl⟩ (Nat.le_of_ble_eq_true rfl) (Nat.le_of_ble_eq_true rfl) rfl (fun v9 T9 z9 _ => ?_) (fun _ _ h9 => h9.elim)
  obtain ⟨rfl, rfl⟩ := z9
  show am_W _ _ _ _ _ _ _ _ _ _ _ _ _ _ _ 5 [some (.ref 1), some (.int x), some (.int y)] [] S 0 0
  refine am_aload_n (I := iX6_heard) (pc := 5) dX6_heard_5 rfl rfl ?_
  refine am_getf (I := iX6_heard) (pc := 6) lf_X6_45 dX6_heard_6 hx rfl ?_
  refine am_iload_n (I := iX6_heard) (pc := 9) dX6_heard_9 rfl rfl ?_
  refine am_iload_n (I := iX6_heard) (pc := 10) dX6_heard_10 rfl rfl ?_
  refine am_callV (I := iX6_heard) (pc := 11) (st := []) lv_X6_204 (m_Zones_lowestAround K l _ 19 20 21 22 fx fy fr z x y hz) dX6_heard_11 hz.1 rfl (Nat.le_of_ble_eq_true rfl) ⟨Nat.le_of_ble_eq_true rfl, Nat.le_of_ble_eq_true rfl⟩ (Nat.le_of_ble_eq_true rfl) (Nat.le_of_ble_eq_true rfl) rfl (fun v9 T9 z9 _ => ?_) (fun _ _ h9 => h9.elim)
  obtain ⟨rfl, rfl⟩ := z9
  show am_W _ _ _ _ _ _ _ _ _ _ _ _ _ _ _ 14 [some (.ref 1), some (.int x), some (.int y)] [.int (srch (zin fx fy fr x y) z)] S 0 0
  exact am_iret (I := iX6_heard) (pc := 14) dX6_heard_14 rfl (Nat.zero_le _) (Nat.zero_le _) (⟨rfl, rfl⟩)
set_option maxRecDepth 100000 in
set_option maxHeartbeats 4000000 in
theorem p_way_a0 (K : am_K) (l : Launch) (S : am_S) (x y : Int32) (on : Bool) (hx : S.1 1 = clx) (hb : x < 0 ∨ 24 ≤ x) : am_M K l iX6_way 8 2 82 [.ref 1, .int x, .int y, .int (bI on)] S (fun v S' => False) (fun j S' => j = 0 ∧ S = S') := by
  refine am_body (by decide) rfl (by simp [Value.category]) (Nat.le_of_ble_eq_true rfl) (fun xp xe xs xm xa xb xt xc ad0 => ?_)
  show am_W _ _ _ _ _ _ _ _ _ _ _ _ _ _ _ 0 [some (.ref 1), some (.int x), some (.int y), some (.int (bI on))] [] S 0 0
  refine am_iload_n (I := iX6_way) (pc := 0) dX6_way_0 rfl rfl ?_
  refine am_callS (I := iX6_way) (pc := 1) (st := []) lv_X6_207 rfl (m_needRoomX K l _ x hb) dX6_way_1 rfl (Nat.le_of_ble_eq_true rfl) ⟨Nat.le_of_ble_eq_true rfl, Nat.le_of_ble_eq_true rfl⟩ (Nat.le_of_ble_eq_true rfl) (Nat.le_of_ble_eq_true rfl) rfl (fun v9 T9 z9 _ => z9.elim) (fun j9 T9 x9 _ => ?_)
  obtain ⟨rfl, rfl⟩ := x9
  exact am_out rfl (Nat.le_of_ble_eq_true rfl) (Nat.le_of_ble_eq_true rfl) ⟨rfl, rfl⟩
set_option maxRecDepth 100000 in
set_option maxHeartbeats 4000000 in
theorem p_way_b0 (K : am_K) (l : Launch) (S : am_S) (a : Nat) (y : Int32) (on : Bool) (hx : S.1 1 = clx) (ha : a < 24) (hb : y < 0 ∨ 24 ≤ y) : am_M K l iX6_way 8 2 82 [.ref 1, .int (nI a), .int y, .int (bI on)] S (fun v S' => False) (fun j S' => j = 0 ∧ S = S') := by
  refine am_body (by decide) rfl (by simp [Value.category]) (Nat.le_of_ble_eq_true rfl) (fun xp xe xs xm xa xb xt xc ad0 => ?_)
  show am_W _ _ _ _ _ _ _ _ _ _ _ _ _ _ _ 0 [some (.ref 1), some (.int (nI a)), some (.int y), some (.int (bI on))] [] S 0 0
  refine am_iload_n (I := iX6_way) (pc := 0) dX6_way_0 rfl rfl ?_
  refine am_callS (I := iX6_way) (pc := 1) (st := []) lv_X6_207 rfl (m_needRoom K l _ a ha) dX6_way_1 rfl (Nat.le_of_ble_eq_true rfl) ⟨Nat.le_of_ble_eq_true rfl, Nat.le_of_ble_eq_true rfl⟩ (Nat.le_of_ble_eq_true rfl) (Nat.le_of_ble_eq_true rfl) rfl (fun v9 T9 z9 _ => ?_) (fun _ _ h9 => h9.elim)
  obtain ⟨rfl, rfl⟩ := z9
  show am_W _ _ _ _ _ _ _ _ _ _ _ _ _ _ _ 4 [some (.ref 1), some (.int (nI a)), some (.int y), some (.int (bI on))] [] S 0 0
  refine am_iload_n (I := iX6_way) (pc := 4) dX6_way_4 rfl rfl ?_
  refine am_callS (I := iX6_way) (pc := 5) (st := []) lv_X6_207 rfl (m_needRoomX K l _ y hb) dX6_way_5 rfl (Nat.le_of_ble_eq_true rfl) ⟨Nat.le_of_ble_eq_true rfl, Nat.le_of_ble_eq_true rfl⟩ (Nat.le_of_ble_eq_true rfl) (Nat.le_of_ble_eq_true rfl) rfl (fun v9 T9 z9 _ => z9.elim) (fun j9 T9 x9 _ => ?_)
  obtain ⟨rfl, rfl⟩ := x9
  exact am_out rfl (Nat.le_of_ble_eq_true rfl) (Nat.le_of_ble_eq_true rfl) ⟨rfl, rfl⟩
set_option maxRecDepth 100000 in
set_option maxHeartbeats 4000000 in
theorem p_arrow_a0 (K : am_K) (l : Launch) (S : am_S) (x y : Int32) (hx : S.1 1 = clx) (hb : x < 0 ∨ 24 ≤ x) : am_M K l iX6_arrow 8 2 82 [.ref 1, .int x, .int y] S (fun v S' => False) (fun j S' => j = 0 ∧ S = S') := by
  refine am_body (by decide) rfl (by simp [Value.category]) (Nat.le_of_ble_eq_true rfl) (fun xp xe xs xm xa xb xt xc ad0 => ?_)
  show am_W _ _ _ _ _ _ _ _ _ _ _ _ _ _ _ 0 [some (.ref 1), some (.int x), some (.int y)] [] S 0 0
  refine am_iload_n (I := iX6_arrow) (pc := 0) dX6_arrow_0 rfl rfl ?_
  refine am_callS (I := iX6_arrow) (pc := 1) (st := []) lv_X6_207 rfl (m_needRoomX K l _ x hb) dX6_arrow_1 rfl (Nat.le_of_ble_eq_true rfl) ⟨Nat.le_of_ble_eq_true rfl, Nat.le_of_ble_eq_true rfl⟩ (Nat.le_of_ble_eq_true rfl) (Nat.le_of_ble_eq_true rfl) rfl (fun v9 T9 z9 _ => z9.elim) (fun j9 T9 x9 _ => ?_)
  obtain ⟨rfl, rfl⟩ := x9
  exact am_out rfl (Nat.le_of_ble_eq_true rfl) (Nat.le_of_ble_eq_true rfl) ⟨rfl, rfl⟩
set_option maxRecDepth 100000 in
set_option maxHeartbeats 4000000 in
theorem p_arrow_b0 (K : am_K) (l : Launch) (S : am_S) (a : Nat) (y : Int32) (hx : S.1 1 = clx) (ha : a < 24) (hb : y < 0 ∨ 24 ≤ y) : am_M K l iX6_arrow 8 2 82 [.ref 1, .int (nI a), .int y] S (fun v S' => False) (fun j S' => j = 0 ∧ S = S') := by
  refine am_body (by decide) rfl (by simp [Value.category]) (Nat.le_of_ble_eq_true rfl) (fun xp xe xs xm xa xb xt xc ad0 => ?_)
  show am_W _ _ _ _ _ _ _ _ _ _ _ _ _ _ _ 0 [some (.ref 1), some (.int (nI a)), some (.int y)] [] S 0 0
  refine am_iload_n (I := iX6_arrow) (pc := 0) dX6_arrow_0 rfl rfl ?_
  refine am_callS (I := iX6_arrow) (pc := 1) (st := []) lv_X6_207 rfl (m_needRoom K l _ a ha) dX6_arrow_1 rfl (Nat.le_of_ble_eq_true rfl) ⟨Nat.le_of_ble_eq_true rfl, Nat.le_of_ble_eq_true rfl⟩ (Nat.le_of_ble_eq_true rfl) (Nat.le_of_ble_eq_true rfl) rfl (fun v9 T9 z9 _ => ?_) (fun _ _ h9 => h9.elim)
  obtain ⟨rfl, rfl⟩ := z9
  show am_W _ _ _ _ _ _ _ _ _ _ _ _ _ _ _ 4 [some (.ref 1), some (.int (nI a)), some (.int y)] [] S 0 0
  refine am_iload_n (I := iX6_arrow) (pc := 4) dX6_arrow_4 rfl rfl ?_
  refine am_callS (I := iX6_arrow) (pc := 5) (st := []) lv_X6_207 rfl (m_needRoomX K l _ y hb) dX6_arrow_5 rfl (Nat.le_of_ble_eq_true rfl) ⟨Nat.le_of_ble_eq_true rfl, Nat.le_of_ble_eq_true rfl⟩ (Nat.le_of_ble_eq_true rfl) (Nat.le_of_ble_eq_true rfl) rfl (fun v9 T9 z9 _ => z9.elim) (fun j9 T9 x9 _ => ?_)
  obtain ⟨rfl, rfl⟩ := x9
  exact am_out rfl (Nat.le_of_ble_eq_true rfl) (Nat.le_of_ble_eq_true rfl) ⟨rfl, rfl⟩
set_option maxRecDepth 100000 in
set_option maxHeartbeats 4000000 in
theorem p_way_x2 (K : am_K) (l : Launch) (S : am_S) (a : Nat) (on : Bool) (hx : S.1 1 = clx) (ha : a < 24) : am_M K l iX6_way 8 2 82 [.ref 1, .int (nI a), .int (nI a), .int (bI on)] S (fun v S' => False) (fun j S' => j = 2 ∧ S = S') := by
  refine am_body (by decide) rfl (by simp [Value.category]) (Nat.le_of_ble_eq_true rfl) (fun xp xe xs xm xa xb xt xc ad0 => ?_)
  show am_W _ _ _ _ _ _ _ _ _ _ _ _ _ _ _ 0 [some (.ref 1), some (.int (nI a)), some (.int (nI a)), some (.int (bI on))] [] S 0 0
  refine am_iload_n (I := iX6_way) (pc := 0) dX6_way_0 rfl rfl ?_
  refine am_callS (I := iX6_way) (pc := 1) (st := []) lv_X6_207 rfl (m_needRoom K l _ a ha) dX6_way_1 rfl (Nat.le_of_ble_eq_true rfl) ⟨Nat.le_of_ble_eq_true rfl, Nat.le_of_ble_eq_true rfl⟩ (Nat.le_of_ble_eq_true rfl) (Nat.le_of_ble_eq_true rfl) rfl (fun v9 T9 z9 _ => ?_) (fun _ _ h9 => h9.elim)
  obtain ⟨rfl, rfl⟩ := z9
  show am_W _ _ _ _ _ _ _ _ _ _ _ _ _ _ _ 4 [some (.ref 1), some (.int (nI a)), some (.int (nI a)), some (.int (bI on))] [] S 0 0
  refine am_iload_n (I := iX6_way) (pc := 4) dX6_way_4 rfl rfl ?_
  refine am_callS (I := iX6_way) (pc := 5) (st := []) lv_X6_207 rfl (m_needRoom K l _ a ha) dX6_way_5 rfl (Nat.le_of_ble_eq_true rfl) ⟨Nat.le_of_ble_eq_true rfl, Nat.le_of_ble_eq_true rfl⟩ (Nat.le_of_ble_eq_true rfl) (Nat.le_of_ble_eq_true rfl) rfl (fun v9 T9 z9 _ => ?_) (fun _ _ h9 => h9.elim)
  obtain ⟨rfl, rfl⟩ := z9
  show am_W _ _ _ _ _ _ _ _ _ _ _ _ _ _ _ 8 [some (.ref 1), some (.int (nI a)), some (.int (nI a)), some (.int (bI on))] [] S 0 0
  refine am_iload_n (I := iX6_way) (pc := 8) dX6_way_8 rfl rfl ?_
  refine am_iload_n (I := iX6_way) (pc := 9) dX6_way_9 rfl rfl ?_
  refine am_icmp_ne (I := iX6_way) (pc := 10) (tgt := 23) dX6_way_10 (by decide) (fun c10 => ?_) (fun c10 => ?_)
  · exact absurd rfl c10
  · exact am_throw (I := iX6_way) (pc := 13) lt_X6_71_210_75 rfl dX6_way_13 dX6_way_16 dX6_way_17 dX6_way_19 dX6_way_22 (Nat.le_of_ble_eq_true rfl) (Nat.le_of_ble_eq_true rfl) (Nat.le_of_ble_eq_true rfl) (Nat.le_of_ble_eq_true rfl) (Nat.le_of_ble_eq_true rfl) (Nat.le_of_ble_eq_true rfl) (⟨rfl, rfl⟩)
set_option maxRecDepth 100000 in
set_option maxHeartbeats 4000000 in
theorem p_way0 (K : am_K) (l : Launch) (S : am_S) (J : Nat → Int32) (wy : Int32) (a b : Nat) (on : Bool) (hx : S.1 1 = clx) (hm : rm S.1 23 24 J wy) (ha : a < 24) (hb : b < 24) (hab : ¬ a = b) (hj : jn J a b = bI on) : am_M K l iX6_way 8 2 82 [.ref 1, .int (nI a), .int (nI b), .int (bI on)] S (fun v S' => v = some (.int (0)) ∧ S = S') (fun _ _ => False) := by
  refine am_body (by decide) rfl (by simp [Value.category]) (Nat.le_of_ble_eq_true rfl) (fun xp xe xs xm xa xb xt xc ad0 => ?_)
  show am_W _ _ _ _ _ _ _ _ _ _ _ _ _ _ _ 0 [some (.ref 1), some (.int (nI a)), some (.int (nI b)), some (.int (bI on))] [] S 0 0
  refine am_iload_n (I := iX6_way) (pc := 0) dX6_way_0 rfl rfl ?_
  refine am_callS (I := iX6_way) (pc := 1) (st := []) lv_X6_207 rfl (m_needRoom K l _ a ha) dX6_way_1 rfl (Nat.le_of_ble_eq_true rfl) ⟨Nat.le_of_ble_eq_true rfl, Nat.le_of_ble_eq_true rfl⟩ (Nat.le_of_ble_eq_true rfl) (Nat.le_of_ble_eq_true rfl) rfl (fun v9 T9 z9 _ => ?_) (fun _ _ h9 => h9.elim)
  obtain ⟨rfl, rfl⟩ := z9
  show am_W _ _ _ _ _ _ _ _ _ _ _ _ _ _ _ 4 [some (.ref 1), some (.int (nI a)), some (.int (nI b)), some (.int (bI on))] [] S 0 0
  refine am_iload_n (I := iX6_way) (pc := 4) dX6_way_4 rfl rfl ?_
  refine am_callS (I := iX6_way) (pc := 5) (st := []) lv_X6_207 rfl (m_needRoom K l _ b hb) dX6_way_5 rfl (Nat.le_of_ble_eq_true rfl) ⟨Nat.le_of_ble_eq_true rfl, Nat.le_of_ble_eq_true rfl⟩ (Nat.le_of_ble_eq_true rfl) (Nat.le_of_ble_eq_true rfl) rfl (fun v9 T9 z9 _ => ?_) (fun _ _ h9 => h9.elim)
  obtain ⟨rfl, rfl⟩ := z9
  show am_W _ _ _ _ _ _ _ _ _ _ _ _ _ _ _ 8 [some (.ref 1), some (.int (nI a)), some (.int (nI b)), some (.int (bI on))] [] S 0 0
  refine am_iload_n (I := iX6_way) (pc := 8) dX6_way_8 rfl rfl ?_
  refine am_iload_n (I := iX6_way) (pc := 9) dX6_way_9 rfl rfl ?_
  refine am_icmp_ne (I := iX6_way) (pc := 10) (tgt := 23) dX6_way_10 (by decide) (fun c10 => ?_) (fun c10 => ?_)
  · refine am_aload_n (I := iX6_way) (pc := 23) dX6_way_23 rfl rfl ?_
    refine am_getf (I := iX6_way) (pc := 24) lf_X6_52 dX6_way_24 hx rfl ?_
    refine am_iload_n (I := iX6_way) (pc := 27) dX6_way_27 rfl rfl ?_
    refine am_iload_n (I := iX6_way) (pc := 28) dX6_way_28 rfl rfl ?_
    refine am_callV (I := iX6_way) (pc := 29) (st := []) lv_X6_212 (m_Rooms_areJoined K l _ 23 24 J wy a b hm ha) dX6_way_29 hm.1 rfl (Nat.le_of_ble_eq_true rfl) ⟨Nat.le_of_ble_eq_true rfl, Nat.le_of_ble_eq_true rfl⟩ (Nat.le_of_ble_eq_true rfl) (Nat.le_of_ble_eq_true rfl) rfl (fun v9 T9 z9 _ => ?_) (fun _ _ h9 => h9.elim)
    obtain ⟨rfl, rfl⟩ := z9
    show am_W _ _ _ _ _ _ _ _ _ _ _ _ _ _ _ 32 [some (.ref 1), some (.int (nI a)), some (.int (nI b)), some (.int (bI on))] [.int (jn J a b)] S 0 0
    refine am_iload_n (I := iX6_way) (pc := 32) dX6_way_32 rfl rfl ?_
    refine am_icmp_ne (I := iX6_way) (pc := 33) (tgt := 38) dX6_way_33 (by decide) (fun c33 => ?_) (fun c33 => ?_)
    · exact absurd hj c33
    · refine am_iconst (I := iX6_way) (pc := 36) (x := 0) dX6_way_36 (by decide) ?_
      exact am_zret (I := iX6_way) (pc := 37) dX6_way_37 rfl (by decide) (Nat.zero_le _) (Nat.zero_le _) (⟨rfl, rfl⟩)
  · exact absurd ((nI_eq (by omega) (by omega)).mp c10) hab
set_option maxRecDepth 100000 in
set_option maxHeartbeats 4000000 in
theorem p_way1 (K : am_K) (l : Launch) (S : am_S) (J : Nat → Int32) (wy : Int32) (a b : Nat) (on : Bool) (hx : S.1 1 = clx) (hm : rm S.1 23 24 J wy) (ha : a < 24) (hb : b < 24) (hab : ¬ a = b) (hj : ¬ jn J a b = bI on) : am_M K l iX6_way 8 2 82 [.ref 1, .int (nI a), .int (nI b), .int (bI on)] S (fun v S' => v = some (.int (1)) ∧ rmS S 23 24 (turnJ J a b) (turnW J wy a b) = S') (fun _ _ => False) := by
  refine am_body (by decide) rfl (by simp [Value.category]) (Nat.le_of_ble_eq_true rfl) (fun xp xe xs xm xa xb xt xc ad0 => ?_)
  show am_W _ _ _ _ _ _ _ _ _ _ _ _ _ _ _ 0 [some (.ref 1), some (.int (nI a)), some (.int (nI b)), some (.int (bI on))] [] S 0 0
  refine am_iload_n (I := iX6_way) (pc := 0) dX6_way_0 rfl rfl ?_
  refine am_callS (I := iX6_way) (pc := 1) (st := []) lv_X6_207 rfl (m_needRoom K l _ a ha) dX6_way_1 rfl (Nat.le_of_ble_eq_true rfl) ⟨Nat.le_of_ble_eq_true rfl, Nat.le_of_ble_eq_true rfl⟩ (Nat.le_of_ble_eq_true rfl) (Nat.le_of_ble_eq_true rfl) rfl (fun v9 T9 z9 _ => ?_) (fun _ _ h9 => h9.elim)
  obtain ⟨rfl, rfl⟩ := z9
  show am_W _ _ _ _ _ _ _ _ _ _ _ _ _ _ _ 4 [some (.ref 1), some (.int (nI a)), some (.int (nI b)), some (.int (bI on))] [] S 0 0
  refine am_iload_n (I := iX6_way) (pc := 4) dX6_way_4 rfl rfl ?_
  refine am_callS (I := iX6_way) (pc := 5) (st := []) lv_X6_207 rfl (m_needRoom K l _ b hb) dX6_way_5 rfl (Nat.le_of_ble_eq_true rfl) ⟨Nat.le_of_ble_eq_true rfl, Nat.le_of_ble_eq_true rfl⟩ (Nat.le_of_ble_eq_true rfl) (Nat.le_of_ble_eq_true rfl) rfl (fun v9 T9 z9 _ => ?_) (fun _ _ h9 => h9.elim)
  obtain ⟨rfl, rfl⟩ := z9
  show am_W _ _ _ _ _ _ _ _ _ _ _ _ _ _ _ 8 [some (.ref 1), some (.int (nI a)), some (.int (nI b)), some (.int (bI on))] [] S 0 0
  refine am_iload_n (I := iX6_way) (pc := 8) dX6_way_8 rfl rfl ?_
  refine am_iload_n (I := iX6_way) (pc := 9) dX6_way_9 rfl rfl ?_
  refine am_icmp_ne (I := iX6_way) (pc := 10) (tgt := 23) dX6_way_10 (by decide) (fun c10 => ?_) (fun c10 => ?_)
  · refine am_aload_n (I := iX6_way) (pc := 23) dX6_way_23 rfl rfl ?_
    refine am_getf (I := iX6_way) (pc := 24) lf_X6_52 dX6_way_24 hx rfl ?_
    refine am_iload_n (I := iX6_way) (pc := 27) dX6_way_27 rfl rfl ?_
    refine am_iload_n (I := iX6_way) (pc := 28) dX6_way_28 rfl rfl ?_
    refine am_callV (I := iX6_way) (pc := 29) (st := []) lv_X6_212 (m_Rooms_areJoined K l _ 23 24 J wy a b hm ha) dX6_way_29 hm.1 rfl (Nat.le_of_ble_eq_true rfl) ⟨Nat.le_of_ble_eq_true rfl, Nat.le_of_ble_eq_true rfl⟩ (Nat.le_of_ble_eq_true rfl) (Nat.le_of_ble_eq_true rfl) rfl (fun v9 T9 z9 _ => ?_) (fun _ _ h9 => h9.elim)
    obtain ⟨rfl, rfl⟩ := z9
    show am_W _ _ _ _ _ _ _ _ _ _ _ _ _ _ _ 32 [some (.ref 1), some (.int (nI a)), some (.int (nI b)), some (.int (bI on))] [.int (jn J a b)] S 0 0
    refine am_iload_n (I := iX6_way) (pc := 32) dX6_way_32 rfl rfl ?_
    refine am_icmp_ne (I := iX6_way) (pc := 33) (tgt := 38) dX6_way_33 (by decide) (fun c33 => ?_) (fun c33 => ?_)
    · refine am_aload_n (I := iX6_way) (pc := 38) dX6_way_38 rfl rfl ?_
      refine am_getf (I := iX6_way) (pc := 39) lf_X6_52 dX6_way_39 hx rfl ?_
      refine am_iload_n (I := iX6_way) (pc := 42) dX6_way_42 rfl rfl ?_
      refine am_iload_n (I := iX6_way) (pc := 43) dX6_way_43 rfl rfl ?_
      refine am_callV (I := iX6_way) (pc := 44) (st := []) lv_X6_215 (m_Rooms_turn K l _ 23 24 J wy a b hm ha hb) dX6_way_44 hm.1 rfl (Nat.le_of_ble_eq_true rfl) ⟨Nat.le_of_ble_eq_true rfl, Nat.le_of_ble_eq_true rfl⟩ (Nat.le_of_ble_eq_true rfl) (Nat.le_of_ble_eq_true rfl) rfl (fun v9 T9 z9 _ => ?_) (fun _ _ h9 => h9.elim)
      obtain ⟨rfl, eT9⟩ := z9
      show am_W _ _ _ _ _ _ _ _ _ _ _ _ _ _ _ 47 [some (.ref 1), some (.int (nI a)), some (.int (nI b)), some (.int (bI on))] [] T9 0 0
      refine am_iconst (I := iX6_way) (pc := 47) (x := 1) dX6_way_47 (by decide) ?_
      exact am_zret (I := iX6_way) (pc := 48) dX6_way_48 rfl (by decide) (Nat.zero_le _) (Nat.zero_le _) (⟨rfl, eT9⟩)
    · exact absurd c33 hj
  · exact absurd ((nI_eq (by omega) (by omega)).mp c10) hab
set_option maxRecDepth 100000 in
set_option maxHeartbeats 4000000 in
theorem p_arrow_s (K : am_K) (l : Launch) (S : am_S) (a : Nat) (hx : S.1 1 = clx) (ha : a < 24) : am_M K l iX6_arrow 8 2 82 [.ref 1, .int (nI a), .int (nI a)] S (fun v S' => v = some (.int (nI a)) ∧ S = S') (fun _ _ => False) := by
  refine am_body (by decide) rfl (by simp [Value.category]) (Nat.le_of_ble_eq_true rfl) (fun xp xe xs xm xa xb xt xc ad0 => ?_)
  show am_W _ _ _ _ _ _ _ _ _ _ _ _ _ _ _ 0 [some (.ref 1), some (.int (nI a)), some (.int (nI a))] [] S 0 0
  refine am_iload_n (I := iX6_arrow) (pc := 0) dX6_arrow_0 rfl rfl ?_
  refine am_callS (I := iX6_arrow) (pc := 1) (st := []) lv_X6_207 rfl (m_needRoom K l _ a ha) dX6_arrow_1 rfl (Nat.le_of_ble_eq_true rfl) ⟨Nat.le_of_ble_eq_true rfl, Nat.le_of_ble_eq_true rfl⟩ (Nat.le_of_ble_eq_true rfl) (Nat.le_of_ble_eq_true rfl) rfl (fun v9 T9 z9 _ => ?_) (fun _ _ h9 => h9.elim)
  obtain ⟨rfl, rfl⟩ := z9
  show am_W _ _ _ _ _ _ _ _ _ _ _ _ _ _ _ 4 [some (.ref 1), some (.int (nI a)), some (.int (nI a))] [] S 0 0
  refine am_iload_n (I := iX6_arrow) (pc := 4) dX6_arrow_4 rfl rfl ?_
  refine am_callS (I := iX6_arrow) (pc := 5) (st := []) lv_X6_207 rfl (m_needRoom K l _ a ha) dX6_arrow_5 rfl (Nat.le_of_ble_eq_true rfl) ⟨Nat.le_of_ble_eq_true rfl, Nat.le_of_ble_eq_true rfl⟩ (Nat.le_of_ble_eq_true rfl) (Nat.le_of_ble_eq_true rfl) rfl (fun v9 T9 z9 _ => ?_) (fun _ _ h9 => h9.elim)
  obtain ⟨rfl, rfl⟩ := z9
  show am_W _ _ _ _ _ _ _ _ _ _ _ _ _ _ _ 8 [some (.ref 1), some (.int (nI a)), some (.int (nI a))] [] S 0 0
  refine am_iload_n (I := iX6_arrow) (pc := 8) dX6_arrow_8 rfl rfl ?_
  refine am_iload_n (I := iX6_arrow) (pc := 9) dX6_arrow_9 rfl rfl ?_
  refine am_icmp_ne (I := iX6_arrow) (pc := 10) (tgt := 17) dX6_arrow_10 (by decide) (fun c10 => ?_) (fun c10 => ?_)
  · exact absurd rfl c10
  · refine am_iload_n (I := iX6_arrow) (pc := 13) dX6_arrow_13 rfl rfl ?_
    refine am_goto (I := iX6_arrow) (pc := 14) (tgt := 26) dX6_arrow_14 (by decide) ?_
    exact am_iret (I := iX6_arrow) (pc := 26) dX6_arrow_26 rfl (Nat.zero_le _) (Nat.zero_le _) (⟨rfl, rfl⟩)
set_option maxRecDepth 100000 in
set_option maxHeartbeats 4000000 in
theorem p_arrow (K : am_K) (l : Launch) (S : am_S) (J : Nat → Int32) (wy : Int32) (a b : Nat) (hx : S.1 1 = clx) (hm : rm S.1 23 24 J wy) (ha : a < 24) (hb : b < 24) (hab : ¬ a = b) : am_M K l iX6_arrow 8 2 82 [.ref 1, .int (nI a), .int (nI b)] S (fun v S' => v = some (.int (nr J a 24 0 (pw b))) ∧ S = S') (fun _ _ => False) := by
  refine am_body (by decide) rfl (by simp [Value.category]) (Nat.le_of_ble_eq_true rfl) (fun xp xe xs xm xa xb xt xc ad0 => ?_)
  show am_W _ _ _ _ _ _ _ _ _ _ _ _ _ _ _ 0 [some (.ref 1), some (.int (nI a)), some (.int (nI b))] [] S 0 0
  refine am_iload_n (I := iX6_arrow) (pc := 0) dX6_arrow_0 rfl rfl ?_
  refine am_callS (I := iX6_arrow) (pc := 1) (st := []) lv_X6_207 rfl (m_needRoom K l _ a ha) dX6_arrow_1 rfl (Nat.le_of_ble_eq_true rfl) ⟨Nat.le_of_ble_eq_true rfl, Nat.le_of_ble_eq_true rfl⟩ (Nat.le_of_ble_eq_true rfl) (Nat.le_of_ble_eq_true rfl) rfl (fun v9 T9 z9 _ => ?_) (fun _ _ h9 => h9.elim)
  obtain ⟨rfl, rfl⟩ := z9
  show am_W _ _ _ _ _ _ _ _ _ _ _ _ _ _ _ 4 [some (.ref 1), some (.int (nI a)), some (.int (nI b))] [] S 0 0
  refine am_iload_n (I := iX6_arrow) (pc := 4) dX6_arrow_4 rfl rfl ?_
  refine am_callS (I := iX6_arrow) (pc := 5) (st := []) lv_X6_207 rfl (m_needRoom K l _ b hb) dX6_arrow_5 rfl (Nat.le_of_ble_eq_true rfl) ⟨Nat.le_of_ble_eq_true rfl, Nat.le_of_ble_eq_true rfl⟩ (Nat.le_of_ble_eq_true rfl) (Nat.le_of_ble_eq_true rfl) rfl (fun v9 T9 z9 _ => ?_) (fun _ _ h9 => h9.elim)
  obtain ⟨rfl, rfl⟩ := z9
  show am_W _ _ _ _ _ _ _ _ _ _ _ _ _ _ _ 8 [some (.ref 1), some (.int (nI a)), some (.int (nI b))] [] S 0 0
  refine am_iload_n (I := iX6_arrow) (pc := 8) dX6_arrow_8 rfl rfl ?_
  refine am_iload_n (I := iX6_arrow) (pc := 9) dX6_arrow_9 rfl rfl ?_
  refine am_icmp_ne (I := iX6_arrow) (pc := 10) (tgt := 17) dX6_arrow_10 (by decide) (fun c10 => ?_) (fun c10 => ?_)
  · refine am_aload_n (I := iX6_arrow) (pc := 17) dX6_arrow_17 rfl rfl ?_
    refine am_getf (I := iX6_arrow) (pc := 18) lf_X6_52 dX6_arrow_18 hx rfl ?_
    refine am_iload_n (I := iX6_arrow) (pc := 21) dX6_arrow_21 rfl rfl ?_
    refine am_iload_n (I := iX6_arrow) (pc := 22) dX6_arrow_22 rfl rfl ?_
    refine am_callV (I := iX6_arrow) (pc := 23) (st := []) lv_X6_218 (m_Rooms_nextRoom K l _ 23 24 J wy a b hm ha) dX6_arrow_23 hm.1 rfl (Nat.le_of_ble_eq_true rfl) ⟨Nat.le_of_ble_eq_true rfl, Nat.le_of_ble_eq_true rfl⟩ (Nat.le_of_ble_eq_true rfl) (Nat.le_of_ble_eq_true rfl) rfl (fun v9 T9 z9 _ => ?_) (fun _ _ h9 => h9.elim)
    obtain ⟨rfl, rfl⟩ := z9
    show am_W _ _ _ _ _ _ _ _ _ _ _ _ _ _ _ 26 [some (.ref 1), some (.int (nI a)), some (.int (nI b))] [.int (nr J a 24 0 (pw b))] S 0 0
    exact am_iret (I := iX6_arrow) (pc := 26) dX6_arrow_26 rfl (Nat.zero_le _) (Nat.zero_le _) (⟨rfl, rfl⟩)
  · exact absurd ((nI_eq (by omega) (by omega)).mp c10) hab
set_option maxRecDepth 100000 in
set_option maxHeartbeats 4000000 in
theorem p_count0 (K : am_K) (l : Launch) (S : am_S) (f : Nat → Int32) (n : Nat) (hx : S.1 1 = clx) (hr : rw S.1 2 3 80 f n) : am_M K l iX6_count 8 2 82 [.ref 1, .int 0] S (fun v S' => v = some (.int (nI n)) ∧ S = S') (fun _ _ => False) := by
  refine am_body (by decide) rfl (by simp [Value.category]) (Nat.le_of_ble_eq_true rfl) (fun xp xe xs xm xa xb xt xc ad0 => ?_)
  show am_W _ _ _ _ _ _ _ _ _ _ _ _ _ _ _ 0 [some (.ref 1), some (.int 0)] [] S 0 0
  refine am_iload_n (I := iX6_count) (pc := 0) dX6_count_0 rfl rfl ?_
  refine am_tableIn (I := iX6_count) (pc := 1) (off := 39) (tgt := 40) dX6_count_1 (by decide) (by decide) (by decide) (by decide) ?_
  refine am_aload_n (I := iX6_count) (pc := 40) dX6_count_40 rfl rfl ?_
  refine am_getf (I := iX6_count) (pc := 41) lf_X6_14 dX6_count_41 hx rfl ?_
  refine am_callV (I := iX6_count) (pc := 44) (st := []) lv_X6_56 (m_Row_length K l _ 2 3 80 f n hr) dX6_count_44 hr.1 rfl (Nat.le_of_ble_eq_true rfl) ⟨Nat.le_of_ble_eq_true rfl, Nat.le_of_ble_eq_true rfl⟩ (Nat.le_of_ble_eq_true rfl) (Nat.le_of_ble_eq_true rfl) rfl (fun v9 T9 z9 _ => ?_) (fun _ _ h9 => h9.elim)
  obtain ⟨rfl, rfl⟩ := z9
  show am_W _ _ _ _ _ _ _ _ _ _ _ _ _ _ _ 47 [some (.ref 1), some (.int 0)] [.int (nI n)] S 0 0
  exact am_iret (I := iX6_count) (pc := 47) dX6_count_47 rfl (Nat.zero_le _) (Nat.zero_le _) (⟨rfl, rfl⟩)
set_option maxRecDepth 100000 in
set_option maxHeartbeats 4000000 in
theorem p_count1 (K : am_K) (l : Launch) (S : am_S) (VR : Nat → Option Nat) (cn : Nat → Nat) (fb : Nat → Option Nat) (tot : Int32) (hx : S.1 1 = clx) (hc : cp S.1 4 5 6 7 VR cn fb tot) : am_M K l iX6_count 8 2 82 [.ref 1, .int 1] S (fun v S' => v = some (.int (tot)) ∧ S = S') (fun _ _ => False) := by
  refine am_body (by decide) rfl (by simp [Value.category]) (Nat.le_of_ble_eq_true rfl) (fun xp xe xs xm xa xb xt xc ad0 => ?_)
  show am_W _ _ _ _ _ _ _ _ _ _ _ _ _ _ _ 0 [some (.ref 1), some (.int 1)] [] S 0 0
  refine am_iload_n (I := iX6_count) (pc := 0) dX6_count_0 rfl rfl ?_
  refine am_tableIn (I := iX6_count) (pc := 1) (off := 47) (tgt := 48) dX6_count_1 (by decide) (by decide) (by decide) (by decide) ?_
  refine am_aload_n (I := iX6_count) (pc := 48) dX6_count_48 rfl rfl ?_
  refine am_getf (I := iX6_count) (pc := 49) lf_X6_21 dX6_count_49 hx rfl ?_
  refine am_callV (I := iX6_count) (pc := 52) (st := []) lv_X6_221 (m_Capt_total K l _ 4 5 6 7 VR cn fb tot hc) dX6_count_52 hc.1 rfl (Nat.le_of_ble_eq_true rfl) ⟨Nat.le_of_ble_eq_true rfl, Nat.le_of_ble_eq_true rfl⟩ (Nat.le_of_ble_eq_true rfl) (Nat.le_of_ble_eq_true rfl) rfl (fun v9 T9 z9 _ => ?_) (fun _ _ h9 => h9.elim)
  obtain ⟨rfl, rfl⟩ := z9
  show am_W _ _ _ _ _ _ _ _ _ _ _ _ _ _ _ 55 [some (.ref 1), some (.int 1)] [.int tot] S 0 0
  exact am_iret (I := iX6_count) (pc := 55) dX6_count_55 rfl (Nat.zero_le _) (Nat.zero_le _) (⟨rfl, rfl⟩)
set_option maxRecDepth 100000 in
set_option maxHeartbeats 4000000 in
theorem p_count2 (K : am_K) (l : Launch) (S : am_S) (CR : Nat → Option Nat) (sz : Nat → Nat) (lt : Nat → Nat → Int32) (ra rb : Nat → Nat) (ctot : Int32) (hx : S.1 1 = clx) (hct : ct S.1 15 16 CR sz lt ra rb ctot) : am_M K l iX6_count 8 2 82 [.ref 1, .int 2] S (fun v S' => v = some (.int (ctot)) ∧ S = S') (fun _ _ => False) := by
  refine am_body (by decide) rfl (by simp [Value.category]) (Nat.le_of_ble_eq_true rfl) (fun xp xe xs xm xa xb xt xc ad0 => ?_)
  show am_W _ _ _ _ _ _ _ _ _ _ _ _ _ _ _ 0 [some (.ref 1), some (.int 2)] [] S 0 0
  refine am_iload_n (I := iX6_count) (pc := 0) dX6_count_0 rfl rfl ?_
  refine am_tableIn (I := iX6_count) (pc := 1) (off := 55) (tgt := 56) dX6_count_1 (by decide) (by decide) (by decide) (by decide) ?_
  refine am_aload_n (I := iX6_count) (pc := 56) dX6_count_56 rfl rfl ?_
  refine am_getf (I := iX6_count) (pc := 57) lf_X6_35 dX6_count_57 hx rfl ?_
  refine am_callV (I := iX6_count) (pc := 60) (st := []) lv_X6_222 (m_Con_total K l _ 15 16 CR sz lt ra rb ctot hct) dX6_count_60 hct.1 rfl (Nat.le_of_ble_eq_true rfl) ⟨Nat.le_of_ble_eq_true rfl, Nat.le_of_ble_eq_true rfl⟩ (Nat.le_of_ble_eq_true rfl) (Nat.le_of_ble_eq_true rfl) rfl (fun v9 T9 z9 _ => ?_) (fun _ _ h9 => h9.elim)
  obtain ⟨rfl, rfl⟩ := z9
  show am_W _ _ _ _ _ _ _ _ _ _ _ _ _ _ _ 63 [some (.ref 1), some (.int 2)] [.int ctot] S 0 0
  exact am_iret (I := iX6_count) (pc := 63) dX6_count_63 rfl (Nat.zero_le _) (Nat.zero_le _) (⟨rfl, rfl⟩)
set_option maxRecDepth 100000 in
set_option maxHeartbeats 4000000 in
theorem p_count3 (K : am_K) (l : Launch) (S : am_S) (fx fy fr : Nat → Int32) (z : Nat) (hx : S.1 1 = clx) (hz : zn S.1 19 20 21 22 fx fy fr z) : am_M K l iX6_count 8 2 82 [.ref 1, .int 3] S (fun v S' => v = some (.int (nI z)) ∧ S = S') (fun _ _ => False) := by
  refine am_body (by decide) rfl (by simp [Value.category]) (Nat.le_of_ble_eq_true rfl) (fun xp xe xs xm xa xb xt xc ad0 => ?_)
  show am_W _ _ _ _ _ _ _ _ _ _ _ _ _ _ _ 0 [some (.ref 1), some (.int 3)] [] S 0 0
  refine am_iload_n (I := iX6_count) (pc := 0) dX6_count_0 rfl rfl ?_
  refine am_tableIn (I := iX6_count) (pc := 1) (off := 63) (tgt := 64) dX6_count_1 (by decide) (by decide) (by decide) (by decide) ?_
  refine am_aload_n (I := iX6_count) (pc := 64) dX6_count_64 rfl rfl ?_
  refine am_getf (I := iX6_count) (pc := 65) lf_X6_45 dX6_count_65 hx rfl ?_
  refine am_callV (I := iX6_count) (pc := 68) (st := []) lv_X6_188 (m_Zones_total K l _ 19 20 21 22 fx fy fr z hz) dX6_count_68 hz.1 rfl (Nat.le_of_ble_eq_true rfl) ⟨Nat.le_of_ble_eq_true rfl, Nat.le_of_ble_eq_true rfl⟩ (Nat.le_of_ble_eq_true rfl) (Nat.le_of_ble_eq_true rfl) rfl (fun v9 T9 z9 _ => ?_) (fun _ _ h9 => h9.elim)
  obtain ⟨rfl, rfl⟩ := z9
  show am_W _ _ _ _ _ _ _ _ _ _ _ _ _ _ _ 71 [some (.ref 1), some (.int 3)] [.int (nI z)] S 0 0
  exact am_iret (I := iX6_count) (pc := 71) dX6_count_71 rfl (Nat.zero_le _) (Nat.zero_le _) (⟨rfl, rfl⟩)
set_option maxRecDepth 100000 in
set_option maxHeartbeats 4000000 in
theorem p_count4 (K : am_K) (l : Launch) (S : am_S) (J : Nat → Int32) (wy : Int32) (hx : S.1 1 = clx) (hm : rm S.1 23 24 J wy) : am_M K l iX6_count 8 2 82 [.ref 1, .int 4] S (fun v S' => v = some (.int (wy)) ∧ S = S') (fun _ _ => False) := by
  refine am_body (by decide) rfl (by simp [Value.category]) (Nat.le_of_ble_eq_true rfl) (fun xp xe xs xm xa xb xt xc ad0 => ?_)
  show am_W _ _ _ _ _ _ _ _ _ _ _ _ _ _ _ 0 [some (.ref 1), some (.int 4)] [] S 0 0
  refine am_iload_n (I := iX6_count) (pc := 0) dX6_count_0 rfl rfl ?_
  refine am_tableIn (I := iX6_count) (pc := 1) (off := 71) (tgt := 72) dX6_count_1 (by decide) (by decide) (by decide) (by decide) ?_
  refine am_aload_n (I := iX6_count) (pc := 72) dX6_count_72 rfl rfl ?_
  refine am_getf (I := iX6_count) (pc := 73) lf_X6_52 dX6_count_73 hx rfl ?_
  refine am_callV (I := iX6_count) (pc := 76) (st := []) lv_X6_223 (m_Rooms_wayCount K l _ 23 24 J wy hm) dX6_count_76 hm.1 rfl (Nat.le_of_ble_eq_true rfl) ⟨Nat.le_of_ble_eq_true rfl, Nat.le_of_ble_eq_true rfl⟩ (Nat.le_of_ble_eq_true rfl) (Nat.le_of_ble_eq_true rfl) rfl (fun v9 T9 z9 _ => ?_) (fun _ _ h9 => h9.elim)
  obtain ⟨rfl, rfl⟩ := z9
  show am_W _ _ _ _ _ _ _ _ _ _ _ _ _ _ _ 79 [some (.ref 1), some (.int 4)] [.int wy] S 0 0
  exact am_iret (I := iX6_count) (pc := 79) dX6_count_79 rfl (Nat.zero_le _) (Nat.zero_le _) (⟨rfl, rfl⟩)
set_option maxRecDepth 100000 in
set_option maxHeartbeats 4000000 in
theorem p_count5 (K : am_K) (l : Launch) (S : am_S) (cf : Nat → Int32) (cm : Nat) (hx : S.1 1 = clx) (hcl : rw S.1 17 18 80 cf cm) : am_M K l iX6_count 8 2 82 [.ref 1, .int 5] S (fun v S' => v = some (.int (nI cm)) ∧ S = S') (fun _ _ => False) := by
  refine am_body (by decide) rfl (by simp [Value.category]) (Nat.le_of_ble_eq_true rfl) (fun xp xe xs xm xa xb xt xc ad0 => ?_)
  show am_W _ _ _ _ _ _ _ _ _ _ _ _ _ _ _ 0 [some (.ref 1), some (.int 5)] [] S 0 0
  refine am_iload_n (I := iX6_count) (pc := 0) dX6_count_0 rfl rfl ?_
  refine am_tableIn (I := iX6_count) (pc := 1) (off := 79) (tgt := 80) dX6_count_1 (by decide) (by decide) (by decide) (by decide) ?_
  refine am_aload_n (I := iX6_count) (pc := 80) dX6_count_80 rfl rfl ?_
  refine am_getf (I := iX6_count) (pc := 81) lf_X6_39 dX6_count_81 hx rfl ?_
  refine am_callV (I := iX6_count) (pc := 84) (st := []) lv_X6_56 (m_Row_length K l _ 17 18 80 cf cm hcl) dX6_count_84 hcl.1 rfl (Nat.le_of_ble_eq_true rfl) ⟨Nat.le_of_ble_eq_true rfl, Nat.le_of_ble_eq_true rfl⟩ (Nat.le_of_ble_eq_true rfl) (Nat.le_of_ble_eq_true rfl) rfl (fun v9 T9 z9 _ => ?_) (fun _ _ h9 => h9.elim)
  obtain ⟨rfl, rfl⟩ := z9
  show am_W _ _ _ _ _ _ _ _ _ _ _ _ _ _ _ 87 [some (.ref 1), some (.int 5)] [.int (nI cm)] S 0 0
  exact am_iret (I := iX6_count) (pc := 87) dX6_count_87 rfl (Nat.zero_le _) (Nat.zero_le _) (⟨rfl, rfl⟩)
set_option maxRecDepth 100000 in
set_option maxHeartbeats 4000000 in
theorem p_count_x0 (K : am_K) (l : Launch) (S : am_S) (x : Int32) (hx : S.1 1 = clx) (hb : x.toInt < 0 ∨ 5 < x.toInt) : am_M K l iX6_count 8 2 82 [.ref 1, .int x] S (fun v S' => False) (fun j S' => j = 0 ∧ S = S') := by
  refine am_body (by decide) rfl (by simp [Value.category]) (Nat.le_of_ble_eq_true rfl) (fun xp xe xs xm xa xb xt xc ad0 => ?_)
  show am_W _ _ _ _ _ _ _ _ _ _ _ _ _ _ _ 0 [some (.ref 1), some (.int x)] [] S 0 0
  refine am_iload_n (I := iX6_count) (pc := 0) dX6_count_0 rfl rfl ?_
  refine am_tableOut (I := iX6_count) (pc := 1) (tgt := 88) dX6_count_1 hb (by decide) ?_
  exact am_throw (I := iX6_count) (pc := 88) lt_X6_118_226_122 rfl dX6_count_88 dX6_count_91 dX6_count_92 dX6_count_94 dX6_count_97 (Nat.le_of_ble_eq_true rfl) (Nat.le_of_ble_eq_true rfl) (Nat.le_of_ble_eq_true rfl) (Nat.le_of_ble_eq_true rfl) (Nat.le_of_ble_eq_true rfl) (Nat.le_of_ble_eq_true rfl) (⟨rfl, rfl⟩)
