/-! ROOMS: bits -/
def gb (x : Int32) (i : Nat) : Bool := x.toBitVec.getLsbD i
theorem gb_or (x y : Int32) (i : Nat) : gb (x ||| y) i = (gb x i || gb y i) := by unfold gb; rw [Int32.toBitVec_or, BitVec.getLsbD_or]
theorem gb_and (x y : Int32) (i : Nat) : gb (x &&& y) i = (gb x i && gb y i) := by unfold gb; rw [Int32.toBitVec_and, BitVec.getLsbD_and]
theorem gb_xor (x y : Int32) (i : Nat) : gb (x ^^^ y) i = (gb x i ^^ gb y i) := by unfold gb; rw [Int32.toBitVec_xor, BitVec.getLsbD_xor]
theorem gb_0 (i : Nat) : gb 0 i = false := BitVec.getLsbD_zero
theorem gb_m1 : ∀ i, i < 32 → gb (-1) i = true := by decide +kernel
theorem pw_bv : ∀ l, l < 32 → (pw l).toBitVec = BitVec.twoPow 32 l := by decide +kernel
theorem pw_tp : ∀ l, l < 32 → BitVec.twoPow 32 l ≠ 0#32 := by decide +kernel
theorem gb_pw {i j : Nat} (hi : i < 32) : gb (pw i) j = decide (i = j) := by
  unfold gb
  rw [pw_bv i hi, BitVec.getLsbD_twoPow, decide_eq_true hi, Bool.true_and]
theorem gb_ext {x y : Int32} (h : ∀ i, i < 32 → gb x i = gb y i) : x = y := Int32.toBitVec_inj.mp (BitVec.eq_of_getLsbD_eq (fun i hi => h i hi))
theorem and_pw {x : Int32} {b : Nat} (hb : b < 32) : x &&& pw b = 0 ↔ gb x b = false := by
  constructor
  · intro h
    have h1 := gb_and x (pw b) b
    rw [h, gb_0, gb_pw hb, decide_eq_true rfl, Bool.and_true] at h1
    exact h1.symm
  · intro h
    refine gb_ext (fun i hi => ?_)
    rw [gb_and, gb_pw hb, gb_0]
    by_cases e : b = i
    · rw [← e, h]; rfl
    · rw [decide_eq_false e, Bool.and_false]
theorem jn_gb {J : Nat → Int32} {a b : Nat} (hb : b < 32) : jn J a b = bI (gb (J a) b) := by
  unfold jn
  by_cases h : J a &&& pw b = 0
  · rw [if_pos h, (and_pw hb).mp h]; rfl
  · rw [if_neg h]
    cases e : gb (J a) b with
    | true => rfl
    | false => exact absurd ((and_pw hb).mpr e) h
theorem bI_inj {x y : Bool} (h : bI x = bI y) : x = y := by
  cases x <;> cases y <;> first | rfl | exact absurd h (by decide)
theorem turn_gb {J : Nat → Int32} {a b c d : Nat} (ha : a < 24) (hb : b < 24) (hab : ¬ a = b) : gb (turnJ J a b c) d = (gb (J c) d ^^ (decide (c = a) && decide (d = b) || decide (c = b) && decide (d = a))) := by
  unfold turnJ
  by_cases e1 : c = b
  · rw [e1, pk_us, pk_un (fun q => hab q.symm), gb_xor, gb_pw (by omega), decide_eq_false (show ¬ b = a from fun q => hab q.symm), decide_eq_true (show b = b from rfl), Bool.false_and, Bool.false_or, Bool.true_and]
    congr 1
    by_cases q : a = d
    · rw [decide_eq_true q, decide_eq_true q.symm]
    · rw [decide_eq_false q, decide_eq_false (fun z => q z.symm)]
  · rw [pk_un e1, decide_eq_false e1, Bool.false_and, Bool.or_false]
    by_cases e2 : c = a
    · rw [e2, pk_us, gb_xor, gb_pw (by omega), decide_eq_true rfl, Bool.true_and]
      congr 1
      by_cases q : b = d
      · rw [decide_eq_true q, decide_eq_true q.symm]
      · rw [decide_eq_false q, decide_eq_false (fun z => q z.symm)]
    · rw [pk_un e2, decide_eq_false e2, Bool.false_and, Bool.xor_false]
theorem cnt_one {p q : Nat → Bool} {i : Nat} (hp : p i = false) (hq : q i = true) (h : ∀ j, j ≠ i → p j = q j) : ∀ n, i < n → cnt q n = cnt p n + 1
  | 0, h0 => absurd h0 (Nat.not_lt_zero _)
  | n + 1, h0 => by
    rcases Nat.lt_or_ge i n with c | c
    · rw [cnt, cnt, h n (by omega), cnt_one hp hq h n c]
      split <;> omega
    · have e : i = n := by omega
      subst e
      rw [cnt_s hq, cnt_n hp, cnt_congr (fun j hj => h j (by omega))]
/-- the ways behind a turn -/
theorem ways_cnt {W : Nat → Int32} {a b : Nat} {on : Bool} (ha : a < 24) (hb : b < 24) (hab : ¬ a = b) (h1 : W (24 * a + b) = bI (!on)) (h2 : W (24 * b + a) = bI (!on)) : nI (cnt (wyp (upd (upd W (24 * a + b) (bI on)) (24 * b + a) (bI on))) 576) = nI (cnt (wyp W) 576) + (if on then 1 else -1) := by
  have hlo : ∃ i, (i = 24 * a + b ∨ i = 24 * b + a) ∧ i / 24 < i % 24 ∧ i < 576 ∧ ∀ j, (j = 24 * a + b ∨ j = 24 * b + a) → j ≠ i → ¬ j / 24 < j % 24 := by
    rcases Nat.lt_or_ge a b with q | q
    · exact ⟨24 * a + b, Or.inl rfl, by omega, by omega, fun j hj hn => by omega⟩
    · exact ⟨24 * b + a, Or.inr rfl, by omega, by omega, fun j hj hn => by omega⟩
  obtain ⟨i, hi, hlt, hi5, hoth⟩ := hlo
  have hn : ∀ j, ¬ (j = 24 * a + b ∨ j = 24 * b + a) → upd (upd W (24 * a + b) (bI on)) (24 * b + a) (bI on) j = W j := fun j hj => by
    rw [pk_un (fun q => hj (Or.inr q)), pk_un (fun q => hj (Or.inl q))]
  have hy : ∀ j, (j = 24 * a + b ∨ j = 24 * b + a) → upd (upd W (24 * a + b) (bI on)) (24 * b + a) (bI on) j = bI on ∧ W j = bI (!on) := fun j hj => by
    rcases hj with rfl | rfl
    · exact ⟨by rw [pk_un (by omega), pk_us], h1⟩
    · exact ⟨by rw [pk_us], h2⟩
  have hsame : ∀ j, j ≠ i → wyp (upd (upd W (24 * a + b) (bI on)) (24 * b + a) (bI on)) j = wyp W j := fun j hj => by
    unfold wyp
    by_cases c : j = 24 * a + b ∨ j = 24 * b + a
    · rw [decide_eq_false (hoth j c hj), Bool.and_false, Bool.and_false]
    · rw [hn j c]
  obtain ⟨y1, y2⟩ := hy i hi
  have w1 : wyp (upd (upd W (24 * a + b) (bI on)) (24 * b + a) (bI on)) i = on := by
    unfold wyp; rw [y1, decide_eq_true hlt, Bool.and_true]; cases on <;> decide
  have w2 : wyp W i = !on := by
    unfold wyp; rw [y2, decide_eq_true hlt, Bool.and_true]; cases on <;> decide
  cases on with
  | true =>
    rw [cnt_one w2 w1 (fun j hj => (hsame j hj).symm) 576 hi5]
    show nI _ = nI _ + 1
    rw [nI_1]
  | false =>
    rw [cnt_one w1 w2 hsame 576 hi5]
    show nI _ = nI (_ + 1) + (-1)
    rw [add_m1, nI_pred]
theorem rmS_at {S : am_S} {a j z : Nat} {J : Nat → Int32} {wy : Int32} (h1 : z ≠ a) (h2 : z ≠ j) : (rmS S a j J wy).1 z = S.1 z := (am_up_n h1).trans (am_up_n h2)
theorem st_way {K : am_K} {l : Launch} {S : am_S} {th : Int32} {o : Nat → Int64} (hI : Inv th o S) (x y : Int32) (on : Bool) : Cst K l S iL_way [.ref 1, .int x, .int y, .int (bI on), .ref 45] iX7_way 1 [.ref 25, .int x, .int y, .int (bI on)] := by
  obtain ⟨pd, wd, ln, sq, st, ct, cl, ft, zn, a26, a27, a28, a29, a30, a31, a32, a33, a34, a35, a36, a37, a38, a39, a40, a41, a42, a43, a44, hS, h45, hv⟩ := hI
  obtain ⟨h1, hP, hC, hT, hF, hZ, hR⟩ := id hv
  obtain ⟨J, hm, hJ, hJ0, hJ3⟩ := id hR
  rcases pk_ix x (n := 24) (by decide) with h | h | ⟨a, ha, rfl⟩
  · exact Cst_x hS h45 hv (w_way_x0 K l S x y (bI on) _ h1 (p_way_a0 K l S x y on h1 (Or.inl h))) (q_way_x0 x y (bI on) (Or.inl (Or.inl h))) (by decide)
  · exact Cst_x hS h45 hv (w_way_x0 K l S x y (bI on) _ h1 (p_way_a0 K l S x y on h1 (Or.inr h))) (q_way_x0 x y (bI on) (Or.inl (Or.inr h))) (by decide)
  · rcases pk_ix y (n := 24) (by decide) with h | h | ⟨b, hb, rfl⟩
    · exact Cst_x hS h45 hv (w_way_x0 K l S (nI a) y (bI on) _ h1 (p_way_b0 K l S a y on h1 ha (Or.inl h))) (q_way_x0 (nI a) y (bI on) (Or.inr (Or.inl h))) (by decide)
    · exact Cst_x hS h45 hv (w_way_x0 K l S (nI a) y (bI on) _ h1 (p_way_b0 K l S a y on h1 ha (Or.inr h))) (q_way_x0 (nI a) y (bI on) (Or.inr (Or.inr h))) (by decide)
    · by_cases hab : a = b
      · subst hab
        exact Cst_x hS h45 hv (w_way_x2 K l S (nI a) (nI a) (bI on) _ h1 (p_way_x2 K l S a on h1 ha)) (q_way_x2 a (bI on) ha) (by decide)
      · obtain ⟨j1, j2⟩ := hJ a b ha hb
        by_cases hj : jn J a b = bI on
        · have e1 : a43 (24 * a + b) = bI on := j1.trans hj
          have e2 : a43 (24 * b + a) = bI on := ((hJ b a hb ha).1.trans j2.symm).trans hj
          have e3 : upd (upd a43 (24 * a + b) (bI on)) (24 * b + a) (bI on) = a43 := by
            rw [← e1, upd_id, e1, ← e2, upd_id]
          have hq := fun B : am_S => q_way (K := K) (l := l) (S := B) (th := th) (pd := pd) (wd := wd) (ln := ln) (sq := sq) (st := st) (ct := ct) (cl := cl) (ft := ft) (zn := zn) (a26 := a26) (a27 := a27) (a28 := a28) (a29 := a29) (a30 := a30) (a31 := a31) (a32 := a32) (a33 := a33) (a34 := a34) (a35 := a35) (a36 := a36) (a37 := a37) (a38 := a38) (a39 := a39) (a40 := a40) (a41 := a41) (a42 := a42) (a43 := a43) (a44 := a44) a b on on ha hb hab e1
          rw [e3, show (on != on) = false by cases on <;> rfl] at hq
          refine Cst_ok (S1 := S) hS (fun z _ _ => rfl) (w_way K l S o (nI a) (nI b) (bI on) false (fun S' => S = S') _ h1 (p_way0 K l S J _ a b on h1 hm ha hb hab hj) (fun S' e9 => by rw [← e9]; exact h45)) (fun B => hq B) ?_
          exact hv
        · have e0 : jn J a b = bI (!on) := by
            rcases jn01 J a b with e | e <;> rw [e] at hj ⊢ <;> cases on <;> first | rfl | exact absurd rfl hj
          have e1 : a43 (24 * a + b) = bI (!on) := j1.trans e0
          have e2 : a43 (24 * b + a) = bI (!on) := ((hJ b a hb ha).1.trans j2.symm).trans e0
          have hcnt := ways_cnt ha hb hab e1 e2
          have hg0 : gb (J a) b = !on := bI_inj ((jn_gb (by omega)).symm.trans e0)
          have hg1 : gb (J b) a = !on := bI_inj ((jn_gb (by omega)).symm.trans (j2.symm.trans e0))
          refine Cst_ok (S1 := rmS S 23 24 (turnJ J a b) (turnW J (nI (cnt (wyp a43) 576)) a b)) hS (fun z _ _ => rmS_at (by omega) (by omega)) (w_way K l S o (nI a) (nI b) (bI on) true (fun S' => rmS S 23 24 (turnJ J a b) (turnW J (nI (cnt (wyp a43) 576)) a b) = S') _ h1 (p_way1 K l S J _ a b on h1 hm ha hb hab hj) (fun S' e9 => by rw [← e9]; exact (rmS_at (by decide) (by decide)).trans h45)) (fun B => by
            have hq := q_way (K := K) (l := l) (S := B) (th := th) (pd := pd) (wd := wd) (ln := ln) (sq := sq) (st := st) (ct := ct) (cl := cl) (ft := ft) (zn := zn) (a26 := a26) (a27 := a27) (a28 := a28) (a29 := a29) (a30 := a30) (a31 := a31) (a32 := a32) (a33 := a33) (a34 := a34) (a35 := a35) (a36 := a36) (a37 := a37) (a38 := a38) (a39 := a39) (a40 := a40) (a41 := a41) (a42 := a42) (a43 := a43) (a44 := a44) a b on (!on) ha hb hab e1
            rw [show ((!on) != on) = true by cases on <;> rfl] at hq
            exact hq) ?_
          refine ⟨(rmS_at (by decide) (by decide)).trans h1, CPad_keep (fun z _ _ _ => rmS_at (by omega) (by omega)) hP, CCap_keep (fun z _ _ => rmS_at (by omega) (by omega)) hC, CSet_keep (fun z _ _ _ => rmS_at (by omega) (by omega)) hT, CFin_keep (fun z _ _ => rmS_at (by omega) (by omega)) hF, CZon_keep (fun z _ _ _ => rmS_at (by omega) (by omega)) hZ, ⟨turnJ J a b, ?_, fun c d hc hd => ?_, fun c hc => ?_, fun c d hc hd hd2 => ?_⟩⟩
          · have hw : turnW J (nI (cnt (wyp a43) 576)) a b = nI (cnt (wyp (upd (upd a43 (24 * a + b) (bI on)) (24 * b + a) (bI on))) 576) := by
              rw [hcnt]
              unfold turnW
              rw [e0]
              cases on <;> rfl
            rw [← hw]
            exact rmS_rm hm
          · rw [jn_gb (by omega), jn_gb (by omega), turn_gb ha hb hab, turn_gb ha hb hab]
            have hcd := hJ c d hc hd
            have hdc : gb (J c) d = gb (J d) c := bI_inj (by rw [← jn_gb (by omega), ← jn_gb (by omega)]; exact hcd.2)
            have hW : a43 (24 * c + d) = bI (gb (J c) d) := hcd.1.trans (jn_gb (by omega))
            constructor
            · by_cases c1 : c = a ∧ d = b
              · obtain ⟨rfl, rfl⟩ := c1
                rw [pk_un (by omega), pk_us, hg0, decide_eq_true rfl, decide_eq_true rfl, Bool.true_and, Bool.true_or]
                cases on <;> rfl
              · by_cases c2 : c = b ∧ d = a
                · obtain ⟨rfl, rfl⟩ := c2
                  rw [pk_us, hg1, decide_eq_true rfl, decide_eq_true rfl, decide_eq_false (fun q => hab q.symm), Bool.false_and, Bool.true_and, Bool.false_or]
                  cases on <;> rfl
                · rw [pk_un (by omega), pk_un (by omega), hW]
                  have z1 : (decide (c = a) && decide (d = b)) = false := by rw [← Bool.decide_and]; exact decide_eq_false c1
                  have z2 : (decide (c = b) && decide (d = a)) = false := by rw [← Bool.decide_and]; exact decide_eq_false c2
                  rw [z1, z2, Bool.or_false, Bool.xor_false]
            · rw [hdc, Bool.and_comm (decide (c = a)), Bool.and_comm (decide (c = b)), Bool.or_comm]
          · have h0 := hJ0 c hc
            rw [jn_gb (by omega)] at h0 ⊢
            rw [turn_gb ha hb hab, bI_0 h0]
            have z1 : (decide (c = a) && decide (c = b)) = false := by rw [← Bool.decide_and]; exact decide_eq_false (fun q => hab (q.1.symm.trans q.2))
            rw [Bool.and_comm (decide (c = b)), z1]
            rfl
          · have h0 := hJ3 c d hc hd hd2
            rw [and_pw hd2] at h0 ⊢
            rw [turn_gb ha hb hab, h0, decide_eq_false (show ¬ d = b by omega), decide_eq_false (show ¬ d = a by omega), Bool.and_false, Bool.and_false]
            rfl
