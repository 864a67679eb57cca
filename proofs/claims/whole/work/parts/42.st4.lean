/-! CONTRACTIONS AND CELLS -/
theorem isl_m1 {x : Int32} (h : isl x = true) : ¬ x = -1 := fun e => by rw [e] at h; exact absurd h (by decide)
theorem lgst9 {sz : Nat → Nat} {lt : Nat → Nat → Int32} {g : Nat → Int32} {m : Nat} {fr : Int32} : ∀ k, lg sz lt g m fr k = (-1, 0) ∨ ∃ j, j < k ∧ lg sz lt g m fr k = (nI (28 + j), sz j) ∧ 0 < sz j ∧ stands (lt j) (sz j) g m fr = 1
  | 0 => Or.inl rfl
  | k + 1 => by
    unfold lg
    by_cases h : (lg sz lt g m fr k).2 < sz k ∧ stands (lt k) (sz k) g m fr = 1
    · rw [if_pos h]; exact Or.inr ⟨k, Nat.lt_succ_self k, rfl, by omega, h.2⟩
    · rw [if_neg h]
      rcases lgst9 (sz := sz) (lt := lt) (g := g) (m := m) (fr := fr) k with e | ⟨j, h1, h2, h3⟩
      · exact Or.inl e
      · exact Or.inr ⟨j, by omega, h2, h3⟩
theorem lgge9 {sz : Nat → Nat} {lt : Nat → Nat → Int32} {g : Nat → Int32} {m : Nat} {fr : Int32} {j : Nat} (hs : stands (lt j) (sz j) g m fr = 1) : ∀ k, j < k → sz j ≤ (lg sz lt g m fr k).2
  | 0, h => absurd h (Nat.not_lt_zero _)
  | k + 1, h => by
    unfold lg
    by_cases c : (lg sz lt g m fr k).2 < sz k ∧ stands (lt k) (sz k) g m fr = 1
    · rw [if_pos c]
      show sz j ≤ sz k
      rcases Nat.lt_or_ge j k with q | q
      · exact Nat.le_trans (lgge9 hs k q) (Nat.le_of_lt c.1)
      · rw [show j = k by omega]; exact Nat.le_refl _
    · rw [if_neg c]
      rcases Nat.lt_or_ge j k with q | q
      · exact lgge9 hs k q
      · have e : j = k := by omega
        subst e
        rcases Nat.lt_or_ge (lg sz lt g m fr j).2 (sz j) with q2 | q2
        · exact absurd ⟨q2, hs⟩ c
        · exact q2
theorem stands_1 {f : Nat → Int32} {n : Nat} {g : Nat → Int32} {m : Nat} {fr : Int32} : stands f n g m fr = 1 ↔ ∀ i, i < n → rv g m (fr + nI i) = f i := by
  unfold stands
  constructor
  · intro h
    by_cases c : ∀ i, i < n → rv g m (fr + nI i) = f i
    · exact c
    · rw [if_neg c] at h; exact absurd h (by decide)
  · intro h; exact if_pos h
theorem stands_le {f : Nat → Int32} {n : Nat} {g : Nat → Int32} {m t : Nat} (hm : m ≤ 80) (ht : t ≤ m) (hn : n ≤ 5) (hne : ∀ j, j < n → ¬ f j = -1) (h : stands f n g m (nI t) = 1) : t + n ≤ m := by
  rcases Nat.lt_or_ge m (t + n) with q | q
  · exfalso
    have h2 := stands_1.mp h (m - t) (by omega)
    rw [nI_add, rv_out (by omega) (by omega)] at h2
    exact hne _ (by omega) h2.symm
  · exact q
theorem apd_iff {sz : Nat → Nat} {lt : Nat → Nat → Int32} {f : Nat → Int32} {n k : Nat} : ∀ i, apd sz lt f n k i = true ↔ 0 < sz k ∨ ∃ j, j < i ∧ ipd sz lt f n j n = true
  | 0 => by
    unfold apd
    exact ⟨fun h => Or.inl (of_decide_eq_true h), fun h => h.elim (fun h => decide_eq_true h) (fun ⟨j, hj, _⟩ => absurd hj (Nat.not_lt_zero _))⟩
  | i + 1 => by
    rw [apd, Bool.or_eq_true, apd_iff i]
    constructor
    · rintro ((h | ⟨j, hj, e⟩) | h)
      · exact Or.inl h
      · exact Or.inr ⟨j, by omega, e⟩
      · exact Or.inr ⟨i, by omega, h⟩
    · rintro (h | ⟨j, hj, e⟩)
      · exact Or.inl (Or.inl h)
      · rcases Nat.lt_or_ge j i with q | q
        · exact Or.inl (Or.inr ⟨j, q, e⟩)
        · rw [show j = i by omega] at e; exact Or.inr e
/-- the class's way to find the letters, and the reference's -/
theorem has_iff {sz : Nat → Nat} {lt : Nat → Nat → Int32} {f : Nat → Int32} {n : Nat} (hn : 2 ≤ n) (hn8 : n ≤ 80) (h5 : ∀ k, sz k ≤ 5) (hne : ∀ k j, k < 36 → j < sz k → ¬ lt k j = -1) : (lg sz lt f n 0 36).2 = n ↔ ∃ j, j < 36 ∧ ipd sz lt f n j n = true := by
  constructor
  · intro h
    rcases lgst9 (sz := sz) (lt := lt) (g := f) (m := n) (fr := 0) 36 with e | ⟨j, h1, h2, h3, h4⟩
    · rw [e] at h
      exact absurd h (by show ¬ 0 = n; omega)
    · rw [h2] at h
      refine ⟨j, h1, ?_⟩
      unfold ipd
      rw [Bool.and_eq_true]
      refine ⟨decide_eq_true h, decide_eq_true (fun i hi => ?_)⟩
      have h9 := stands_1.mp h4 i (by omega)
      rw [Int32.zero_add, rv_nI hi (by omega)] at h9
      exact h9.symm
  · rintro ⟨j, hj, e⟩
    unfold ipd at e
    rw [Bool.and_eq_true] at e
    have e1 : sz j = n := of_decide_eq_true e.1
    have e2 : ∀ i, i < n → lt j i = f i := of_decide_eq_true e.2
    have hs : stands (lt j) (sz j) f n 0 = 1 := stands_1.mpr (fun i hi => by
      rw [Int32.zero_add, rv_nI (by omega) (by omega), e2 i (by omega)])
    have g1 := lgge9 hs 36 hj
    rcases lgst9 (sz := sz) (lt := lt) (g := f) (m := n) (fr := 0) 36 with q | ⟨i, h1, h2, h3, h4⟩
    · rw [q] at g1
      have g2 : sz j ≤ 0 := g1
      omega
    · rw [h2] at g1 ⊢
      have g2 : sz j ≤ sz i := g1
      have g3 := stands_le (t := 0) hn8 (by omega) (h5 i) (fun j hj => hne i j h1 hj) h4
      show sz i = n
      omega
theorem cnS_at {S : am_S} {CR : Nat → Option Nat} {ctot : Int32} {k n z : Nat} {f : Nat → Int32} (h2 : z ≠ 2) (h15 : z ≠ 15) (h16 : z ≠ 16) (hz : z < S.2) : (cnS S CR ctot k f n).1 z = S.1 z := by
  unfold cnS
  exact (am_up_n h2).trans ((ctS_at h15 h16).trans (rwC_at hz))
theorem cnS_c {S : am_S} {CR : Nat → Option Nat} {ctot : Int32} {k n z : Nat} {f : Nat → Int32} (h2 : z ≠ 2) : (cnS S CR ctot k f n).1 z = (ctS (rwC S f n) 15 16 (va_up CR k (some S.2)) (ctot + 1)).1 z := am_up_n h2
theorem cnS_2 {S : am_S} {CR : Nat → Option Nat} {ctot : Int32} {k n : Nat} {f : Nat → Int32} : (cnS S CR ctot k f n).1 2 = .inr (3, [.ref 3, .int 0]) := am_up_s (a := 2) (h := (ctS (rwC S f n) 15 16 (va_up CR k (some S.2)) (ctot + 1)).1)
theorem ctS_s1 {S : am_S} {a w : Nat} {CR : Nat → Option Nat} {tot : Int32} : (ctS S a w CR tot).1 a = .inr (1, [.ref w, .int tot]) := if_pos rfl
theorem ctS_s2 {S : am_S} {a w : Nat} {CR : Nat → Option Nat} {tot : Int32} (h : w ≠ a) : (ctS S a w CR tot).1 w = .inl (2, 36, .inr (.inr (.inr (.inr CR)))) := (if_neg h).trans (if_pos rfl)
theorem rl_up {ck : Nat → Option Nat} {sz : Nat → Nat} {k n i : Nat} (h : ck i ≠ some k) : rl ck (va_up sz k n) i = rl ck sz i := by
  unfold rl
  cases e : ck i with
  | none => rfl
  | some j => exact va_up_ne sz n (fun q => h (by rw [e, q]))
theorem rnn_up {ck : Nat → Option Nat} {sz : Nat → Nat} {k n : Nat} : ∀ m, (∀ i, i < m → ck i ≠ some k) → rnn ck (va_up sz k n) m = rnn ck sz m
  | 0, _ => rfl
  | m + 1, h => by rw [rnn, rnn, rnn_up m (fun i hi => h i (by omega)), rl_up (h m (Nat.lt_succ_self m))]
theorem cbc_n {f : Nat → Int32} {n : Nat} (h : cbc f n = true) : 2 ≤ n ∧ n ≤ 5 ∧ ∀ j, j < n → isl (f j) = true := by
  unfold cbc at h
  rw [Bool.and_eq_true, Bool.and_eq_true] at h
  exact ⟨of_decide_eq_true h.1.1, of_decide_eq_true h.1.2, of_decide_eq_true h.2⟩
theorem rc0 {f : Nat → Int32} {n j : Nat} (hj : j < n) : rcat (fun _ => 0) 0 f n j = f j := by
  have h9 := rcat_hi (f := fun _ => 0) (g := f) (n := 0) (k := n) hj
  rw [Nat.zero_add] at h9
  exact h9
theorem st_contract {K : am_K} {l : Launch} {S : am_S} {th : Int32} {o : Nat → Int64} (hI : Inv th o S) (hf : ∀ a : Nat, a = 0 ∨ S.2 ≤ a → S.1 a = unc) (x : Int32) : Cst K l S iL_contract [.ref 1, .int x, .ref 45] iX7_contract 2 [.ref 25, .int x] := by
  obtain ⟨pd, wd, ln, sq, st, ct, cl, ft, zn, a26, a27, a28, a29, a30, a31, a32, a33, a34, a35, a36, a37, a38, a39, a40, a41, a42, a43, a44, hS, h45, hv⟩ := hI
  obtain ⟨h1, hP, hC, hT, hF, hZ, hR⟩ := id hv
  have hlt : ∀ z : Nat, S.1 z ≠ unc → z < S.2 := fun z h9 => by
    rcases Nat.lt_or_ge z S.2 with g9 | g9
    · exact g9
    · exact absurd (hf z (Or.inr g9)) h9
  have h46 : 45 < S.2 := hlt 45 (by rw [h45]; exact fun e9 => by cases e9)
  obtain ⟨n, hr, rfl, hsg⟩ := id hP
  have hn := hr.2.2.1
  obtain ⟨CR, sz, lt, ra, rb, cm, ck, hct, hr46, h5, rfl, hlt9, hcl, rfl, hft, hck, h80⟩ := id hF
  have hl : ∀ k i, k < 36 → i < sz k → a38 (k * 5 + i) = lt k i := fun k i a b => (hlt9 k i a b).1
  have hne : ∀ k j, k < 36 → j < sz k → ¬ lt k j = -1 := fun k j a b => isl_m1 (hlt9 k j a b).2
  cases hb : cbc a26 n with
  | false => exact Cst_x hS h45 hv (w_contract_x1 K l S x _ h1 (p_contract_x1 K l S a26 n x h1 hr hb)) (q_contract_x1 n x hn hb) (by decide)
  | true =>
    obtain ⟨hn2, hn5, hil⟩ := cbc_n hb
    by_cases hx : x < 28 ∨ 63 < x
    · exact Cst_x hS h45 hv (w_contract_x2 K l S x _ h1 (p_contract_x2 K l S a26 n x h1 hr hb hx)) (q_contract_x2 n x hn hb hx) (by decide)
    · obtain ⟨k, hk, rfl⟩ : ∃ k, k < 36 ∧ x = nI (28 + k) := by
        rcases pk_ix x (n := 64) (by decide) with h | h | ⟨j, hj, rfl⟩
        · exact absurd (Or.inl (Int32.lt_trans h (by decide))) hx
        · exact absurd (Or.inr (Int32.lt_of_lt_of_le (show (63 : Int32) < nI 64 by decide) h)) hx
        · rcases Nat.lt_or_ge j 28 with q | q
          · exact absurd (Or.inl (nI_lt (b := 28) q (by decide))) hx
          · exact ⟨j - 28, by omega, by rw [show 28 + (j - 28) = j by omega]⟩
      by_cases hap : apd sz lt a26 n k 36 = true
      · rcases hct.2.2 k hk with ⟨c1, c2⟩ | ⟨c1, c2, c3, c4⟩
        · have hh : (lg sz lt a26 n 0 36).2 = n := (has_iff hn2 hn h5 hne).mpr (((apd_iff 36).mp hap).resolve_left (by omega))
          refine Cst_ok (S1 := S) hS (fun z _ _ => rfl) (w_contract K l S o (nI (28 + k)) false (fun S' => S = S') _ h1 (p_contract_h K l S a26 n CR sz lt ra rb ct k h1 hr hct hb hk c1 hn2 hh) (fun S' e9 => by rw [← e9]; exact h45)) (fun B => q_contract0 sz lt n k h5 hl hn hb hk hap) ?_
          exact hv
        · refine Cst_ok (S1 := S) hS (fun z _ _ => rfl) (w_contract K l S o (nI (28 + k)) false (fun S' => S = S') _ h1 (p_contract_r K l S a26 n CR sz lt ra rb ct k _ h1 hr hct hb hk c1) (fun S' e9 => by rw [← e9]; exact h45)) (fun B => q_contract0 sz lt n k h5 hl hn hb hk hap) ?_
          exact hv
      · have hap2 : apd sz lt a26 n k 36 = false := by cases e : apd sz lt a26 n k 36 with
          | true => exact absurd e hap
          | false => rfl
        have hz0 : sz k = 0 := by
          rcases Nat.eq_zero_or_pos (sz k) with e | e
          · exact e
          · exact absurd ((apd_iff 36).mpr (Or.inl e)) hap
        have hcr : CR k = none := by
          rcases hct.2.2 k hk with ⟨c1, c2⟩ | ⟨c1, c2, c3, c4⟩
          · exact c1
          · omega
        have hh : ¬ (lg sz lt a26 n 0 36).2 = n := fun e => hap ((apd_iff 36).mpr (Or.inr ((has_iff hn2 hn h5 hne).mp e)))
        have hkk : ∀ i, i < cm → ck i ≠ some k := fun i hi e => by
          rcases hck i hi with ⟨g1, -⟩ | ⟨j, g1, -, -, g4⟩
          · rw [g1] at e; cases e
          · rw [g1] at e; cases e; omega
        refine Cst_ok (S1 := cnS S CR ct k a26 n) hS (fun z _ _ => cnS_at (by omega) (by omega) (by omega) (by omega)) (w_contract K l S o (nI (28 + k)) true (fun S' => cnS S CR ct k a26 n = S') _ h1 (p_contract K l S a26 n CR sz lt ra rb ct k h1 hr hct hb hk hcr hn2 hh) (fun S' e9 => by rw [← e9]; exact (cnS_at (by decide) (by decide) (by decide) h46).trans h45)) (fun B => q_contract1 sz lt n k h5 hl hn hb hk hap2) ?_
        refine ⟨(cnS_at (by decide) (by decide) (by decide) (by omega)).trans h1, ⟨0, ⟨cnS_2, (cnS_at (by decide) (by decide) (by decide) (by omega)).trans hr.2.1, by decide, by decide⟩, rfl, fun j hj => absurd hj (Nat.not_lt_zero _)⟩, CCap_keep (fun z _ _ => cnS_at (by omega) (by omega) (by omega) (hlt z (by assumption))) hC, CSet_keep (fun z _ _ _ => cnS_at (by omega) (by omega) (by omega) (hlt z (by assumption))) hT, ⟨va_up CR k (some S.2), va_up sz k n, va_up lt k (rcat (fun _ => 0) 0 a26 n), va_up ra k S.2, va_up rb k (S.2 + 1), cm, ck, ?_, ?_, ?_, rfl, ?_, ⟨(cnS_at (by decide) (by decide) (by decide) (by omega)).trans hcl.1, (cnS_at (by decide) (by decide) (by decide) (by omega)).trans hcl.2.1, hcl.2.2⟩, rfl, hft, ?_, ?_⟩, CZon_keep (fun z _ _ _ => cnS_at (by omega) (by omega) (by omega) (hlt z (by assumption))) hZ, CRoo_keep (fun z _ _ _ => cnS_at (by omega) (by omega) (by omega) (hlt z (by assumption))) hR⟩
        · refine ⟨(cnS_c (by decide)).trans ctS_s1, (cnS_c (by decide)).trans (ctS_s2 (by decide)), fun i hi => ?_⟩
          by_cases e : i = k
          · subst e
            refine Or.inr ?_
            rw [va_up_self, va_up_self, va_up_self, va_up_self, va_up_self]
            have hrc := rwC_rw (S := S) (f := a26) (n := n) hn
            exact ⟨rfl, ⟨(cnS_c (by omega)).trans ((ctS_at (by omega) (by omega)).trans hrc.1), (cnS_c (by omega)).trans ((ctS_at (by omega) (by omega)).trans hrc.2.1), hrc.2.2⟩, hn2, hn5⟩
          · rw [ctR, va_up_ne _ _ e, va_up_ne _ _ e, va_up_ne _ _ e, va_up_ne _ _ e, va_up_ne _ _ e]
            rcases hct.2.2 i hi with c | ⟨c1, c2, c3, c4⟩
            · exact Or.inl c
            · have g46 := hr46 i hi (by omega)
              exact Or.inr ⟨c1, rw_keep c2 (cnS_at (by omega) (by omega) (by omega) (hlt _ (by rw [c2.1]; exact fun e9 => by cases e9))) (cnS_at (by omega) (by omega) (by omega) (hlt _ (by rw [c2.2.1]; exact fun e9 => by cases e9))), c3, c4⟩
        · intro i hi h0
          by_cases e : i = k
          · subst e
            rw [va_up_self, va_up_self]
            omega
          · rw [va_up_ne _ _ e, va_up_ne _ _ e]
            rw [va_up_ne _ _ e] at h0
            exact hr46 i hi h0
        · intro i
          by_cases e : i = k
          · subst e; rw [va_up_self]; exact hn5
          · rw [va_up_ne _ _ e]; exact h5 i
        · intro i j hi hj
          by_cases e : i = k
          · subst e
            rw [va_up_self] at hj
            rw [va_up_self, rcat_hi hj, rc0 hj]
            exact ⟨rfl, hil j hj⟩
          · rw [va_up_ne _ _ e] at hj
            rw [va_up_ne _ _ e]
            have h55 := h5 i
            exact ⟨(if_neg (fun h9 => by omega)).trans (hlt9 i j hi hj).1, (hlt9 i j hi hj).2⟩
        · intro i hi
          rcases hck i hi with g | ⟨j, g1, g2, g3, g4⟩
          · exact Or.inl g
          · refine Or.inr ⟨j, g1, g2, g3, ?_⟩
            rw [va_up_ne _ _ (fun e => hkk i hi (by rw [g1, e]))]
            exact g4
        · rw [rnn_up cm hkk]; exact h80
