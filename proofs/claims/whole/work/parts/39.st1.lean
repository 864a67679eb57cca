theorem st_unit {K : am_K} {l : Launch} {S : am_S} {th : Int32} {o : Nat → Int64} (hI : Inv th o S) (x : Int32) : Cst K l S iL_unit [.ref 1, .int x, .ref 45] iX7_unit 1 [.ref 25, .int x] := by
  obtain ⟨pd, wd, ln, sq, st, ct, cl, ft, zn, a26, a27, a28, a29, a30, a31, a32, a33, a34, a35, a36, a37, a38, a39, a40, a41, a42, a43, a44, hS, h45, hv⟩ := hI
  obtain ⟨h1, hP, hC, hT, hF, hZ, hR⟩ := id hv
  obtain ⟨n, hr, rfl, hsg⟩ := hP
  have hn := hr.2.2.1
  rcases Nat.lt_or_ge n 80 with q | q
  · by_cases hs : isl x = true ∨ x = 32 ∨ x = 46
    · refine Cst_ok (S1 := rwS S 2 3 80 (upd a26 n x) (n + 1)) hS (fun z _ _ => rwS_at (by omega) (by omega)) (w_unit K l S o x (nI (n + 1)) (fun S' => rwS S 2 3 80 (upd a26 n x) (n + 1) = S') _ h1 (p_unit K l S a26 n x h1 hr q hs) (fun S' e9 => by rw [← e9]; exact (rwS_at (by decide) (by decide)).trans h45)) (fun B => q_unit n x q hs) ?_
      exact ⟨(rwS_at (by decide) (by decide)).trans h1, ⟨n + 1, rwS_rw (by decide) (by omega) (by decide), rfl, fun j hj => by
        rcases Nat.lt_or_ge j n with q9 | q9
        · rw [pk_un (by omega)]; exact hsg j q9
        · rw [show j = n by omega, pk_us]; exact hs⟩, CCap_keep (fun z _ _ => rwS_at (by omega) (by omega)) hC, CSet_keep (fun z _ _ _ => rwS_at (by omega) (by omega)) hT, CFin_keep (fun z _ _ => rwS_at (by omega) (by omega)) hF, CZon_keep (fun z _ _ _ => rwS_at (by omega) (by omega)) hZ, CRoo_keep (fun z _ _ _ => rwS_at (by omega) (by omega)) hR⟩
    · have hs2 : isl x = false ∧ ¬ x = 32 ∧ ¬ x = 46 := ⟨by cases e : isl x with
        | true => exact absurd (Or.inl e) hs
        | false => rfl, fun e => hs (Or.inr (Or.inl e)), fun e => hs (Or.inr (Or.inr e))⟩
      exact Cst_x hS h45 hv (w_unit_x2 K l S x _ h1 (p_unit_x2 K l S a26 n x h1 hr q hs2)) (q_unit_x2 n x q hs2) (by decide)
  · exact Cst_x hS h45 hv (w_unit_x1 K l S x _ h1 (p_unit_x1 K l S a26 n x h1 hr q)) (q_unit_x1 n x q hn) (by decide)
theorem ends_mono {fb : Nat → Option Nat} : ∀ {k : Nat} {x : Option Nat}, ends fb k x → ends fb (k + 1) x
  | _, none, _ => by unfold ends; trivial
  | 0, some _, h => h.elim
  | k + 1, some r, h => ends_mono (k := k) (x := fb r) h
theorem ends_le {fb : Nat → Option Nat} {k : Nat} {x : Option Nat} (h : ends fb k x) : ∀ d, ends fb (k + d) x
  | 0 => h
  | d + 1 => ends_mono (ends_le h d)
def chn (fb : Nat → Option Nat) : Nat → Option Nat → Option Nat
  | 0, x => x
  | _ + 1, none => none
  | k + 1, some r => chn fb k (fb r)
theorem chn_none {fb : Nat → Option Nat} : ∀ k, chn fb k none = none
  | 0 => rfl
  | _ + 1 => rfl
theorem ends_chn {fb : Nat → Option Nat} : ∀ {k : Nat} {x : Option Nat}, ends fb k x ↔ chn fb k x = none
  | 0, none => ⟨fun _ => rfl, fun _ => by unfold ends; trivial⟩
  | 0, some r => ⟨fun h => h.elim, fun h => by cases h⟩
  | k + 1, none => ⟨fun _ => rfl, fun _ => by unfold ends; trivial⟩
  | k + 1, some r => ends_chn (k := k) (x := fb r)
theorem chn_add {fb : Nat → Option Nat} : ∀ (k j : Nat) (x : Option Nat), chn fb (k + j) x = chn fb j (chn fb k x)
  | 0, j, x => by rw [Nat.zero_add]; rfl
  | k + 1, j, none => by rw [chn_none, chn_none, chn_none]
  | k + 1, j, some r => by rw [show k + 1 + j = (k + j) + 1 by omega]; exact chn_add k j (fb r)
theorem pig6 : ∀ a b c d e f : Fin 5, a = b ∨ a = c ∨ a = d ∨ a = e ∨ a = f ∨ b = c ∨ b = d ∨ b = e ∨ b = f ∨ c = d ∨ c = e ∨ c = f ∨ d = e ∨ d = f ∨ e = f := by decide +kernel
/-- a chain that comes twice to one place never ends -/
theorem chn_rep {fb : Nat → Option Nat} {x : Option Nat} {i p : Nat} (hp : 0 < p) (h : chn fb (i + p) x = chn fb i x) : ∀ t, chn fb (i + t * p) x = chn fb i x
  | 0 => by rw [Nat.zero_mul, Nat.add_zero]
  | t + 1 => by rw [show i + (t + 1) * p = (i + p) + t * p by rw [Nat.succ_mul]; omega, chn_add (i + p) (t * p), h, ← chn_add i (t * p)]; exact chn_rep hp h t
theorem chn_late {fb : Nat → Option Nat} {x : Option Nat} {k : Nat} (h : chn fb k x = none) {j : Nat} (hj : k ≤ j) : chn fb j x = none := by
  obtain ⟨d, rfl⟩ : ∃ d, j = k + d := ⟨j - k, by omega⟩
  rw [chn_add, h, chn_none]
theorem ends_5 {fb : Nat → Option Nat} (hf : ∀ l k, fb l = some k → k < 5) {N r : Nat} (hr : r < 5) (h : ends fb N (some r)) : ends fb 5 (some r) := by
  rw [ends_chn] at h ⊢
  cases e5 : chn fb 5 (some r) with
  | none => rfl
  | some r5 =>
    exfalso
    have hs : ∀ i, i ≤ 5 → ∃ v : Nat, chn fb i (some r) = some v := fun i hi => by
      cases e : chn fb i (some r) with
      | none => rw [chn_late e hi] at e5; cases e5
      | some v => exact ⟨v, rfl⟩
    have hlt : ∀ i v, chn fb i (some r) = some v → v < 5 := fun i => by
      induction i with
      | zero => intro v hv; cases hv; exact hr
      | succ i ih =>
        intro v hv
        rw [chn_add i 1] at hv
        cases e : chn fb i (some r) with
        | none => rw [e] at hv; cases hv
        | some u => rw [e] at hv; exact hf u v hv
    obtain ⟨v0, h0⟩ := hs 0 (by decide)
    obtain ⟨v1, h1⟩ := hs 1 (by decide)
    obtain ⟨v2, h2⟩ := hs 2 (by decide)
    obtain ⟨v3, h3⟩ := hs 3 (by decide)
    obtain ⟨v4, h4⟩ := hs 4 (by decide)
    obtain ⟨v5, h5⟩ := hs 5 (by decide)
    have rep : ∀ i j, i < j → (∃ v, chn fb i (some r) = some v ∧ chn fb j (some r) = some v) → False := fun i j hij hv => by
      obtain ⟨v, g1, g2⟩ := hv
      have h9 := chn_rep (x := some r) (i := i) (p := j - i) (by omega) (by rw [show i + (j - i) = j by omega, g2, g1]) N
      rw [chn_late h (show N ≤ i + N * (j - i) by have := Nat.le_mul_of_pos_right N (show 0 < j - i by omega); omega), g1] at h9
      cases h9
    have hp := pig6 ⟨v0, hlt _ _ h0⟩ ⟨v1, hlt _ _ h1⟩ ⟨v2, hlt _ _ h2⟩ ⟨v3, hlt _ _ h3⟩ ⟨v4, hlt _ _ h4⟩ ⟨v5, hlt _ _ h5⟩
    simp only [Fin.mk.injEq] at hp
    rcases hp with e | e | e | e | e | e | e | e | e | e | e | e | e | e | e
    · exact rep 0 1 (by decide) ⟨v0, h0, e ▸ h1⟩
    · exact rep 0 2 (by decide) ⟨v0, h0, e ▸ h2⟩
    · exact rep 0 3 (by decide) ⟨v0, h0, e ▸ h3⟩
    · exact rep 0 4 (by decide) ⟨v0, h0, e ▸ h4⟩
    · exact rep 0 5 (by decide) ⟨v0, h0, e ▸ h5⟩
    · exact rep 1 2 (by decide) ⟨v1, h1, e ▸ h2⟩
    · exact rep 1 3 (by decide) ⟨v1, h1, e ▸ h3⟩
    · exact rep 1 4 (by decide) ⟨v1, h1, e ▸ h4⟩
    · exact rep 1 5 (by decide) ⟨v1, h1, e ▸ h5⟩
    · exact rep 2 3 (by decide) ⟨v2, h2, e ▸ h3⟩
    · exact rep 2 4 (by decide) ⟨v2, h2, e ▸ h4⟩
    · exact rep 2 5 (by decide) ⟨v2, h2, e ▸ h5⟩
    · exact rep 3 4 (by decide) ⟨v3, h3, e ▸ h4⟩
    · exact rep 3 5 (by decide) ⟨v3, h3, e ▸ h5⟩
    · exact rep 4 5 (by decide) ⟨v4, h4, e ▸ h5⟩
theorem ends_av {fb : Nat → Option Nat} {q : Nat} {t : Option Nat} : ∀ {k : Nat} {x : Option Nat}, ends fb k x → rch fb q k x = false → ends (va_up fb q t) k x
  | _, none, _, _ => by unfold ends; trivial
  | 0, some _, h, _ => h.elim
  | k + 1, some r, h, h2 => by
    rw [rch] at h2
    by_cases e : r = q
    · rw [if_pos e] at h2; cases h2
    · rw [if_neg e] at h2
      show ends (va_up fb q t) k (va_up fb q t r)
      rw [va_up_ne _ _ e]
      exact ends_av (k := k) (x := fb r) h h2
theorem ends_up {fb : Nat → Option Nat} {q : Nat} {t : Option Nat} (ht : ends (va_up fb q t) 5 t) : ∀ {k : Nat} {x : Option Nat}, ends fb k x → ends (va_up fb q t) (k + 6) x
  | _, none, _ => by unfold ends; trivial
  | 0, some _, h => h.elim
  | k + 1, some r, h => by
    show ends (va_up fb q t) (k + 6) (va_up fb q t r)
    by_cases e : r = q
    · rw [e, va_up_self]
      have := ends_le ht (k + 1)
      rw [show 5 + (k + 1) = k + 6 by omega] at this
      exact this
    · rw [va_up_ne _ _ e]; exact ends_up ht (k := k) (x := fb r) h
theorem ends_set {fb : Nat → Option Nat} {q : Nat} {t : Option Nat} (hf : ∀ l k, fb l = some k → k < 5) (ht : ∀ k, t = some k → k < 5) (he : ∀ l, l < 5 → ends fb 5 (some l)) (hr : rch fb q 5 t = false) : ∀ l, l < 5 → ends (va_up fb q t) 5 (some l) := fun l hl => by
  have h5 : ends fb 5 t := by
    cases t with
    | none => unfold ends; trivial
    | some k => exact he k (ht k rfl)
  refine ends_5 (N := 11) (fun a b hab => ?_) hl (ends_up (ends_av h5 hr) (he l hl))
  by_cases e : a = q
  · rw [e, va_up_self] at hab; exact ht b hab
  · rw [va_up_ne _ _ e] at hab; exact hf a b hab
