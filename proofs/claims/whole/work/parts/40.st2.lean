theorem upS_at {S : am_S} {a z : Nat} {c : am_C} (h : z ≠ a) : ((am_up S.1 a c, S.2) : am_S).1 z = S.1 z := am_up_n h
theorem upS_s {S : am_S} {a : Nat} {c : am_C} : ((am_up S.1 a c, S.2) : am_S).1 a = c := am_up_s (h := S.1) (a := a)
theorem pair_or (x y : Int32) : ((x < 0 ∨ 10 ≤ x) ∨ (y < 0 ∨ 5 ≤ y)) ∨ ∃ p q : Nat, p < 10 ∧ q < 5 ∧ x = nI p ∧ y = nI q := by
  rcases pk_ix x (n := 10) (by decide) with h | h | ⟨p, hp, ep⟩
  · exact Or.inl (Or.inl (Or.inl h))
  · exact Or.inl (Or.inl (Or.inr h))
  · rcases pk_ix y (n := 5) (by decide) with h | h | ⟨q, hq, eq⟩
    · exact Or.inl (Or.inr (Or.inl h))
    · exact Or.inl (Or.inr (Or.inr h))
    · exact Or.inr ⟨p, q, hp, hq, ep, eq⟩
theorem lt_m1 {y : Int32} (h : y < 0) (h1 : ¬ y = -1) : y < -1 := by
  rw [Int32.lt_iff_toInt_lt] at h ⊢
  have e0 : (0 : Int32).toInt = 0 := by decide
  have e1 : (-1 : Int32).toInt = -1 := by decide
  have h2 : ¬ y.toInt = (-1 : Int32).toInt := fun e => h1 (Int32.toInt_inj.mp e)
  omega
theorem m1_lt {y : Int32} (h : y < -1) : y < 0 := by
  rw [Int32.lt_iff_toInt_lt] at h ⊢
  have e0 : (0 : Int32).toInt = 0 := by decide
  have e1 : (-1 : Int32).toInt = -1 := by decide
  omega
theorem opt_or (y : Int32) : (¬ y = -1 ∧ (y < 0 ∨ 5 ≤ y)) ∨ ∃ t : Option Nat, (∀ k, t = some k → k < 5) ∧ y = fo t := by
  by_cases e : y = -1
  · exact Or.inr ⟨none, (fun k h => by cases h), e⟩
  · rcases pk_ix y (n := 5) (by decide) with h | h | ⟨k, hk, ek⟩
    · exact Or.inl ⟨e, Or.inl h⟩
    · exact Or.inl ⟨e, Or.inr h⟩
    · exact Or.inr ⟨some k, fun j h => by cases h; exact hk, ek⟩
theorem ends_o {fb : Nat → Option Nat} {t : Option Nat} (ht : ∀ k, t = some k → k < 5) (he : ∀ l, l < 5 → ends fb 5 (some l)) : ends fb 5 t := by
  cases t with
  | none => unfold ends; trivial
  | some k => exact he k (ht k rfl)
theorem st_clear {K : am_K} {l : Launch} {S : am_S} {th : Int32} {o : Nat → Int64} (hI : Inv th o S) : ∃ (b : Int32) (S1 S2 : am_S), am_M K l iX6_clear 8 2 82 [.ref 1] S (fun v S' => v = some (.int b) ∧ S1 = S') (fun _ _ => False) ∧ am_M K l iX7_clear 0 0 0 [.ref 25] S1 (fun v S' => v = some (.int b) ∧ S2 = S') (fun _ _ => False) ∧ Inv 0 o S2 ∧ S1.1 1 = clx ∧ S1.1 25 = S.1 25 := by
  obtain ⟨pd, wd, ln, sq, st, ct, cl, ft, zn, a26, a27, a28, a29, a30, a31, a32, a33, a34, a35, a36, a37, a38, a39, a40, a41, a42, a43, a44, hS, h45, hv⟩ := hI
  obtain ⟨h1, hP, hC, hT, hF, hZ, hR⟩ := id hv
  obtain ⟨n, hr, rfl, hsg⟩ := hP
  have hS1 : ((am_up S.1 2 (.inr (3, [.ref 3, .int 0])), S.2) : am_S) = mdS (am_up S.1 2 (.inr (3, [.ref 3, .int 0])), S.2) th (nI n) wd ln sq st ct cl ft zn a26 a27 a28 a29 a30 a31 a32 a33 a34 a35 a36 a37 a38 a39 a40 a41 a42 a43 a44 := mdS_keep hS (fun z _ _ => am_up_n (by omega))
  refine ⟨nI n, (am_up S.1 2 (.inr (3, [.ref 3, .int 0])), S.2), _, p_clear K l S a26 n h1 hr, am_at hS1 q_clear, ?_, (upS_at (S := S) (by decide)).trans h1, upS_at (S := S) (by decide)⟩
  refine ⟨0, wd, ln, sq, st, ct, cl, ft, zn, a26, a27, a28, a29, a30, a31, a32, a33, a34, a35, a36, a37, a38, a39, a40, a41, a42, a43, a44, mdS_mdS.symm, ((md_at (by decide)).trans (upS_at (S := S) (by decide))).trans h45, ?_⟩
  refine Ivp_keep (h := am_up S.1 2 (.inr (3, [.ref 3, .int 0]))) (fun z _ hz _ => md_at hz) ?_
  exact ⟨(am_up_n (by decide)).trans h1, ⟨0, ⟨am_up_s, (am_up_n (by decide)).trans hr.2.1, by decide, by decide⟩, rfl, fun j hj => absurd hj (Nat.not_lt_zero _)⟩, CCap_keep (fun z _ _ => am_up_n (by omega)) hC, CSet_keep (fun z _ _ _ => am_up_n (by omega)) hT, CFin_keep (fun z _ _ => am_up_n (by omega)) hF, CZon_keep (fun z _ _ _ => am_up_n (by omega)) hZ, CRoo_keep (fun z _ _ _ => am_up_n (by omega)) hR⟩
theorem st_falls {K : am_K} {l : Launch} {S : am_S} {th : Int32} {o : Nat → Int64} (hI : Inv th o S) (x y : Int32) : Cst K l S iL_falls [.ref 1, .int x, .int y, .ref 45] iX7_falls 1 [.ref 25, .int x, .int y] := by
  obtain ⟨pd, wd, ln, sq, st, ct, cl, ft, zn, a26, a27, a28, a29, a30, a31, a32, a33, a34, a35, a36, a37, a38, a39, a40, a41, a42, a43, a44, hS, h45, hv⟩ := hI
  obtain ⟨h1, hP, hC, hT, hF, hZ, hR⟩ := id hv
  obtain ⟨VR, cn, fb, vr, vb, vl, vg, hc, rfl, rfl, hen, hvv⟩ := id hC
  have hf5 := hc.2.2.2.2.2.2
  have hc4 := hc.2.2.2.2.2.1
  rcases pk_ix x (n := 5) (by decide) with h | h | ⟨q, hq, rfl⟩
  · exact Cst_x hS h45 hv (w_falls_x0 K l S x y _ h1 (p_falls_x0 K l S x y h1 (Or.inl h))) (q_falls_x0 x y (Or.inl (Or.inl h))) (by decide)
  · exact Cst_x hS h45 hv (w_falls_x0 K l S x y _ h1 (p_falls_x0 K l S x y h1 (Or.inr h))) (q_falls_x0 x y (Or.inl (Or.inr h))) (by decide)
  · rcases opt_or y with h | ⟨t, ht, rfl⟩
    · exact Cst_x hS h45 hv (w_falls_x0 K l S (nI q) y _ h1 (p_falls_y0 K l S q y h1 hq h)) (q_falls_x0 (nI q) y (Or.inr (h.2.imp (fun g => lt_m1 g h.1) id))) (by decide)
    · cases hr : rch fb q 5 t with
      | true =>
        refine Cst_ok (S1 := S) hS (fun z _ _ => rfl) (w_falls K l S o (nI q) (fo t) false (fun S' => S = S') _ h1 (p_falls0 K l S VR cn fb _ q t h1 hc hq ht hr) (fun S' e9 => by rw [← e9]; exact h45)) (fun B => q_falls0 fb q t hf5 hq ht (ends_o ht hen) hr) ?_
        exact hv
      | false =>
        refine Cst_ok (S1 := (am_up S.1 7 (.inl (0, 5, .inl (fun j => fo (va_up fb q t j)))), S.2)) hS (fun z _ _ => upS_at (by omega)) (w_falls K l S o (nI q) (fo t) true (fun S' => (am_up S.1 7 (.inl (0, 5, .inl (fun j => fo (va_up fb q t j)))), S.2) = S') _ h1 (p_falls1 K l S VR cn fb _ q t h1 hc hq ht hr) (fun S' e9 => by rw [← e9]; exact (upS_at (by decide)).trans h45)) (fun B => q_falls1 fb q t hf5 hq ht (ends_o ht hen) hr) ?_
        exact ⟨(upS_at (by decide)).trans h1, CPad_keep (fun z _ _ _ => upS_at (by omega)) hP, ⟨VR, cn, va_up fb q t, vr, vb, vl, vg, ⟨(upS_at (by decide)).trans hc.1, (upS_at (by decide)).trans hc.2.1, (upS_at (by decide)).trans hc.2.2.1, upS_s, by decide, hc4, fun a b hab => by
          by_cases e9 : a = q
          · rw [e9, va_up_self] at hab; exact ht b hab
          · rw [va_up_ne _ _ e9] at hab; exact hf5 a b hab⟩, rfl, rfl, ends_set hf5 ht hen hr, fun k j hk hj => by
          obtain ⟨g1, g2, g3, g4, g5⟩ := hvv k j hk hj
          exact ⟨g1, g2, g3, rw_keep g4 (upS_at (by omega)) (upS_at (by omega)), g5⟩⟩, CSet_keep (fun z _ _ _ => upS_at (by omega)) hT, CFin_keep (fun z _ _ => upS_at (by omega)) hF, CZon_keep (fun z _ _ _ => upS_at (by omega)) hZ, CRoo_keep (fun z _ _ _ => upS_at (by omega)) hR⟩
theorem st_shown {K : am_K} {l : Launch} {S : am_S} {th : Int32} {o : Nat → Int64} (hI : Inv th o S) (x y : Int32) : Cst K l S iL_shown [.ref 1, .int x, .int y, .ref 45] iX7_shown 2 [.ref 25, .int x, .int y] := by
  obtain ⟨pd, wd, ln, sq, st, ct, cl, ft, zn, a26, a27, a28, a29, a30, a31, a32, a33, a34, a35, a36, a37, a38, a39, a40, a41, a42, a43, a44, hS, h45, hv⟩ := hI
  obtain ⟨h1, hP, hC, hT, hF, hZ, hR⟩ := id hv
  obtain ⟨VR, cn, fb, vr, vb, vl, vg, hc, rfl, rfl, hen, hvv⟩ := id hC
  have hf5 := hc.2.2.2.2.2.2
  have hc4 := hc.2.2.2.2.2.1
  rcases pair_or x y with hb | ⟨p, q, hp, hq, rfl, rfl⟩
  · exact Cst_x hS h45 hv (w_shown_x0 K l S x y _ h1 (p_shown_x0 K l S x y h1 hb)) (q_shown_x0 x y hb) (by decide)
  · refine Cst_ok (S1 := S) hS (fun z _ _ => rfl) (w_shown K l S o (nI p) (nI q) (fo (sh cn fb p 5 (some q))) (fun S' => S = S') _ h1 (p_shown K l S VR cn fb _ p q h1 hc hp hq) (fun S' e9 => by rw [← e9]; exact h45)) (fun B => q_shown cn fb p q hc4 hf5 hp hq (hen q hq)) ?_
    exact hv
theorem st_sign {K : am_K} {l : Launch} {S : am_S} {th : Int32} {o : Nat → Int64} (hI : Inv th o S) (x y u w : Int32) : Cst K l S iL_sign [.ref 1, .int x, .int y, .int u, .int w, .ref 45] iX7_sign 2 [.ref 25, .int x, .int y, .int u, .int w] := by
  obtain ⟨pd, wd, ln, sq, st, ct, cl, ft, zn, a26, a27, a28, a29, a30, a31, a32, a33, a34, a35, a36, a37, a38, a39, a40, a41, a42, a43, a44, hS, h45, hv⟩ := hI
  obtain ⟨h1, hP, hC, hT, hF, hZ, hR⟩ := id hv
  obtain ⟨VR, cn, fb, vr, vb, vl, vg, hc, rfl, rfl, hen, hvv⟩ := id hC
  have hf5 := hc.2.2.2.2.2.2
  have hc4 := hc.2.2.2.2.2.1
  rcases pair_or x y with hb | ⟨p, q, hp, hq, rfl, rfl⟩
  · exact Cst_x hS h45 hv (w_sign_x0 K l S x y u w _ h1 (p_sign_x0 K l S x y u w h1 hb)) (q_sign_x0 x y u w hb) (by decide)
  · rcases pk_ix u (n := cn (p * 5 + q)) (by have := hc4 (p * 5 + q); omega) with h | h | ⟨j, hj, rfl⟩
    · exact Cst_x hS h45 hv (w_sign_x0 K l S (nI p) (nI q) u w _ h1 (p_sign_v0 K l S VR cn fb _ p q u w h1 hc hp hq (Or.inl h))) (q_sign_v0 cn p q u w hp hq (Or.inl h)) (by decide)
    · exact Cst_x hS h45 hv (w_sign_x0 K l S (nI p) (nI q) u w _ h1 (p_sign_v0 K l S VR cn fb _ p q u w h1 hc hp hq (Or.inr h))) (q_sign_v0 cn p q u w hp hq (Or.inr h)) (by decide)
    · obtain ⟨-, g2, g3, g4, g5, g6, g7⟩ := hvv (p * 5 + q) j (by omega) hj
      have hv9 : ∀ k j, k < 50 → j < cn k → VR (k * 4 + j) = some (vr (k * 4 + j)) := fun k j h1 h2 => (hvv k j h1 h2).1
      have hm8 := g4.2.2.2
      by_cases e : w = -1
      · subst e
        refine Cst_ok (S1 := S) hS (fun z _ _ => rfl) (w_sign K l S o (nI p) (nI q) (nI j) (-1) (nI (vl ((p * 5 + q) * 4 + j))) (fun S' => S = S') _ h1 (p_sign_n K l S VR cn fb _ vr p q j _ _ _ _ h1 hc hv9 hp hq hj g4) (fun S' e9 => by rw [← e9]; exact h45)) (fun B => q_sign_n cn p q j _ hp hq (hc4 _) hj g5 hm8) ?_
        exact hv
      · rcases pk_ix w (n := vl ((p * 5 + q) * 4 + j)) (by omega) with h | h | ⟨i, hi, rfl⟩
        · exact Cst_x hS h45 hv (w_sign_x0 K l S (nI p) (nI q) (nI j) w _ h1 (p_sign_i0 K l S VR cn fb _ vr p q j _ _ _ _ w h1 hc hv9 hp hq hj g4 ⟨e, Or.inl h⟩)) (q_sign_i0 cn p q j _ w hp hq (hc4 _) hj g5 hm8 (Or.inl (lt_m1 h e))) (by decide)
        · exact Cst_x hS h45 hv (w_sign_x0 K l S (nI p) (nI q) (nI j) w _ h1 (p_sign_i0 K l S VR cn fb _ vr p q j _ _ _ _ w h1 hc hv9 hp hq hj g4 ⟨e, Or.inr h⟩)) (q_sign_i0 cn p q j _ w hp hq (hc4 _) hj g5 hm8 (Or.inr h)) (by decide)
        · have e9 := g6 i hi
          refine Cst_ok (S1 := S) hS (fun z _ _ => rfl) (w_sign K l S o (nI p) (nI q) (nI j) (nI i) (vg ((p * 5 + q) * 4 + j) i) (fun S' => S = S') _ h1 (p_sign K l S VR cn fb _ vr p q j _ _ _ _ i h1 hc hv9 hp hq hj g4 hi) (fun S' e9 => by rw [← e9]; exact h45)) (fun B => by rw [← e9]; exact q_sign cn p q j _ i hp hq (hc4 _) hj g5 hm8 hi) ?_
          exact hv
