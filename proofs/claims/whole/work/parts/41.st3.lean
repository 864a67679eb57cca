theorem fwp_congr {f g : Nat → Int32} {n : Nat} : ∀ (k i : Nat) (ah : Int32), i + k ≤ n → (∀ j, j < n → f j = g j) → fwp f n k i ah = fwp g n k i ah
  | 0, _, _, _, _ => rfl
  | k + 1, i, ah, h, e => by rw [fwp, fwp, e i (by omega), fwp_congr k (i + 1) (g i) (by omega) e]
theorem sumN_congr {f g : Nat → Nat} : ∀ n, (∀ j, j < n → f j = g j) → sumN f n = sumN g n
  | 0, _ => rfl
  | n + 1, h => by rw [sumN, sumN, h n (Nat.lt_succ_self n), sumN_congr n (fun j hj => h j (Nat.lt_succ_of_lt hj))]
theorem sumN_up {cn : Nat → Nat} {k : Nat} : ∀ n, k < n → sumN (va_up cn k (cn k + 1)) n = sumN cn n + 1
  | 0, h => absurd h (Nat.not_lt_zero _)
  | n + 1, h => by
    rw [sumN, sumN]
    rcases Nat.lt_or_ge k n with q | q
    · rw [sumN_up n q, va_up_ne _ _ (by omega)]; omega
    · have e : k = n := by omega
      subst e
      rw [va_up_self, sumN_congr (g := cn) k (fun j hj => va_up_ne cn _ (show j ≠ k by omega))]; omega
theorem txS_at {S : am_S} {VR : Nat → Option Nat} {cn : Nat → Nat} {tot : Int32} {k n z : Nat} {f : Nat → Int32} (h2 : z ≠ 2) (h4 : z ≠ 4) (h5 : z ≠ 5) (h6 : z ≠ 6) (hz : z < S.2) : (txS S VR cn tot k f n).1 z = S.1 z := by
  unfold txS
  exact (am_up_n h2).trans ((cpA_at h4 h5 h6).trans (rwC_at hz))
theorem txS_2 {S : am_S} {VR : Nat → Option Nat} {cn : Nat → Nat} {tot : Int32} {k n : Nat} {f : Nat → Int32} : (txS S VR cn tot k f n).1 2 = .inr (3, [.ref 3, .int 0]) := am_up_s (a := 2) (h := (cpA (rwC S f n) 4 5 6 7 VR cn tot k S.2).1)
theorem txS_c {S : am_S} {VR : Nat → Option Nat} {cn : Nat → Nat} {tot : Int32} {k n z : Nat} {f : Nat → Int32} (h2 : z ≠ 2) : (txS S VR cn tot k f n).1 z = (cpA (rwC S f n) 4 5 6 7 VR cn tot k S.2).1 z := am_up_n h2
theorem txt_0 {g : Nat → Int32} {m : Nat} (h : txt g m) : 0 < m := by
  rcases Nat.eq_zero_or_pos m with e | e
  · exfalso
    rw [e] at h
    have h1 := h.1
    rw [fwp, if_pos rfl] at h1
    exact absurd h1 (by decide)
  · exact e
theorem txt_congr {f g : Nat → Int32} {n : Nat} (e : ∀ j, j < n → f j = g j) (h : txt f n) : txt g n := ⟨(fwp_congr n 0 32 (by omega) e).symm.trans h.1, fun j hj => by rw [← e j hj]; exact h.2 j hj⟩
theorem st_text {K : am_K} {l : Launch} {S : am_S} {th : Int32} {o : Nat → Int64} (hI : Inv th o S) (hf : ∀ a : Nat, a = 0 ∨ S.2 ≤ a → S.1 a = unc) (x y : Int32) : Cst K l S iL_text [.ref 1, .int x, .int y, .ref 45] iX7_text 2 [.ref 25, .int x, .int y] := by
  obtain ⟨pd, wd, ln, sq, st, ct, cl, ft, zn, a26, a27, a28, a29, a30, a31, a32, a33, a34, a35, a36, a37, a38, a39, a40, a41, a42, a43, a44, hS, h45, hv⟩ := hI
  obtain ⟨h1, hP, hC, hT, hF, hZ, hR⟩ := id hv
  obtain ⟨VR, cn, fb, vr, vb, vl, vg, hc, rfl, rfl, hen, hvv⟩ := id hC
  have hf5 := hc.2.2.2.2.2.2
  have hc4 := hc.2.2.2.2.2.1
  have hlt : ∀ z : Nat, S.1 z ≠ unc → z < S.2 := fun z h9 => by
    rcases Nat.lt_or_ge z S.2 with g9 | g9
    · exact g9
    · exact absurd (hf z (Or.inr g9)) h9
  have h46 : 45 < S.2 := hlt 45 (by rw [h45]; exact fun e9 => by cases e9)
  obtain ⟨n, hr, rfl, hsg⟩ := id hP
  have hn := hr.2.2.1
  rcases pair_or x y with hb | ⟨p, q, hp, hq, rfl, rfl⟩
  · exact Cst_x hS h45 hv (w_text_x0 K l S x y _ h1 (p_text_x0 K l S x y h1 hb)) (q_text_x0 x y hb) (by decide)
  · rcases Nat.lt_or_ge (cn (p * 5 + q)) 4 with q4 | q4
    · by_cases hw : fwp a26 n n 0 32 = -1
      · refine Cst_ok (S1 := txS S VR cn (nI (sumN cn 50)) (p * 5 + q) a26 n) hS (fun z _ _ => txS_at (by omega) (by omega) (by omega) (by omega) (by omega)) (w_text K l S o (nI p) (nI q) (nI (cn (p * 5 + q))) (fun S' => txS S VR cn (nI (sumN cn 50)) (p * 5 + q) a26 n = S') _ h1 (p_text K l S a26 n VR cn fb _ p q h1 hr hc hp hq q4 hw) (fun S' e9 => by rw [← e9]; exact (txS_at (by decide) (by decide) (by decide) (by decide) h46).trans h45)) (fun B => q_text cn n p q hp hq hn hsg q4 hw) ?_
        refine ⟨(txS_at (by decide) (by decide) (by decide) (by decide) (by omega)).trans h1, ⟨0, ⟨txS_2, (txS_at (by decide) (by decide) (by decide) (by decide) (by omega)).trans hr.2.1, by decide, by decide⟩, rfl, fun j hj => absurd hj (Nat.not_lt_zero _)⟩, ⟨va_up VR ((p * 5 + q) * 4 + cn (p * 5 + q)) (some S.2), va_up cn (p * 5 + q) (cn (p * 5 + q) + 1), fb, va_up vr ((p * 5 + q) * 4 + cn (p * 5 + q)) S.2, va_up vb ((p * 5 + q) * 4 + cn (p * 5 + q)) (S.2 + 1), va_up vl ((p * 5 + q) * 4 + cn (p * 5 + q)) n, va_up vg ((p * 5 + q) * 4 + cn (p * 5 + q)) (rcat (fun _ => 0) 0 a26 n), ?_, rfl, rfl, hen, fun k j hk hj => ?_⟩, CSet_keep (fun z _ _ _ => txS_at (by omega) (by omega) (by omega) (by omega) (hlt z (by assumption))) hT, CFin_keep (fun z _ _ => txS_at (by omega) (by omega) (by omega) (by omega) (hlt z (by assumption))) hF, CZon_keep (fun z _ _ _ => txS_at (by omega) (by omega) (by omega) (by omega) (hlt z (by assumption))) hZ, CRoo_keep (fun z _ _ _ => txS_at (by omega) (by omega) (by omega) (by omega) (hlt z (by assumption))) hR⟩
        · have hcA := cpA_cp (S := rwC S a26 n) (r := S.2) (k := p * 5 + q) (fb := fb) (tot := nI (sumN cn 50)) ⟨(rwC_at (by omega)).trans hc.1, (rwC_at (by omega)).trans hc.2.1, (rwC_at (by omega)).trans hc.2.2.1, (rwC_at (by omega)).trans hc.2.2.2.1, hc.2.2.2.2⟩ q4
          rw [nI_1, ← sumN_up (cn := cn) (k := p * 5 + q) 50 (by omega)] at hcA
          exact ⟨(txS_c (by decide)).trans hcA.1, (txS_c (by decide)).trans hcA.2.1, (txS_c (by decide)).trans hcA.2.2.1, (txS_c (by decide)).trans hcA.2.2.2.1, hcA.2.2.2.2⟩
        · by_cases e : k * 4 + j = ((p * 5 + q) * 4 + cn (p * 5 + q))
          · rw [e, va_up_self, va_up_self]
            refine ⟨rfl, ?_⟩
            unfold VX
            rw [va_up_self, va_up_self, va_up_self, va_up_self]
            have hrc := rwC_rw (S := S) (f := a26) (n := n) hn
            refine ⟨by omega, by omega, ⟨?_, ?_, hrc.2.2⟩, pk_us, fun t ht => ?_, ?_⟩
            · exact (txS_c (by omega)).trans ((cpA_at (by omega) (by omega) (by omega)).trans hrc.1)
            · exact (txS_c (by omega)).trans ((cpA_at (by omega) (by omega) (by omega)).trans hrc.2.1)
            · rw [rcat_hi ht]
              have h9 := rcat_hi (f := fun _ => 0) (g := a26) (n := 0) (k := n) ht
              rw [Nat.zero_add] at h9
              exact h9.symm
            · exact txt_congr (fun j hj => by
                have h9 := rcat_hi (f := fun _ => 0) (g := a26) (n := 0) (k := n) hj
                rw [Nat.zero_add] at h9
                exact h9.symm) ⟨hw, hsg⟩
          · have hj2 : j < cn k := by
              by_cases ek : k = p * 5 + q
              · subst ek
                rw [va_up_self] at hj
                omega
              · rw [va_up_ne _ _ ek] at hj; exact hj
            obtain ⟨g1, g2, g3, g4, g5, g6, g7⟩ := hvv k j hk hj2
            rw [va_up_ne _ _ e, va_up_ne _ _ e]
            refine ⟨g1, ?_⟩
            unfold VX
            have hk4 := hc4 k
            have hq4 := hc4 (p * 5 + q)
            have hne : k * 4 + j < ((p * 5 + q) * 4 + cn (p * 5 + q)) ∨ ((p * 5 + q) * 4 + cn (p * 5 + q)) < k * 4 + j := Nat.lt_or_gt_of_ne e
            rw [va_up_ne _ _ e, va_up_ne _ _ e, va_up_ne _ _ e, va_up_ne _ _ e]
            refine ⟨g2, g3, rw_keep g4 ?_ ?_, (pk_un e).trans g5, fun t ht => ?_, g7⟩
            · exact txS_at (by omega) (by omega) (by omega) (by omega) (hlt _ (by rw [g4.1]; exact fun e9 => by cases e9))
            · exact txS_at (by omega) (by omega) (by omega) (by omega) (hlt _ (by rw [g4.2.1]; exact fun e9 => by cases e9))
            · have hl8 := g4.2.2.2
              rw [← g6 t ht]
              exact if_neg (fun h9 => by omega)
      · refine Cst_ok (S1 := S) hS (fun z _ _ => rfl) (w_text K l S o (nI p) (nI q) (-1 - fwp a26 n n 0 32) (fun S' => S = S') _ h1 (p_text_w K l S a26 n VR cn fb _ p q h1 hr hc hp hq q4 hw) (fun S' e9 => by rw [← e9]; exact h45)) (fun B => q_text_w cn n p q hp hq hn hsg q4 hw) ?_
        exact hv
    · exact Cst_x hS h45 hv (w_text_x1 K l S (nI p) (nI q) _ h1 (p_text_x1 K l S VR cn fb _ p q h1 hc hp hq q4)) (q_text_x1 cn p q hp hq q4 (hc4 _)) (by decide)
theorem znS_at {S : am_S} {a x y r z : Nat} {fx fy fr : Nat → Int32} {n : Nat} (h0 : z ≠ a) (h1 : z ≠ x) (h2 : z ≠ y) (h3 : z ≠ r) : (znS S a x y r fx fy fr n).1 z = S.1 z := (am_up_n h0).trans ((am_up_n h3).trans ((am_up_n h2).trans (am_up_n h1)))
theorem st_zone {K : am_K} {l : Launch} {S : am_S} {th : Int32} {o : Nat → Int64} (hI : Inv th o S) (x y w : Int32) : Cst K l S iL_zone [.ref 1, .int x, .int y, .int w, .ref 45] iX7_zone 1 [.ref 25, .int x, .int y, .int w] := by
  obtain ⟨pd, wd, ln, sq, st, ct, cl, ft, zn, a26, a27, a28, a29, a30, a31, a32, a33, a34, a35, a36, a37, a38, a39, a40, a41, a42, a43, a44, hS, h45, hv⟩ := hI
  obtain ⟨h1, hP, hC, hT, hF, hZ, hR⟩ := id hv
  obtain ⟨z0, hz, rfl⟩ := id hZ
  rcases Nat.lt_or_ge z0 16 with h16 | h16
  · by_cases hp : (-10000 ≤ x ∧ x ≤ 10000 ∧ -10000 ≤ y ∧ y ≤ 10000)
    · by_cases hw : w < 1 ∨ 10000 < w
      · exact Cst_x hS h45 hv (w_zone_x2 K l S x y w _ h1 (p_zone_r2 K l S a40 a41 a42 z0 x y w h1 hz h16 hp hw)) (q_zone_x2 z0 x y w h16 (Or.inr hw)) (by decide)
      · have hw2 : ¬ w < 1 ∧ w ≤ 10000 := ⟨fun h => hw (Or.inl h), Int32.not_lt.mp (fun h => hw (Or.inr h))⟩
        by_cases ho : srch (zov a40 a41 a42 x y w) z0 = -1
        · refine Cst_ok (S1 := znS S 19 20 21 22 (upd a40 z0 x) (upd a41 z0 y) (upd a42 z0 w) (z0 + 1)) hS (fun z _ _ => znS_at (by omega) (by omega) (by omega) (by omega)) (w_zone K l S o x y w (nI z0) (fun S' => znS S 19 20 21 22 (upd a40 z0 x) (upd a41 z0 y) (upd a42 z0 w) (z0 + 1) = S') _ h1 (p_zone K l S a40 a41 a42 z0 x y w h1 hz h16 hp hw2 ho) (fun S' e9 => by rw [← e9]; exact (znS_at (by decide) (by decide) (by decide) (by decide)).trans h45)) (fun B => q_zone z0 x y w h16 hp hw2 ho) ?_
          exact ⟨(znS_at (by decide) (by decide) (by decide) (by decide)).trans h1, CPad_keep (fun z _ _ _ => znS_at (by omega) (by omega) (by omega) (by omega)) hP, CCap_keep (fun z _ _ => znS_at (by omega) (by omega) (by omega) (by omega)) hC, CSet_keep (fun z _ _ _ => znS_at (by omega) (by omega) (by omega) (by omega)) hT, CFin_keep (fun z _ _ => znS_at (by omega) (by omega) (by omega) (by omega)) hF, ⟨z0 + 1, znS_zn hz (by omega), rfl⟩, CRoo_keep (fun z _ _ _ => znS_at (by omega) (by omega) (by omega) (by omega)) hR⟩
        · refine Cst_ok (S1 := S) hS (fun z _ _ => rfl) (w_zone K l S o x y w (-1 - srch (zov a40 a41 a42 x y w) z0) (fun S' => S = S') _ h1 (p_zone_o K l S a40 a41 a42 z0 x y w h1 hz h16 hp hw2 ho) (fun S' e9 => by rw [← e9]; exact h45)) (fun B => q_zone_o z0 x y w h16 hp hw2 ho) ?_
          exact hv
    · exact Cst_x hS h45 hv (w_zone_x2 K l S x y w _ h1 (p_zone_p2 K l S a40 a41 a42 z0 x y w h1 hz h16 hp)) (q_zone_x2 z0 x y w h16 (Or.inl hp)) (by decide)
  · exact Cst_x hS h45 hv (w_zone_x1 K l S x y w _ h1 (p_zone_x1 K l S a40 a41 a42 z0 x y w h1 hz h16)) (q_zone_x1 z0 x y w h16 hz.2.2.2.2.1) (by decide)
theorem st_heard {K : am_K} {l : Launch} {S : am_S} {th : Int32} {o : Nat → Int64} (hI : Inv th o S) (x y : Int32) : Cst K l S iL_heard [.ref 1, .int x, .int y, .ref 45] iX7_heard 1 [.ref 25, .int x, .int y] := by
  obtain ⟨pd, wd, ln, sq, st, ct, cl, ft, zn, a26, a27, a28, a29, a30, a31, a32, a33, a34, a35, a36, a37, a38, a39, a40, a41, a42, a43, a44, hS, h45, hv⟩ := hI
  obtain ⟨h1, hP, hC, hT, hF, hZ, hR⟩ := id hv
  obtain ⟨z0, hz, rfl⟩ := id hZ
  by_cases hp : (-10000 ≤ x ∧ x ≤ 10000 ∧ -10000 ≤ y ∧ y ≤ 10000)
  · refine Cst_ok (S1 := S) hS (fun z _ _ => rfl) (w_heard K l S o x y (srch (zin a40 a41 a42 x y) z0) (fun S' => S = S') _ h1 (p_heard K l S a40 a41 a42 z0 x y h1 hz hp) (fun S' e9 => by rw [← e9]; exact h45)) (fun B => q_heard z0 x y hz.2.2.2.2.1 hp) ?_
    exact hv
  · exact Cst_x hS h45 hv (w_heard_x2 K l S x y _ h1 (p_heard_x2 K l S x y h1 hp)) (q_heard_x1 x y hp) (by decide)
theorem st_cell {K : am_K} {l : Launch} {S : am_S} {th : Int32} {o : Nat → Int64} (hI : Inv th o S) (x : Int32) : Cst K l S iL_cell [.ref 1, .int x, .ref 45] iX7_cell 1 [.ref 25, .int x] := by
  obtain ⟨pd, wd, ln, sq, st, ct, cl, ft, zn, a26, a27, a28, a29, a30, a31, a32, a33, a34, a35, a36, a37, a38, a39, a40, a41, a42, a43, a44, hS, h45, hv⟩ := hI
  obtain ⟨h1, hP, hC, hT, hF, hZ, hR⟩ := id hv
  obtain ⟨CR, sz, lt, ra, rb, cm, ck, hct, hr46, h5, rfl, hlt9, hcl, rfl, hft, hck, h80⟩ := id hF
  have hcm := hcl.2.2.1
  rcases pk_ix x (n := cm) (by omega) with h | h | ⟨k, hk, rfl⟩
  · exact Cst_x hS h45 hv (w_cell_x0 K l S x _ h1 (p_cell_x0 K l S a39 cm x h1 hcl (Or.inl h))) (q_cell_x0 cm x (Or.inl h)) (by decide)
  · exact Cst_x hS h45 hv (w_cell_x0 K l S x _ h1 (p_cell_x0 K l S a39 cm x h1 hcl (Or.inr h))) (q_cell_x0 cm x (Or.inr h)) (by decide)
  · refine Cst_ok (S1 := S) hS (fun z _ _ => rfl) (w_cell K l S o (nI k) (a39 k) (fun S' => S = S') _ h1 (p_cell K l S a39 cm k h1 hcl hk) (fun S' e9 => by rw [← e9]; exact h45)) (fun B => q_cell cm k hcm hk) ?_
    exact hv
theorem st_line {K : am_K} {l : Launch} {S : am_S} {th : Int32} {o : Nat → Int64} (hI : Inv th o S) (x y : Int32) : Cst K l S iL_line [.ref 1, .int x, .int y, .ref 45] iX7_line 1 [.ref 25, .int x, .int y] := by
  obtain ⟨pd, wd, ln, sq, st, ct, cl, ft, zn, a26, a27, a28, a29, a30, a31, a32, a33, a34, a35, a36, a37, a38, a39, a40, a41, a42, a43, a44, hS, h45, hv⟩ := hI
  obtain ⟨h1, hP, hC, hT, hF, hZ, hR⟩ := id hv
  obtain ⟨B, E, LF, NF, LB, LS, W, n, hs, rfl, hst, hn, hab⟩ := id hT
  by_cases hy : y = 0 ∨ y = 1
  · rcases Nat.eq_zero_or_pos n with e | e
    · exact Cst_x hS h45 hv (w_line_x0 K l S x y _ h1 (p_line_k0 K l S B E LF NF LB LS W n _ x y h1 hs hn hy (Or.inl e))) (q_line_x0 n x y (Or.inl (hst.trans (if_pos e)))) (by decide)
    · rw [if_neg (by omega)] at hst
      subst hst
      by_cases em : x = -1
      · subst em
        refine Cst_ok (S1 := S) hS (fun z _ _ => rfl) (w_line K l S o (-1) y _ (fun S' => S = S') _ h1 (p_line_s K l S B E LF NF LB LS W n _ y h1 hs hn e hy) (fun S' e9 => by rw [← e9]; exact h45)) (fun B => q_line_s n y hn hy) ?_
        exact hv
      · rcases pk_ix x (n := n) (by omega) with h | h | ⟨k, hk, rfl⟩
        · exact Cst_x hS h45 hv (w_line_x0 K l S x y _ h1 (p_line_k0 K l S B E LF NF LB LS W n _ x y h1 hs hn hy (Or.inr (Or.inl (lt_m1 h em))))) (q_line_x0 n x y (Or.inr (Or.inl (lt_m1 h em)))) (by decide)
        · exact Cst_x hS h45 hv (w_line_x0 K l S x y _ h1 (p_line_k0 K l S B E LF NF LB LS W n _ x y h1 hs hn hy (Or.inr (Or.inr h)))) (q_line_x0 n x y (Or.inr (Or.inr (Or.inl h)))) (by decide)
        · rcases hy with rfl | rfl
          · have e9 := (hab k hk).1
            refine Cst_ok (S1 := S) hS (fun z _ _ => rfl) (w_line K l S o (nI k) 0 (LB k) (fun S' => S = S') _ h1 (p_line_b K l S B E LF NF LB LS W n _ k h1 hs hn hk) (fun S' e9 => by rw [← e9]; exact h45)) (fun B => by rw [← e9]; exact q_line_b n k hn hk) ?_
            exact hv
          · have e9 := (hab k hk).2
            refine Cst_ok (S1 := S) hS (fun z _ _ => rfl) (w_line K l S o (nI k) 1 (LS k) (fun S' => S = S') _ h1 (p_line_l K l S B E LF NF LB LS W n _ k h1 hs hn hk) (fun S' e9 => by rw [← e9]; exact h45)) (fun B => by rw [← e9]; exact q_line_l n k hn hk) ?_
            exact hv
  · exact Cst_x hS h45 hv (w_line_x0 K l S x y _ h1 (p_line_w0 K l S x y h1 ⟨fun e => hy (Or.inl e), fun e => hy (Or.inr e)⟩)) (q_line_x0 n x y (Or.inr (Or.inr (Or.inr ⟨fun e => hy (Or.inl e), fun e => hy (Or.inr e)⟩)))) (by decide)
theorem st_level {K : am_K} {l : Launch} {S : am_S} {th : Int32} {o : Nat → Int64} (hI : Inv th o S) (x y : Int32) : Cst K l S iL_level [.ref 1, .int x, .int y, .ref 45] iX7_level 2 [.ref 25, .int x, .int y] := by
  obtain ⟨pd, wd, ln, sq, st, ct, cl, ft, zn, a26, a27, a28, a29, a30, a31, a32, a33, a34, a35, a36, a37, a38, a39, a40, a41, a42, a43, a44, hS, h45, hv⟩ := hI
  obtain ⟨h1, hP, hC, hT, hF, hZ, hR⟩ := id hv
  obtain ⟨VR, cn, fb, vr, vb, vl, vg, hc, rfl, rfl, hen, hvv⟩ := id hC
  have hf5 := hc.2.2.2.2.2.2
  have hc4 := hc.2.2.2.2.2.1
  rcases pair_or x y with hb | ⟨p, q, hp, hq, rfl, rfl⟩
  · exact Cst_x hS h45 hv (w_level_x0 K l S x y _ h1 (p_level_x0 K l S x y h1 hb)) (q_level_x0 x y hb) (by decide)
  · cases hsh : sh cn fb p 5 (some q) with
    | none =>
      refine Cst_ok (S1 := S) hS (fun z _ _ => rfl) (w_level K l S o (nI p) (nI q) (-1) (fun S' => S = S') _ h1 (p_level_n K l S VR cn fb _ p q h1 hc hp hq hsh) (fun S' e9 => by rw [← e9]; exact h45)) (fun B => q_level_n cn fb p q hc4 hf5 hp hq (hen q hq) hsh) ?_
      exact hv
    | some r =>
      obtain ⟨hr, h0⟩ := sh_lt (cn := cn) (fb := fb) (p := p) hf5 5 (some q) (fun j h9 => by cases h9; exact hq) r hsh
      have hr4 := hc4 (p * 5 + r)
      obtain ⟨-, g2, g3, g4, g5, g6, g7⟩ := hvv (p * 5 + r) (cn (p * 5 + r) - 1) (by omega) (by omega)
      have hv9 : ∀ k j, k < 50 → j < cn k → VR (k * 4 + j) = some (vr (k * 4 + j)) := fun k j h1 h2 => (hvv k j h1 h2).1
      have hm8 := g4.2.2.2
      refine Cst_ok (S1 := S) hS (fun z _ _ => rfl) (w_level K l S o (nI p) (nI q) (lvl (vg ((p * 5 + r) * 4 + (cn (p * 5 + r) - 1))) (vl ((p * 5 + r) * 4 + (cn (p * 5 + r) - 1)))) (fun S' => S = S') _ h1 (p_level K l S VR cn fb _ vr p q r _ _ _ _ h1 hc hv9 hp hq hsh g4) (fun S' e9 => by rw [← e9]; exact h45)) (fun B => q_level cn fb p q r _ _ _ hc4 hf5 hp hq (hen q hq) hsh rfl (by omega) g5 hm8 g6 (txt_0 g7) g7.2) ?_
      exact hv
theorem st_count {K : am_K} {l : Launch} {S : am_S} {th : Int32} {o : Nat → Int64} (hI : Inv th o S) (x : Int32) : Cst K l S iL_count [.ref 1, .int x, .ref 45] iX7_count 1 [.ref 25, .int x] := by
  obtain ⟨pd, wd, ln, sq, st, ct, cl, ft, zn, a26, a27, a28, a29, a30, a31, a32, a33, a34, a35, a36, a37, a38, a39, a40, a41, a42, a43, a44, hS, h45, hv⟩ := hI
  obtain ⟨h1, hP, hC, hT, hF, hZ, hR⟩ := id hv
  obtain ⟨VR, cn, fb, vr, vb, vl, vg, hc, rfl, rfl, hen, hvv⟩ := id hC
  have hf5 := hc.2.2.2.2.2.2
  have hc4 := hc.2.2.2.2.2.1
  obtain ⟨n, hr, rfl, hsg⟩ := id hP
  obtain ⟨z0, hz, rfl⟩ := id hZ
  obtain ⟨CR, sz, lt, ra, rb, cm, ck, hct, hr46, h5, rfl, hlt9, hcl, rfl, hft, hck, h80⟩ := id hF
  obtain ⟨J, hm, hJ⟩ := id hR
  rcases pk_ix x (n := 6) (by decide) with h | h | ⟨k, hk, rfl⟩
  · exact Cst_x hS h45 hv (w_count_x0 K l S x _ h1 (p_count_x0 K l S x h1 (Or.inl (Int32.lt_iff_toInt_lt.mp h)))) (q_count_x0 x (Or.inl h)) (by decide)
  · have h9 : (6 : Int32).toInt ≤ x.toInt := Int32.le_iff_toInt_le.mp h
    have h8 : (6 : Int32).toInt = 6 := by decide
    exact Cst_x hS h45 hv (w_count_x0 K l S x _ h1 (p_count_x0 K l S x h1 (Or.inr (by omega)))) (q_count_x0 x (Or.inr h)) (by decide)
  · have hk6 : k = 0 ∨ k = 1 ∨ k = 2 ∨ k = 3 ∨ k = 4 ∨ k = 5 := by omega
    rcases hk6 with rfl | rfl | rfl | rfl | rfl | rfl
    · refine Cst_ok (S1 := S) hS (fun z _ _ => rfl) (w_count K l S o 0 (nI n) (fun S' => S = S') _ h1 (p_count0 K l S a26 n h1 hr) (fun S' e9 => by rw [← e9]; exact h45)) (fun B => q_count0) ?_
      exact hv
    · refine Cst_ok (S1 := S) hS (fun z _ _ => rfl) (w_count K l S o 1 (nI (sumN cn 50)) (fun S' => S = S') _ h1 (p_count1 K l S VR cn fb _ h1 hc) (fun S' e9 => by rw [← e9]; exact h45)) (fun B => q_count1 cn) ?_
      exact hv
    · refine Cst_ok (S1 := S) hS (fun z _ _ => rfl) (w_count K l S o 2 (ct) (fun S' => S = S') _ h1 (p_count2 K l S CR sz lt ra rb ct h1 hct) (fun S' e9 => by rw [← e9]; exact h45)) (fun B => q_count2) ?_
      exact hv
    · refine Cst_ok (S1 := S) hS (fun z _ _ => rfl) (w_count K l S o 3 (nI z0) (fun S' => S = S') _ h1 (p_count3 K l S a40 a41 a42 z0 h1 hz) (fun S' e9 => by rw [← e9]; exact h45)) (fun B => q_count3) ?_
      exact hv
    · refine Cst_ok (S1 := S) hS (fun z _ _ => rfl) (w_count K l S o 4 (nI (cnt (wyp a43) 576)) (fun S' => S = S') _ h1 (p_count4 K l S J _ h1 hm) (fun S' e9 => by rw [← e9]; exact h45)) (fun B => q_count4) ?_
      exact hv
    · refine Cst_ok (S1 := S) hS (fun z _ _ => rfl) (w_count K l S o 5 (nI cm) (fun S' => S = S') _ h1 (p_count5 K l S a39 cm h1 hcl) (fun S' e9 => by rw [← e9]; exact h45)) (fun B => q_count5) ?_
      exact hv
