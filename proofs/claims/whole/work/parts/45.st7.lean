theorem lnS0_at {S : am_S} {B E LF NF LB LS : Nat → Int32} {W ln m z : Nat} {sm : Int32} {g : Nat → Int32} (h : z < 8 ∨ 14 < z) : (lnS0 S B E LF NF LB LS W ln sm g m).1 z = S.1 z := sgS_at (by omega) (by omega) (by omega) (by omega) (by omega) (by omega) (by omega)
theorem lnS1_at {S : am_S} {B E LF NF LB LS : Nat → Int32} {W ln m z : Nat} {sm w : Int32} {g : Nat → Int32} (h : z < 8 ∨ 14 < z) : (lnS1 S B E LF NF LB LS W ln sm w g m).1 z = S.1 z := sgS_at (by omega) (by omega) (by omega) (by omega) (by omega) (by omega) (by omega)
theorem st_lines {K : am_K} {l : Launch} {S : am_S} {th : Int32} {o : Nat → Int64} (hI : Inv th o S) (x y w : Int32) : Cst K l S iL_lines [.ref 1, .int x, .int y, .int w, .ref 45] iX7_lines 2 [.ref 25, .int x, .int y, .int w] := by
  obtain ⟨pd, wd, ln, sq, st, ct, cl, ft, zn, a26, a27, a28, a29, a30, a31, a32, a33, a34, a35, a36, a37, a38, a39, a40, a41, a42, a43, a44, hS, h45, hv⟩ := hI
  obtain ⟨h1, hP, hC, hT, hF, hZ, hR⟩ := id hv
  obtain ⟨VR, cn, fb, vr, vb, vl, vg, hc, rfl, rfl, hen, hvv⟩ := id hC
  have hf5 := hc.2.2.2.2.2.2
  have hc4 := hc.2.2.2.2.2.1
  obtain ⟨B, E, LF, NF, LB, LS, W0, n0, hs, rfl, hst, hn0, hab⟩ := id hT
  rcases pair_or x y with hb | ⟨p, q, hp, hq, rfl, rfl⟩
  · exact Cst_x hS h45 hv (w_lines_x0 K l S x y w _ h1 (p_lines_x0 K l S x y w h1 hb)) (q_lines_x0 x y w hb) (by decide)
  · by_cases hw : w < 1 ∨ 60 < w
    · exact Cst_x hS h45 hv (w_lines_x2 K l S (nI p) (nI q) w _ h1 (p_lines_x2 K l S p q w h1 hp hq hw)) (q_lines_x2 p q w hp hq hw) (by decide)
    · have hw2 : ¬ w < 1 ∧ w ≤ 60 := ⟨fun h => hw (Or.inl h), Int32.not_lt.mp (fun h => hw (Or.inr h))⟩
      cases hsh : sh cn fb p 5 (some q) with
      | none =>
        refine Cst_ok (S1 := S) hS (fun z _ _ => rfl) (w_lines K l S o (nI p) (nI q) w (-1) (fun S' => S = S') _ h1 (p_lines_n K l S VR cn fb _ p q w h1 hc hp hq hsh hw2) (fun S' e9 => by rw [← e9]; exact h45)) (fun B => q_lines_n cn fb p q w hc4 hf5 hp hq (hen q hq) hsh hw2) ?_
        exact hv
      | some r =>
        obtain ⟨hr, h0⟩ := sh_lt (cn := cn) (fb := fb) (p := p) hf5 5 (some q) (fun j h9 => by cases h9; exact hq) r hsh
        have hr4 := hc4 (p * 5 + r)
        obtain ⟨-, g2, g3, g4, g5, g6, g7⟩ := hvv (p * 5 + r) (cn (p * 5 + r) - 1) (by omega) (by omega)
        have hv9 : ∀ k j, k < 50 → j < cn k → VR (k * 4 + j) = some (vr (k * 4 + j)) := fun k j h1 h2 => (hvv k j h1 h2).1
        have hm8 := g4.2.2.2
        generalize eiv : (p * 5 + r) * 4 + (cn (p * 5 + r) - 1) = iv at g2 g3 g4 g5 g6 g7 hm8
        have hiv : iv < 200 := by omega
        generalize vg iv = g at g4 g6 g7
        generalize vl iv = m at g4 g5 g6 g7 hm8
        obtain ⟨w, hw6, rfl⟩ : ∃ k : Nat, k ≤ 60 ∧ w = nI k := nI_of2 (M := 60) (n := 60) (by decide) (fun h => hw2.1 (Int32.lt_trans h (by decide))) hw2.2
        have hW := txt_40 hm8 g7
        obtain ⟨bg, en, d1, d2, d3, d4, d5, d6⟩ := words_ex (g := g) (m := m) (m + 1)
        have hd : Wd (cnt (sep g m) (m + 1)) bg en m (wB g m B (m + 1)) (wE g m E (m + 1)) := ⟨fun j hj => ⟨d1 B j hj, d2 E j hj, (d3 j hj).1, by have := (d3 j hj).2; omega⟩, d4⟩
        have hd' : Wd (cnt (sep g m) (m + 1)) bg en m (wB g m a31 (m + 1)) (wE g m a32 (m + 1)) := ⟨fun j hj => ⟨d1 a31 j hj, d2 a32 j hj, (d3 j hj).1, by have := (d3 j hj).2; omega⟩, d4⟩
        have hW0 : 0 < (cnt (sep g m) (m + 1)) := by rw [sep_W]; omega
        have hfi : lww (wB g m B (m + 1)) (wE g m E (m + 1)) (cnt (sep g m) (m + 1)) ≤ nI w ↔ ∀ i, i < (cnt (sep g m) (m + 1)) → en i - bg i ≤ w := by
          rw [lww_iff (nI_pos' (by omega))]
          constructor
          · intro h i hi
            have h9 := h i hi
            have g9 := hd.1 i hi
            rw [g9.1, g9.2.1, nI_sub g9.2.2.1] at h9
            exact (nI_leI (by omega) (by omega)).mp h9
          · intro h i hi
            have g9 := hd.1 i hi
            rw [g9.1, g9.2.1, nI_sub g9.2.2.1]
            exact nI_le (h i hi) (by omega)
        by_cases hfit : ∀ i, i < (cnt (sep g m) (m + 1)) → en i - bg i ≤ w
        · have hall := dp_all (LF := LF) (C := a33) (T := a34) hd hd' hm8 hw6 hW hfit (cnt (sep g m) (m + 1)) (Nat.le_refl _)
          have hnx : ∀ j, j < (cnt (sep g m) (m + 1)) → (fun j => (ires (nI w) (wB g m B (m + 1)) (wE g m E (m + 1)) (flL (nI w) (wB g m B (m + 1)) (wE g m E (m + 1)) (cnt (sep g m) (m + 1)) LF ((cnt (sep g m) (m + 1)) - (j + 1))) (cnt (sep g m) (m + 1)) j).2) j = (fun j => j + (fun j => (fun j => (ires (nI w) (wB g m B (m + 1)) (wE g m E (m + 1)) (flL (nI w) (wB g m B (m + 1)) (wE g m E (m + 1)) (cnt (sep g m) (m + 1)) LF ((cnt (sep g m) (m + 1)) - (j + 1))) (cnt (sep g m) (m + 1)) j).2) j - j) j) j := fun j hj => by
            obtain ⟨x, n, -, -, -, e3, -, e5, -⟩ := hall j (by omega) hj
            show (ires _ _ _ _ _ j).2 = j + ((ires _ _ _ _ _ j).2 - j)
            omega
          obtain ⟨x0, -, hx0, e1, e2, -⟩ := hall 0 (by omega) hW0
          have hr9 : nI (nct (fun j => j + (fun j => (fun j => (ires (nI w) (wB g m B (m + 1)) (wE g m E (m + 1)) (flL (nI w) (wB g m B (m + 1)) (wE g m E (m + 1)) (cnt (sep g m) (m + 1)) LF ((cnt (sep g m) (m + 1)) - (j + 1))) (cnt (sep g m) (m + 1)) j).2) j - j) j) (cnt (sep g m) (m + 1)) (cnt (sep g m) (m + 1)) 0) = nI (lnN B E LF (nI w) g m) := by
            rw [← nct_congr hnx]; rfl
          have hN0 : 0 < (nct (fun j => (ires (nI w) (wB g m B (m + 1)) (wE g m E (m + 1)) (flL (nI w) (wB g m B (m + 1)) (wE g m E (m + 1)) (cnt (sep g m) (m + 1)) LF ((cnt (sep g m) (m + 1)) - (j + 1))) (cnt (sep g m) (m + 1)) j).2) (cnt (sep g m) (m + 1)) (cnt (sep g m) (m + 1)) 0) := nct_pos hW0
          refine Cst_ok (S1 := lnS1 S B E LF NF LB LS W0 n0 sq (nI w) g m) hS (fun z _ _ => lnS1_at (by omega)) (w_lines K l S o (nI p) (nI q) (nI w) (nI (lnN B E LF (nI w) g m)) (fun S' => lnS1 S B E LF NF LB LS W0 n0 sq (nI w) g m = S') _ h1 (p_lines1 K l S VR cn fb _ vr p q r _ _ g m B E LF NF LB LS W0 n0 sq (nI w) h1 hc hv9 hp hq hsh (by rw [eiv]; exact g4) hw2 hs (by omega) hW (hfi.mpr hfit)) (fun S' e9 => by rw [← e9]; exact (lnS1_at (by decide)).trans h45)) (fun Bs => by
            rw [← hr9]
            exact q_lines1 cn fb p q r iv m g (nI w) (fun j => (fun j => (ires (nI w) (wB g m B (m + 1)) (wE g m E (m + 1)) (flL (nI w) (wB g m B (m + 1)) (wE g m E (m + 1)) (cnt (sep g m) (m + 1)) LF ((cnt (sep g m) (m + 1)) - (j + 1))) (cnt (sep g m) (m + 1)) j).2) j - j) hc4 hf5 hp hq (hen q hq) hsh eiv.symm hiv g5 hm8 g6 hw2 hW (by rw [e2]; exact nI_m1 (by omega)) (fun j hj => by
              obtain ⟨x, n, -, -, -, e3, e4, e5, e6⟩ := hall j (by omega) hj
              refine ⟨?_, ?_, ?_⟩
              · rw [e4, ← e3]
              · show 0 < (ires _ _ _ _ _ j).2 - j; omega
              · show j + ((ires _ _ _ _ _ j).2 - j) ≤ _; omega)) ?_
          refine ⟨(lnS1_at (by decide)).trans h1, CPad_keep (fun z _ _ _ => lnS1_at (by omega)) hP, CCap_keep (fun z _ _ => lnS1_at (by omega)) hC, ⟨(wB g m B (m + 1)), (wE g m E (m + 1)), (flL (nI w) (wB g m B (m + 1)) (wE g m E (m + 1)) (cnt (sep g m) (m + 1)) LF (cnt (sep g m) (m + 1))), flN (nI w) (wB g m B (m + 1)) (wE g m E (m + 1)) (cnt (sep g m) (m + 1)) LF NF (cnt (sep g m) (m + 1)), rcat LB 0 (fun j => (wB g m B (m + 1)) (tfi (fun j => (ires (nI w) (wB g m B (m + 1)) (wE g m E (m + 1)) (flL (nI w) (wB g m B (m + 1)) (wE g m E (m + 1)) (cnt (sep g m) (m + 1)) LF ((cnt (sep g m) (m + 1)) - (j + 1))) (cnt (sep g m) (m + 1)) j).2) j)) (nct (fun j => (ires (nI w) (wB g m B (m + 1)) (wE g m E (m + 1)) (flL (nI w) (wB g m B (m + 1)) (wE g m E (m + 1)) (cnt (sep g m) (m + 1)) LF ((cnt (sep g m) (m + 1)) - (j + 1))) (cnt (sep g m) (m + 1)) j).2) (cnt (sep g m) (m + 1)) (cnt (sep g m) (m + 1)) 0), rcat LS 0 (fun j => (wE g m E (m + 1)) ((fun j => (ires (nI w) (wB g m B (m + 1)) (wE g m E (m + 1)) (flL (nI w) (wB g m B (m + 1)) (wE g m E (m + 1)) (cnt (sep g m) (m + 1)) LF ((cnt (sep g m) (m + 1)) - (j + 1))) (cnt (sep g m) (m + 1)) j).2) (tfi (fun j => (ires (nI w) (wB g m B (m + 1)) (wE g m E (m + 1)) (flL (nI w) (wB g m B (m + 1)) (wE g m E (m + 1)) (cnt (sep g m) (m + 1)) LF ((cnt (sep g m) (m + 1)) - (j + 1))) (cnt (sep g m) (m + 1)) j).2) j) - 1) - (wB g m B (m + 1)) (tfi (fun j => (ires (nI w) (wB g m B (m + 1)) (wE g m E (m + 1)) (flL (nI w) (wB g m B (m + 1)) (wE g m E (m + 1)) (cnt (sep g m) (m + 1)) LF ((cnt (sep g m) (m + 1)) - (j + 1))) (cnt (sep g m) (m + 1)) j).2) j)) (nct (fun j => (ires (nI w) (wB g m B (m + 1)) (wE g m E (m + 1)) (flL (nI w) (wB g m B (m + 1)) (wE g m E (m + 1)) (cnt (sep g m) (m + 1)) LF ((cnt (sep g m) (m + 1)) - (j + 1))) (cnt (sep g m) (m + 1)) j).2) (cnt (sep g m) (m + 1)) (cnt (sep g m) (m + 1)) 0), (cnt (sep g m) (m + 1)), (nct (fun j => (ires (nI w) (wB g m B (m + 1)) (wE g m E (m + 1)) (flL (nI w) (wB g m B (m + 1)) (wE g m E (m + 1)) (cnt (sep g m) (m + 1)) LF ((cnt (sep g m) (m + 1)) - (j + 1))) (cnt (sep g m) (m + 1)) j).2) (cnt (sep g m) (m + 1)) (cnt (sep g m) (m + 1)) 0), ?_, ?_, ?_, ?_, fun k hk => ?_⟩, CFin_keep (fun z _ _ => lnS1_at (by omega)) hF, CZon_keep (fun z _ _ _ => lnS1_at (by omega)) hZ, CRoo_keep (fun z _ _ _ => lnS1_at (by omega)) hR⟩
          · rw [e2, ← e1]
            exact sgS_sg (by decide) (by decide)
          · rw [← nct_congr hnx]
          · rw [if_neg (by omega)]
          · exact Nat.le_trans (nct_le _ _) hW
          · have hk2 : k < nct (fun j => j + (fun j => (fun j => (ires (nI w) (wB g m B (m + 1)) (wE g m E (m + 1)) (flL (nI w) (wB g m B (m + 1)) (wE g m E (m + 1)) (cnt (sep g m) (m + 1)) LF ((cnt (sep g m) (m + 1)) - (j + 1))) (cnt (sep g m) (m + 1)) j).2) j - j) j) (cnt (sep g m) (m + 1)) (cnt (sep g m) (m + 1)) 0 := by rw [← nct_congr hnx]; exact hk
            have t1 := tfi_lt hk
            have t2 := tfi_congr hnx k (by omega)
            have a1 := rcat_hi (f := a35) (g := fun j => (wB g m a31 (m + 1)) (tfi (fun j => j + (fun j => (fun j => (ires (nI w) (wB g m B (m + 1)) (wE g m E (m + 1)) (flL (nI w) (wB g m B (m + 1)) (wE g m E (m + 1)) (cnt (sep g m) (m + 1)) LF ((cnt (sep g m) (m + 1)) - (j + 1))) (cnt (sep g m) (m + 1)) j).2) j - j) j) j)) (n := 0) (k := nct (fun j => j + (fun j => (fun j => (ires (nI w) (wB g m B (m + 1)) (wE g m E (m + 1)) (flL (nI w) (wB g m B (m + 1)) (wE g m E (m + 1)) (cnt (sep g m) (m + 1)) LF ((cnt (sep g m) (m + 1)) - (j + 1))) (cnt (sep g m) (m + 1)) j).2) j - j) j) (cnt (sep g m) (m + 1)) (cnt (sep g m) (m + 1)) 0) hk2
            have a2 := rcat_hi (f := LB) (g := fun j => (wB g m B (m + 1)) (tfi (fun j => (ires (nI w) (wB g m B (m + 1)) (wE g m E (m + 1)) (flL (nI w) (wB g m B (m + 1)) (wE g m E (m + 1)) (cnt (sep g m) (m + 1)) LF ((cnt (sep g m) (m + 1)) - (j + 1))) (cnt (sep g m) (m + 1)) j).2) j)) (n := 0) (k := (nct (fun j => (ires (nI w) (wB g m B (m + 1)) (wE g m E (m + 1)) (flL (nI w) (wB g m B (m + 1)) (wE g m E (m + 1)) (cnt (sep g m) (m + 1)) LF ((cnt (sep g m) (m + 1)) - (j + 1))) (cnt (sep g m) (m + 1)) j).2) (cnt (sep g m) (m + 1)) (cnt (sep g m) (m + 1)) 0)) hk
            have a3 := rcat_hi (f := a36) (g := fun j => (wE g m a32 (m + 1)) ((fun j => j + (fun j => (fun j => (ires (nI w) (wB g m B (m + 1)) (wE g m E (m + 1)) (flL (nI w) (wB g m B (m + 1)) (wE g m E (m + 1)) (cnt (sep g m) (m + 1)) LF ((cnt (sep g m) (m + 1)) - (j + 1))) (cnt (sep g m) (m + 1)) j).2) j - j) j) (tfi (fun j => j + (fun j => (fun j => (ires (nI w) (wB g m B (m + 1)) (wE g m E (m + 1)) (flL (nI w) (wB g m B (m + 1)) (wE g m E (m + 1)) (cnt (sep g m) (m + 1)) LF ((cnt (sep g m) (m + 1)) - (j + 1))) (cnt (sep g m) (m + 1)) j).2) j - j) j) j) - 1) - (wB g m a31 (m + 1)) (tfi (fun j => j + (fun j => (fun j => (ires (nI w) (wB g m B (m + 1)) (wE g m E (m + 1)) (flL (nI w) (wB g m B (m + 1)) (wE g m E (m + 1)) (cnt (sep g m) (m + 1)) LF ((cnt (sep g m) (m + 1)) - (j + 1))) (cnt (sep g m) (m + 1)) j).2) j - j) j) j)) (n := 0) (k := nct (fun j => j + (fun j => (fun j => (ires (nI w) (wB g m B (m + 1)) (wE g m E (m + 1)) (flL (nI w) (wB g m B (m + 1)) (wE g m E (m + 1)) (cnt (sep g m) (m + 1)) LF ((cnt (sep g m) (m + 1)) - (j + 1))) (cnt (sep g m) (m + 1)) j).2) j - j) j) (cnt (sep g m) (m + 1)) (cnt (sep g m) (m + 1)) 0) hk2
            have a4 := rcat_hi (f := LS) (g := fun j => (wE g m E (m + 1)) ((fun j => (ires (nI w) (wB g m B (m + 1)) (wE g m E (m + 1)) (flL (nI w) (wB g m B (m + 1)) (wE g m E (m + 1)) (cnt (sep g m) (m + 1)) LF ((cnt (sep g m) (m + 1)) - (j + 1))) (cnt (sep g m) (m + 1)) j).2) (tfi (fun j => (ires (nI w) (wB g m B (m + 1)) (wE g m E (m + 1)) (flL (nI w) (wB g m B (m + 1)) (wE g m E (m + 1)) (cnt (sep g m) (m + 1)) LF ((cnt (sep g m) (m + 1)) - (j + 1))) (cnt (sep g m) (m + 1)) j).2) j) - 1) - (wB g m B (m + 1)) (tfi (fun j => (ires (nI w) (wB g m B (m + 1)) (wE g m E (m + 1)) (flL (nI w) (wB g m B (m + 1)) (wE g m E (m + 1)) (cnt (sep g m) (m + 1)) LF ((cnt (sep g m) (m + 1)) - (j + 1))) (cnt (sep g m) (m + 1)) j).2) j)) (n := 0) (k := (nct (fun j => (ires (nI w) (wB g m B (m + 1)) (wE g m E (m + 1)) (flL (nI w) (wB g m B (m + 1)) (wE g m E (m + 1)) (cnt (sep g m) (m + 1)) LF ((cnt (sep g m) (m + 1)) - (j + 1))) (cnt (sep g m) (m + 1)) j).2) (cnt (sep g m) (m + 1)) (cnt (sep g m) (m + 1)) 0)) hk
            rw [Nat.zero_add] at a1 a2 a3 a4
            obtain ⟨x, n, -, -, -, e3, e4, e5, e6⟩ := hall _ (by omega) t1
            have b1 := hd.1 _ t1
            have b2 := hd'.1 _ t1
            have nx1 : (fun j => (ires (nI w) (wB g m B (m + 1)) (wE g m E (m + 1)) (flL (nI w) (wB g m B (m + 1)) (wE g m E (m + 1)) (cnt (sep g m) (m + 1)) LF ((cnt (sep g m) (m + 1)) - (j + 1))) (cnt (sep g m) (m + 1)) j).2) (tfi (fun j => (ires (nI w) (wB g m B (m + 1)) (wE g m E (m + 1)) (flL (nI w) (wB g m B (m + 1)) (wE g m E (m + 1)) (cnt (sep g m) (m + 1)) LF ((cnt (sep g m) (m + 1)) - (j + 1))) (cnt (sep g m) (m + 1)) j).2) k) - 1 < (cnt (sep g m) (m + 1)) := by show (ires _ _ _ _ _ _).2 - 1 < _; omega
            have b3 := hd.1 _ nx1
            have b4 := hd'.1 _ nx1
            have nx2 := hnx _ t1
            refine ⟨?_, ?_⟩
            · refine a1.trans (Eq.trans ?_ a2.symm)
              show (wB g m a31 (m + 1)) (tfi (fun j => j + (fun j => (fun j => (ires (nI w) (wB g m B (m + 1)) (wE g m E (m + 1)) (flL (nI w) (wB g m B (m + 1)) (wE g m E (m + 1)) (cnt (sep g m) (m + 1)) LF ((cnt (sep g m) (m + 1)) - (j + 1))) (cnt (sep g m) (m + 1)) j).2) j - j) j) k) = (wB g m B (m + 1)) (tfi (fun j => (ires (nI w) (wB g m B (m + 1)) (wE g m E (m + 1)) (flL (nI w) (wB g m B (m + 1)) (wE g m E (m + 1)) (cnt (sep g m) (m + 1)) LF ((cnt (sep g m) (m + 1)) - (j + 1))) (cnt (sep g m) (m + 1)) j).2) k)
              rw [← t2, b1.1, b2.1]
            · refine a3.trans (Eq.trans ?_ a4.symm)
              show (wE g m a32 (m + 1)) ((fun j => j + (fun j => (fun j => (ires (nI w) (wB g m B (m + 1)) (wE g m E (m + 1)) (flL (nI w) (wB g m B (m + 1)) (wE g m E (m + 1)) (cnt (sep g m) (m + 1)) LF ((cnt (sep g m) (m + 1)) - (j + 1))) (cnt (sep g m) (m + 1)) j).2) j - j) j) (tfi (fun j => j + (fun j => (fun j => (ires (nI w) (wB g m B (m + 1)) (wE g m E (m + 1)) (flL (nI w) (wB g m B (m + 1)) (wE g m E (m + 1)) (cnt (sep g m) (m + 1)) LF ((cnt (sep g m) (m + 1)) - (j + 1))) (cnt (sep g m) (m + 1)) j).2) j - j) j) k) - 1) - (wB g m a31 (m + 1)) (tfi (fun j => j + (fun j => (fun j => (ires (nI w) (wB g m B (m + 1)) (wE g m E (m + 1)) (flL (nI w) (wB g m B (m + 1)) (wE g m E (m + 1)) (cnt (sep g m) (m + 1)) LF ((cnt (sep g m) (m + 1)) - (j + 1))) (cnt (sep g m) (m + 1)) j).2) j - j) j) k) = (wE g m E (m + 1)) ((fun j => (ires (nI w) (wB g m B (m + 1)) (wE g m E (m + 1)) (flL (nI w) (wB g m B (m + 1)) (wE g m E (m + 1)) (cnt (sep g m) (m + 1)) LF ((cnt (sep g m) (m + 1)) - (j + 1))) (cnt (sep g m) (m + 1)) j).2) (tfi (fun j => (ires (nI w) (wB g m B (m + 1)) (wE g m E (m + 1)) (flL (nI w) (wB g m B (m + 1)) (wE g m E (m + 1)) (cnt (sep g m) (m + 1)) LF ((cnt (sep g m) (m + 1)) - (j + 1))) (cnt (sep g m) (m + 1)) j).2) k) - 1) - (wB g m B (m + 1)) (tfi (fun j => (ires (nI w) (wB g m B (m + 1)) (wE g m E (m + 1)) (flL (nI w) (wB g m B (m + 1)) (wE g m E (m + 1)) (cnt (sep g m) (m + 1)) LF ((cnt (sep g m) (m + 1)) - (j + 1))) (cnt (sep g m) (m + 1)) j).2) k)
              rw [← t2, ← nx2, b1.1, b2.1, b3.2.1, b4.2.1]
        · obtain ⟨i0, hi0, hbig⟩ : ∃ i, i < (cnt (sep g m) (m + 1)) ∧ w < en i - bg i := by
            rcases Classical.em (∃ i, i < (cnt (sep g m) (m + 1)) ∧ w < en i - bg i) with q9 | q9
            · exact q9
            · exact absurd (fun i hi => Nat.le_of_not_lt (fun h9 => q9 ⟨i, hi, h9⟩)) hfit
          have hno := dp_no (C := a33) (T := a34) hd' hm8 hi0 hbig (cnt (sep g m) (m + 1)) (Nat.le_refl _) 0 (by omega) (Nat.zero_le _)
          refine Cst_ok (S1 := lnS0 S B E LF NF LB LS W0 n0 sq g m) hS (fun z _ _ => lnS0_at (by omega)) (w_lines K l S o (nI p) (nI q) (nI w) (-1) (fun S' => lnS0 S B E LF NF LB LS W0 n0 sq g m = S') _ h1 (p_lines0 K l S VR cn fb _ vr p q r _ _ g m B E LF NF LB LS W0 n0 sq (nI w) h1 hc hv9 hp hq hsh (by rw [eiv]; exact g4) hw2 hs (by omega) hW (fun h => hfit (hfi.mp h))) (fun S' e9 => by rw [← e9]; exact (lnS0_at (by decide)).trans h45)) (fun Bs => q_lines0 cn fb p q r iv m g (nI w) hc4 hf5 hp hq (hen q hq) hsh eiv.symm hiv g5 hm8 g6 hw2 hW hno) ?_
          exact ⟨(lnS0_at (by decide)).trans h1, CPad_keep (fun z _ _ _ => lnS0_at (by omega)) hP, CCap_keep (fun z _ _ => lnS0_at (by omega)) hC, ⟨(wB g m B (m + 1)), (wE g m E (m + 1)), LF, NF, LB, LS, (cnt (sep g m) (m + 1)), n0, sgS_sg (by decide) (by decide), rfl, hst, hn0, hab⟩, CFin_keep (fun z _ _ => lnS0_at (by omega)) hF, CZon_keep (fun z _ _ _ => lnS0_at (by omega)) hZ, CRoo_keep (fun z _ _ _ => lnS0_at (by omega)) hR⟩
