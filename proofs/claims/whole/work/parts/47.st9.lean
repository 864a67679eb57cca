/-! ARROWS: rings by bits, and the reference's distances -/
def rgc (J : Nat → Int32) (t : Nat) : Nat → Int32 × Int32
  | 0 => (0, pw t)
  | s + 1 => ((rgc J t s).1 ||| (rgc J t s).2, ba J (rgc J t s).2 24 &&& (((rgc J t s).1 ||| (rgc J t s).2) ^^^ (-1)))
theorem bt_f {x : Bool} (h : ¬ x = true) : x = false := by cases x <;> first | rfl | exact absurd rfl h
theorem gb_ba {J : Nat → Int32} {ring : Int32} {v : Nat} : ∀ n, n ≤ 24 → (gb (ba J ring n) v = true ↔ ∃ u, u < n ∧ gb ring u = true ∧ gb (J u) v = true)
  | 0, _ => ⟨(fun h => by rw [ba, gb_0] at h; cases h), fun ⟨u, hu, _⟩ => absurd hu (Nat.not_lt_zero _)⟩
  | n + 1, hn => by
    have ih := gb_ba (J := J) (ring := ring) (v := v) n (by omega)
    rw [ba]
    by_cases c : ring &&& pw n = 0
    · rw [if_pos c, ih]
      have c2 := (and_pw (by omega)).mp c
      constructor
      · rintro ⟨u, hu, h1, h2⟩; exact ⟨u, by omega, h1, h2⟩
      · rintro ⟨u, hu, h1, h2⟩
        rcases Nat.lt_or_ge u n with q | q
        · exact ⟨u, q, h1, h2⟩
        · rw [show u = n by omega, c2] at h1; cases h1
    · rw [if_neg c, gb_or, Bool.or_eq_true, ih]
      have c2 : gb ring n = true := by
        cases e : gb ring n with
        | true => rfl
        | false => exact absurd ((and_pw (by omega)).mpr e) c
      constructor
      · rintro (⟨u, hu, h1, h2⟩ | h)
        · exact ⟨u, by omega, h1, h2⟩
        · exact ⟨n, by omega, c2, h⟩
      · rintro ⟨u, hu, h1, h2⟩
        rcases Nat.lt_or_ge u n with q | q
        · exact Or.inl ⟨u, q, h1, h2⟩
        · rw [show u = n by omega] at h2; exact Or.inr h2
theorem rg_c {J : Nat → Int32} {t v : Nat} : ∀ s, gb (rgc J t s).1 v = true ↔ ∃ j, j < s ∧ gb (rgc J t j).2 v = true
  | 0 => ⟨(fun h => by rw [rgc, gb_0] at h; cases h), fun ⟨j, hj, _⟩ => absurd hj (Nat.not_lt_zero _)⟩
  | s + 1 => by
    rw [rgc, gb_or, Bool.or_eq_true, rg_c s]
    constructor
    · rintro (⟨j, hj, h⟩ | h)
      · exact ⟨j, by omega, h⟩
      · exact ⟨s, by omega, h⟩
    · rintro ⟨j, hj, h⟩
      rcases Nat.lt_or_ge j s with q | q
      · exact Or.inl ⟨j, q, h⟩
      · rw [show j = s by omega] at h; exact Or.inr h
theorem rg_s {J : Nat → Int32} {t v s : Nat} (hv : v < 32) : gb (rgc J t (s + 1)).2 v = true ↔ (∃ u, u < 24 ∧ gb (rgc J t s).2 u = true ∧ gb (J u) v = true) ∧ ¬ ∃ j, j ≤ s ∧ gb (rgc J t j).2 v = true := by
  have e : (rgc J t (s + 1)).2 = ba J (rgc J t s).2 24 &&& ((rgc J t (s + 1)).1 ^^^ (-1)) := rfl
  rw [e, gb_and, Bool.and_eq_true, gb_ba 24 (Nat.le_refl _), gb_xor, gb_m1 v hv, Bool.xor_true]
  have e2 : ((!gb (rgc J t (s + 1)).1 v) = true) ↔ ¬ ∃ j, j ≤ s ∧ gb (rgc J t j).2 v = true := by
    rw [Bool.not_eq_true']
    constructor
    · rintro h ⟨j, hj, h2⟩
      rw [(rg_c (s + 1)).mpr ⟨j, by omega, h2⟩] at h
      cases h
    · intro h
      exact bt_f (fun q => by
        obtain ⟨j, hj, h2⟩ := (rg_c (s + 1)).mp q
        exact h ⟨j, by omega, h2⟩)
  rw [e2]
theorem rg_dis {J : Nat → Int32} {t v i j : Nat} (hv : v < 32) (h1 : gb (rgc J t i).2 v = true) (h2 : gb (rgc J t j).2 v = true) : i = j := by
  have key : ∀ i j, i < j → gb (rgc J t i).2 v = true → gb (rgc J t j).2 v = true → False := fun i j hij g1 g2 => by
    obtain ⟨k, rfl⟩ : ∃ k, j = k + 1 := ⟨j - 1, by omega⟩
    exact ((rg_s hv).mp g2).2 ⟨i, by omega, g1⟩
  rcases Nat.lt_trichotomy i j with q | q | q
  · exact (key i j q h1 h2).elim
  · exact q
  · exact (key j i q h2 h1).elim
theorem rg_24 {J : Nat → Int32} {t v : Nat} (ht : t < 24) (hJ3 : ∀ a b, a < 24 → 24 ≤ b → b < 32 → J a &&& pw b = 0) (h1 : 24 ≤ v) (h2 : v < 32) : ∀ s, gb (rgc J t s).2 v = false
  | 0 => by rw [rgc, gb_pw (by omega)]; exact decide_eq_false (by omega)
  | s + 1 => bt_f (fun q => by
      obtain ⟨⟨u, hu, -, g⟩, -⟩ := (rg_s h2).mp q
      rw [(and_pw h2).mp (hJ3 u v hu h1 h2)] at g
      cases g)
theorem rg_z {J : Nat → Int32} {t s : Nat} (h : (rgc J t s).2 = 0) : ∀ d, (rgc J t (s + d)).2 = 0
  | 0 => h
  | d + 1 => by
    have ih := rg_z h d
    refine gb_ext (fun i hi => ?_)
    rw [gb_0]
    refine bt_f (fun q => ?_)
    obtain ⟨⟨u, -, g, -⟩, -⟩ := (rg_s (s := s + d) hi).mp q
    rw [ih, gb_0] at g
    cases g
/-- one stage of the reference -/
def Qk (W : Nat → Int32) (d : Nat) (F : Nat → Int32) (k v : Nat) : Prop := F v = -1 ∧ ∃ u, u < 24 ∧ 24 * u + v < k ∧ ¬ W (24 * u + v) = 0 ∧ F u = nI d
theorem mlk_at {W : Nat → Int32} {d : Nat} {F : Nat → Int32} (hd : d < 1000) : ∀ k, k ≤ 576 → ∀ v, v < 24 → (Qk W d F k v → mlk W d F k v = nI (d + 1)) ∧ (¬ Qk W d F k v → mlk W d F k v = F v)
  | 0, _, v, _ => ⟨fun ⟨_, u, _, h, _⟩ => absurd h (Nat.not_lt_zero _), fun _ => rfl⟩
  | k + 1, hk, v, hv => by
    have ih := mlk_at (W := W) (F := F) hd k (by omega)
    have up : Qk W d F k v → Qk W d F (k + 1) v := fun ⟨h1, u, h2, h3, h4⟩ => ⟨h1, u, h2, by omega, h4⟩
    have down : Qk W d F (k + 1) v → Qk W d F k v ∨ (F v = -1 ∧ v = k % 24 ∧ ¬ W k = 0 ∧ F (k / 24) = nI d) := fun ⟨h1, u, h2, h3, h4, h5⟩ => by
      rcases Nat.lt_or_ge (24 * u + v) k with q | q
      · exact Or.inl ⟨h1, u, h2, q, h4, h5⟩
      · have e : 24 * u + v = k := by omega
        rw [e] at h4
        exact Or.inr ⟨h1, by omega, h4, by rw [show k / 24 = u by omega]; exact h5⟩
    rw [mlk, mst]
    generalize hG : mlk W d F k = G at ih
    by_cases ev : v = k % 24
    · have eu : 24 * (k / 24) + v = k := by omega
      rw [← ev, pk_us]
      have hu := ih (k / 24) (by omega)
      have hGu : G (k / 24) = nI d ↔ F (k / 24) = nI d := by
        rcases Classical.em (Qk W d F k (k / 24)) with q | q
        · rw [hu.1 q]
          constructor
          · intro h; exact absurd ((nI_eq (by omega) (by omega)).mp h) (by omega)
          · intro h; rw [q.1] at h; exact absurd h.symm (nI_m1 (by omega))
        · rw [hu.2 q]
      by_cases w0 : W k = 0
      · rw [if_pos w0]
        refine ⟨fun q => (ih v hv).1 ((down q).resolve_right (fun z => z.2.2.1 w0)), fun q => (ih v hv).2 (fun z => q (up z))⟩
      · rw [if_neg w0]
        by_cases g0 : G (k / 24) = nI d
        · rw [if_pos g0]
          by_cases g1 : G v = -1
          · rw [if_pos g1]
            have nq : ¬ Qk W d F k v := fun q => by
              rw [(ih v hv).1 q] at g1
              exact nI_m1 (by omega) g1
            have hF : F v = -1 := by rw [← (ih v hv).2 nq]; exact g1
            have hq : Qk W d F (k + 1) v := ⟨hF, k / 24, by omega, by omega, by rw [eu]; exact w0, hGu.mp g0⟩
            exact ⟨fun _ => rfl, fun z => absurd hq z⟩
          · rw [if_neg g1]
            rcases Classical.em (Qk W d F k v) with q | q
            · exact ⟨fun _ => (ih v hv).1 q, fun z => absurd (up q) z⟩
            · have hF : ¬ F v = -1 := by rw [← (ih v hv).2 q]; exact g1
              exact ⟨fun z => absurd z.1 hF, fun _ => (ih v hv).2 q⟩
        · rw [if_neg g0]
          refine ⟨fun q => (ih v hv).1 ((down q).resolve_right (fun z => g0 (hGu.mpr z.2.2.2))), fun q => (ih v hv).2 (fun z => q (up z))⟩
    · rw [pk_un ev]
      exact ⟨fun q => (ih v hv).1 ((down q).resolve_right (fun z => ev z.2.1)), fun q => (ih v hv).2 (fun z => q (up z))⟩
theorem far_at {J W F : Nat → Int32} {t : Nat} (ht : t < 24) (hW : ∀ u v, u < 24 → v < 24 → (¬ W (24 * u + v) = 0 ↔ gb (J u) v = true)) : ∀ d, d ≤ 24 → ∀ v, v < 24 → (∀ s, s ≤ d → gb (rgc J t s).2 v = true → mld W (min0 F t) d v = nI s) ∧ ((∀ s, s ≤ d → gb (rgc J t s).2 v = false) → mld W (min0 F t) d v = -1)
  | 0, _, v, hv => by
    have e : mld W (min0 F t) 0 v = if v = t then 0 else -1 := by
      have h9 := rcat_hi (f := F) (g := fun r => if r = t then 0 else -1) (n := 0) (k := 24) hv
      rw [Nat.zero_add] at h9
      exact h9
    rw [e]
    constructor
    · intro s hs h
      rw [show s = 0 by omega, rgc, gb_pw (by omega)] at h
      rw [if_pos (of_decide_eq_true h).symm, show s = 0 by omega]; rfl
    · intro h
      have h0 := h 0 (Nat.le_refl _)
      rw [rgc, gb_pw (by omega)] at h0
      exact if_neg (fun q => of_decide_eq_false h0 q.symm)
  | d + 1, hd, v, hv => by
    have ih := far_at (F := F) ht hW d (by omega)
    rw [mld]
    have hm := mlk_at (W := W) (d := d) (F := mld W (min0 F t) d) (by omega) 576 (Nat.le_refl _) v hv
    generalize mld W (min0 F t) d = G at ih hm ⊢
    constructor
    · intro s hs h
      rcases Nat.lt_or_ge d s with q | q
      · have es : s = d + 1 := by omega
        subst es
        obtain ⟨⟨u, hu, g1, g2⟩, g3⟩ := (rg_s (by omega)).mp h
        exact hm.1 ⟨(ih v hv).2 (fun j hj => bt_f (fun z => g3 ⟨j, hj, z⟩)), u, hu, by omega, (hW u v hu hv).mpr g2, (ih u hu).1 d (Nat.le_refl _) g1⟩
      · have e := (ih v hv).1 s q h
        rw [hm.2 (fun z => by rw [z.1] at e; exact nI_m1 (by omega) e.symm)]
        exact e
    · intro h
      have e := (ih v hv).2 (fun s hs => h s (by omega))
      rw [hm.2 (fun ⟨_, u, hu, _, w1, w2⟩ => ?_)]
      · exact e
      · have hud : gb (rgc J t d).2 u = true := by
          rcases Classical.em (∃ s, s ≤ d ∧ gb (rgc J t s).2 u = true) with ⟨s, hs, g⟩ | q
          · have e9 := (ih u hu).1 s hs g
            rw [w2] at e9
            rw [(nI_eq (by omega) (by omega)).mp e9]; exact g
          · have e9 := (ih u hu).2 (fun s hs => bt_f (fun z => q ⟨s, hs, z⟩))
            rw [w2] at e9
            exact absurd e9 (nI_m1 (by omega))
        have h9 := h (d + 1) (Nat.le_refl _)
        rw [(rg_s (by omega)).mpr ⟨⟨u, hu, hud, (hW u v hu hv).mp w1⟩, fun ⟨j, hj, z⟩ => by rw [h j (by omega)] at z; cases z⟩] at h9
        cases h9
theorem far_val {J W F : Nat → Int32} {t : Nat} (ht : t < 24) (hW : ∀ u v, u < 24 → v < 24 → (¬ W (24 * u + v) = 0 ↔ gb (J u) v = true)) {v : Nat} (hv : v < 24) : (∃ s, s ≤ 24 ∧ gb (rgc J t s).2 v = true ∧ mfar W F t v = nI s) ∨ mfar W F t v = -1 := by
  have h := far_at (F := F) ht hW 24 (Nat.le_refl _) v hv
  rcases Classical.em (∃ s, s ≤ 24 ∧ gb (rgc J t s).2 v = true) with ⟨s, hs, g⟩ | q
  · exact Or.inl ⟨s, hs, g, h.1 s hs g⟩
  · exact Or.inr (h.2 (fun s hs => bt_f (fun z => q ⟨s, hs, z⟩)))
theorem least {P : Nat → Prop} : ∀ n, (∃ s, s < n ∧ P s) → ∃ s, s < n ∧ P s ∧ ∀ r, r < s → ¬ P r
  | 0, ⟨s, h, _⟩ => absurd h (Nat.not_lt_zero _)
  | n + 1, ⟨s, h, hp⟩ => by
    rcases Classical.em (∃ r, r < n ∧ P r) with q | q
    · obtain ⟨r, h1, h2, h3⟩ := least n q
      exact ⟨r, by omega, h2, h3⟩
    · have e : s = n := by
        rcases Nat.lt_or_ge s n with z | z
        · exact absurd ⟨s, z, hp⟩ q
        · omega
      subst e
      exact ⟨s, h, hp, fun r hr hr2 => q ⟨r, hr, hr2⟩⟩
def acd (W F : Nat → Int32) (a r : Nat) : Prop := ¬ W (24 * a + r) = 0 ∧ ¬ F r = -1 ∧ F r + 1 = F a
theorem arb_none {W F : Nat → Int32} {a : Nat} : ∀ i, i ≤ 24 → (∀ r, 24 - i ≤ r → r < 24 → ¬ acd W F a r) → arb W F a i = -1
  | 0, _, _ => rfl
  | i + 1, hi, h => by
    have ih := arb_none (W := W) (F := F) (a := a) i (by omega) (fun r h1 h2 => h r (by omega) h2)
    have hn := h (23 - i) (by omega) (by omega)
    rw [arb]
    by_cases c1 : W (24 * a + (23 - i)) = 0
    · rw [if_pos c1]; exact ih
    · rw [if_neg c1]
      by_cases c2 : F (23 - i) = -1
      · rw [if_pos c2]; exact ih
      · rw [if_neg c2, if_neg (fun c3 => hn ⟨c1, c2, c3⟩)]; exact ih
theorem arb_some {W F : Nat → Int32} {a r0 : Nat} (hc : acd W F a r0) (h24 : r0 < 24) : ∀ i, i ≤ 24 → 24 - i ≤ r0 → (∀ r, 24 - i ≤ r → r < r0 → ¬ acd W F a r) → arb W F a i = nI r0
  | 0, _, h, _ => by omega
  | i + 1, hi, h, hn => by
    rw [arb]
    by_cases e : r0 = 23 - i
    · rw [← e, if_neg hc.1, if_neg hc.2.1, if_pos hc.2.2]
    · have ih := arb_some hc h24 i (by omega) (by omega) (fun r h1 h2 => hn r (by omega) h2)
      have h9 := hn (23 - i) (by omega) (by omega)
      by_cases c1 : W (24 * a + (23 - i)) = 0
      · rw [if_pos c1]; exact ih
      · rw [if_neg c1]
        by_cases c2 : F (23 - i) = -1
        · rw [if_pos c2]; exact ih
        · rw [if_neg c2, if_neg (fun c3 => h9 ⟨c1, c2, c3⟩)]; exact ih
theorem nr_some {J : Nat → Int32} {t a s1 : Nat} (h1 : s1 < 24) (h2 : ¬ J a &&& (rgc J t s1).2 = 0) : ∀ k s, s + k = 24 → s ≤ s1 → (∀ r, s ≤ r → r < s1 → J a &&& (rgc J t r).2 = 0) → nr J a k (rgc J t s).1 (rgc J t s).2 = low (J a &&& (rgc J t s1).2)
  | 0, s, h, g, _ => by omega
  | k + 1, s, h, g, hn => by
    have hz : ¬ (rgc J t s).2 = 0 := fun z => h2 (by
      have := rg_z z (s1 - s)
      rw [show s + (s1 - s) = s1 by omega] at this
      rw [this, Int32.and_zero])
    rw [nr, if_neg hz]
    by_cases e : s = s1
    · rw [e, if_neg h2]
    · rw [if_pos (hn s (Nat.le_refl _) (by omega))]
      exact nr_some h1 h2 k (s + 1) (by omega) (by omega) (fun r r1 r2 => hn r (by omega) r2)
theorem nr_none {J : Nat → Int32} {t a : Nat} : ∀ k s, s + k = 24 → (∀ r, s ≤ r → r < 24 → J a &&& (rgc J t r).2 = 0) → nr J a k (rgc J t s).1 (rgc J t s).2 = -1
  | 0, _, _, _ => rfl
  | k + 1, s, h, hn => by
    rw [nr]
    by_cases z : (rgc J t s).2 = 0
    · rw [if_pos z]
    · rw [if_neg z, if_pos (hn s (Nat.le_refl _) (by omega))]
      exact nr_none k (s + 1) (by omega) (fun r r1 r2 => hn r (by omega) r2)
theorem arrow_eq {J W F : Nat → Int32} {a t : Nat} (ha : a < 24) (ht : t < 24) (hat : ¬ a = t) (hW : ∀ u v, u < 24 → v < 24 → (¬ W (24 * u + v) = 0 ↔ gb (J u) v = true)) (hsy : ∀ u v, u < 24 → v < 24 → gb (J u) v = gb (J v) u) (hJ3 : ∀ a b, a < 24 → 24 ≤ b → b < 32 → J a &&& pw b = 0) : nr J a 24 0 (pw t) = arb W (mfar W F t) a 24 := by
  have andb : ∀ s r, gb (J a) r = true → gb (rgc J t s).2 r = true → ¬ J a &&& (rgc J t s).2 = 0 := fun s r g1 g2 z => by
    have h9 := gb_and (J a) (rgc J t s).2 r
    rw [z, gb_0, g1, g2] at h9
    cases h9
  rcases Classical.em (∃ s, s < 24 ∧ ¬ J a &&& (rgc J t s).2 = 0) with q | q
  · obtain ⟨s1, hs1, hne, hle⟩ := least 24 q
    have hle2 : ∀ r, r < s1 → J a &&& (rgc J t r).2 = 0 := fun r hr => by
      rcases Classical.em (J a &&& (rgc J t r).2 = 0) with z | z
      · exact z
      · exact absurd z (hle r hr)
    have hbit : ∃ r, r < 24 ∧ gb (J a &&& (rgc J t s1).2) r = true := by
      rcases Classical.em (∃ r, r < 24 ∧ gb (J a &&& (rgc J t s1).2) r = true) with z | z
      · exact z
      · exfalso
        refine hne (gb_ext (fun i hi => ?_))
        rw [gb_0]
        refine bt_f (fun g => ?_)
        rcases Nat.lt_or_ge i 24 with c | c
        · exact z ⟨i, c, g⟩
        · rw [gb_and, rg_24 ht hJ3 c hi, Bool.and_false] at g; cases g
    obtain ⟨r0, hr0, hg0, hr1⟩ := least 24 hbit
    have hg := hg0
    rw [gb_and, Bool.and_eq_true] at hg
    have haR : gb (rgc J t (s1 + 1)).2 a = true := (rg_s (by omega)).mpr ⟨⟨r0, hr0, hg.2, by rw [hsy r0 a hr0 ha]; exact hg.1⟩, fun ⟨j, hj, z⟩ => by
      cases j with
      | zero =>
        rw [rgc, gb_pw (by omega)] at z
        exact hat (of_decide_eq_true z).symm
      | succ j =>
        obtain ⟨⟨u, hu, y1, y2⟩, -⟩ := (rg_s (by omega)).mp z
        rw [hsy u a hu ha] at y2
        exact andb j u y2 y1 (hle2 j (by omega))⟩
    have hFa := (far_at (F := F) ht hW 24 (Nat.le_refl _) a ha).1 (s1 + 1) (by omega) haR
    have hFr : ∀ r, r < 24 → gb (rgc J t s1).2 r = true → mfar W F t r = nI s1 := fun r hr g => (far_at (F := F) ht hW 24 (Nat.le_refl _) r hr).1 s1 (by omega) g
    have hFa2 : mfar W F t a = nI (s1 + 1) := hFa
    have hcd : ∀ r, r < 24 → acd W (mfar W F t) a r → gb (J a &&& (rgc J t s1).2) r = true := fun r hr ⟨c1, c2, c3⟩ => by
      rcases far_val (F := F) ht hW hr with ⟨s, hs, g, e⟩ | e
      · rw [e, hFa2, nI_1] at c3
        have es := (nI_eq (by omega) (by omega)).mp c3
        have es2 : s = s1 := by omega
        subst es2
        rw [gb_and, g, (hW a r ha hr).mp c1]; rfl
      · exact absurd e c2
    have hc0 : acd W (mfar W F t) a r0 := ⟨(hW a r0 ha hr0).mpr hg.1, by rw [hFr r0 hr0 hg.2]; exact nI_m1 (by omega), by rw [hFr r0 hr0 hg.2, hFa2, nI_1]⟩
    have e1 : nr J a 24 0 (pw t) = low (J a &&& (rgc J t s1).2) := nr_some hs1 hne 24 0 (by omega) (Nat.zero_le _) (fun r _ hr => hle2 r hr)
    have e2 : low (J a &&& (rgc J t s1).2) = nI r0 := by
      unfold low
      refine srch_some hr0 ?_ (fun j hj => ?_)
      · show (!decide (J a &&& (rgc J t s1).2 &&& pw r0 = 0)) = true
        rw [decide_eq_false (fun z => by rw [and_pw (by omega), hg0] at z; cases z)]; rfl
      · show (!decide (J a &&& (rgc J t s1).2 &&& pw j = 0)) = false
        rw [decide_eq_true ((and_pw (by omega)).mpr (bt_f (hr1 j hj)))]; rfl
    rw [e1, e2, arb_some hc0 hr0 24 (Nat.le_refl _) (by omega) (fun r _ hr hc => hr1 r hr (hcd r (by omega) hc))]
  · have hz : ∀ r, r < 24 → J a &&& (rgc J t r).2 = 0 := fun r hr => by
      rcases Classical.em (J a &&& (rgc J t r).2 = 0) with z | z
      · exact z
      · exact absurd ⟨r, hr, z⟩ q
    have e1 : nr J a 24 0 (pw t) = -1 := nr_none (t := t) 24 0 (by omega) (fun r _ hr => hz r hr)
    refine e1.trans (arb_none 24 (Nat.le_refl _) (fun r _ hr hc => ?_)).symm
    obtain ⟨c1, c2, c3⟩ := hc
    rcases far_val (F := F) ht hW hr with ⟨s, hs, g, e⟩ | e
    · rw [e, nI_1] at c3
      rcases far_val (F := F) ht hW ha with ⟨s', hs', g', e'⟩ | e'
      · rw [e'] at c3
        have es := (nI_eq (by omega) (by omega)).mp c3
        exact andb s r ((hW a r ha hr).mp c1) g (hz s (by omega))
      · rw [e'] at c3
        exact nI_m1 (by omega) c3
    · exact c2 e
theorem st_arrow {K : am_K} {l : Launch} {S : am_S} {th : Int32} {o : Nat → Int64} (hI : Inv th o S) (x y : Int32) : Cst K l S iL_arrow [.ref 1, .int x, .int y, .ref 45] iX7_arrow 1 [.ref 25, .int x, .int y] := by
  obtain ⟨pd, wd, ln, sq, st, ct, cl, ft, zn, a26, a27, a28, a29, a30, a31, a32, a33, a34, a35, a36, a37, a38, a39, a40, a41, a42, a43, a44, hS, h45, hv⟩ := hI
  obtain ⟨h1, hP, hC, hT, hF, hZ, hR⟩ := id hv
  obtain ⟨J, hm, hJ, hJ0, hJ3⟩ := id hR
  rcases pk_ix x (n := 24) (by decide) with h | h | ⟨a, ha, rfl⟩
  · exact Cst_x hS h45 hv (w_arrow_x0 K l S x y _ h1 (p_arrow_a0 K l S x y h1 (Or.inl h))) (q_arrow_x0 x y (Or.inl (Or.inl h))) (by decide)
  · exact Cst_x hS h45 hv (w_arrow_x0 K l S x y _ h1 (p_arrow_a0 K l S x y h1 (Or.inr h))) (q_arrow_x0 x y (Or.inl (Or.inr h))) (by decide)
  · rcases pk_ix y (n := 24) (by decide) with h | h | ⟨b, hb, rfl⟩
    · exact Cst_x hS h45 hv (w_arrow_x0 K l S (nI a) y _ h1 (p_arrow_b0 K l S a y h1 ha (Or.inl h))) (q_arrow_x0 (nI a) y (Or.inr (Or.inl h))) (by decide)
    · exact Cst_x hS h45 hv (w_arrow_x0 K l S (nI a) y _ h1 (p_arrow_b0 K l S a y h1 ha (Or.inr h))) (q_arrow_x0 (nI a) y (Or.inr (Or.inr h))) (by decide)
    · by_cases hab : a = b
      · subst hab
        refine Cst_ok (S1 := S) hS (fun z _ _ => rfl) (w_arrow K l S o (nI a) (nI a) (nI a) (fun S' => S = S') _ h1 (p_arrow_s K l S a h1 ha) (fun S' e9 => by rw [← e9]; exact h45)) (fun B => q_arrow_s a ha) ?_
        exact hv
      · have hW : ∀ u v, u < 24 → v < 24 → (¬ a43 (24 * u + v) = 0 ↔ gb (J u) v = true) := fun u v hu hv => by
          rw [(hJ u v hu hv).1, jn_gb (by omega)]
          cases gb (J u) v <;> decide
        have hsy : ∀ u v, u < 24 → v < 24 → gb (J u) v = gb (J v) u := fun u v hu hv => bI_inj (by rw [← jn_gb (by omega), ← jn_gb (by omega)]; exact (hJ u v hu hv).2)
        have he := arrow_eq (F := a44) ha hb hab hW hsy hJ3
        refine Cst_ok (S1 := S) hS (fun z _ _ => rfl) (w_arrow K l S o (nI a) (nI b) (nr J a 24 0 (pw b)) (fun S' => S = S') _ h1 (p_arrow K l S J _ a b h1 hm ha hb hab) (fun S' e9 => by rw [← e9]; exact h45)) (fun B => by rw [he]; exact q_arrow a b ha hb hab) ?_
        exact hv
