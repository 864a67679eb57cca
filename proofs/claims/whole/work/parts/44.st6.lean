/-! LINES -/
theorem nI_sub {a b : Nat} (h : b ≤ a) : nI a - nI b = nI (a - b) := by
  have e : nI a = nI (a - b) + nI b := by rw [nI_add]; congr 1; omega
  rw [e, Int32.add_sub_cancel]
theorem nI_neg {a b : Nat} (h : a < b) (hb : b ≤ 1000) : nI a - nI b < 0 := by
  rw [Int32.lt_iff_toInt_lt, Int32.toInt_sub, nI_toInt (by omega), nI_toInt (by omega), Int.bmod_eq_of_le (by omega) (by omega)]
  show (a : Int) - b < 0
  omega
theorem words_ex {g : Nat → Int32} {m : Nat} : ∀ i, ∃ bg en : Nat → Nat, (∀ B j, j < cnt (sep g m) i → wB g m B i j = nI (bg j)) ∧ (∀ E j, j < cnt (sep g m) i → wE g m E i j = nI (en j)) ∧ (∀ j, j < cnt (sep g m) i → bg j ≤ en j ∧ en j < i) ∧ (∀ j, j + 1 < cnt (sep g m) i → bg (j + 1) = en j + 1) ∧ (0 < cnt (sep g m) i → wbg g m i = en (cnt (sep g m) i - 1) + 1) ∧ wbg g m i ≤ i
  | 0 => ⟨fun _ => 0, fun _ => 0, fun _ _ h => absurd h (Nat.not_lt_zero _), fun _ _ h => absurd h (Nat.not_lt_zero _), fun _ h => absurd h (Nat.not_lt_zero _), fun _ h => absurd h (Nat.not_lt_zero _), fun h => absurd h (Nat.not_lt_zero _), Nat.le_refl 0⟩
  | i + 1 => by
    obtain ⟨bg, en, h1, h2, h3, h4, h5, h6⟩ := words_ex (g := g) (m := m) i
    cases hs : sep g m i with
    | true =>
      rw [cnt_s hs]
      refine ⟨va_up bg (cnt (sep g m) i) (wbg g m i), va_up en (cnt (sep g m) i) i, fun B j hj => ?_, fun E j hj => ?_, fun j hj => ?_, fun j hj => ?_, fun _ => ?_, ?_⟩
      · rw [wB, if_pos hs]
        by_cases e : j = cnt (sep g m) i
        · rw [e, pk_us, va_up_self]
        · rw [pk_un e, va_up_ne _ _ e]; exact h1 B j (by omega)
      · rw [wE, if_pos hs]
        by_cases e : j = cnt (sep g m) i
        · rw [e, pk_us, va_up_self]
        · rw [pk_un e, va_up_ne _ _ e]; exact h2 E j (by omega)
      · by_cases e : j = cnt (sep g m) i
        · rw [e, va_up_self, va_up_self]; omega
        · rw [va_up_ne _ _ e, va_up_ne _ _ e]
          have := h3 j (by omega)
          omega
      · rw [va_up_ne en _ (show j ≠ cnt (sep g m) i by omega)]
        by_cases e : j + 1 = cnt (sep g m) i
        · rw [e, va_up_self, h5 (by omega), show cnt (sep g m) i - 1 = j by omega]
        · rw [va_up_ne _ _ e]; exact h4 j (by omega)
      · rw [wbg, if_pos hs, Nat.add_sub_cancel, va_up_self]
      · rw [wbg, if_pos hs]; exact Nat.le_refl _
    | false =>
      rw [cnt_n hs]
      refine ⟨bg, en, fun B j hj => ?_, fun E j hj => ?_, fun j hj => ⟨(h3 j hj).1, by have := (h3 j hj).2; omega⟩, h4, fun h => ?_, ?_⟩
      · rw [wB, if_neg (by rw [hs]; exact Bool.false_ne_true)]; exact h1 B j hj
      · rw [wE, if_neg (by rw [hs]; exact Bool.false_ne_true)]; exact h2 E j hj
      · rw [wbg, if_neg (by rw [hs]; exact Bool.false_ne_true)]; exact h5 h
      · rw [wbg, if_neg (by rw [hs]; exact Bool.false_ne_true)]; omega
/-- what is known of the words -/
def Wd (W : Nat) (bg en : Nat → Nat) (m : Nat) (B E : Nat → Int32) : Prop := (∀ j, j < W → B j = nI (bg j) ∧ E j = nI (en j) ∧ bg j ≤ en j ∧ en j ≤ m) ∧ ∀ j, j + 1 < W → bg (j + 1) = en j + 1
theorem en_mono {W m : Nat} {bg en : Nat → Nat} {B E : Nat → Int32} (h : Wd W bg en m B E) {i : Nat} : ∀ {j}, i ≤ j → j < W → en i ≤ en j ∧ bg i ≤ bg j
  | 0, h1, _ => by rw [show i = 0 by omega]; exact ⟨Nat.le_refl _, Nat.le_refl _⟩
  | j + 1, h1, h2 => by
    rcases Nat.lt_or_ge i (j + 1) with q | q
    · have g1 := en_mono h (i := i) (j := j) (by omega) (by omega)
      have g2 := h.2 j h2
      have g3 := (h.1 j (by omega)).2.2.1
      have g4 := (h.1 (j + 1) h2).2.2.1
      omega
    · rw [show i = j + 1 by omega]; exact ⟨Nat.le_refl _, Nat.le_refl _⟩
theorem rest_ge {W m w f n : Nat} {bg en : Nat → Nat} {B E : Nat → Int32} (h : Wd W bg en m B E) (hm : m ≤ 80) (hw : w ≤ 60) (hfn : f < n) (hn : n ≤ W) (hs : en (n - 1) - bg f ≤ w) : nI w - (E (n - 1) - B f) = nI (w - (en (n - 1) - bg f)) := by
  have g1 := h.1 f (by omega)
  have g2 := h.1 (n - 1) (by omega)
  have g3 := en_mono h (i := f) (j := n - 1) (by omega) (by omega)
  rw [g1.1, g2.2.1, nI_sub (by omega), nI_sub hs]
theorem rest_lt {W m w f n : Nat} {bg en : Nat → Nat} {B E : Nat → Int32} (h : Wd W bg en m B E) (hm : m ≤ 80) (hfn : f < n) (hn : n ≤ W) (hs : w < en (n - 1) - bg f) : nI w - (E (n - 1) - B f) < 0 := by
  have g1 := h.1 f (by omega)
  have g2 := h.1 (n - 1) (by omega)
  have g3 := en_mono h (i := f) (j := n - 1) (by omega) (by omega)
  rw [g1.1, g2.2.1, nI_sub (by omega)]
  exact nI_neg hs (by omega)
theorem slp_no {w : Int32} {B E C : Nat → Int32} {W f : Nat} : ∀ (n kk : Nat) (s : Int32 × Int32), f + kk + n = W + 1 → (∀ j, f + kk ≤ j → j ≤ W → w - (E (j - 1) - B f) < 0 ∨ (¬ j = W ∧ C j = -1)) → slp w B E C W f n kk s = s
  | 0, _, _, _, _ => rfl
  | n + 1, kk, s, h, hn => by
    have e : sstp w B E C W f kk s = s := by
      unfold sstp
      rcases hn (f + kk) (Nat.le_refl _) (by omega) with q | ⟨q1, q2⟩
      · rw [if_pos q]
      · by_cases c : w - (E (f + kk - 1) - B f) < 0
        · rw [if_pos c]
        · rw [if_neg c, if_neg q1, if_pos q2]
    rw [slp, e]
    exact slp_no n (kk + 1) s (by omega) (fun j h1 h2 => hn j (by omega) h2)
def R2 (W f : Nat) (a : Int32 × Nat) (b : Int32 × Int32) : Prop := ∃ x n : Nat, x ≤ 3600 * (W - (f + 1)) ∧ a = (nI x, n) ∧ b = (nI x, nI (n - f)) ∧ f < n ∧ n ≤ W
theorem nI_m1 {x : Nat} (h : x < 2 ^ 31) : ¬ nI x = -1 := fun e => by
  have h9 := nI_pos h
  rw [e] at h9
  exact h9 (by decide)
theorem dp_go {W m w f : Nat} {bg en : Nat → Nat} {B E B' E' LF C : Nat → Int32} (hd : Wd W bg en m B E) (hd' : Wd W bg en m B' E') (hm : m ≤ 80) (hw : w ≤ 60) (hW : W ≤ 40) (hLC : ∀ n, f < n → n < W → ∃ x, x ≤ 3600 * (W - (n + 1)) ∧ LF n = nI x ∧ C n = nI x) : ∀ (k kk : Nat) (a : Int32 × Nat) (b : Int32 × Int32), 1 ≤ kk → f + kk + k = W + 1 → R2 W f a b → R2 W f (ilp (nI w) B E LF W f k (f + kk) a) (slp (nI w) B' E' C W f k kk b)
  | 0, _, _, _, _, _, h => h
  | k + 1, kk, a, b, h1, h2, h => by
    rcases Nat.lt_or_ge w (en (f + kk - 1) - bg f) with q | q
    · have r1 := rest_lt hd hm (f := f) (n := f + kk) (by omega) (by omega) q
      rw [ilp, if_neg (Int32.not_le.mpr r1), slp_no (k + 1) kk b (by omega) (fun j j1 j2 => Or.inl (rest_lt hd' hm (by omega) j2 (by
        have := en_mono hd (i := f + kk - 1) (j := j - 1) (by omega) (by omega)
        omega)))]
      exact h
    · have r1 := rest_ge hd hm hw (f := f) (n := f + kk) (by omega) (by omega) q
      have r2 := rest_ge hd' hm hw (f := f) (n := f + kk) (by omega) (by omega) q
      rw [ilp, r1, if_pos (nI_pos' (by omega)), slp]
      refine dp_go hd hd' hm hw hW hLC k (kk + 1) _ _ (by omega) (by omega) ?_
      obtain ⟨x, n, hx, rfl, rfl, hn1, hn2⟩ := h
      unfold sstp
      rw [r2, if_neg (nI_pos (by omega))]
      by_cases e : f + kk = W
      · rw [if_pos e, if_pos e]
        show R2 W f (if 0 < nI x then (0, f + kk) else (nI x, n)) (if nI x = -1 then (0, nI kk) else if nI x ≤ 0 then (nI x, nI (n - f)) else (0, nI kk))
        rw [if_neg (nI_m1 (by omega))]
        rcases Nat.eq_zero_or_pos x with e0 | e0
        · rw [e0, if_neg (by decide), if_pos (by decide)]
          exact ⟨0, n, by omega, rfl, rfl, hn1, hn2⟩
        · rw [if_pos (show (0 : Int32) < nI x from nI_lt (a := 0) e0 (by omega)), if_neg (nI_nle e0 (by omega))]
          exact ⟨0, f + kk, by omega, rfl, by rw [show f + kk - f = kk by omega]; rfl, by omega, by omega⟩
      · rw [if_neg e, if_neg e]
        obtain ⟨y, hy, ey1, ey2⟩ := hLC (f + kk) (by omega) (by omega)
        rw [ey1, ey2, if_neg (nI_m1 (by omega)), nI_mul, nI_add]
        generalize hrr : w - (en (f + kk - 1) - bg f) = rr
        have hr60 : rr ≤ 60 := by omega
        have hrr2 : rr * rr ≤ 3600 := Nat.mul_le_mul hr60 hr60
        have hWn : 3600 * (W - (f + kk + 1)) + 3600 ≤ 3600 * (W - (f + 1)) := by omega
        show R2 W f (if nI (rr * rr + y) < nI x then (nI (rr * rr + y), f + kk) else (nI x, n)) (if nI x = -1 then (nI (rr * rr + y), nI kk) else if nI x ≤ nI (rr * rr + y) then (nI x, nI (n - f)) else (nI (rr * rr + y), nI kk))
        rw [if_neg (nI_m1 (by omega))]
        rcases Nat.lt_or_ge (rr * rr + y) x with c | c
        · rw [if_pos (nI_lt c (by omega)), if_neg (nI_ge c (by omega))]
          exact ⟨rr * rr + y, f + kk, by omega, rfl, by rw [show f + kk - f = kk by omega], by omega, by omega⟩
        · rw [if_neg (nI_nlt c (by omega)), if_pos (nI_le c (by omega))]
          exact ⟨x, n, hx, rfl, rfl, hn1, hn2⟩
theorem dp_f {W m w f : Nat} {bg en : Nat → Nat} {B E B' E' LF C T : Nat → Int32} (hd : Wd W bg en m B E) (hd' : Wd W bg en m B' E') (hm : m ≤ 80) (hw : w ≤ 60) (hW : W ≤ 40) (hf : f < W) (hfit : en f - bg f ≤ w) (hLC : ∀ n, f < n → n < W → ∃ x, x ≤ 3600 * (W - (n + 1)) ∧ LF n = nI x ∧ C n = nI x) : R2 W f (ires (nI w) B E LF W f) (sres (nI w) B' E' C T W f) := by
  unfold ires sres
  obtain ⟨k, hk⟩ : ∃ k, W - f = k + 1 := ⟨W - f - 1, by omega⟩
  rw [hk, ilp, slp]
  have r1 := rest_ge hd hm hw (f := f) (n := f + 1) (by omega) (by omega) hfit
  have r2 := rest_ge hd' hm hw (f := f) (n := f + 1) (by omega) (by omega) hfit
  rw [r1, if_pos (nI_pos' (by omega))]
  refine dp_go hd hd' hm hw hW hLC k 2 _ _ (by omega) (by omega) ?_
  unfold sstp
  rw [r2, if_neg (nI_pos (by omega))]
  by_cases e : f + 1 = W
  · rw [if_pos e, if_pos e]
    show R2 W f (if (0 : Int32) < 144000 then (0, f + 1) else (144000, W)) (if (-1 : Int32) = -1 then (0, nI 1) else _)
    rw [if_pos (by decide), if_pos rfl]
    exact ⟨0, f + 1, by omega, rfl, by rw [show f + 1 - f = 1 by omega]; rfl, by omega, by omega⟩
  · rw [if_neg e, if_neg e]
    obtain ⟨y, hy, ey1, ey2⟩ := hLC (f + 1) (by omega) (by omega)
    rw [ey1, ey2, if_neg (nI_m1 (by omega)), nI_mul, nI_add]
    generalize hrr : w - (en (f + 1 - 1) - bg f) = rr
    have hr60 : rr ≤ 60 := by omega
    have hrr2 : rr * rr ≤ 3600 := Nat.mul_le_mul hr60 hr60
    show R2 W f (if nI (rr * rr + y) < 144000 then (nI (rr * rr + y), f + 1) else (144000, W)) (if (-1 : Int32) = -1 then (nI (rr * rr + y), nI 1) else _)
    rw [if_pos (show nI (rr * rr + y) < 144000 from nI_lt (b := 144000) (by omega) (by decide)), if_pos rfl]
    exact ⟨rr * rr + y, f + 1, by omega, rfl, by rw [show f + 1 - f = 1 by omega], by omega, by omega⟩
theorem dp_all {W m w : Nat} {bg en : Nat → Nat} {B E B' E' LF C T : Nat → Int32} (hd : Wd W bg en m B E) (hd' : Wd W bg en m B' E') (hm : m ≤ 80) (hw : w ≤ 60) (hW : W ≤ 40) (hfit : ∀ i, i < W → en i - bg i ≤ w) : ∀ k, k ≤ W → ∀ j, W - k ≤ j → j < W → ∃ x n, x ≤ 3600 * (W - (j + 1)) ∧ flL (nI w) B E W LF k j = nI x ∧ (mlP (nI w) B' E' W C T k).1 j = nI x ∧ (ires (nI w) B E (flL (nI w) B E W LF (W - (j + 1))) W j).2 = n ∧ (mlP (nI w) B' E' W C T k).2 j = nI (n - j) ∧ j < n ∧ n ≤ W
  | 0, _, j, h1, h2 => by omega
  | k + 1, hk, j, h1, h2 => by
    have ih := dp_all (LF := LF) (C := C) (T := T) hd hd' hm hw hW hfit k (by omega)
    rw [flL, mlP]
    by_cases e : j = W - (k + 1)
    · have ek : W - (j + 1) = k := by omega
      rw [← e, pk_us, ek]
      obtain ⟨x, n, hx, ea, eb, hn1, hn2⟩ := dp_f (f := j) (LF := flL (nI w) B E W LF k) (C := (mlP (nI w) B' E' W C T k).1) (T := (mlP (nI w) B' E' W C T k).2) hd hd' hm hw hW h2 (hfit j h2) (fun n g1 g2 => by
        obtain ⟨x, -, i1, i2, i3, -⟩ := ih n (by omega) g2
        exact ⟨x, i1, i2, i3⟩)
      refine ⟨x, n, by omega, by rw [ea], ?_, by rw [ea], ?_, hn1, hn2⟩
      · show upd _ j _ j = _
        rw [pk_us, eb]
      · show upd _ j _ j = _
        rw [pk_us, eb]
    · rw [pk_un e]
      obtain ⟨x, n, hx, e1, e2, e3, e4, h3⟩ := ih j (by omega) h2
      exact ⟨x, n, hx, e1, (pk_un e).trans e2, e3, (pk_un e).trans e4, h3⟩
theorem dp_no {W m w i0 : Nat} {bg en : Nat → Nat} {B' E' C T : Nat → Int32} (hd' : Wd W bg en m B' E') (hm : m ≤ 80) (hi : i0 < W) (hbig : w < en i0 - bg i0) : ∀ k, k ≤ W → ∀ f, W - k ≤ f → f ≤ i0 → (mlP (nI w) B' E' W C T k).1 f = -1
  | 0, _, f, h1, h2 => by omega
  | k + 1, hk, f, h1, h2 => by
    have ih := dp_no (C := C) (T := T) hd' hm hi hbig k (by omega)
    rw [mlP]
    by_cases e : f = W - (k + 1)
    · rw [← e]
      show upd _ f _ f = -1
      rw [pk_us]
      unfold sres
      rw [slp_no (W - f) 1 _ (by omega) (fun j j1 j2 => ?_)]
      rcases Nat.lt_or_ge i0 j with q | q
      · refine Or.inl (rest_lt hd' hm (by omega) j2 ?_)
        have g1 := en_mono hd' (i := i0) (j := j - 1) (by omega) (by omega)
        have g2 := en_mono hd' (i := f) (j := i0) h2 hi
        omega
      · exact Or.inr ⟨by omega, ih j (by omega) q⟩
    · exact (pk_un e).trans (ih f (by omega) h2)
theorem lww_iff {B E : Nat → Int32} {w : Int32} (h0 : 0 ≤ w) : ∀ W, lww B E W ≤ w ↔ ∀ i, i < W → E i - B i ≤ w
  | 0 => ⟨fun _ i hi => absurd hi (Nat.not_lt_zero _), fun _ => h0⟩
  | W + 1 => by
    rw [lww]
    constructor
    · intro h i hi
      by_cases c : lww B E W < E W - B W
      · rw [if_pos c] at h
        rcases Nat.lt_or_ge i W with q | q
        · exact (lww_iff h0 W).mp (Int32.le_trans (Int32.le_of_lt c) h) i q
        · rw [show i = W by omega]; exact h
      · rw [if_neg c] at h
        rcases Nat.lt_or_ge i W with q | q
        · exact (lww_iff h0 W).mp h i q
        · rw [show i = W by omega]; exact Int32.le_trans (Int32.not_lt.mp c) h
    · intro h
      by_cases c : lww B E W < E W - B W
      · rw [if_pos c]; exact h W (Nat.lt_succ_self W)
      · rw [if_neg c]; exact (lww_iff h0 W).mpr (fun i hi => h i (by omega))
/-! no more than 40 words -/
theorem fwp_sp {g : Nat → Int32} {m : Nat} (hm : m ≤ 80) : ∀ (k i : Nat) (ah : Int32), i + k = m → fwp g m k i ah = -1 → 2 * cnt (pW g) m + (if ah = 32 then 1 else 0) ≤ 2 * cnt (pW g) i + k
  | 0, i, ah, h, e => by
    rw [fwp] at e
    by_cases c : ah = 32
    · rw [if_pos c] at e; exact absurd e (nI_m1 (by omega))
    · rw [if_neg c, show i = m by omega]; omega
  | k + 1, i, ah, h, e => by
    rw [fwp] at e
    by_cases c : mf ah (g i) = true
    · rw [if_pos c] at e
      have ih := fwp_sp hm k (i + 1) (g i) (by omega) e
      by_cases c2 : g i = 32
      · have c3 : ¬ ah = 32 := fun q => by
          rw [q, c2] at c; exact absurd c (by decide)
        rw [if_pos c2, cnt_s (show pW g i = true from decide_eq_true c2)] at ih
        rw [if_neg c3]
        omega
      · rw [if_neg c2, cnt_n (show pW g i = false from decide_eq_false c2)] at ih
        split <;> omega
    · rw [if_neg c] at e; exact absurd e (nI_m1 (by omega))
theorem sep_W {g : Nat → Int32} {m : Nat} : cnt (sep g m) (m + 1) = cnt (pW g) m + 1 := by
  rw [cnt_s (show sep g m m = true by unfold sep; rw [decide_eq_true rfl]; rfl), cnt_congr (fun j hj => show sep g m j = pW g j by unfold sep pW; rw [decide_eq_false (show ¬ j = m by omega)]; rfl)]
theorem txt_40 {g : Nat → Int32} {m : Nat} (hm : m ≤ 80) (h : txt g m) : cnt (sep g m) (m + 1) ≤ 40 := by
  have h1 := fwp_sp hm m 0 32 (by omega) h.1
  rw [if_pos rfl] at h1
  have h2 : cnt (pW g) 0 = 0 := rfl
  rw [sep_W]
  omega
/-! the steps of the lines -/
theorem nct_congr {f g : Nat → Nat} {W : Nat} (h : ∀ j, j < W → f j = g j) : ∀ k i, nct f W k i = nct g W k i
  | 0, _ => rfl
  | k + 1, i => by
    rw [nct, nct]
    by_cases c : i < W
    · rw [if_pos c, if_pos c, h i c, nct_congr h k (g i)]
    · rw [if_neg c, if_neg c]
theorem nct_at {nx : Nat → Nat} {W : Nat} : ∀ k, k ≤ nct nx W W 0 → k ≤ W ∧ k + nct nx W (W - k) (tfi nx k) = nct nx W W 0
  | 0, _ => ⟨Nat.zero_le _, by rw [Nat.zero_add, Nat.sub_zero]; rfl⟩
  | k + 1, h => by
    obtain ⟨h1, h2⟩ := nct_at (nx := nx) (W := W) k (by omega)
    rcases Nat.lt_or_ge k W with q | q
    · rw [show W - k = (W - (k + 1)) + 1 by omega, nct] at h2
      by_cases c : tfi nx k < W
      · rw [if_pos c] at h2
        refine ⟨by omega, ?_⟩
        show k + 1 + nct nx W (W - (k + 1)) (nx (tfi nx k)) = _
        omega
      · rw [if_neg c] at h2; omega
    · rw [show W - k = 0 by omega, nct] at h2; omega
theorem tfi_lt {nx : Nat → Nat} {W k : Nat} (h : k < nct nx W W 0) : tfi nx k < W := by
  obtain ⟨h1, h2⟩ := nct_at (nx := nx) (W := W) k (by omega)
  rcases Nat.lt_or_ge (tfi nx k) W with q | q
  · exact q
  · rw [nct_out q] at h2; omega
theorem tfi_congr {f g : Nat → Nat} {W : Nat} (h : ∀ j, j < W → f j = g j) : ∀ k, k ≤ nct f W W 0 → tfi f k = tfi g k
  | 0, _ => rfl
  | k + 1, hk => by
    rw [tfi, tfi, ← tfi_congr h k (by omega)]
    exact h _ (tfi_lt (by omega))
theorem nct_le {nx : Nat → Nat} {W : Nat} : ∀ k i, nct nx W k i ≤ k
  | 0, _ => Nat.le_refl 0
  | k + 1, i => by
    unfold nct
    split
    · have := nct_le (nx := nx) (W := W) k (nx i); omega
    · omega
theorem nct_pos {nx : Nat → Nat} {W : Nat} (h : 0 < W) : 0 < nct nx W W 0 := by
  obtain ⟨k, rfl⟩ : ∃ k, W = k + 1 := ⟨W - 1, by omega⟩
  rw [nct, if_pos h]; omega
