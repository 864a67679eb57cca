/-! THE ABSTRACT HEAP: cells by small numbers (addresses of our own), mapped to the machine's by 'ad' -/
def am_v (ad : Nat → Nat) (v : Value) : Value := match v with
  | .ref a => .ref (ad a)
  | v => v
def am_ok (n : Nat) (v : Value) : Prop := ∀ b : Nat, v = .ref b → b < n
theorem am_v_eq {ad ad' : Nat → Nat} {n : Nat} (h : ∀ a : Nat, a < n → ad' a = ad a) {v : Value} (hv : am_ok n v) : am_v ad' v = am_v ad v := by
  cases v with
  | ref b => show Value.ref (ad' b) = Value.ref (ad b); rw [h b (hv b rfl)]
  | _ => rfl
theorem am_v_cat (ad : Nat → Nat) (v : Value) : (am_v ad v).category = v.category := by cases v <;> rfl
theorem am_ok_le {n n' : Nat} (h : n ≤ n') {v : Value} (hv : am_ok n v) : am_ok n' v := fun b e => Nat.lt_of_lt_of_le (hv b e) h
theorem am_okI {n : Nat} {x : Int32} : am_ok n (.int x) := fun _ h => by cases h
theorem am_okJ {n : Nat} {x : Int64} : am_ok n (.long x) := fun _ h => by cases h
theorem am_okN {n : Nat} : am_ok n .null := fun _ h => by cases h
theorem am_okR {n a : Nat} (h : a < n) : am_ok n (.ref a) := fun b e => by cases e; exact h
theorem am_map_eq {ad ad' : Nat → Nat} {n : Nat} (h : ∀ a : Nat, a < n → ad' a = ad a) {st : List Value} (hs : ∀ v ∈ st, am_ok n v) : st.map (am_v ad') = st.map (am_v ad) :=
  List.map_congr_left (fun v hv => am_v_eq h (hs v hv))
theorem am_c {n : Nat} {v : Value} {st : List Value} (h : am_ok n v) (t : ∀ w ∈ st, am_ok n w) : ∀ w ∈ v :: st, am_ok n w := fun w hw => (List.mem_cons.mp hw).elim (fun e => by rw [e]; exact h) (t w)
theorem am_h {n : Nat} {v : Value} {st : List Value} (h : ∀ w ∈ v :: st, am_ok n w) : am_ok n v := h v List.mem_cons_self
theorem am_t {n : Nat} {v : Value} {st : List Value} (h : ∀ w ∈ v :: st, am_ok n w) : ∀ w ∈ st, am_ok n w := fun w hw => h w (List.mem_cons_of_mem _ hw)
/-- a cell: an array (its kind, length, contents) or an object (its class's number, its fields) -/
abbrev am_C : Type := (Nat × vp_A) ⊕ (Nat × List Value)
/-- the abstract heap: the cells, how many there are (0 is no cell) -/
abbrev am_S : Type := (Nat → am_C) × Nat
/-- what a launch gives: class numbers and slots, array classes, where the heap of the law begins -/
abbrev am_K : Type := va_G × List (ClassId × FieldType) × Nat
/-- a method: name, code, locals, answer, handlers -/
abbrev am_I : Type := MethodName × ByteArray × Nat × Option FieldType × List (Nat × Nat × Nat × Nat)
abbrev am_Y : Type := (Nat → Int32) ⊕ (Nat → Int64) ⊕ (Nat → UInt32) ⊕ (Nat → UInt64) ⊕ (Nat → Option Nat)
def am_p (ad : Nat → Nat) (x : am_Y) : am_Y := match x with
  | .inl f => .inl f
  | .inr (.inl f) => .inr (.inl f)
  | .inr (.inr (.inl f)) => .inr (.inr (.inl f))
  | .inr (.inr (.inr (.inl f))) => .inr (.inr (.inr (.inl f)))
  | .inr (.inr (.inr (.inr f))) => .inr (.inr (.inr (.inr (fun j => (f j).map ad))))
def am_e (K : am_K) (ad : Nat → Nat) (x : am_C) : va_E := match x with
  | .inl y => .inl ((K.2.1.getD y.1 (0, .int)).1, y.2.1, am_p ad y.2.2)
  | .inr y => .inr (y.1, y.2.map (am_v ad))
def am_okY (n : Nat) (x : am_Y) : Prop := match x with
  | .inr (.inr (.inr (.inr f))) => ∀ (j b : Nat), f j = some b → b < n
  | _ => True
def am_okC (n : Nat) (x : am_C) : Prop := match x with
  | .inl y => am_okY n y.2.2
  | .inr y => ∀ v ∈ y.2, am_ok n v
theorem am_okY_le {n n' : Nat} (h : n ≤ n') {x : am_Y} (hx : am_okY n x) : am_okY n' x := by
  match x, hx with
  | .inl f, _ => exact trivial
  | .inr (.inl f), _ => exact trivial
  | .inr (.inr (.inl f)), _ => exact trivial
  | .inr (.inr (.inr (.inl f))), _ => exact trivial
  | .inr (.inr (.inr (.inr f))), hx => exact fun j b hj => Nat.lt_of_lt_of_le (hx j b hj) h
theorem am_okC_le {n n' : Nat} (h : n ≤ n') {x : am_C} (hx : am_okC n x) : am_okC n' x := by
  match x, hx with
  | .inl y, hx => exact am_okY_le h hx
  | .inr y, hx => exact fun v hv => am_ok_le h (hx v hv)
theorem am_p_eq {ad ad' : Nat → Nat} {n : Nat} (h : ∀ a : Nat, a < n → ad' a = ad a) {x : am_Y} (hx : am_okY n x) : am_p ad' x = am_p ad x := by
  match x, hx with
  | .inl f, _ => rfl
  | .inr (.inl f), _ => rfl
  | .inr (.inr (.inl f)), _ => rfl
  | .inr (.inr (.inr (.inl f))), _ => rfl
  | .inr (.inr (.inr (.inr f))), hx =>
    have e : (fun j => (f j).map ad') = (fun j => (f j).map ad) := by
      funext j
      cases hj : f j with
      | none => rfl
      | some b => show some (ad' b) = some (ad b); rw [h b (hx j b hj)]
    show Sum.inr (Sum.inr (Sum.inr (Sum.inr (fun j => (f j).map ad')))) = _
    rw [e]; rfl
theorem am_e_eq {K : am_K} {ad ad' : Nat → Nat} {n : Nat} (h : ∀ a : Nat, a < n → ad' a = ad a) {x : am_C} (hx : am_okC n x) : am_e K ad' x = am_e K ad x := by
  match x, hx with
  | .inl y, hx => show Sum.inl (_, _, am_p ad' y.2.2) = _; rw [am_p_eq h hx]; rfl
  | .inr y, hx => show Sum.inr (_, y.2.map (am_v ad')) = _; rw [am_map_eq h hx]; rfl
def am_up (h : Nat → am_C) (a : Nat) (x : am_C) : Nat → am_C := fun j => if j = a then x else h j
theorem am_up_s {h : Nat → am_C} {a : Nat} {x : am_C} : am_up h a x a = x := if_pos rfl
theorem am_up_n {h : Nat → am_C} {a j : Nat} {x : am_C} (e : j ≠ a) : am_up h a x j = h j := if_neg e
def am_l (K : am_K) (ad : Nat → Nat) (S : am_S) : va_W := (List.range (S.2 - 1)).map (fun j => (ad (j + 1), am_e K ad (S.1 (j + 1))))
theorem am_l_at (K : am_K) (ad : Nat → Nat) (S : am_S) (k : Nat) : (am_l K ad S)[k]? = if k < S.2 - 1 then some (ad (k + 1), am_e K ad (S.1 (k + 1))) else none := by
  unfold am_l
  rw [List.getElem?_map]
  by_cases h : k < S.2 - 1
  · rw [if_pos h, List.getElem?_range h]; rfl
  · rw [if_neg h, List.getElem?_eq_none (by simp; omega)]; rfl
theorem am_l_get {K : am_K} {ad : Nat → Nat} {S : am_S} {a : Nat} (h0 : 0 < a) (h1 : a < S.2) : (am_l K ad S)[a - 1]? = some (ad a, am_e K ad (S.1 a)) := by
  have e : a - 1 + 1 = a := by omega
  rw [am_l_at, if_pos (by omega), e]
theorem am_l_set {K : am_K} {ad : Nat → Nat} {S : am_S} {a : Nat} {x : am_C} (h0 : 0 < a) (h1 : a < S.2) : (am_l K ad S).set (a - 1) (ad a, am_e K ad x) = am_l K ad (am_up S.1 a x, S.2) := by
  apply List.ext_getElem?
  intro k
  rw [List.getElem?_set, am_l_at, am_l_at]
  have hlen : (am_l K ad S).length = S.2 - 1 := by simp [am_l]
  by_cases e : a - 1 = k
  · subst e
    have e2 : a - 1 + 1 = a := by omega
    rw [if_pos rfl, hlen, if_pos (show a - 1 < S.2 - 1 by omega), if_pos (show a - 1 < S.2 - 1 by omega), e2]
    show _ = some (ad a, am_e K ad (am_up S.1 a x a))
    rw [am_up_s]
  · rw [if_neg e]
    by_cases h : k < S.2 - 1
    · rw [if_pos h, if_pos h]
      show _ = some (ad (k + 1), am_e K ad (am_up S.1 a x (k + 1)))
      rw [am_up_n (by omega)]
    · rw [if_neg h, if_neg h]
theorem am_l_push {K : am_K} {ad : Nat → Nat} {S : am_S} {q : Nat} {x : am_C} (h0 : 0 < S.2) (hok : ∀ a : Nat, am_okC S.2 (S.1 a)) (hx : am_okC S.2 x) : am_l K ad S ++ [(q, am_e K ad x)] = am_l K (va_up ad S.2 q) (am_up S.1 S.2 x, S.2 + 1) := by
  have hag : ∀ a : Nat, a < S.2 → va_up ad S.2 q a = ad a := fun a h => va_up_ne ad q (Nat.ne_of_lt h)
  apply List.ext_getElem?
  intro k
  have hlen : (am_l K ad S).length = S.2 - 1 := by simp [am_l]
  by_cases h : k < S.2 - 1
  · rw [List.getElem?_append_left (by omega), am_l_at, am_l_at, if_pos h, if_pos (show k < S.2 + 1 - 1 by omega)]
    show _ = some (va_up ad S.2 q (k + 1), am_e K (va_up ad S.2 q) (am_up S.1 S.2 x (k + 1)))
    rw [am_up_n (by omega), hag _ (by omega), am_e_eq hag (hok _)]
  · rw [List.getElem?_append_right (by omega), am_l_at, hlen]
    by_cases e : k = S.2 - 1
    · subst e
      have e2 : S.2 - 1 + 1 = S.2 := by omega
      rw [if_pos (show S.2 - 1 < S.2 + 1 - 1 by omega), e2, Nat.sub_self]
      show _ = some (va_up ad S.2 q S.2, am_e K (va_up ad S.2 q) (am_up S.1 S.2 x S.2))
      rw [am_up_s, va_up_self, am_e_eq hag hx]; rfl
    · rw [if_neg (show ¬ k < S.2 + 1 - 1 by omega), List.getElem?_eq_none (by simp; omega)]
/-- the machine's heap holds the abstract one -/
def am_R (K : am_K) (ad : Nat → Nat) (S : am_S) (H : Heap) : Prop :=
  va_P K.1 vwCl (am_l K ad S) H ∧ va_D (fun q => K.2.2 ≤ q) (am_l K ad S) ∧ (∀ a : Nat, a = 0 ∨ S.2 ≤ a → S.1 a = .inr (1000, [])) ∧ 0 < S.2 ∧ ∀ a : Nat, am_okC S.2 (S.1 a)
theorem am_R.kept {K : am_K} {ad : Nat → Nat} {S : am_S} {H H1 : Heap} (h : am_R K ad S H) (hq : ∀ q : Nat, q < H.size → H1[q]? = H[q]?) : am_R K ad S H1 :=
  ⟨h.1.kept (fun k q hk => hq _ (h.1 k q hk).lt), h.2⟩
theorem am_R.in {K : am_K} {ad : Nat → Nat} {S : am_S} {H : Heap} {a : Nat} {x : am_C} (h : am_R K ad S H) (hc : S.1 a = x) (hx : x ≠ .inr (1000, [])) : 0 < a ∧ a < S.2 := by
  constructor
  · rcases Nat.eq_zero_or_pos a with e | e
    · exact absurd (hc.symm.trans (h.2.2.1 a (Or.inl e))) hx
    · exact e
  · rcases Nat.lt_or_ge a S.2 with e | e
    · exact e
    · exact absurd (hc.symm.trans (h.2.2.1 a (Or.inr e))) hx
theorem am_R.at {K : am_K} {ad : Nat → Nat} {S : am_S} {H : Heap} {a : Nat} {x : am_C} (h : am_R K ad S H) (hc : S.1 a = x) (hx : x ≠ .inr (1000, [])) : (am_l K ad S)[a - 1]? = some (ad a, am_e K ad x) := by
  obtain ⟨h0, h1⟩ := h.in hc hx
  rw [am_l_get h0 h1, hc]
theorem am_R.set {K : am_K} {ad : Nat → Nat} {S : am_S} {H H1 : Heap} {a : Nat} {x y : am_C} {ws : va_W} (h : am_R K ad S H) (hc : S.1 a = x) (hx : x ≠ .inr (1000, [])) (hy : am_okC S.2 y)
    (e : ws = (am_l K ad S).set (a - 1) (ad a, am_e K ad y)) (hP : va_P K.1 vwCl ws H1) (hD : va_D (fun q => K.2.2 ≤ q) ws) : am_R K ad (am_up S.1 a y, S.2) H1 := by
  obtain ⟨h0, h1⟩ := h.in hc hx
  rw [am_l_set h0 h1] at e
  subst e
  refine ⟨hP, hD, fun b hb => ?_, h.2.2.2.1, fun b => ?_⟩
  · show am_up S.1 a y b = _
    rw [am_up_n (by rcases hb with hb | hb <;> omega)]
    exact h.2.2.1 b hb
  · show am_okC S.2 (am_up S.1 a y b)
    by_cases eb : b = a
    · rw [eb, am_up_s]; exact hy
    · rw [am_up_n eb]; exact h.2.2.2.2 b
theorem am_R.push {K : am_K} {ad : Nat → Nat} {S : am_S} {H H1 : Heap} {q : Nat} {y : am_C} {ws : va_W} (h : am_R K ad S H) (hy : am_okC S.2 y)
    (e : ws = am_l K ad S ++ [(q, am_e K ad y)]) (hP : va_P K.1 vwCl ws H1) (hD : va_D (fun q => K.2.2 ≤ q) ws) : am_R K (va_up ad S.2 q) (am_up S.1 S.2 y, S.2 + 1) H1 := by
  rw [am_l_push h.2.2.2.1 h.2.2.2.2 hy] at e
  subst e
  refine ⟨hP, hD, fun b hb => ?_, Nat.succ_pos _, fun b => ?_⟩
  · show am_up S.1 S.2 y b = _
    have h0 := h.2.2.2.1
    rw [am_up_n (by rcases hb with hb | hb <;> omega)]
    exact h.2.2.1 b (hb.imp id (fun z => by omega))
  · show am_okC (S.2 + 1) (am_up S.1 S.2 y b)
    by_cases eb : b = S.2
    · rw [eb, am_up_s]; exact am_okC_le (Nat.le_succ _) hy
    · rw [am_up_n eb]; exact am_okC_le (Nat.le_succ _) (h.2.2.2.2 b)
/-! the locals -/
def am_L (ad : Nat → Nat) (n nL : Nat) (L : List (Option Value)) (ls : Array Slot) : Prop :=
  ls.size = nL ∧ L.length = nL ∧ lv_wf ls ∧ ∀ (i : Nat) (v : Value), L[i]? = some (some v) → v.category = 1 ∧ am_ok n v ∧ ls[i]? = some (.val (am_v ad v))
theorem am_L.move {ad ad' : Nat → Nat} {n n' nL : Nat} {L : List (Option Value)} {ls : Array Slot} (h : am_L ad n nL L ls) (hag : ∀ a : Nat, a < n → ad' a = ad a) (hn : n ≤ n') : am_L ad' n' nL L ls :=
  ⟨h.1, h.2.1, h.2.2.1, fun i v hv => ⟨(h.2.2.2 i v hv).1, am_ok_le hn (h.2.2.2 i v hv).2.1, by rw [am_v_eq hag (h.2.2.2 i v hv).2.1]; exact (h.2.2.2 i v hv).2.2⟩⟩
def am_lp (ad : Nat → Nat) (L : List (Option Value)) (nL : Nat) : List (Nat × Value) := (List.range nL).filterMap (fun j => match L[j]? with
  | some (some v) => some (j, am_v ad v)
  | _ => none)
theorem am_lp_mem {ad : Nat → Nat} {L : List (Option Value)} {nL j : Nat} {v : Value} (hj : j < nL) (h : L[j]? = some (some v)) : (j, am_v ad v) ∈ am_lp ad L nL := by
  unfold am_lp
  rw [List.mem_filterMap]
  exact ⟨j, List.mem_range.mpr hj, by rw [h]⟩
theorem am_lp_inv {ad : Nat → Nat} {L : List (Option Value)} {nL : Nat} {q : Nat × Value} (h : q ∈ am_lp ad L nL) : ∃ v : Value, L[q.1]? = some (some v) ∧ q.2 = am_v ad v := by
  unfold am_lp at h
  rw [List.mem_filterMap] at h
  obtain ⟨j, -, hj⟩ := h
  match hL : L[j]?, hj with
  | some (some v), hj =>
    cases hj
    exact ⟨v, hL, rfl⟩
  | some none, hj => cases hj
  | none, hj => cases hj
theorem am_L.has {ad : Nat → Nat} {n nL : Nat} {L : List (Option Value)} {ls : Array Slot} (h : am_L ad n nL L ls) : lv_has ls nL (am_lp ad L nL) := by
  refine ⟨h.1, h.2.2.1, fun q hq => ?_⟩
  obtain ⟨v, h1, h2⟩ := am_lp_inv hq
  rw [h2]
  exact (h.2.2.2 _ _ h1).2.2
theorem am_L.back {ad : Nat → Nat} {n nL i : Nat} {L : List (Option Value)} {ls ls' : Array Slot} {v w : Value} (h : am_L ad n nL L ls) (hi : i < nL) (hw : w = am_v ad v) (hc : v.category = 1) (hok : am_ok n v)
    (h' : lv_has ls' nL ((i, w) :: (am_lp ad L nL).filter (fun q => !(q.1 == i) && !(q.1 + 1 == i && q.2.category == 2)))) : am_L ad n nL (L.set i (some v)) ls' := by
  obtain ⟨g1, g2, g3⟩ := h'
  refine ⟨g1, by rw [List.length_set]; exact h.2.1, g2, fun j u hj => ?_⟩
  rw [List.getElem?_set] at hj
  by_cases e : i = j
  · subst e
    rw [if_pos rfl, if_pos (by rw [h.2.1]; exact hi)] at hj
    cases hj
    exact ⟨hc, hok, by rw [← hw]; exact g3 (i, w) List.mem_cons_self⟩
  · rw [if_neg e] at hj
    obtain ⟨k1, k2, -⟩ := h.2.2.2 j u hj
    have hjn : j < nL := by rw [← h.2.1]; exact (List.getElem?_eq_some_iff.mp hj).1
    refine ⟨k1, k2, g3 (j, am_v ad u) (List.mem_cons_of_mem _ (List.mem_filter.mpr ⟨am_lp_mem hjn hj, ?_⟩))⟩
    have c2 : ((am_v ad u).category == 2) = false := by rw [am_v_cat, k1]; rfl
    have c1 : (j == i) = false := by simpa using (fun z => e z.symm)
    show (!(j == i) && !(j + 1 == i && (am_v ad u).category == 2)) = true
    rw [c1, c2]; simp
theorem am_L.drop {ad : Nat → Nat} {n nL i : Nat} {L : List (Option Value)} {ls ls' : Array Slot} {w : Value} (h : am_L ad n nL L ls)
    (h' : lv_has ls' nL ((i, w) :: (am_lp ad L nL).filter (fun q => !(q.1 == i) && !(q.1 + 1 == i && q.2.category == 2)))) : am_L ad n nL (L.set i none) ls' := by
  obtain ⟨g1, g2, g3⟩ := h'
  refine ⟨g1, by rw [List.length_set]; exact h.2.1, g2, fun j u hj => ?_⟩
  rw [List.getElem?_set] at hj
  by_cases e : i = j
  · subst e
    rw [if_pos rfl] at hj
    split at hj <;> cases hj
  · rw [if_neg e] at hj
    obtain ⟨k1, k2, -⟩ := h.2.2.2 j u hj
    have hjn : j < nL := by rw [← h.2.1]; exact (List.getElem?_eq_some_iff.mp hj).1
    refine ⟨k1, k2, g3 (j, am_v ad u) (List.mem_cons_of_mem _ (List.mem_filter.mpr ⟨am_lp_mem hjn hj, ?_⟩))⟩
    have c2 : ((am_v ad u).category == 2) = false := by rw [am_v_cat, k1]; rfl
    have c1 : (j == i) = false := by simpa using (fun z => e z.symm)
    show (!(j == i) && !(j + 1 == i && (am_v ad u).category == 2)) = true
    rw [c1, c2]; simp
