/-- field k of the class ci, as the instructions of 'own' name it -/
def am_Fl (own : String) (idx ci k : Nat) (ty : FieldType) (fin : Bool) : Prop :=
  ∃ (Cn : String) (T : u_T) (N : Nat) (ty0 : Nat → FieldType), vwCl[ci]? = some (Cn, T, N) ∧ k < N ∧ Cond.fieldLink own idx (T k).1 (T k).2.1 (T k).2.2.1 ∈ am_big ∧ (∀ w ∈ u_ws Cn T N, w ∈ am_big) ∧ (∀ k, k < N → parseFieldDescriptor (T k).2.2.1 = some (ty0 k)) ∧ (∀ a, a < N → ∀ b, b < N → a ≠ b → (T a).2.1 ≠ (T b).2.1) ∧ parseFieldDescriptor (T k).2.2.1 = some ty ∧ (T k).2.2.2 = fin ∧ (T k).1 = own
theorem am_ci {ci : Nat} {r : vw_C} {fs : List Value} (h : vwCl[ci]? = some r) : (Sum.inr (ci, fs) : am_C) ≠ .inr (1000, []) := fun e => by
  cases e
  rw [show vwCl[1000]? = none from rfl] at h
  cases h
theorem am_ai {y : Nat × vp_A} : (Sum.inl y : am_C) ≠ .inr (1000, []) := fun e => by cases e
theorem am_ty {tys : List (ClassId × FieldType)} {k : Nat} {ty : FieldType} (hty : tys.map (fun q => q.2) = am_tys) (h : am_tys[k]? = some ty) : tys[k]? = some ((tys.getD k (0, .int)).1, ty) := by
  rw [← hty, List.getElem?_map] at h
  cases e : tys[k]? with
  | none => rw [e] at h; cases h
  | some q =>
    rw [e] at h
    have h2 : q.2 = ty := Option.some.inj h
    rw [List.getD_eq_getElem?_getD, e, ← h2]; rfl
theorem am_ra {s : State} {c1 c2 : ClassId} {ty : FieldType} (h1 : va_RA s c1 ty) (h2 : va_RA s c2 ty) : c1 = c2 := by
  cases ty with
  | object C =>
    obtain ⟨_, _, _, _, _, e1⟩ := h1
    obtain ⟨_, _, _, _, _, e2⟩ := h2
    exact Option.some.inj (e1.symm.trans e2)
  | _ =>
    have e1 : s.vm.findClass _ = some c1 := h1
    have e2 : s.vm.findClass _ = some c2 := h2
    exact Option.some.inj (e1.symm.trans e2)
section AMC
variable {K : am_K} {I : am_I} {p : Program} {l : Launch} {e : Env} {R : Room} {s : State} {m : MethodId} {args : Array Value} {below : List Frame} {meth : Method} {c : Code} {S0 S : am_S} {ad0 : Nat → Nat} {Q : State → Prop} {pc : Nat} {L : List (Option Value)} {st : List Value} {cells slots : Nat}
theorem am_getf {idx ci k a : Nat} {ty : FieldType} {fin : Bool} {fs : List Value} {v : Value} (hf : am_Fl I.1.cls idx ci k ty fin) (hd : decode I.2.1 pc = .ok (.getfield idx, 3)) (hc : S.1 a = .inr (ci, fs)) (hv : fs[k]? = some v)
    (kk : am_W K I p l e R s m args below meth c S0 ad0 Q (pc + 3) L (v :: st) S cells slots) : am_W K I p l e R s m args below meth c S0 ad0 Q pc L (.ref a :: st) S cells slots := by
  intro C ad ls H locs h0 h1 hR hS hL hst
  obtain ⟨hx, hb, hml, hr, htab, hlk, hown, hts, hK, hT, htr, hnm, hbs, hty⟩ := id C
  obtain ⟨Cn, T, N, ty0, hcl, hk, hw, hin, -⟩ := hf
  have hok : am_ok S.2 v := by
    have h9 := hR.2.2.2.2 a
    rw [hc] at h9
    exact h9 v (List.mem_of_getElem? hv)
  exact va_get (D := K.1) (ci := ci) (C := Cn) (T := T) (N := N) (v := am_v ad v) hx hb hts hin hown hK hR.1 (a - 1) (hR.at hc (am_ci hcl)) hcl k hk (hts _ hw) (fun _ h9 => h9) (by rw [List.getElem?_map, hv]; rfl) hd (kk C ad ls H locs h0 h1 hR hS hL (am_c hok (am_t hst)))
theorem am_putf {idx ci k a : Nat} {ty : FieldType} {fs fs' : List Value} {v : Value} (hf : am_Fl I.1.cls idx ci k ty false) (hd : decode I.2.1 pc = .ok (.putfield idx, 3)) (hc : S.1 a = .inr (ci, fs)) (hn : ∀ ad : Nat → Nat, narrow ty (am_v ad v) = am_v ad v ∧ fits ty (am_v ad v) = true) (hl : k < fs.length) (he : fs.set k v = fs')
    (kk : am_W K I p l e R s m args below meth c S0 ad0 Q (pc + 3) L st (am_up S.1 a (.inr (ci, fs')), S.2) cells slots) : am_W K I p l e R s m args below meth c S0 ad0 Q pc L (v :: .ref a :: st) S cells slots := by
  intro C ad ls H locs h0 h1 hR hS hL hst
  obtain ⟨hx, hb, hml, hr, htab, hlk, hown, hts, hK, hT, htr, hnm, hbs, hty⟩ := id C
  obtain ⟨Cn, T, N, ty0, hcl, hk, hw, hin, hty0, hnms, htk, hfin, hdecl⟩ := hf
  have hok : am_okC S.2 (.inr (ci, fs')) := by
    have h9 := hR.2.2.2.2 a
    rw [hc] at h9
    intro w hw2
    rw [← he] at hw2
    rcases List.mem_or_eq_of_mem_set hw2 with h8 | h8
    · exact h9 w h8
    · rw [h8]; exact am_h hst
  exact va_put (D := K.1) (ci := ci) (C := Cn) (T := T) (N := N) (v := am_v ad v) (ty := ty) hx hb hts hin ty0 hty0 hnms hown hK hR.1 hR.2.1 hS (a - 1) (hR.at hc (am_ci hcl)) hcl k hk (hts _ hw) (fun _ h9 => h9) hfin htk (hn ad).1 (hn ad).2 (by rw [List.length_map]; exact hl) hd
    (fun H1 locs1 hP1 hD1 hS1 => kk C ad ls H1 locs1 h0 h1 (hR.set hc (am_ci hcl) hok (by rw [← he]; show _ = (am_l K ad S).set (a - 1) (ad a, .inr (ci, (fs.set k v).map (am_v ad))); rw [List.map_set]) hP1 hD1) hS1 hL (am_t (am_t hst)))
theorem am_putF {idx ci k a : Nat} {ty : FieldType} {fs fs' : List Value} {v : Value} (hf : am_Fl I.1.cls idx ci k ty true) (hini : I.1.name = "<init>") (hd : decode I.2.1 pc = .ok (.putfield idx, 3)) (hc : S.1 a = .inr (ci, fs)) (hn : ∀ ad : Nat → Nat, narrow ty (am_v ad v) = am_v ad v ∧ fits ty (am_v ad v) = true) (hl : k < fs.length) (he : fs.set k v = fs')
    (kk : am_W K I p l e R s m args below meth c S0 ad0 Q (pc + 3) L st (am_up S.1 a (.inr (ci, fs')), S.2) cells slots) : am_W K I p l e R s m args below meth c S0 ad0 Q pc L (v :: .ref a :: st) S cells slots := by
  intro C ad ls H locs h0 h1 hR hS hL hst
  obtain ⟨hx, hb, hml, hr, htab, hlk, hown, hts, hK, hT, htr, hnm, hbs, hty⟩ := id C
  obtain ⟨Cn, T, N, ty0, hcl, hk, hw, hin, hty0, hnms, htk, hfin, hdecl⟩ := hf
  have hok : am_okC S.2 (.inr (ci, fs')) := by
    have h9 := hR.2.2.2.2 a
    rw [hc] at h9
    intro w hw2
    rw [← he] at hw2
    rcases List.mem_or_eq_of_mem_set hw2 with h8 | h8
    · exact h9 w h8
    · rw [h8]; exact am_h hst
  exact va_putF (D := K.1) (ci := ci) (C := Cn) (T := T) (N := N) (v := am_v ad v) (ty := ty) hx hb hts hin ty0 hty0 hnms hown hK hR.1 hR.2.1 hS (a - 1) (hR.at hc (am_ci hcl)) hcl k hk (hts _ hw) (fun _ h9 => h9) hfin (hnm.trans hini) hdecl htk (hn ad).1 (hn ad).2 (by rw [List.length_map]; exact hl) hd
    (fun H1 locs1 hP1 hD1 hS1 => kk C ad ls H1 locs1 h0 h1 (hR.set hc (am_ci hcl) hok (by rw [← he]; show _ = (am_l K ad S).set (a - 1) (ad a, .inr (ci, (fs.set k v).map (am_v ad))); rw [List.map_set]) hP1 hD1) hS1 hL (am_t (am_t hst)))
theorem am_alen {k a n : Nat} {q : am_Y} {ty : FieldType} (hd : decode I.2.1 pc = .ok (.arraylength, 1)) (hc : S.1 a = .inl (k, n, q)) (hk : am_tys[k]? = some ty)
    (kk : am_W K I p l e R s m args below meth c S0 ad0 Q (pc + 1) L (.int (Int32.ofNat n) :: st) S cells slots) : am_W K I p l e R s m args below meth c S0 ad0 Q pc L (.ref a :: st) S cells slots := by
  intro C ad ls H locs h0 h1 hR hS hL hst
  obtain ⟨hx, hb, hml, hr, htab, hlk, hown, hts, hK, hT, htr, hnm, hbs, hty⟩ := id C
  exact va_alen (D := K.1) hx hb hK hR.1 (a - 1) k (hR.at hc am_ai) (am_ty hty hk) rfl hd (kk C ad ls H locs h0 h1 hR hS hL (am_c am_okI (am_t hst)))
theorem am_iaload {k a n : Nat} {f : Nat → Int32} {i : Int32} (hd : decode I.2.1 pc = .ok (.iaload, 1)) (hc : S.1 a = .inl (k, n, .inl f)) (hk : am_tys[k]? = some .int) (hin : vp_in i n)
    (kk : am_W K I p l e R s m args below meth c S0 ad0 Q (pc + 1) L (.int (f i.toNatClampNeg) :: st) S cells slots) : am_W K I p l e R s m args below meth c S0 ad0 Q pc L (.int i :: .ref a :: st) S cells slots := by
  intro C ad ls H locs h0 h1 hR hS hL hst
  obtain ⟨hx, hb, hml, hr, htab, hlk, hown, hts, hK, hT, htr, hnm, hbs, hty⟩ := id C
  exact va_iald (D := K.1) hx hb hK hR.1 (a - 1) k (hR.at hc am_ai) (am_ty hty hk) hin hd (kk C ad ls H locs h0 h1 hR hS hL (am_c am_okI (am_t (am_t hst))))
theorem am_iastore {k a n : Nat} {f : Nat → Int32} {i : Int32} {x : Int32} (hd : decode I.2.1 pc = .ok (.iastore, 1)) (hc : S.1 a = .inl (k, n, .inl f)) (hk : am_tys[k]? = some .int) (hin : vp_in i n)
    (kk : am_W K I p l e R s m args below meth c S0 ad0 Q (pc + 1) L st (am_up S.1 a (.inl (k, n, .inl (upd f i.toNatClampNeg x))), S.2) cells slots) : am_W K I p l e R s m args below meth c S0 ad0 Q pc L (.int x :: .int i :: .ref a :: st) S cells slots := by
  intro C ad ls H locs h0 h1 hR hS hL hst
  obtain ⟨hx, hb, hml, hr, htab, hlk, hown, hts, hK, hT, htr, hnm, hbs, hty⟩ := id C
  exact va_iast (D := K.1) hx hb hK hR.1 hR.2.1 hS (a - 1) k (hR.at hc am_ai) (am_ty hty hk) hin hd
    (fun H1 locs1 hP1 hD1 hS1 => kk C ad ls H1 locs1 h0 h1 (hR.set hc am_ai trivial rfl hP1 hD1) hS1 hL (am_t (am_t (am_t hst))))
theorem am_laload {k a n : Nat} {f : Nat → Int64} {i : Int32} (hd : decode I.2.1 pc = .ok (.laload, 1)) (hc : S.1 a = .inl (k, n, .inr (.inl f))) (hk : am_tys[k]? = some .long) (hin : vp_in i n)
    (kk : am_W K I p l e R s m args below meth c S0 ad0 Q (pc + 1) L (.long (f i.toNatClampNeg) :: st) S cells slots) : am_W K I p l e R s m args below meth c S0 ad0 Q pc L (.int i :: .ref a :: st) S cells slots := by
  intro C ad ls H locs h0 h1 hR hS hL hst
  obtain ⟨hx, hb, hml, hr, htab, hlk, hown, hts, hK, hT, htr, hnm, hbs, hty⟩ := id C
  exact va_lald (D := K.1) hx hb hK hR.1 (a - 1) k (hR.at hc am_ai) (am_ty hty hk) hin hd (kk C ad ls H locs h0 h1 hR hS hL (am_c am_okJ (am_t (am_t hst))))
theorem am_lastore {k a n : Nat} {f : Nat → Int64} {i : Int32} {x : Int64} (hd : decode I.2.1 pc = .ok (.lastore, 1)) (hc : S.1 a = .inl (k, n, .inr (.inl f))) (hk : am_tys[k]? = some .long) (hin : vp_in i n)
    (kk : am_W K I p l e R s m args below meth c S0 ad0 Q (pc + 1) L st (am_up S.1 a (.inl (k, n, .inr (.inl (vp_updL f i.toNatClampNeg x)))), S.2) cells slots) : am_W K I p l e R s m args below meth c S0 ad0 Q pc L (.long x :: .int i :: .ref a :: st) S cells slots := by
  intro C ad ls H locs h0 h1 hR hS hL hst
  obtain ⟨hx, hb, hml, hr, htab, hlk, hown, hts, hK, hT, htr, hnm, hbs, hty⟩ := id C
  exact va_last (D := K.1) hx hb hK hR.1 hR.2.1 hS (a - 1) k (hR.at hc am_ai) (am_ty hty hk) hin hd
    (fun H1 locs1 hP1 hD1 hS1 => kk C ad ls H1 locs1 h0 h1 (hR.set hc am_ai trivial rfl hP1 hD1) hS1 hL (am_t (am_t (am_t hst))))
theorem am_baload {k a n : Nat} {f : Nat → Int32} {i : Int32} (hd : decode I.2.1 pc = .ok (.baload, 1)) (hc : S.1 a = .inl (k, n, .inl f)) (hk : am_tys[k]? = some .boolean) (hin : vp_in i n)
    (kk : am_W K I p l e R s m args below meth c S0 ad0 Q (pc + 1) L (.int (f i.toNatClampNeg) :: st) S cells slots) : am_W K I p l e R s m args below meth c S0 ad0 Q pc L (.int i :: .ref a :: st) S cells slots := by
  intro C ad ls H locs h0 h1 hR hS hL hst
  obtain ⟨hx, hb, hml, hr, htab, hlk, hown, hts, hK, hT, htr, hnm, hbs, hty⟩ := id C
  exact va_zald (D := K.1) hx hb hK hR.1 (a - 1) k (hR.at hc am_ai) (am_ty hty hk) hin hd (kk C ad ls H locs h0 h1 hR hS hL (am_c am_okI (am_t (am_t hst))))
theorem am_bastore {k a n : Nat} {f : Nat → Int32} {i x : Int32} (hd : decode I.2.1 pc = .ok (.bastore, 1)) (hc : S.1 a = .inl (k, n, .inl f)) (hk : am_tys[k]? = some .boolean) (hin : vp_in i n) (hz : x = 0 ∨ x = 1)
    (kk : am_W K I p l e R s m args below meth c S0 ad0 Q (pc + 1) L st (am_up S.1 a (.inl (k, n, .inl (upd f i.toNatClampNeg x))), S.2) cells slots) : am_W K I p l e R s m args below meth c S0 ad0 Q pc L (.int x :: .int i :: .ref a :: st) S cells slots := by
  intro C ad ls H locs h0 h1 hR hS hL hst
  obtain ⟨hx, hb, hml, hr, htab, hlk, hown, hts, hK, hT, htr, hnm, hbs, hty⟩ := id C
  have ez : vp_nar .boolean x = x := by rcases hz with rfl | rfl <;> rfl
  exact va_zast (D := K.1) hx hb hK hR.1 hR.2.1 hS (a - 1) k (hR.at hc am_ai) (am_ty hty hk) hin hd
    (fun H1 locs1 hP1 hD1 hS1 => by
      rw [ez] at hP1 hD1
      exact kk C ad ls H1 locs1 h0 h1 (hR.set hc am_ai trivial rfl hP1 hD1) hS1 hL (am_t (am_t (am_t hst))))
theorem am_aaload {k a n : Nat} {f : Nat → Option Nat} {Cn : String} {i : Int32} (hd : decode I.2.1 pc = .ok (.aaload, 1)) (hc : S.1 a = .inl (k, n, .inr (.inr (.inr (.inr f))))) (hk : am_tys[k]? = some (.object Cn)) (hin : vp_in i n)
    (kk : am_W K I p l e R s m args below meth c S0 ad0 Q (pc + 1) L (va_rf (f i.toNatClampNeg) :: st) S cells slots) : am_W K I p l e R s m args below meth c S0 ad0 Q pc L (.int i :: .ref a :: st) S cells slots := by
  intro C ad ls H locs h0 h1 hR hS hL hst
  obtain ⟨hx, hb, hml, hr, htab, hlk, hown, hts, hK, hT, htr, hnm, hbs, hty⟩ := id C
  have h9 := hR.2.2.2.2 a
  rw [hc] at h9
  have hok : am_ok S.2 (va_rf (f i.toNatClampNeg)) := by
    cases e9 : f i.toNatClampNeg with
    | none => exact am_okN
    | some b => exact am_okR (h9 _ _ e9)
  have e8 : va_rf ((f i.toNatClampNeg).map ad) = am_v ad (va_rf (f i.toNatClampNeg)) := by cases f i.toNatClampNeg <;> rfl
  refine va_aldq (D := K.1) hx hb hK hR.1 (a - 1) k (hR.at hc am_ai) (am_ty hty hk) hin hd ?_
  have h7 := kk C ad ls H locs h0 h1 hR hS hL (am_c hok (am_t (am_t hst)))
  rw [List.map_cons, ← e8] at h7
  exact h7
theorem am_aastore {k a n ci b : Nat} {fs : List Value} {f : Nat → Option Nat} {r : vw_C} {i : Int32} (hd : decode I.2.1 pc = .ok (.aastore, 1)) (hc : S.1 a = .inl (k, n, .inr (.inr (.inr (.inr f))))) (hcl : vwCl[ci]? = some r) (hk : am_tys[k]? = some (.object r.1)) (hin : vp_in i n) (hv : S.1 b = .inr (ci, fs))
    (kk : am_W K I p l e R s m args below meth c S0 ad0 Q (pc + 1) L st (am_up S.1 a (.inl (k, n, .inr (.inr (.inr (.inr (va_up f i.toNatClampNeg (some b))))))), S.2) cells slots) : am_W K I p l e R s m args below meth c S0 ad0 Q pc L (.ref b :: .int i :: .ref a :: st) S cells slots := by
  intro C ad ls H locs h0 h1 hR hS hL hst
  obtain ⟨hx, hb, hml, hr, htab, hlk, hown, hts, hK, hT, htr, hnm, hbs, hty⟩ := id C
  have h9 := hR.2.2.2.2 a
  rw [hc] at h9
  have hb2 := (hR.in hv (am_ci hcl)).2
  have hok : am_okC S.2 (.inl (k, n, .inr (.inr (.inr (.inr (va_up f i.toNatClampNeg (some b))))))) := by
    intro j z hz
    by_cases ej : j = i.toNatClampNeg
    · rw [ej, va_up_self] at hz; cases hz; exact hb2
    · rw [va_up_ne f (some b) ej] at hz; exact h9 j z hz
  have ef : (fun j => (va_up f i.toNatClampNeg (some b) j).map ad) = va_up (fun j => (f j).map ad) i.toNatClampNeg (some (ad b)) := by
    funext j
    by_cases ej : j = i.toNatClampNeg
    · rw [ej, va_up_self, va_up_self]; rfl
    · rw [va_up_ne f (some b) ej, va_up_ne _ _ ej]
  exact va_astq (D := K.1) hx hb hK hR.1 hR.2.1 hS (a - 1) k (b - 1) ci (hR.at hc am_ai) (am_ty hty hk) (hR.at hv (am_ci hcl)) hcl hin hd
    (fun H1 locs1 hP1 hD1 hS1 => kk C ad ls H1 locs1 h0 h1 (hR.set hc am_ai hok (by show _ = (am_l K ad S).set (a - 1) (ad a, .inl (_, n, .inr (.inr (.inr (.inr (fun j => (va_up f i.toNatClampNeg (some b) j).map ad)))))); rw [ef]) hP1 hD1) hS1 hL (am_t (am_t (am_t hst))))
theorem am_made {q : Nat} {ad : Nat → Nat} {H1 : Heap} {locs : List Loc} {ls : Array Slot} {k : Nat} {y : am_C} (C : am_X K I p l s m args meth c) (h0 : ∀ a : Nat, a < S0.2 → ad a = ad0 a) (h1 : S0.2 ≤ S.2) (hR1 : am_R K (va_up ad S.2 q) (am_up S.1 S.2 y, S.2 + 1) H1) (hS1 : va_S (fun q => K.2.2 ≤ q) s.heap H1 locs) (hL : am_L ad S.2 I.2.2.1 L ls) (hst : ∀ v ∈ st, am_ok S.2 v)
    (kk : am_W K I p l e R s m args below meth c S0 ad0 Q k L (.ref S.2 :: st) (am_up S.1 S.2 y, S.2 + 1) cells slots) : W p l e R s m args below meth c H1 locs cells slots Q (F0 m k ls (.ref q :: st.map (am_v ad))) := by
  have hag : ∀ a : Nat, a < S.2 → va_up ad S.2 q a = ad a := fun a h => va_up_ne ad q (Nat.ne_of_lt h)
  have h7 := kk C (va_up ad S.2 q) ls H1 locs (fun a h => (hag a (Nat.lt_of_lt_of_le h h1)).trans (h0 a h)) (Nat.le_succ_of_le h1) hR1 hS1 (hL.move hag (Nat.le_succ _)) (am_c (am_okR (Nat.lt_succ_self _)) (fun v hv => am_ok_le (Nat.le_succ _) (hst v hv)))
  rw [List.map_cons, am_map_eq hag hst, show am_v (va_up ad S.2 q) (.ref S.2) = .ref q from congrArg Value.ref (va_up_self ad S.2 q)] at h7
  exact h7
theorem am_newarray {k n : Nat} {x : Int32} {atype : ArrayType} {ty : FieldType} {q0 : am_Y} (hd : decode I.2.1 pc = .ok (.newarray atype, 2)) (hty0 : newarray.typeOf atype = ty) (hk : am_tys[k]? = some ty) (hw : Cond.arrayClass (newarray.typeOf atype) ∈ am_big) (hq : ∀ cA : ClassId, vp_cell cA (n, q0) = arrV cA n (fun _ => defaultValue ty)) (hq2 : ∀ ad : Nat → Nat, am_p ad q0 = q0) (hq3 : ∀ z : Nat, am_okY z q0) (hn : ¬ x < 0) (hN : x.toNatClampNeg = n) (hby : n * componentBytes ty ≤ 536870912) (hce : cells + 1 ≤ R.cells) (hsl : slots + n ≤ R.slots)
    (kk : am_W K I p l e R s m args below meth c S0 ad0 Q (pc + 2) L (.ref S.2 :: st) (am_up S.1 S.2 (.inl (k, n, q0)), S.2 + 1) (cells + 1) (slots + n)) : am_W K I p l e R s m args below meth c S0 ad0 Q pc L (.int x :: st) S cells slots := by
  intro C ad ls H locs h0 h1 hR hS hL hst
  obtain ⟨hx, hb, hml, hr, htab, hlk, hown, hts, hK, hT, htr, hnm, hbs, hty⟩ := id C
  refine va_newa (D := K.1) (a0 := (n, q0)) hx hb (hts _ hw) hty0 hK hR.1 hR.2.1 hS (fun q h9 => Nat.le_trans hbs h9) hq hn hN hby hce hsl hd (fun q cA H1 hK1 hP1 hD1 hS1 => ?_)
  have hcA : cA = (K.2.1.getD k (0, .int)).1 := am_ra (hK1.2 K.2.1.length (cA, ty) (by rw [List.getElem?_append_right (Nat.le_refl _), Nat.sub_self]; rfl)).2 (hK.2 k _ (am_ty hty hk)).2
  have e9 : am_e K ad (.inl (k, n, q0)) = .inl (cA, n, q0) := by
    show Sum.inl (_, _, am_p ad q0) = _
    rw [hq2 ad, hcA]
  exact am_made C h0 h1 (hR.push (y := .inl (k, n, q0)) (hq3 _) (by rw [e9]) hP1 hD1) hS1 hL (am_t hst) kk
theorem am_anewarray {k n idx : Nat} {x : Int32} {Cn : String} (hd : decode I.2.1 pc = .ok (.anewarray idx, 3)) (hk : am_tys[k]? = some (.object Cn)) (hw : Cond.classLink I.1.cls idx Cn ∈ am_big) (hw2 : Cond.arrayOver (.object Cn) ∈ am_over) (hn : ¬ x < 0) (hN : x.toNatClampNeg = n) (hby : n * 4 ≤ 536870912) (hce : cells + 1 ≤ R.cells) (hsl : slots + n ≤ R.slots)
    (kk : am_W K I p l e R s m args below meth c S0 ad0 Q (pc + 3) L (.ref S.2 :: st) (am_up S.1 S.2 (.inl (k, n, .inr (.inr (.inr (.inr (fun _ => none)))))), S.2 + 1) (cells + 1) (slots + n)) : am_W K I p l e R s m args below meth c S0 ad0 Q pc L (.int x :: st) S cells slots := by
  intro C ad ls H locs h0 h1 hR hS hL hst
  obtain ⟨hx, hb, hml, hr, htab, hlk, hown, hts, hK, hT, htr, hnm, hbs, hty⟩ := id C
  refine va_newq (D := K.1) hx hb hown (hts _ hw) (hT.2.2.2.1 _ hw2) hK hR.1 hR.2.1 hS (fun q h9 => Nat.le_trans hbs h9) hn hN hby hce hsl hd (fun q cA H1 hK1 hP1 hD1 hS1 => ?_)
  have hcA : cA = (K.2.1.getD k (0, .int)).1 := am_ra (hK1.2 K.2.1.length (cA, .object Cn) (by rw [List.getElem?_append_right (Nat.le_refl _), Nat.sub_self]; rfl)).2 (hK.2 k _ (am_ty hty hk)).2
  have e9 : am_e K ad (.inl (k, n, .inr (.inr (.inr (.inr (fun _ => none)))))) = .inl (cA, n, .inr (.inr (.inr (.inr (fun _ => none))))) := by
    rw [hcA]; rfl
  exact am_made C h0 h1 (hR.push (y := .inl (k, n, .inr (.inr (.inr (.inr (fun _ => none)))))) (fun _ _ h9 => by cases h9) (by rw [e9]) hP1 hD1) hS1 hL (am_t hst) kk
/-- 'new': class ci, its fields at their defaults -/
def am_Nl (own : String) (idx ci N : Nat) (fs : List Value) : Prop :=
  ∃ (Cn : String) (T : u_T) (ty0 : Nat → FieldType), vwCl[ci]? = some (Cn, T, N) ∧ Cond.classLink own idx Cn ∈ am_big ∧ Cond.instantiable Cn N ∈ am_big ∧ Cond.initialized Cn ∈ am_big ∧ (∀ w ∈ u_ws Cn T N, w ∈ am_big) ∧ (∀ k, k < N → parseFieldDescriptor (T k).2.2.1 = some (ty0 k)) ∧ (∀ j, j < N → defaultValue (ty0 j) = vp_V fs j) ∧ ∀ v ∈ fs, ∀ b : Nat, v ≠ .ref b
theorem am_new {idx ci N : Nat} {fs : List Value} (hf : am_Nl I.1.cls idx ci N fs) (hd : decode I.2.1 pc = .ok (.new idx, 3)) (hce : cells + 1 ≤ R.cells) (hsl : slots + N ≤ R.slots)
    (kk : am_W K I p l e R s m args below meth c S0 ad0 Q (pc + 3) L (.ref S.2 :: st) (am_up S.1 S.2 (.inr (ci, fs)), S.2 + 1) (cells + 1) (slots + N)) : am_W K I p l e R s m args below meth c S0 ad0 Q pc L st S cells slots := by
  intro C ad ls H locs h0 h1 hR hS hL hst
  obtain ⟨hx, hb, hml, hr, htab, hlk, hown, hts, hK, hT, htr, hnm, hbs, hty⟩ := id C
  obtain ⟨Cn, T, ty0, hcl, hw1, hw2, hw3, hin, hty0, hdf, hnr⟩ := hf
  refine va_new (D := K.1) (ci := ci) (fs := fs) (C := Cn) (T := T) (N := N) hx hb hts hin ty0 hty0 hown (hts _ hw1) (hts _ hw2) (hts _ hw3) hK hR.1 hR.2.1 hS (fun q h9 => Nat.le_trans hbs h9) hcl hdf hce hsl hd (fun q H1 hP1 hD1 hS1 => ?_)
  have e9 : am_e K ad (.inr (ci, fs)) = .inr (ci, fs) := by
    show Sum.inr (ci, fs.map (am_v ad)) = _
    have : fs.map (am_v ad) = fs := by
      conv => rhs; rw [← List.map_id fs]
      exact List.map_congr_left (fun v hv => by
        cases v with
        | ref b => exact absurd rfl (hnr _ hv b)
        | _ => rfl)
    rw [this]
  exact am_made C h0 h1 (hR.push (y := .inr (ci, fs)) (fun v hv b eb => absurd eb (hnr v hv b)) (by rw [e9]) hP1 hD1) hS1 hL hst kk
theorem am_objInit {idx a : Nat} (hd : decode I.2.1 pc = .ok (.invokespecial idx, 3)) (hw1 : Cond.methodLink I.1.cls idx Lib.objectInit ∈ am_big) (hw2 : Cond.instanceMethod Lib.objectInit ∈ am_big) (hw3 : Cond.code Lib.objectInit ⟨#[0xb1]⟩ 1 none ∈ am_big) (hfr : 1 ≤ R.frames) (hlo : (st.map fun v => v.category).sum + 12 ≤ R.locals)
    (kk : am_W K I p l e R s m args below meth c S0 ad0 Q (pc + 3) L st S cells slots) : am_W K I p l e R s m args below meth c S0 ad0 Q pc L (.ref a :: st) S cells slots := by
  intro C ad ls H locs h0 h1 hR hS hL hst
  obtain ⟨hx, hb, hml, hr, htab, hlk, hown, hts, hK, hT, htr, hnm, hbs, hty⟩ := id C
  have ecat : ((st.map (am_v ad)).map fun v => v.category) = st.map fun v => v.category := by
    rw [List.map_map]; exact List.map_congr_left (fun v _ => am_v_cat ad v)
  refine W.objInit (g := F0 m pc ls (.ref (ad a) :: st.map (am_v ad))) hx hb hown (hts _ hw1) (hts _ hw2) (hts _ hw3) rfl (by rw [hml]; exact hL.1) rfl hd hfr (by rw [ecat]; show 2 * 0 + _ + _ ≤ _; omega) ?_
  exact kk C ad ls H locs h0 h1 hR hS hL (am_t hst)
theorem am_mmax {idx : Nat} {x y : Int32} (hd : decode I.2.1 pc = .ok (.invokestatic idx, 3)) (hw1 : Cond.methodLink I.1.cls idx Lib.Math.max.name ∈ am_big) (hw2 : Cond.static Lib.Math.max.name ∈ am_big) (hw3 : Cond.initialized "java/lang/Math" ∈ am_big) (hw4 : Cond.code Lib.Math.max.name Lib.Math.max.code 2 (some .int) ∈ am_big) (hfr : 1 ≤ R.frames) (hlo : (st.map fun v => v.category).sum + 13 ≤ R.locals) (hce : cells ≤ R.cells) (hsl : slots ≤ R.slots)
    (kk : am_W K I p l e R s m args below meth c S0 ad0 Q (pc + 3) L (.int (if x < y then y else x) :: st) S cells slots) : am_W K I p l e R s m args below meth c S0 ad0 Q pc L (.int y :: .int x :: st) S cells slots := by
  intro C ad ls H locs h0 h1 hR hS hL hst
  obtain ⟨hx, hb, hml, hr, htab, hlk, hown, hts, hK, hT, htr, hnm, hbs, hty⟩ := id C
  have ecat : ((st.map (am_v ad)).map fun v => v.category) = st.map fun v => v.category := by
    rw [List.map_map]; exact List.map_congr_left (fun v _ => am_v_cat ad v)
  exact va_mmax hx hb (by rw [hml]; exact hL.1.symm) hown (hts _ hw1) (hts _ hw2) (hts _ hw3) (hts _ hw4) hfr (by rw [ecat]; exact hlo) hce hsl hd (kk C ad ls H locs h0 h1 hR hS hL (am_c am_okI (am_t (am_t hst))))
theorem am_lcmp {x y : Int64} (hd : decode I.2.1 pc = .ok (.lcmp, 1)) (kk : am_W K I p l e R s m args below meth c S0 ad0 Q (pc + 1) L (.int (lg_cmp x y) :: st) S cells slots) : am_W K I p l e R s m args below meth c S0 ad0 Q pc L (.long y :: .long x :: st) S cells slots := by
  intro C ad ls H locs h0 h1 hR hS hL hst
  obtain ⟨hx, hb, hml, hr, htab, hlk, hown, hts, hK, hT, htr, hnm, hbs, hty⟩ := id C
  exact W.lcmp hx hb hd (kk C ad ls H locs h0 h1 hR hS hL (am_c am_okI (am_t (am_t hst))))
theorem am_widen {k n : Nat} (g1 : cells ≤ k) (g2 : slots ≤ n) (kk : am_W K I p l e R s m args below meth c S0 ad0 Q pc L st S k n) : am_W K I p l e R s m args below meth c S0 ad0 Q pc L st S cells slots := fun C ad ls H locs h0 h1 hR hS hL hst => W.widen g1 g2 (kk C ad ls H locs h0 h1 hR hS hL hst)
theorem am_same {pc' : Nat} {L' : List (Option Value)} {st' : List Value} {S' : am_S} {cells' slots' : Nat} (e1 : pc = pc') (e2 : L = L') (e3 : st = st') (e4 : S = S') (e5 : cells = cells') (e6 : slots = slots') (kk : am_W K I p l e R s m args below meth c S0 ad0 Q pc' L' st' S' cells' slots') : am_W K I p l e R s m args below meth c S0 ad0 Q pc L st S cells slots := by subst e1; subst e2; subst e3; subst e4; subst e5; subst e6; exact kk
end AMC
