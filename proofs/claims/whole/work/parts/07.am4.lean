/-! CONTRACTS OVER THE ABSTRACT HEAP: called with the values vs at S: answers v at S' with Z v S', or throws the j-th exception at S' with X j S' -/
def am_Pc (K : am_K) (ad : Nat → Nat) (vs : List Value) (S : am_S) : Array Value → State → Prop := va_Pc (vs.map (am_v ad)) (fun U => am_R K ad S U.heap ∧ va_K K.1 vwCl K.2.1 U ∧ am_T K U U.heap ∧ K.2.2 ≤ U.heap.size ∧ (∀ v ∈ vs, am_ok S.2 v) ∧ K.2.1.map (fun q => q.2) = am_tys)
def am_Qc (K : am_K) (ad : Nat → Nat) (S : am_S) (Z : Option Value → am_S → Prop) : Array Value → State → Outcome → State → Prop := fun _ st o t =>
  (∃ (v : Option Value) (S' : am_S) (ad' : Nat → Nat), o = .returned (v.map (am_v ad')) ∧ Z v S' ∧ am_R K ad' S' t.heap ∧ (∀ a : Nat, a < S.2 → ad' a = ad a) ∧ S.2 ≤ S'.2 ∧ ∀ w : Value, v = some w → am_ok S'.2 w) ∧ va_F (fun q => K.2.2 ≤ q) st t
def am_XC (K : am_K) (ad : Nat → Nat) (S : am_S) (X : Nat → am_S → Prop) : String → State → State → Prop := fun E st t =>
  (∃ (j : Nat) (S' : am_S) (ad' : Nat → Nat), am_exs[j]? = some E ∧ X j S' ∧ am_R K ad' S' t.heap ∧ (∀ a : Nat, a < S.2 → ad' a = ad a) ∧ S.2 ≤ S'.2) ∧ va_F (fun q => K.2.2 ≤ q) st t
def am_cd (I : am_I) : Cond := match I.2.2.2.2 with
  | [] => Cond.code I.1 I.2.1 I.2.2.1 I.2.2.2.1
  | hh => Cond.codeWith I.1 I.2.1 I.2.2.1 I.2.2.2.1 hh
def am_ws (I : am_I) : List Cond := am_cd I :: am_big
def am_room (d mc ms : Nat) : Room := { frames := d, cells := mc, slots := ms, locals := 36 * d }
def am_M (K : am_K) (l : Launch) (I : am_I) (d mc ms : Nat) (vs : List Value) (S : am_S) (Z : Option Value → am_S → Prop) (X : Nat → am_S → Prop) : Prop :=
  l.stackTraces = false → ∀ ad : Nat → Nat, vx_Met l I.1 (am_ws I) (am_room d mc ms) (am_Pc K ad vs S) (am_Qc K ad S Z) (am_XC K ad S X) mc ms (fun q => K.2.2 ≤ q)
/-- a method's own end -/
def am_E (K : am_K) (ad : Nat → Nat) (S : am_S) (Z : Option Value → am_S → Prop) (X : Nat → am_S → Prop) (below : List Frame) (args : Array Value) (s : State) (mc ms : Nat) : State → Prop :=
  vx_MQ below (am_Qc K ad S Z) (am_XC K ad S X) args s mc ms (fun q => K.2.2 ≤ q)
theorem am_blind {K : am_K} {ad : Nat → Nat} {vs : List Value} {S : am_S} : FrameBlind (am_Pc K ad vs S) := by
  intro a U g mk h
  obtain ⟨h1, h2, h3, h4, h5, h6, h7⟩ := h
  exact ⟨h1, h2, va_K.moved (u := U) (U := U.calling g mk a) (Vm.Alike.refl U.vm) h3, am_T.same (u := U) (U := U.calling g mk a) rfl h4, h5, h6, h7⟩
def am_L0 (vs : List Value) (n : Nat) : List (Option Value) := vs.map some ++ List.replicate (n - vs.length) none
theorem am_args1 (ad : Nat → Nat) : ∀ (vs : List Value) (i j : Nat) (v : Value), (∀ w ∈ vs, w.category = 1) → vs[j]? = some v → (i + j, am_v ad v) ∈ lv_args i (vs.map (am_v ad))
  | [], _, _, _, _, h => by cases h
  | w :: vs, i, 0, v, hc, h => by
    cases h
    exact List.mem_cons_self
  | w :: vs, i, j + 1, v, hc, h => by
    have h2 := am_args1 ad vs (i + 1) j v (fun u hu => hc u (List.mem_cons_of_mem _ hu)) h
    have e1 : ¬ (am_v ad w).category = 2 := by rw [am_v_cat, hc w List.mem_cons_self]; decide
    show _ ∈ (i, am_v ad w) :: lv_args (if (am_v ad w).category = 2 then i + 2 else i + 1) (vs.map (am_v ad))
    rw [if_neg e1]
    have e2 : i + (j + 1) = i + 1 + j := by omega
    rw [e2]
    exact List.mem_cons_of_mem _ h2
theorem am_sl_len (ad : Nat → Nat) : ∀ (vs : List Value), (∀ w ∈ vs, w.category = 1) → (lg_sl (vs.map (am_v ad))).length = vs.length
  | [], _ => rfl
  | w :: vs, hc => by
    have h2 := am_sl_len ad vs (fun u hu => hc u (List.mem_cons_of_mem _ hu))
    have e1 : (am_v ad w).category = 1 := by rw [am_v_cat]; exact hc w List.mem_cons_self
    unfold lg_sl at h2 ⊢
    rw [List.map_cons, List.flatMap_cons, List.length_append, h2]
    simp [e1]; omega
theorem am_entry {ad : Nat → Nat} {n nL : Nat} {vs : List Value} (hc : ∀ w ∈ vs, w.category = 1) (hok : ∀ w ∈ vs, am_ok n w) (hn : vs.length ≤ nL) :
    am_L ad n nL (am_L0 vs nL) ((lg_sl (vs.map (am_v ad)) ++ List.replicate (nL - (lg_sl (vs.map (am_v ad))).length) Slot.unset).toArray) := by
  have hl := lv_entry (vs.map (am_v ad)) (n := nL) (by rw [am_sl_len ad vs hc]; exact hn)
  obtain ⟨g1, g2, g3⟩ := hl
  refine ⟨g1, by simp [am_L0]; omega, g2, fun i v hv => ?_⟩
  unfold am_L0 at hv
  by_cases hi : i < vs.length
  · rw [List.getElem?_append_left (by simpa using hi), List.getElem?_map] at hv
    cases hvi : vs[i]? with
    | none => rw [hvi] at hv; cases hv
    | some w =>
      rw [hvi] at hv
      cases hv
      have hm := List.mem_of_getElem? hvi
      have h9 := am_args1 ad vs 0 i v hc hvi
      rw [Nat.zero_add] at h9
      exact ⟨hc v hm, hok v hm, g3 _ h9⟩
  · rw [List.getElem?_append_right (by simp; omega)] at hv
    have h8 := List.eq_of_mem_replicate (List.mem_of_getElem? hv)
    cases h8
/-- a contract out of the body's walk (a method without handlers) -/
theorem am_body {K : am_K} {l : Launch} {I : am_I} {d mc ms : Nat} {vs : List Value} {S : am_S} {Z : Option Value → am_S → Prop} {X : Nat → am_S → Prop} (hy : plainName I.1.cls = true) (hh : I.2.2.2.2 = []) (hc : ∀ w ∈ vs, w.category = 1) (hn : vs.length ≤ I.2.2.1)
    (body : ∀ p e s m args below meth c ad0, am_W K I p l e (am_room d mc ms) s m args below meth c S ad0 (am_E K ad0 S Z X below args s mc ms) 0 (am_L0 vs I.2.2.1) [] S 0 0) : am_M K l I d mc ms vs S Z X := by
  intro hl ad
  have hw : am_ws I = Cond.code I.1 I.2.1 I.2.2.1 I.2.2.2.1 :: am_big := by unfold am_ws am_cd; rw [hh]
  refine vx_ofW hy hw ?_
  intro p e s m args below meth c s₁ B hml ht hv
  obtain ⟨rfl, hR, hK, hT, hbs, hok, hty⟩ := hv
  have hts := atoms_spec (ws := am_ws I) B.pre
  have hown : s.vm.findClass I.1.cls = some m.cls := findClass_of_methodNamed B.named
  have htab : c.exceptionTable.toList = tableOf I.2.2.2.2 := by
    rw [hh]
    cases e9 : c.exceptionTable.toList with
    | nil => rfl
    | cons x r => exact (ht x (by rw [e9]; exact List.mem_cons_self)).elim
  have C : am_X K I p l s m (vs.map (am_v ad)).toArray meth c := ⟨B.exec, B.bytes, hml, B.returns, htab, B.notSynchronized, hown, fun w hw9 => hts w (List.mem_cons_of_mem _ hw9), hK, hT, hl, (name_of_methodNamed B.named B.method).1, hbs, hty⟩
  rw [lg_entry_eq]
  exact body p e s m _ below meth c ad C ad _ s.heap [] (fun _ _ => rfl) (Nat.le_refl _) hR va_S.rf (am_entry hc hok hn) (fun v h9 => by cases h9)
/-- the same, of a method with handlers -/
theorem am_bodyH {K : am_K} {l : Launch} {I : am_I} {d mc ms : Nat} {vs : List Value} {S : am_S} {Z : Option Value → am_S → Prop} {X : Nat → am_S → Prop} {h9 : Nat × Nat × Nat × Nat} {hr9 : List (Nat × Nat × Nat × Nat)} (hy : plainName I.1.cls = true) (hh : I.2.2.2.2 = h9 :: hr9) (hc : ∀ w ∈ vs, w.category = 1) (hn : vs.length ≤ I.2.2.1)
    (body : ∀ p e s m args below meth c ad0, am_W K I p l e (am_room d mc ms) s m args below meth c S ad0 (am_E K ad0 S Z X below args s mc ms) 0 (am_L0 vs I.2.2.1) [] S 0 0) : am_M K l I d mc ms vs S Z X := by
  intro hl ad
  have hw : am_ws I = Cond.codeWith I.1 I.2.1 I.2.2.1 I.2.2.2.1 I.2.2.2.2 :: am_big := by unfold am_ws am_cd; rw [hh]
  refine vx_ofWH hy hw ?_
  intro p e s m args below meth c s₁ B hml hv
  obtain ⟨rfl, hR, hK, hT, hbs, hok, hty⟩ := hv
  have hts := atoms_spec (ws := am_ws I) B.pre
  have hown : s.vm.findClass I.1.cls = some m.cls := findClass_of_methodNamed B.named
  have htab : c.exceptionTable.toList = tableOf I.2.2.2.2 := vx_table (x := I.1) B (hts _ (by rw [hw]; exact List.mem_cons_self))
  have C : am_X K I p l s m (vs.map (am_v ad)).toArray meth c := ⟨B.exec, B.bytes, hml, B.returns, htab, B.notSynchronized, hown, fun w hw9 => hts w (List.mem_cons_of_mem _ hw9), hK, hT, hl, (name_of_methodNamed B.named B.method).1, hbs, hty⟩
  rw [lg_entry_eq]
  exact body p e s m _ below meth c ad C ad _ s.heap [] (fun _ _ => rfl) (Nat.le_refl _) hR va_S.rf (am_entry hc hok hn) (fun v h9 => by cases h9)
section AMD
variable {K : am_K} {I : am_I} {p : Program} {l : Launch} {e : Env} {R : Room} {s : State} {m : MethodId} {args : Array Value} {below : List Frame} {meth : Method} {c : Code} {S0 S : am_S} {ad0 : Nat → Nat} {Q : State → Prop} {pc : Nat} {L : List (Option Value)} {st : List Value} {cells slots : Nat} {mc ms : Nat} {Z : Option Value → am_S → Prop} {X : Nat → am_S → Prop}
theorem am_iret {x : Int32} (hd : decode I.2.1 pc = .ok (.ireturn, 1)) (hret : I.2.2.2.1 = some .int) (hc : cells ≤ mc) (hs : slots ≤ ms) (hz9 : Z (some (.int x)) S) : am_W K I p l e R s m args below meth c S0 ad0 (am_E K ad0 S0 Z X below args s mc ms) pc L [.int x] S cells slots := by
  intro C ad ls H locs h0 h1 hR hS hL hst
  obtain ⟨hx, hb, hml, hr, htab, hlk, hown, hts, hK, hT, htr, hnm, hbs, hty⟩ := id C
  refine W.widen hc hs (vx_ret ?_)
  exact W.iret hx hb (hr.trans hret) (fun t ht hW => ⟨⟨_, S, ad, rfl, hz9, by rw [ht]; exact hR, h0, h1, (fun w hw => by cases hw; exact am_okI)⟩, hS.F ht⟩) hS.2.2 hd
theorem am_zret {x : Int32} (hd : decode I.2.1 pc = .ok (.ireturn, 1)) (hret : I.2.2.2.1 = some .boolean) (hz : x = 0 ∨ x = 1) (hc : cells ≤ mc) (hs : slots ≤ ms) (hz9 : Z (some (.int x)) S) : am_W K I p l e R s m args below meth c S0 ad0 (am_E K ad0 S0 Z X below args s mc ms) pc L [.int x] S cells slots := by
  intro C ad ls H locs h0 h1 hR hS hL hst
  obtain ⟨hx, hb, hml, hr, htab, hlk, hown, hts, hK, hT, htr, hnm, hbs, hty⟩ := id C
  refine W.widen hc hs (vx_ret ?_)
  exact W.zret hx hb (hr.trans hret) (by rcases hz with rfl | rfl <;> rfl) (fun t ht hW => ⟨⟨_, S, ad, rfl, hz9, by rw [ht]; exact hR, h0, h1, (fun w hw => by cases hw; exact am_okI)⟩, hS.F ht⟩) hS.2.2 hd
theorem am_vret (hd : decode I.2.1 pc = .ok (.return_, 1)) (hret : I.2.2.2.1 = none) (hc : cells ≤ mc) (hs : slots ≤ ms) (hz9 : Z (none) S) : am_W K I p l e R s m args below meth c S0 ad0 (am_E K ad0 S0 Z X below args s mc ms) pc L [] S cells slots := by
  intro C ad ls H locs h0 h1 hR hS hL hst
  obtain ⟨hx, hb, hml, hr, htab, hlk, hown, hts, hK, hT, htr, hnm, hbs, hty⟩ := id C
  refine W.widen hc hs (vx_ret ?_)
  exact W.vret hx hb (hr.trans hret) (fun t ht hW => ⟨⟨_, S, ad, rfl, hz9, by rw [ht]; exact hR, h0, h1, (fun w hw => by cases hw)⟩, hS.F ht⟩) hS.2.2 hd
theorem am_aret {v : Value} {rt : FieldType} (hd : decode I.2.1 pc = .ok (.areturn, 1)) (hret : I.2.2.2.1 = some rt) (hrt : (∃ n, rt = .object n) ∨ ∃ t, rt = .array t) (hv : v = .null ∨ ∃ a, v = .ref a) (hc : cells ≤ mc) (hs : slots ≤ ms) (hz9 : Z (some v) S) : am_W K I p l e R s m args below meth c S0 ad0 (am_E K ad0 S0 Z X below args s mc ms) pc L [v] S cells slots := by
  intro C ad ls H locs h0 h1 hR hS hL hst
  obtain ⟨hx, hb, hml, hr, htab, hlk, hown, hts, hK, hT, htr, hnm, hbs, hty⟩ := id C
  refine W.widen hc hs (vx_ret ?_)
  have hv2 : am_v ad v = .null ∨ ∃ a, am_v ad v = .ref a := by
    rcases hv with rfl | ⟨a, rfl⟩
    · exact Or.inl rfl
    · exact Or.inr ⟨ad a, rfl⟩
  exact W.aret hx hb (hr.trans hret) hrt hv2 (fun t ht hW => ⟨⟨some v, S, ad, rfl, hz9, by rw [ht]; exact hR, h0, h1, (fun w hw => by cases hw; exact am_h hst)⟩, hS.F ht⟩) hS.2.2 hd
def am_WX (K : am_K) (I : am_I) (p : Program) (l : Launch) (e : Env) (R : Room) (s : State) (m : MethodId) (args : Array Value) (below : List Frame) (meth : Method) (c : Code) (S0 : am_S) (ad0 : Nat → Nat) (Q : State → Prop) (pc : Nat) (L : List (Option Value)) (st : List Value) (S : am_S) (cells slots : Nat) (j : Nat) : Prop :=
  am_X K I p l s m args meth c → ∀ (ad : Nat → Nat) (ls : Array Slot) (H : Heap) (locs : List Loc) (E : String) (q : Addr) (ce : Cell), (∀ a : Nat, a < S0.2 → ad a = ad0 a) → S0.2 ≤ S.2 → am_R K ad S H → va_S (fun q => K.2.2 ≤ q) s.heap H locs → am_L ad S.2 I.2.2.1 L ls → (∀ v ∈ st, am_ok S.2 v) →
    am_exs[j]? = some E → H[q]? = some ce → ce.vm = .none → s.vm.findClass E = some ce.cls →
    vx_W p l e R s m args below meth c H locs cells slots Q (F0 m pc ls (st.map (am_v ad))) q
theorem am_out {j : Nat} (hh : I.2.2.2.2 = []) (hc : cells ≤ mc) (hs : slots ≤ ms) (hX9 : X j S) : am_WX K I p l e R s m args below meth c S0 ad0 (am_E K ad0 S0 Z X below args s mc ms) pc L st S cells slots j := by
  intro C ad ls H locs E q ce h0 h1 hR hS hL hst hE hce hcv hcl
  obtain ⟨hx, hb, hml, hr, htab, hlk, hown, hts, hK, hT, htr, hnm, hbs, hty⟩ := id C
  refine vx_out (E := E) (ce := ce) (by rw [htab, hh]; intro x h9; cases h9) hlk hce hcv hcl (fun t ht ha => ⟨⟨j, S, ad, hE, hX9, by rw [ht]; exact hR, h0, h1⟩, hS.F ht⟩) hS.2.2 hc hs
theorem am_catch {j i k : Nat} {E9 nm9 : String} {L' : List (Option Value)} {hp : Nat} (pre suf : List (Nat × Nat × Nat × Nat)) (x : Nat × Nat × Nat × Nat) (hsp : I.2.2.2.2 = pre ++ x :: suf) (hE9 : am_exs[j]? = some E9)
    (hpass : ∀ z ∈ pre, z.2.2.2 ≠ 0 ∧ ∃ nm : String, Cond.classLink I.1.cls z.2.2.2 nm ∈ am_big ∧ (E9, nm) ∈ am_ncs) (hcov : covers ⟨x.1, x.2.1, x.2.2.1, x.2.2.2⟩ pc = true) (hx0 : x.2.2.2 ≠ 0) (hlink : Cond.classLink I.1.cls x.2.2.2 nm9 ∈ am_big) (hcast : (E9, nm9) ∈ am_cst) (hpx : x.2.2.1 = hp)
    (hd : (decode I.2.1 hp = .ok (.astore i, 2) ∧ k = hp + 2) ∨ (∃ f : Fin 4, decode I.2.1 hp = .ok (.astore_n f, 1) ∧ (f : Nat) = i ∧ k = hp + 1)) (hn : i < I.2.2.1) (hl : L.set i none = L')
    (kk : am_W K I p l e R s m args below meth c S0 ad0 Q k L' [] S cells slots) : am_WX K I p l e R s m args below meth c S0 ad0 Q pc L st S cells slots j := by
  intro C ad ls H locs E q ce h0 h1 hR hS hL hst hE hce hcv hcl
  obtain ⟨hx, hb, hml, hr, htab, hlk, hown, hts, hK, hT, htr, hnm, hbs, hty⟩ := id C
  cases hE9.symm.trans hE
  refine vx_catch (name := nm9) (E := E9) (ce := ce) hown (tableOf pre) ⟨x.1, x.2.1, x.2.2.1, x.2.2.2⟩ (tableOf suf) (by rw [htab, hsp]; simp [tableOf]) (fun z hz => ?_) hcov hx0 (hts _ hlink) (va_Nw.use rfl (hT.2.2.2.2.2.2.1 _ hcast)) hce hcv hcl ?_
  · obtain ⟨w, hw1, rfl⟩ := List.mem_map.mp hz
    obtain ⟨g1, nm, g2, g3⟩ := hpass w hw1
    exact Or.inr ⟨g1, nm, hts _ g2, hT.2.2.2.2.1 _ g3⟩
  · subst hpx
    rcases hd with ⟨hd, rfl⟩ | ⟨f, hd, hf, rfl⟩
    · exact lv_astore hx hb hd hL.has hn rfl (fun ls' h' => kk C ad ls' H locs h0 h1 hR hS (by rw [← hl]; exact hL.drop h') (fun v h9 => by cases h9))
    · exact lv_astore_n hx hb hd hf hL.has hn rfl (fun ls' h' => kk C ad ls' H locs h0 h1 hR hS (by rw [← hl]; exact hL.drop h') (fun v h9 => by cases h9))
/-- throw new E("text") -/
def am_Tl (own : String) (ik is ic j : Nat) : Prop :=
  ∃ (cls text : String) (names : List String), am_exs[j]? = some cls ∧ Bundle.fit cls = true ∧ (∀ n ∈ names, Bundle.fit n = true) ∧ Cond.classLink own ik cls ∈ am_big ∧ Cond.initialized cls ∈ am_big ∧ (own, is, text) ∈ am_strs ∧ (∀ w ∈ vx_atS own ic cls names, w ∈ am_big ∨ w ∈ am_dcl.map Cond.declares ∨ w ∈ am_cst.map (fun q => Cond.castable q.1 q.2)) ∧ (∀ w ∈ Cond.classLink own ik cls :: Cond.initialized cls :: vx_atS own ic cls names, vx_ot w = true) ∧ names.length ≤ 2
theorem am_throw {ik is ic j : Nat} (ht : am_Tl I.1.cls ik is ic j) (hh : I.2.2.2.2 = []) (d0 : decode I.2.1 pc = .ok (.new ik, 3)) (d3 : decode I.2.1 (pc + 3) = .ok (.dup, 1)) (d4 : decode I.2.1 (pc + 4) = .ok (.ldc is, 2)) (d6 : decode I.2.1 (pc + 6) = .ok (.invokespecial ic, 3)) (d9 : decode I.2.1 (pc + 9) = .ok (.athrow, 1))
    (hfr : 6 ≤ R.frames) (hlo : (st.map fun v => v.category).sum + 82 ≤ R.locals) (hce : cells + 1 ≤ R.cells) (hsl : slots + 6 ≤ R.slots) (hc : cells + 1 ≤ mc) (hs : slots + 6 ≤ ms) (hX9 : X j S) : am_W K I p l e R s m args below meth c S0 ad0 (am_E K ad0 S0 Z X below args s mc ms) pc L st S cells slots := by
  intro C ad ls H locs h0 h1 hR hS hL hst
  obtain ⟨hx, hb, hml, hr, htab, hlk, hown, hts, hK, hT, htr, hnm, hbs, hty⟩ := id C
  obtain ⟨cls, text, names, hj, hfit, hfits, hw1, hw2, hw3, hw4, hg, hnl⟩ := ht
  obtain ⟨sa, hsa⟩ := hT.2.2.1 _ hw3
  have ecat : ((st.map (am_v ad)).map fun v => v.category) = st.map fun v => v.category := by
    rw [List.map_map]; exact List.map_congr_left (fun v _ => am_v_cat ad v)
  refine vx_throwS hx hb htr hown hfit hfits (hts _ hw1) (hts _ hw2) hsa (fun w h9 => by
    rcases hw4 w h9 with h8 | h8 | h8
    · exact hts w h8
    · obtain ⟨x, hx8, rfl⟩ := List.mem_map.mp h8
      exact va_Nw.use rfl (hT.2.2.2.2.2.1 x hx8)
    · obtain ⟨x, hx8, rfl⟩ := List.mem_map.mp h8
      exact va_Nw.use rfl (hT.2.2.2.2.2.2.1 x hx8)) hg hT.1 hT.2.1 hS (by rw [hml]; exact hL.1) d0 d3 d4 d6 d9 (by rw [htab, hh]; intro x h9; cases h9) (by omega) (by rw [ecat]; omega) hce hsl hlk
    (fun t ha hz hq => ⟨⟨j, S, ad, hj, hX9, hR.kept hq, h0, h1⟩, ⟨Nat.le_trans hS.1 hz, fun q g1 g2 => (hq q (Nat.lt_of_lt_of_le g1 hS.1)).trans (hS.2.1 q g1 g2)⟩⟩) hS.2.2 hc hs
theorem am_back {J : am_I} {d mc' ms' : Nat} {vs : List Value} {Z' : Option Value → am_S → Prop} {X' : Nat → am_S → Prop} {ad : Nat → Nat} {ls : Array Slot} {H : Heap} {locs : List Loc} {st0 : List Value} (C : am_X K I p l s m args meth c) (h0 : ∀ a : Nat, a < S0.2 → ad a = ad0 a) (h1 : S0.2 ≤ S.2) (hS : va_S (fun q => K.2.2 ≤ q) s.heap H locs) (hL : am_L ad S.2 I.2.2.1 L ls) (hst : ∀ v ∈ st, am_ok S.2 v) {av : Array Value}
    (hrun : vx_Run p l e R s m args below meth c H locs cells slots mc' ms' (F0 m pc ls st0) (st.map (am_v ad)) (am_Qc K ad S Z' av) (am_XC K ad S X') (fun q => K.2.2 ≤ q))
    (kr : ∀ (v : Option Value) (S' : am_S), Z' v S' → S.2 ≤ S'.2 → am_W K I p l e R s m args below meth c S0 ad0 Q (pc + 3) L (v.toList ++ st) S' (cells + mc') (slots + ms'))
    (kx : ∀ (j : Nat) (S' : am_S), X' j S' → S.2 ≤ S'.2 → am_WX K I p l e R s m args below meth c S0 ad0 Q pc L st S' (cells + mc') (slots + ms') j) :
    W p l e R s m args below meth c H locs cells slots Q (F0 m pc ls st0) := by
  intro T hTH X9
  rcases hrun T hTH X9 with ⟨v, st₀, t, T', Lc, g0, X', hLc, e1, e2, ⟨⟨v2, S', ad', ho, hz, hR', hag, hn, hok⟩, hF⟩, stp⟩ | ⟨q, st₀, t, T', Lc, E, ce, g0, X', hLc, e1, e2, ⟨⟨j, S', ad', hE, hz, hR', hag, hn⟩, hF⟩, hce, hcv, hcl, stp⟩
  · cases ho
    obtain ⟨k1, k2, k3⟩ := vx_keep (A0 := fun q => K.2.2 ≤ q) (A1 := fun q => K.2.2 ≤ q) (free := fun q => K.2.2 ≤ q) (H0 := s.heap) g0 e1 hS (fun _ _ h => h) (fun _ h => h) hLc hF
    have hst' : ∀ w ∈ v2.toList ++ st, am_ok S'.2 w := by
      intro w hw
      rcases List.mem_append.mp hw with h9 | h9
      · cases v2 with
        | none => cases h9
        | some u => rw [List.mem_singleton.mp h9]; exact hok u rfl
      · exact am_ok_le hn (hst w h9)
    have h7 := kr v2 S' hz hn C ad' ls T'.heap (locs ++ Lc) (fun a ha => (hag a (Nat.lt_of_lt_of_le ha h1)).trans (h0 a ha)) (Nat.le_trans h1 hn) (by rw [e1]; exact hR') k3 (hL.move hag hn) hst'
    rw [List.map_append, am_map_eq hag hst] at h7
    have e7 : v2.toList.map (am_v ad') = (v2.map (am_v ad')).toList := by cases v2 <;> rfl
    rw [e7] at h7
    obtain ⟨t2, a1, b1⟩ := h7 T' rfl X'
    exact ⟨t2, stp t2 a1, b1⟩
  · obtain ⟨k1, k2, k3⟩ := vx_keep (A0 := fun q => K.2.2 ≤ q) (A1 := fun q => K.2.2 ≤ q) (free := fun q => K.2.2 ≤ q) (H0 := s.heap) g0 e1 hS (fun _ _ h => h) (fun _ h => h) hLc hF
    have h7 := kx j S' hz hn C ad' ls T'.heap (locs ++ Lc) E q ce (fun a ha => (hag a (Nat.lt_of_lt_of_le ha h1)).trans (h0 a ha)) (Nat.le_trans h1 hn) (by rw [e1]; exact hR') k3 (hL.move hag hn) (fun w h9 => am_ok_le hn (hst w h9)) hE (by rw [e1]; exact hce) hcv hcl
    rw [am_map_eq hag hst] at h7
    obtain ⟨t2, a1, b1⟩ := h7 T' rfl X'
    exact ⟨t2, stp.trans a1, b1⟩
theorem am_pre {ad : Nat → Nat} {H : Heap} {locs : List Loc} {vs : List Value} (C : am_X K I p l s m args meth c) (hR : am_R K ad S H) (hS : va_S (fun q => K.2.2 ≤ q) s.heap H locs) (hvs : ∀ v ∈ vs, am_ok S.2 v) : ∀ U : State, U.heap = H → s.WarmedH U.vm → am_Pc K ad vs S (vs.map (am_v ad)).toArray U := by
  intro U hU hW
  obtain ⟨hx, hb, hml, hr, htab, hlk, hown, hts, hK, hT, htr, hnm, hbs, hty⟩ := id C
  exact ⟨rfl, by rw [hU]; exact hR, va_K.moved hW.alike hK, am_T.kept (am_T.moved hW hT) (fun a g1 g2 => by rw [hU]; exact hS.2.1 a g1 g2), by rw [hU]; exact Nat.le_trans hbs hS.1, hvs, hty⟩
theorem am_goodC {J : am_I} (hcd : am_cd J ∈ am_big) : GoodIn am_big (am_ws J) := fun w hw => by
  rcases List.mem_cons.mp hw with rfl | h
  · exact ⟨hcd, am_good _ hcd⟩
  · exact ⟨h, am_good w h⟩
theorem am_good4 {ws r : List Cond} (h : ∀ w ∈ r, w ∈ am_big) (g : GoodIn am_big ws) : GoodIn am_big (r ++ ws) := fun w hw => by
  rcases List.mem_append.mp hw with h9 | h9
  · exact ⟨h w h9, am_good w (h w h9)⟩
  · exact g w h9
/-- what a call of J by 'own' needs of the tables -/
def am_CV (own : String) (idx ci n : Nat) (J : am_I) : Prop :=
  ∃ (T : u_T) (N : Nat), vwCl[ci]? = some (J.1.cls, T, N) ∧ (∀ w ∈ ([.methodLink own idx J.1, .instanceMethod J.1, .selects J.1.cls J.1 J.1, .initialized J.1.cls] : List Cond), w ∈ am_big) ∧ am_cd J ∈ am_big ∧ J.2.2.2.2 = [] ∧ J.1.cls ≠ "java/lang/invoke/MethodHandle" ∧ J.1.cls ≠ "java/lang/invoke/VarHandle" ∧ (parseMethodDescriptor J.1.desc).map (fun d => d.parameters.length) = some n
theorem am_callV {idx ci a d mc' ms' n : Nat} {J : am_I} {vs : List Value} {fs : List Value} {Z' : Option Value → am_S → Prop} {X' : Nat → am_S → Prop} (hl : am_CV I.1.cls idx ci n J) (hM : am_M K l J d mc' ms' (.ref a :: vs) S Z' X') (hd : decode I.2.1 pc = .ok (.invokevirtual idx, 3)) (hc : S.1 a = .inr (ci, fs)) (hn : vs.length = n) (hw8 : (st.map fun v => v.category).sum ≤ 8) (hRo : d + 1 ≤ R.frames ∧ 8 + (J.2.2.1 + 11) + 36 * d ≤ R.locals) (hce : cells + mc' ≤ R.cells) (hsl : slots + ms' ≤ R.slots) {st1 : List Value} (hst1 : st1 = vs.reverse ++ .ref a :: st)
    (kr : ∀ (v : Option Value) (S' : am_S), Z' v S' → S.2 ≤ S'.2 → am_W K I p l e R s m args below meth c S0 ad0 Q (pc + 3) L (v.toList ++ st) S' (cells + mc') (slots + ms'))
    (kx : ∀ (j : Nat) (S' : am_S), X' j S' → S.2 ≤ S'.2 → am_WX K I p l e R s m args below meth c S0 ad0 Q pc L st S' (cells + mc') (slots + ms') j) : am_W K I p l e R s m args below meth c S0 ad0 Q pc L st1 S cells slots := by
  subst hst1
  intro C ad ls H locs h0 h1 hR hS hL hst
  obtain ⟨hx, hb, hml, hr, htab, hlk, hown, hts, hK, hT, htr, hnm, hbs, hty⟩ := id C
  obtain ⟨T, N, hcl, hw4, hcd, hhh, hd1, hd2, hd3⟩ := hl
  have hwJ : am_ws J = Cond.code J.1 J.2.1 J.2.2.1 J.2.2.2.1 :: am_big := by unfold am_ws am_cd; rw [hhh]
  have ecat : ((st.map (am_v ad)).map fun v => v.category) = st.map fun v => v.category := by
    rw [List.map_map]; exact List.map_congr_left (fun v _ => am_v_cat ad v)
  have hvs : ∀ v ∈ .ref a :: vs, am_ok S.2 v := fun v hv => hst v (by
    rcases List.mem_cons.mp hv with rfl | h9
    · exact List.mem_append_right _ List.mem_cons_self
    · exact List.mem_append_left _ (List.mem_reverse.mpr h9))
  have hrs : ∀ v ∈ st, am_ok S.2 v := fun v hv => hst v (List.mem_append_right _ (List.mem_cons_of_mem _ hv))
  have est : (vs.reverse ++ Value.ref a :: st).map (am_v ad) = (vs.map (am_v ad)).reverse ++ Value.ref (ad a) :: st.map (am_v ad) := by
    rw [List.map_append, List.map_reverse]; rfl
  rw [est]
  have hrun := vx_runV (R := R) (p := p) (e := e) (below := below) (meth := meth) (locs := locs) (cells := cells) (slots := slots) (As := vs.map (am_v ad)) (rest := st.map (am_v ad)) (g := F0 m pc ls ((vs.map (am_v ad)).reverse ++ Value.ref (ad a) :: st.map (am_v ad))) ⟨hx, hb, hml, hown, hts⟩ (hM htr ad) (cwV n hts (am_good4 hw4 (am_goodC hcd)) hwJ rfl rfl ⟨rfl, hd1, hd2, hd3⟩ hRo) ⟨am_blind, va_recv hK hR.1 hcl (hR.at hc (am_ci hcl)), am_pre C hR hS hvs⟩ rfl (by rw [List.length_map]; exact hn) hL.1 rfl (by rw [ecat]; show 2 * 0 + _ ≤ 8; omega) hd ⟨hce, hsl⟩
  exact am_back (J := J) (d := d) (vs := vs) C h0 h1 hS hL hrs hrun kr kx
def am_CS (own : String) (idx n : Nat) (J : am_I) : Prop :=
  (∀ w ∈ ([.methodLink own idx J.1, .static J.1, .initialized J.1.cls] : List Cond), w ∈ am_big) ∧ am_cd J ∈ am_big ∧ J.1.cls ≠ "java/lang/invoke/MethodHandle" ∧ J.1.cls ≠ "java/lang/invoke/VarHandle" ∧ (parseMethodDescriptor J.1.desc).map (fun d => d.parameters.length) = some n
theorem am_callS {idx d mc' ms' n : Nat} {J : am_I} {vs : List Value} {Z' : Option Value → am_S → Prop} {X' : Nat → am_S → Prop} (hl : am_CS I.1.cls idx n J) (hhh : J.2.2.2.2 = []) (hM : am_M K l J d mc' ms' vs S Z' X') (hd : decode I.2.1 pc = .ok (.invokestatic idx, 3)) (hn : vs.length = n) (hw8 : (st.map fun v => v.category).sum ≤ 8) (hRo : d + 1 ≤ R.frames ∧ 8 + (J.2.2.1 + 11) + 36 * d ≤ R.locals) (hce : cells + mc' ≤ R.cells) (hsl : slots + ms' ≤ R.slots) {st1 : List Value} (hst1 : st1 = vs.reverse ++ st)
    (kr : ∀ (v : Option Value) (S' : am_S), Z' v S' → S.2 ≤ S'.2 → am_W K I p l e R s m args below meth c S0 ad0 Q (pc + 3) L (v.toList ++ st) S' (cells + mc') (slots + ms'))
    (kx : ∀ (j : Nat) (S' : am_S), X' j S' → S.2 ≤ S'.2 → am_WX K I p l e R s m args below meth c S0 ad0 Q pc L st S' (cells + mc') (slots + ms') j) : am_W K I p l e R s m args below meth c S0 ad0 Q pc L st1 S cells slots := by
  subst hst1
  intro C ad ls H locs h0 h1 hR hS hL hst
  obtain ⟨hx, hb, hml, hr, htab, hlk, hown, hts, hK, hT, htr, hnm, hbs, hty⟩ := id C
  obtain ⟨hw3, hcd, hd1, hd2, hd3⟩ := hl
  have hwJ : am_ws J = Cond.code J.1 J.2.1 J.2.2.1 J.2.2.2.1 :: am_big := by unfold am_ws am_cd; rw [hhh]
  have ecat : ((st.map (am_v ad)).map fun v => v.category) = st.map fun v => v.category := by
    rw [List.map_map]; exact List.map_congr_left (fun v _ => am_v_cat ad v)
  have hvs : ∀ v ∈ vs, am_ok S.2 v := fun v hv => hst v (List.mem_append_left _ (List.mem_reverse.mpr hv))
  have hrs : ∀ v ∈ st, am_ok S.2 v := fun v hv => hst v (List.mem_append_right _ hv)
  have est : (vs.reverse ++ st).map (am_v ad) = (vs.map (am_v ad)).reverse ++ st.map (am_v ad) := by
    rw [List.map_append, List.map_reverse]
  rw [est]
  have hrun := vx_runS (R := R) (p := p) (e := e) (below := below) (meth := meth) (locs := locs) (cells := cells) (slots := slots) (As := vs.map (am_v ad)) (rest := st.map (am_v ad)) (g := F0 m pc ls ((vs.map (am_v ad)).reverse ++ st.map (am_v ad))) ⟨hx, hb, hml, hown, hts⟩ (hM htr ad) (va_cwS n hts (am_good4 hw3 (am_goodC hcd)) hwJ rfl rfl ⟨hd1, hd2, hd3⟩ hRo) ⟨am_blind, am_pre C hR hS hvs⟩ rfl (by rw [List.length_map]; exact hn) hL.1 rfl (by rw [ecat]; show 2 * 0 + _ ≤ 8; omega) hd ⟨hce, hsl⟩
  exact am_back (J := J) (d := d) (vs := vs) C h0 h1 hS hL hrs hrun kr kx
/-- a static method with handlers -/
theorem am_callSH {idx d mc' ms' n : Nat} {J : am_I} {vs : List Value} {Z' : Option Value → am_S → Prop} {X' : Nat → am_S → Prop} {h9 : Nat × Nat × Nat × Nat} {hr9 : List (Nat × Nat × Nat × Nat)} (hl : am_CS I.1.cls idx n J) (hhh : J.2.2.2.2 = h9 :: hr9) (hM : am_M K l J d mc' ms' vs S Z' X') (hd : decode I.2.1 pc = .ok (.invokestatic idx, 3)) (hn : vs.length = n) (hw8 : (st.map fun v => v.category).sum ≤ 8) (hRo : d + 1 ≤ R.frames ∧ 8 + (J.2.2.1 + 11) + 36 * d ≤ R.locals) (hce : cells + mc' ≤ R.cells) (hsl : slots + ms' ≤ R.slots) {st1 : List Value} (hst1 : st1 = vs.reverse ++ st)
    (kr : ∀ (v : Option Value) (S' : am_S), Z' v S' → S.2 ≤ S'.2 → am_W K I p l e R s m args below meth c S0 ad0 Q (pc + 3) L (v.toList ++ st) S' (cells + mc') (slots + ms'))
    (kx : ∀ (j : Nat) (S' : am_S), X' j S' → S.2 ≤ S'.2 → am_WX K I p l e R s m args below meth c S0 ad0 Q pc L st S' (cells + mc') (slots + ms') j) : am_W K I p l e R s m args below meth c S0 ad0 Q pc L st1 S cells slots := by
  subst hst1
  intro C ad ls H locs h0 h1 hR hS hL hst
  obtain ⟨hx, hb, hml, hr, htab, hlk, hown, hts, hK, hT, htr, hnm, hbs, hty⟩ := id C
  obtain ⟨hw3, hcd, hd1, hd2, hd3⟩ := hl
  have hwJ : am_ws J = Cond.codeWith J.1 J.2.1 J.2.2.1 J.2.2.2.1 J.2.2.2.2 :: am_big := by unfold am_ws am_cd; rw [hhh]
  have ecat : ((st.map (am_v ad)).map fun v => v.category) = st.map fun v => v.category := by
    rw [List.map_map]; exact List.map_congr_left (fun v _ => am_v_cat ad v)
  have hvs : ∀ v ∈ vs, am_ok S.2 v := fun v hv => hst v (List.mem_append_left _ (List.mem_reverse.mpr hv))
  have hrs : ∀ v ∈ st, am_ok S.2 v := fun v hv => hst v (List.mem_append_right _ hv)
  have est : (vs.reverse ++ st).map (am_v ad) = (vs.map (am_v ad)).reverse ++ st.map (am_v ad) := by
    rw [List.map_append, List.map_reverse]
  rw [est]
  have hrun := vx_runSX (R := R) (p := p) (e := e) (below := below) (meth := meth) (locs := locs) (cells := cells) (slots := slots) (As := vs.map (am_v ad)) (rest := st.map (am_v ad)) (g := F0 m pc ls ((vs.map (am_v ad)).reverse ++ st.map (am_v ad))) ⟨hx, hb, hml, hown, hts⟩ (hM htr ad) (vx_cwSW n hts (am_good4 hw3 (am_goodC hcd)) hwJ rfl rfl ⟨hd1, hd2, hd3⟩ hRo) ⟨am_blind, am_pre C hR hS hvs⟩ rfl (by rw [List.length_map]; exact hn) hL.1 rfl (by rw [ecat]; show 2 * 0 + _ ≤ 8; omega) hd ⟨hce, hsl⟩
  exact am_back (J := J) (d := d) (vs := vs) C h0 h1 hS hL hrs hrun kr kx
theorem am_met {J : am_I} {d mc' ms' : Nat} {vs : List Value} {Z' : Option Value → am_S → Prop} (htr : l.stackTraces = false) (hM : am_M K l J d mc' ms' vs S Z' (fun _ _ => False)) (ad : Nat → Nat) : Met l J.1 (am_ws J) (am_room d mc' ms') (am_Pc K ad vs S) (am_Qc K ad S Z') mc' ms' (fun q => K.2.2 ≤ q) :=
  MetFree.mono (hM htr ad) (fun _ _ h => h) (fun _ _ _ _ _ h => h) (fun a st o t _ h => by
    rcases h with h | ⟨q, -, E, ce, L9, ⟨⟨j, S', ad', -, hf, -⟩, -⟩, -⟩
    · exact h
    · exact hf.elim)
def am_CI (own : String) (idx n : Nat) (J : am_I) : Prop :=
  (∀ w ∈ ([.methodLink own idx J.1, .instanceMethod J.1, .initialized J.1.cls] : List Cond), w ∈ am_big) ∧ am_cd J ∈ am_big ∧ J.2.2.2.2 = [] ∧ J.2.2.2.1 = none ∧ J.1.name = "<init>" ∧ J.1.cls ≠ "java/lang/invoke/MethodHandle" ∧ J.1.cls ≠ "java/lang/invoke/VarHandle" ∧ (parseMethodDescriptor J.1.desc).map (fun d => d.parameters.length) = some n
theorem am_runX {H : Heap} {locs : List Loc} {mc' ms' : Nat} {g : JFrame} {rest : List Value} {Qa : State → Outcome → State → Prop} {XC : String → State → State → Prop} {free : Addr → Prop} (h : va_Run p l e R s m args below meth c H locs cells slots mc' ms' g rest Qa free) : vx_Run p l e R s m args below meth c H locs cells slots mc' ms' g rest Qa XC free :=
  fun T hT X9 => Or.inl (h T hT X9)
theorem am_callI {idx a d mc' ms' n : Nat} {J : am_I} {vs : List Value} {Z' : Option Value → am_S → Prop} (hl : am_CI I.1.cls idx n J) (hM : am_M K l J d mc' ms' (.ref a :: vs) S Z' (fun _ _ => False)) (hd : decode I.2.1 pc = .ok (.invokespecial idx, 3)) (hn : vs.length = n) (hw8 : (st.map fun v => v.category).sum ≤ 8) (hRo : d + 1 ≤ R.frames ∧ 8 + (J.2.2.1 + 11) + 36 * d ≤ R.locals) (hce : cells + mc' ≤ R.cells) (hsl : slots + ms' ≤ R.slots) {st1 : List Value} (hst1 : st1 = vs.reverse ++ .ref a :: st)
    (kr : ∀ (v : Option Value) (S' : am_S), Z' v S' → S.2 ≤ S'.2 → am_W K I p l e R s m args below meth c S0 ad0 Q (pc + 3) L (v.toList ++ st) S' (cells + mc') (slots + ms')) : am_W K I p l e R s m args below meth c S0 ad0 Q pc L st1 S cells slots := by
  subst hst1
  intro C ad ls H locs h0 h1 hR hS hL hst
  obtain ⟨hx, hb, hml, hr, htab, hlk, hown, hts, hK, hT, htr, hnm, hbs, hty⟩ := id C
  obtain ⟨hw3, hcd, hhh, hrt, hnmi, hd1, hd2, hd3⟩ := hl
  have hwJ : am_ws J = Cond.code J.1 J.2.1 J.2.2.1 none :: am_big := by unfold am_ws am_cd; rw [hhh, hrt]
  have ecat : ((st.map (am_v ad)).map fun v => v.category) = st.map fun v => v.category := by
    rw [List.map_map]; exact List.map_congr_left (fun v _ => am_v_cat ad v)
  have hvs : ∀ v ∈ .ref a :: vs, am_ok S.2 v := fun v hv => hst v (by
    rcases List.mem_cons.mp hv with rfl | h9
    · exact List.mem_append_right _ List.mem_cons_self
    · exact List.mem_append_left _ (List.mem_reverse.mpr h9))
  have hrs : ∀ v ∈ st, am_ok S.2 v := fun v hv => hst v (List.mem_append_right _ (List.mem_cons_of_mem _ hv))
  have est : (vs.reverse ++ Value.ref a :: st).map (am_v ad) = (vs.map (am_v ad)).reverse ++ Value.ref (ad a) :: st.map (am_v ad) := by
    rw [List.map_append, List.map_reverse]; rfl
  rw [est]
  have hrun := va_runI (R := R) (p := p) (e := e) (below := below) (meth := meth) (locs := locs) (cells := cells) (slots := slots) (As := vs.map (am_v ad)) (rest := st.map (am_v ad)) (g := F0 m pc ls ((vs.map (am_v ad)).reverse ++ Value.ref (ad a) :: st.map (am_v ad))) ⟨hx, hb, hml, hown, hts⟩ (am_met htr hM ad) (cwI n hts (am_goodC hcd) hwJ rfl rfl (hts _ (hw3 _ (by simp))) (hts _ (hw3 _ (by simp))) (hts _ (hw3 _ (by simp))) hnmi ⟨hd1, hd2, hd3⟩ hRo) ⟨am_blind, am_pre C hR hS hvs⟩ rfl (by rw [List.length_map]; exact hn) hL.1 rfl (by rw [ecat]; show 2 * 0 + _ ≤ 8; omega) hd ⟨hce, hsl⟩
  exact am_back (J := J) (d := d) (vs := vs) (X' := fun _ _ => False) C h0 h1 hS hL hrs (am_runX hrun) kr (fun _ _ h9 => h9.elim)
/-- a private static method of a nest mate -/
def am_CN (own : String) (idx n : Nat) (host : String) (J : am_I) : Prop :=
  (own, idx, J.1, host) ∈ am_nst ∧ (∀ w ∈ ([.static J.1, .initialized J.1.cls] : List Cond), w ∈ am_big) ∧ am_cd J ∈ am_big ∧ J.1.cls ≠ "java/lang/invoke/MethodHandle" ∧ J.1.cls ≠ "java/lang/invoke/VarHandle" ∧ (parseMethodDescriptor J.1.desc).map (fun d => d.parameters.length) = some n
theorem am_callSN {idx d mc' ms' n : Nat} {host : String} {J : am_I} {vs : List Value} {Z' : Option Value → am_S → Prop} (hl : am_CN I.1.cls idx n host J) (hhh : J.2.2.2.2 = []) (hM : am_M K l J d mc' ms' vs S Z' (fun _ _ => False)) (hd : decode I.2.1 pc = .ok (.invokestatic idx, 3)) (hn : vs.length = n) (hw8 : (st.map fun v => v.category).sum ≤ 8) (hRo : d + 1 ≤ R.frames ∧ 8 + (J.2.2.1 + 11) + 36 * d ≤ R.locals) (hce : cells + mc' ≤ R.cells) (hsl : slots + ms' ≤ R.slots) {st1 : List Value} (hst1 : st1 = vs.reverse ++ st)
    (kr : ∀ (v : Option Value) (S' : am_S), Z' v S' → S.2 ≤ S'.2 → am_W K I p l e R s m args below meth c S0 ad0 Q (pc + 3) L (v.toList ++ st) S' (cells + mc') (slots + ms')) : am_W K I p l e R s m args below meth c S0 ad0 Q pc L st1 S cells slots := by
  subst hst1
  intro C ad ls H locs h0 h1 hR hS hL hst
  obtain ⟨hx, hb, hml, hr, htab, hlk, hown, hts, hK, hT, htr, hnm, hbs, hty⟩ := id C
  obtain ⟨hm0, hw3, hcd, hd1, hd2, hd3⟩ := hl
  have hwJ : am_ws J = Cond.code J.1 J.2.1 J.2.2.1 J.2.2.2.1 :: am_big := by unfold am_ws am_cd; rw [hhh]
  have ecat : ((st.map (am_v ad)).map fun v => v.category) = st.map fun v => v.category := by
    rw [List.map_map]; exact List.map_congr_left (fun v _ => am_v_cat ad v)
  have hvs : ∀ v ∈ vs, am_ok S.2 v := fun v hv => hst v (List.mem_append_left _ (List.mem_reverse.mpr hv))
  have hrs : ∀ v ∈ st, am_ok S.2 v := fun v hv => hst v (List.mem_append_right _ hv)
  have est : (vs.reverse ++ st).map (am_v ad) = (vs.map (am_v ad)).reverse ++ st.map (am_v ad) := by
    rw [List.map_append, List.map_reverse]
  rw [est]
  have hnw : va_Nw (.methodLinkNest I.1.cls idx J.1 host) s := hT.2.2.2.2.2.2.2 _ hm0
  have hrun := va_runSN (R := R) (p := p) (e := e) (below := below) (meth := meth) (locs := locs) (cells := cells) (slots := slots) (As := vs.map (am_v ad)) (rest := st.map (am_v ad)) (g := F0 m pc ls ((vs.map (am_v ad)).reverse ++ st.map (am_v ad))) ⟨hx, hb, hml, hown, hts⟩ (am_met htr hM ad) ⟨va_cnB n hts (am_goodC hcd) hwJ rfl rfl hnw (hts _ (hw3 _ (by simp))) ⟨hd1, hd2, hd3⟩ hRo, hts _ (hw3 _ (by simp)), trivial⟩ ⟨am_blind, am_pre C hR hS hvs⟩ rfl (by rw [List.length_map]; exact hn) hL.1 rfl (by rw [ecat]; show 2 * 0 + _ ≤ 8; omega) hd ⟨hce, hsl⟩
  exact am_back (J := J) (d := d) (vs := vs) (X' := fun _ _ => False) C h0 h1 hS hL hrs (am_runX hrun) kr (fun _ _ h9 => h9.elim)
theorem am_free (kk : (∀ a : Nat, a = 0 ∨ S.2 ≤ a → S.1 a = .inr (1000, [])) → am_W K I p l e R s m args below meth c S0 ad0 Q pc L st S cells slots) : am_W K I p l e R s m args below meth c S0 ad0 Q pc L st S cells slots := fun C ad ls H locs h0 h1 hR hS hL hst => kk hR.2.2.1 C ad ls H locs h0 h1 hR hS hL hst
theorem am_ne {f : Nat → am_C} {a b : Nat} {x y : am_C} (h : f b = y) (h' : f a = x) (hxy : y ≠ x) : b ≠ a := fun e => hxy (by rw [← h, e, h'])
end AMD
