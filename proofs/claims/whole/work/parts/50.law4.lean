/-! THE CLAIM OUT OF ONE WALK OF THE LAW'S BODY. Your part is whole_start (and what it stands on); all else here is the same for every law, but numbers. -/
def R_law : String := "CaptionLinesLaw"
def lw_P (b : Addr) (xs : List Int32) (args : Array Value) (s : State) : Prop := args = #[.ref b] ∧ s.IntsAt b xs ∧ xs.length ≤ 2560 ∧ (Jvm.Cond.and given_1 narrow_1).before args s = true
def lw_Q (_ : Array Value) (s : State) (o : Outcome) (t : State) : Prop := o = .returned (some (.int 1)) ∧ Framed s o t [] 601024 7293034
def lw_Z (below : List Frame) (a : Array Value) (s : State) : State → Prop := fun t => ∃ o, t.status = .running ∧ Ended t below o ∧ lw_Q a s o t
/-- the law's own end, with 1 on the stack, nothing written that was there before, its room as the claim has it -/
theorem lw_ret {p : Program} {l : Launch} {e : Env} {s : State} {m : MethodId} {below : List Frame} {meth : Method} {c : Code} {b : Nat} (hx : p.tables.exec = Jvm.exec) (hb : c.code = code) (hr : meth.sig.returnType = ret) (hlocks : meth.locks = false) {pc : Nat} {H : Heap} {ls : Array Slot} (hdg : decode code pc = .ok (.ireturn, 1)) : W p l e room_1 s m #[Value.ref b] below meth c H [] 601024 7293034 (lw_Z below #[Value.ref b] s) (F0 m pc ls [.int 1]) := by
  intro T hT X
  obtain ⟨fs, hret, hrun, hended, hW, hframe⟩ := X.leave (v := some (.int 1)) (hlocks := hlocks) (fun h => by rw [hr] at h; cases h)
  have hmeth' : T.vm.method? m = some meth := X.method'
  refine ⟨T.setFrames fs, ?_, .returned (some (.int 1)), hrun, hended, rfl, ⟨_, rfl⟩, hW, hframe⟩
  jvm_step X.here [X.here.top, hx, hb, hdg, hmeth', hr, ret, narrow_b1]
  (try refine ⟨rfl, ?_⟩); (try refine ⟨rfl, ?_⟩)
  first | (intro acts; rw [hret _ acts rfl rfl rfl]) | rw [hret _ _ rfl rfl rfl]
  exact Steps.refl _
/-- what holds at the law's entry: the machine, the code, the tables' words (any of lw_tbl by 'hts w (by decide +kernel)'), the script of L ints xs at the cell b, what the Statement gives of the start (any of its parts by flat_of_before) -/
def lw_At (p : Program) (s : State) (m : MethodId) (meth : Method) (c : Code) (b L : Nat) (xs : Nat → Int32) : Prop :=
  p.tables.exec = Jvm.exec ∧ c.code = code ∧ meth.sig.returnType = ret ∧ c.maxLocals = 7 ∧ s.vm.findClass R_law = some m.cls ∧ (∀ w ∈ lw_tbl, w.before #[Value.ref b] s = true) ∧ va_X b L xs s s.heap ∧ b < s.heap.size ∧ meth.locks = false ∧ (Jvm.Cond.and given_1 narrow_1).before #[Value.ref b] s = true
/-- what holds at the law's entry, and what a throw wants: no handler in the law, its name, a launch without traces -/
def lw_At2 (p : Program) (l : Launch) (s : State) (m : MethodId) (meth : Method) (c : Code) (b L : Nat) (xs : Nat → Int32) : Prop := lw_At p s m meth c b L xs ∧ c.exceptionTable.toList = tableOf [] ∧ meth.name = "law" ∧ l.stackTraces = false
theorem lw_str {args : Array Value} {s : State} {own tx : String} {k : Nat} (h1 : (Cond.stringRef own k tx).before args s = true) (h2 : (Cond.exactly (Term.string own k) "java/lang/String").before args s = true) : ∃ sa : Nat, vk_R own k tx sa s := by
  obtain ⟨a, c, cell, kc, g1, -⟩ := Cond.exactly_spec h2
  exact ⟨a, vk_R.of h1 g1⟩
set_option maxRecDepth 100000 in
set_option maxHeartbeats 4000000 in
theorem lw_K {s : State} {args : Array Value} (hts : ∀ w ∈ lw_tbl, w.before args s = true) : ∃ (D : va_G) (tys : List (ClassId × FieldType)), va_K D vwCl tys s ∧ tys.map (fun q => q.2) = am_tys := by
  have hbig : ∀ w ∈ am_big, w.before args s = true := fun w hw => hts w (am_bt hw)
  obtain ⟨c0, i0, hn0⟩ := u_known (C := RX0) (T := TX0) (N := 4) (n := 4) hbig inX0 (hts (.instantiable RX0 4) (List.mem_of_getElem? (i := 60) (by decide +kernel)))
  obtain ⟨c1, i1, hn1⟩ := u_known (C := RX1) (T := TX1) (N := 2) (n := 2) hbig inX1 (hts (.instantiable RX1 2) (List.mem_of_getElem? (i := 115) (by decide +kernel)))
  obtain ⟨c2, i2, hn2⟩ := u_known (C := RX2) (T := TX2) (N := 2) (n := 2) hbig inX2 (hts (.instantiable RX2 2) (List.mem_of_getElem? (i := 148) (by decide +kernel)))
  obtain ⟨c3, i3, hn3⟩ := u_known (C := RX3) (T := TX3) (N := 2) (n := 2) hbig inX3 (hts (.instantiable RX3 2) (List.mem_of_getElem? (i := 43) (by decide +kernel)))
  obtain ⟨c4, i4, hn4⟩ := u_known (C := RX4) (T := TX4) (N := 9) (n := 9) hbig inX4 (hts (.instantiable RX4 9) (List.mem_of_getElem? (i := 81) (by decide +kernel)))
  obtain ⟨c5, i5, hn5⟩ := u_known (C := RX5) (T := TX5) (N := 4) (n := 4) hbig inX5 (hts (.instantiable RX5 4) (List.mem_of_getElem? (i := 129) (by decide +kernel)))
  obtain ⟨c6, i6, hn6⟩ := u_known (C := RX6) (T := TX6) (N := 7) (n := 7) hbig inX6 (hts (.instantiable RX6 7) (List.mem_of_getElem? (i := 35) (by decide +kernel)))
  obtain ⟨c7, i7, hn7⟩ := u_known (C := RX7) (T := TX7) (N := 29) (n := 29) hbig inX7 (hts (.instantiable RX7 29) (List.mem_of_getElem? (i := 645) (by decide +kernel)))
  obtain ⟨dC, dI, hKc⟩ : ∃ (dC : Nat → ClassId) (dI : Nat → Nat → Nat), ∀ (k : Nat) (q : vw_C), vwCl[k]? = some q → u_Kn s q.1 q.2.1 q.2.2 (dC k) (dI k) := by
    refine ⟨fun k => if k = 0 then c0 else if k = 1 then c1 else if k = 2 then c2 else if k = 3 then c3 else if k = 4 then c4 else if k = 5 then c5 else if k = 6 then c6 else c7, fun k => if k = 0 then i0 else if k = 1 then i1 else if k = 2 then i2 else if k = 3 then i3 else if k = 4 then i4 else if k = 5 then i5 else if k = 6 then i6 else i7, ?_⟩
    intro k q hq
    match k, hq with
    | 0, hq => cases hq; exact hn0
    | 1, hq => cases hq; exact hn1
    | 2, hq => cases hq; exact hn2
    | 3, hq => cases hq; exact hn3
    | 4, hq => cases hq; exact hn4
    | 5, hq => cases hq; exact hn5
    | 6, hq => cases hq; exact hn6
    | 7, hq => cases hq; exact hn7
    | k + 8, hq => simp [vwCl] at hq
  obtain ⟨cI, kI, mI, fI1, fI2, fI3⟩ := Cond.arrayClass_spec (hbig _ la_int)
  obtain ⟨cJ, kJ, mJ, fJ1, fJ2, fJ3⟩ := Cond.arrayClass_spec (hbig _ la_long)
  obtain ⟨cZ, kZ, mZ, fZ1, fZ2, fZ3⟩ := Cond.arrayClass_spec (hbig _ la_boolean)
  obtain ⟨mR, cR, kR, fR0, fR1, fR2, fR3, fR4⟩ := Cond.arrayOver_spec (hts (.arrayOver (.object "CaptionLines$Row")) (List.mem_of_getElem? (i := 66) (by decide +kernel)))
  refine ⟨(dC, dI), [(cI, .int), (cJ, .long), (cR, .object "CaptionLines$Row"), (cZ, .boolean)], ⟨hKc, fun k q hk => ?_⟩, rfl⟩
  match k, hk with
  | 0, hk => cases hk; exact ⟨fun n z => ⟨fun k h => (by cases h), kI, fI2, mI, fI3⟩, fI1⟩
  | 1, hk => cases hk; exact ⟨fun n z => ⟨fun k h => (by cases h), kJ, fJ2, mJ, fJ3⟩, fJ1⟩
  | 2, hk => cases hk; exact ⟨fun n z => ⟨fun k h => (by cases h), kR, fR2, mR, fR3⟩, kR, mR, fR2, fR3, fR0, fR4⟩
  | 3, hk => cases hk; exact ⟨fun n z => ⟨fun k h => (by cases h), kZ, fZ2, mZ, fZ3⟩, fZ1⟩
  | k + 4, hk => simp at hk
set_option maxRecDepth 100000 in
set_option maxHeartbeats 4000000 in
theorem lw_T {s : State} {args : Array Value} {K : am_K} (hK2 : K.2.2 = s.heap.size) (hts : ∀ w ∈ lw_tbl, w.before args s = true) (hgv : (Jvm.Cond.and given_1 narrow_1).before args s = true) : am_T K s s.heap := by
  have hg := flat_of_before _ hgv
  have hA : ∀ a : Nat, a < s.heap.size → ¬ K.2.2 ≤ a := fun a h => by rw [hK2]; exact Nat.not_le.mpr h
  refine ⟨vx_Zqof (hts _ (List.mem_of_getElem? (i := 230) (by decide +kernel))) (hts (.initialized "java/lang/Throwable") (List.mem_of_getElem? (i := 28) (by decide +kernel))) (hg (.isRef (.static "java/lang/Throwable" "UNASSIGNED_STACK" "[Ljava/lang/StackTraceElement;")) (by decide +kernel)) hA, vx_Zqof (hts _ (List.mem_of_getElem? (i := 232) (by decide +kernel))) (hts (.initialized "java/lang/Throwable") (List.mem_of_getElem? (i := 28) (by decide +kernel))) (hg (.isRef (.static "java/lang/Throwable" "SUPPRESSED_SENTINEL" "Ljava/util/List;")) (by decide +kernel)) hA, ?_, ?_, ?_, ?_, ?_, ?_⟩
  · exact (List.forall_mem_cons.mpr ⟨lw_str (hts (.stringRef "CaptionLines" 62 "the pad is full") (List.mem_of_getElem? (i := 244) (by decide +kernel))) (hg (.exactly (.string "CaptionLines" 62) "java/lang/String") (by decide +kernel)), (List.forall_mem_cons.mpr ⟨lw_str (hts (.stringRef "CaptionLines" 73 "no such sign") (List.mem_of_getElem? (i := 283) (by decide +kernel))) (hg (.exactly (.string "CaptionLines" 73) "java/lang/String") (by decide +kernel)), (List.forall_mem_cons.mpr ⟨lw_str (hts (.stringRef "CaptionLines" 228 "no such caption") (List.mem_of_getElem? (i := 314) (by decide +kernel))) (hg (.exactly (.string "CaptionLines" 228) "java/lang/String") (by decide +kernel)), (List.forall_mem_cons.mpr ⟨lw_str (hts (.stringRef "CaptionLines" 230 "no such language") (List.mem_of_getElem? (i := 324) (by decide +kernel))) (hg (.exactly (.string "CaptionLines" 230) "java/lang/String") (by decide +kernel)), (List.forall_mem_cons.mpr ⟨lw_str (hts (.stringRef "CaptionLines" 90 "there are four versions") (List.mem_of_getElem? (i := 329) (by decide +kernel))) (hg (.exactly (.string "CaptionLines" 90) "java/lang/String") (by decide +kernel)), (List.forall_mem_cons.mpr ⟨lw_str (hts (.stringRef "CaptionLines" 120 "no such version") (List.mem_of_getElem? (i := 391) (by decide +kernel))) (hg (.exactly (.string "CaptionLines" 120) "java/lang/String") (by decide +kernel)), (List.forall_mem_cons.mpr ⟨lw_str (hts (.stringRef "CaptionLines" 123 "no such place") (List.mem_of_getElem? (i := 392) (by decide +kernel))) (hg (.exactly (.string "CaptionLines" 123) "java/lang/String") (by decide +kernel)), (List.forall_mem_cons.mpr ⟨lw_str (hts (.stringRef "CaptionLines" 129 "no such width") (List.mem_of_getElem? (i := 400) (by decide +kernel))) (hg (.exactly (.string "CaptionLines" 129) "java/lang/String") (by decide +kernel)), (List.forall_mem_cons.mpr ⟨lw_str (hts (.stringRef "CaptionLines" 142 "what is neither 0 nor 1") (List.mem_of_getElem? (i := 446) (by decide +kernel))) (hg (.exactly (.string "CaptionLines" 142) "java/lang/String") (by decide +kernel)), (List.forall_mem_cons.mpr ⟨lw_str (hts (.stringRef "CaptionLines" 144 "no such line") (List.mem_of_getElem? (i := 447) (by decide +kernel))) (hg (.exactly (.string "CaptionLines" 144) "java/lang/String") (by decide +kernel)), (List.forall_mem_cons.mpr ⟨lw_str (hts (.stringRef "CaptionLines" 162 "the pad is not 2 to 5 letters") (List.mem_of_getElem? (i := 480) (by decide +kernel))) (hg (.exactly (.string "CaptionLines" 162) "java/lang/String") (by decide +kernel)), (List.forall_mem_cons.mpr ⟨lw_str (hts (.stringRef "CaptionLines" 164 "no cell for a contraction") (List.mem_of_getElem? (i := 481) (by decide +kernel))) (hg (.exactly (.string "CaptionLines" 164) "java/lang/String") (by decide +kernel)), (List.forall_mem_cons.mpr ⟨lw_str (hts (.stringRef "CaptionLines" 181 "no such cell") (List.mem_of_getElem? (i := 528) (by decide +kernel))) (hg (.exactly (.string "CaptionLines" 181) "java/lang/String") (by decide +kernel)), (List.forall_mem_cons.mpr ⟨lw_str (hts (.stringRef "CaptionLines" 183 "there are no cells") (List.mem_of_getElem? (i := 536) (by decide +kernel))) (hg (.exactly (.string "CaptionLines" 183) "java/lang/String") (by decide +kernel)), (List.forall_mem_cons.mpr ⟨lw_str (hts (.stringRef "CaptionLines" 191 "there are 16 zones") (List.mem_of_getElem? (i := 556) (by decide +kernel))) (hg (.exactly (.string "CaptionLines" 191) "java/lang/String") (by decide +kernel)), (List.forall_mem_cons.mpr ⟨lw_str (hts (.stringRef "CaptionLines" 234 "no such point") (List.mem_of_getElem? (i := 560) (by decide +kernel))) (hg (.exactly (.string "CaptionLines" 234) "java/lang/String") (by decide +kernel)), (List.forall_mem_cons.mpr ⟨lw_str (hts (.stringRef "CaptionLines" 196 "no such radius") (List.mem_of_getElem? (i := 561) (by decide +kernel))) (hg (.exactly (.string "CaptionLines" 196) "java/lang/String") (by decide +kernel)), (List.forall_mem_cons.mpr ⟨lw_str (hts (.stringRef "CaptionLines" 232 "no such room") (List.mem_of_getElem? (i := 595) (by decide +kernel))) (hg (.exactly (.string "CaptionLines" 232) "java/lang/String") (by decide +kernel)), (List.forall_mem_cons.mpr ⟨lw_str (hts (.stringRef "CaptionLines" 210 "the rooms are the same") (List.mem_of_getElem? (i := 596) (by decide +kernel))) (hg (.exactly (.string "CaptionLines" 210) "java/lang/String") (by decide +kernel)), (List.forall_mem_cons.mpr ⟨lw_str (hts (.stringRef "CaptionLines" 226 "nothing to count") (List.mem_of_getElem? (i := 643) (by decide +kernel))) (hg (.exactly (.string "CaptionLines" 226) "java/lang/String") (by decide +kernel)), (fun _ h => absurd h List.not_mem_nil)⟩)⟩)⟩)⟩)⟩)⟩)⟩)⟩)⟩)⟩)⟩)⟩)⟩)⟩)⟩)⟩)⟩)⟩)⟩)⟩)
  · intro C hC
    have h := List.mem_singleton.mp hC
    injection h with h
    injection h with h
    rw [h]
    exact va_AO.of (hts (.arrayOver (.object "CaptionLines$Row")) (List.mem_of_getElem? (i := 66) (by decide +kernel)))
  · exact (List.forall_mem_cons.mpr ⟨va_Nc.of (hg (.not (.castable "java/lang/IllegalArgumentException" "java/lang/IllegalStateException")) (by decide +kernel)), (List.forall_mem_cons.mpr ⟨va_Nc.of (hg (.not (.castable "java/lang/IllegalArgumentException" "java/lang/IndexOutOfBoundsException")) (by decide +kernel)), (List.forall_mem_cons.mpr ⟨va_Nc.of (hg (.not (.castable "java/lang/IllegalStateException" "java/lang/IllegalArgumentException")) (by decide +kernel)), (List.forall_mem_cons.mpr ⟨va_Nc.of (hg (.not (.castable "java/lang/IllegalStateException" "java/lang/IndexOutOfBoundsException")) (by decide +kernel)), (List.forall_mem_cons.mpr ⟨va_Nc.of (hg (.not (.castable "java/lang/IndexOutOfBoundsException" "java/lang/IllegalArgumentException")) (by decide +kernel)), (List.forall_mem_cons.mpr ⟨va_Nc.of (hg (.not (.castable "java/lang/IndexOutOfBoundsException" "java/lang/IllegalStateException")) (by decide +kernel)), (fun _ h => absurd h List.not_mem_nil)⟩)⟩)⟩)⟩)⟩)⟩)
  · exact (List.forall_mem_cons.mpr ⟨va_Nw.of rfl (hts (.declares ⟨"java/lang/RuntimeException", "<init>", "()V"⟩) (List.mem_of_getElem? (i := 206) (by decide +kernel))), (List.forall_mem_cons.mpr ⟨va_Nw.of rfl (hts (.declares ⟨"java/lang/RuntimeException", "<init>", "(Ljava/lang/String;)V"⟩) (List.mem_of_getElem? (i := 207) (by decide +kernel))), (List.forall_mem_cons.mpr ⟨va_Nw.of rfl (hts (.declares ⟨"java/lang/Exception", "<init>", "()V"⟩) (List.mem_of_getElem? (i := 208) (by decide +kernel))), (List.forall_mem_cons.mpr ⟨va_Nw.of rfl (hts (.declares ⟨"java/lang/Exception", "<init>", "(Ljava/lang/String;)V"⟩) (List.mem_of_getElem? (i := 209) (by decide +kernel))), (List.forall_mem_cons.mpr ⟨va_Nw.of rfl (hts (.declares ⟨"java/lang/Throwable", "<init>", "()V"⟩) (List.mem_of_getElem? (i := 210) (by decide +kernel))), (List.forall_mem_cons.mpr ⟨va_Nw.of rfl (hts (.declares ⟨"java/lang/Throwable", "<init>", "(Ljava/lang/String;)V"⟩) (List.mem_of_getElem? (i := 211) (by decide +kernel))), (fun _ h => absurd h List.not_mem_nil)⟩)⟩)⟩)⟩)⟩)⟩)
  · exact (List.forall_mem_cons.mpr ⟨va_Nw.of rfl (hts (.castable "java/lang/IllegalStateException" "java/lang/IllegalStateException") (List.mem_of_getElem? (i := 205) (by decide +kernel))), (List.forall_mem_cons.mpr ⟨va_Nw.of rfl (hts (.castable "java/lang/IllegalArgumentException" "java/lang/IllegalArgumentException") (List.mem_of_getElem? (i := 276) (by decide +kernel))), (List.forall_mem_cons.mpr ⟨va_Nw.of rfl (hts (.castable "java/lang/IndexOutOfBoundsException" "java/lang/IndexOutOfBoundsException") (List.mem_of_getElem? (i := 307) (by decide +kernel))), (fun _ h => absurd h List.not_mem_nil)⟩)⟩)⟩)
  · exact (List.forall_mem_cons.mpr ⟨va_Nw.of rfl (hts (.methodLinkNest "CaptionLines$Contractions" 40 ⟨"CaptionLines", "ownCell", "(I)I"⟩ "CaptionLines") (List.mem_of_getElem? (i := 517) (by decide +kernel))), (List.forall_mem_cons.mpr ⟨va_Nw.of rfl (hts (.methodLinkNest "CaptionLines$Contractions" 47 ⟨"CaptionLines", "ownSign", "(I)I"⟩ "CaptionLines") (List.mem_of_getElem? (i := 541) (by decide +kernel))), (fun _ h => absurd h List.not_mem_nil)⟩)⟩)
set_option maxRecDepth 100000 in
set_option maxHeartbeats 4000000 in
/-- THE LAW, from its entry -/
theorem whole_start {p : Program} {e : Env} {s : State} {m : MethodId} {below : List Frame} {meth : Method} {c : Code} (l : Launch) {b L : Nat} {xs : Nat → Int32} (hL : L ≤ 2560) (C0 : lw_At2 p l s m meth c b L xs) : W p l e room_1 s m #[Value.ref b] below meth c s.heap [] 0 0 (lw_Z below #[Value.ref b] s) (entryFrame m ([Value.ref b] : List Value).toArray 7) := by
  obtain ⟨⟨hx, hb, hr, hml, hown, hts, hX, hbl, hlocks, hgv⟩, htab, hnm, htr⟩ := C0
  obtain ⟨D, tys, hK, hty⟩ := lw_K hts
  have hT : am_T (D, tys, s.heap.size) s s.heap := lw_T rfl hts hgv
  have C : am_X (D, tys, s.heap.size) iL_law p l s m #[Value.ref b] meth c := ⟨hx, hb, hml, hr, htab, hlocks, hown, fun w hw => hts w (am_bt hw), hK, hT, htr, hnm, Nat.le_refl _, hty⟩
  have hsc : law_sc (D, tys, s.heap.size) s ((fun _ => unc, 1) : am_S) (fun _ => b) b L xs := ⟨hX, hbl, Nat.not_le.mpr hbl, rfl, Nat.zero_lt_one, hL⟩
  have hend : ∀ (S' : am_S) (i9 cells slots : Nat), cells ≤ room_1.cells → slots ≤ room_1.slots → am_W (D, tys, s.heap.size) iL_law p l e room_1 s m #[Value.ref b] below meth c ((fun _ => unc, 1) : am_S) (fun _ => b) (lw_Z below #[Value.ref b] s) 1324 [some (.ref 0), some (.ref 1), some (.ref 25), some (.ref 45), some (.int (nI i9)), none, none] [] S' cells slots := by
    intro S' i9 cells slots hc hs
    refine am_iconst (I := iL_law) (pc := 1324) (x := 1) dL_law_1324 (by decide) ?_
    intro C9 ad ls H locs h0 h1 hR hS hL9 hst
    refine va_forget (fun q hq => hS.2.2 q hq) ?_
    refine W.widen (k := 601024) (n := 7293034) hc hs ?_
    exact lw_ret hx hb hr hlocks dL_law_1325
  have hR : am_R (D, tys, s.heap.size) (fun _ => b) ((fun _ => unc, 1) : am_S) s.heap := by
    refine ⟨?_, ?_, fun a _ => rfl, Nat.zero_lt_one, fun a v hv => by cases hv⟩
    · intro k q h
      exact absurd h (by simp [am_l])
    · exact ⟨fun i j p q h => absurd h (by simp [am_l]), fun k q h => absurd h (by simp [am_l])⟩
  have hW : am_W (D, tys, s.heap.size) iL_law p l e room_1 s m #[Value.ref b] below meth c ((fun _ => unc, 1) : am_S) (fun _ => b) (lw_Z below #[Value.ref b] s) 0 [some (.ref 0), none, none, none, none, none, none] [] ((fun _ => unc, 1) : am_S) 0 0 := by
    refine law_0 (fun _ => unc) (fun T k1 k2 k3 k4 k5 k6 k7 k8 k9 k10 k11 k12 k13 k14 k15 k16 k17 k18 k19 k20 k21 k22 k23 k24 k25 k26 k27 k28 k29 k30 k31 k32 k33 k34 k35 k36 k37 k38 k39 k40 k41 k42 k43 k44 k45 => ?_)
    exact am_same rfl rfl rfl rfl rfl rfl (law_loop hsc hend 514 0 (T, 46) 0 (fun _ => 0) (by decide) (by decide) (inv0 k1 k2 k3 k4 k5 k6 k7 k8 k9 k10 k11 k12 k13 k14 k15 k16 k17 k18 k19 k20 k21 k22 k23 k24 k25 k26 k27 k28 k29 k30 k31 k32 k33 k34 k35 k36 k37 k38 k39 k40 k41 k42 k43 k44 k45))
  show W p l e room_1 s m #[Value.ref b] below meth c s.heap [] 0 0 (lw_Z below #[Value.ref b] s) (entryFrame m (([.ref 0] : List Value).map (am_v (fun _ => b))).toArray 7)
  rw [lg_entry_eq]
  exact hW C (fun _ => b) _ s.heap [] (fun _ _ => rfl) (Nat.le_refl _) hR va_S.rf (am_entry (vs := [.ref 0]) (nL := 7) (fun w hw => by rcases List.mem_singleton.mp hw with rfl; rfl) (fun w hw => by rcases List.mem_singleton.mp hw with rfl; exact am_okR Nat.zero_lt_one) (by decide)) (fun v h9 => by cases h9)
set_option maxHeartbeats 4000000 in
theorem lw_walk (l : Launch) (htr9 : l.stackTraces = false) (b : Addr) (xs : List Int32) : MetFree l x (headSpec (Jvm.Cond.code x code maxLocals ret :: tables_1) room_1) (lw_P b xs) (fun _ _ _ _ _ => True) lw_Q := by
  refine MetFree.of_bodyS (code := code) (maxLocals := maxLocals) (ret := ret) (by decide) ?_ ?_
  · intro args s m h hn
    obtain ⟨meth, c, h1, h2, h3, h4, h5, h6, -, -⟩ := Cond.code_spec hn (atoms_spec (ws := Jvm.Cond.code x code maxLocals ret :: tables_1) h _ List.mem_cons_self)
    exact ⟨meth, c, h1, h2, h3, h4, h5, h6⟩
  · intro p e s m args below meth c s₁ B hml0 hP _
    obtain ⟨rfl, hx, hbd, hgv⟩ := hP
    obtain ⟨scr, harrAt, hlist, hof, hsmall⟩ := hx
    obtain ⟨hcb, hkn, -, -⟩ := State.arrayAt?_spec harrAt
    have hown : s.vm.findClass R_law = some m.cls := findClass_of_methodNamed B.named
    have hts0 : ∀ c ∈ (Jvm.Cond.code x code maxLocals ret :: tables_1), c.before #[Value.ref b] s = true := atoms_spec (ws := Jvm.Cond.code x code maxLocals ret :: tables_1) B.pre
    have hts : ∀ w ∈ lw_tbl, w.before #[Value.ref b] s = true := k2_hts_sels lw_privs (fun w hw => hts0 w (List.mem_cons_of_mem _ hw)) lw_privs_ok
    have hml : c.maxLocals = 7 := B.maxLocals_eq (hts0 _ List.mem_cons_self)
    have X₀ : Stand p l e room_1 s m #[Value.ref b] below meth c s₁ [] 0 0 := Stand.of_body B
    have hh0 : s₁.heap = s.heap := by rw [B.state]; rfl
    have hsz : scr.slots.size = xs.length := by rw [← Array.length_toList, hlist, List.length_map]
    have hval : ∀ j : Nat, j < xs.length → scr.slots[j]? = some (.int (xs.getD j 0)) := fun j hj => by
      rw [← Array.getElem?_toList, hlist]
      simp [hj]
    have hbl : b < s.heap.size := (Array.getElem?_eq_some_iff.mp hcb).1
    have hX : va_X b xs.length (fun j => xs.getD j 0) s s.heap := ⟨scr, hcb, hof, hkn, hsz, hval⟩
    have htab9 : c.exceptionTable.toList = tableOf [] := by
      obtain ⟨meth9, c9, h1, h2, -, -, -, -, h7, -⟩ := Cond.code_spec B.named (hts0 _ List.mem_cons_self)
      cases Option.some.inj (h1.symm.trans B.method)
      cases Option.some.inj (h2.symm.trans (Stand.of_body B).code)
      rw [Array.isEmpty_iff.mp h7]; rfl
    have K : W p l e room_1 s m #[Value.ref b] below meth c s₁.heap [] 0 0 (lw_Z below #[Value.ref b] s) (entryFrame m ([Value.ref b] : List Value).toArray 7) := by
      rw [hh0]
      exact whole_start l hbd ⟨⟨B.exec, B.bytes, B.returns, hml, hown, hts, hX, hbl, B.notSynchronized, hgv⟩, htab9, (name_of_methodNamed B.named B.method).1, htr9⟩
    obtain ⟨t, a1, o, b1, b2, b3⟩ := K s₁ rfl X₀
    exact ⟨t, o, a1, b1, b2, b3⟩
theorem lw_pre_spec {args : Array Value} {s : State} (h : (Jvm.Cond.and given_1 narrow_1).before args s = true) (hr : rest_1_c.before args s = true) : ∃ (b : Addr) (xs : List Int32), lw_P b xs args s := by
  have hs := flat_of_before _ h
  have hq := flat_of_before _ hr
  have hc : (Cond.count 1).before args s = true := hs _ (by decide +kernel)
  have harr : (Cond.arrayOf (.arg 0) .int).before args s = true := hs _ (by decide +kernel)
  have hle : (Cond.le (.length (.arg 0)) (.int 2560)).before args s = true := hs _ (by decide +kernel)
  have hlen : (Cond.isInt (.length (.arg 0))).before args s = true := hq _ (by decide +kernel)
  have hall : (Cond.all (.arg 0) (.isInt (.elem (.arg 0) (.index 0)))).before args s = true := hq _ (by decide +kernel)
  obtain ⟨b, xs, hb, hx⟩ := State.ints_of_pre rfl harr hlen hall
  have hsm : xs.length < 2 ^ 31 := hx.choose_spec.2.2.2
  have hev : (Term.length (.arg 0)).eval args s none [] s = some (.int xs.length.toInt32) := hx.length_eval hb
  have hv := Cond.le_ints hev (show (Term.int 2560).eval args s none [] s = some (.int 2560) from rfl)
  have hd : xs.length.toInt32 ≤ 2560 := by
    simpa [Cond.before, Cond.holds, hv] using hle
  have hN : xs.length ≤ 2560 := (Int32.ofNat_le_ofNat hsm (by decide)).mp (show Int32.ofNat xs.length ≤ Int32.ofNat 2560 from hd)
  exact ⟨b, xs, Cond.one_arg hc (show args[0]? = some (.ref b) from hb), hx, hN, h⟩
theorem lw_comes (l : Launch) (htr9 : l.stackTraces = false) : Comes l x (Jvm.Cond.code x code maxLocals ret :: tables_1) room_1 (fun tb e args s => Calls_1 tb e args s ∧ rest_1 tb e args s ∧ Pre_1 tb e args s)
    (fun _ _ args s o t => lw_Q args s o t) := by
  intro p e ha hc hk s m args below hf hfit hheap happ hpre
  obtain ⟨b, xs, hP⟩ := lw_pre_spec hpre.2.2 hpre.2.1
  obtain ⟨k, o, h1, h2, h3, hQ⟩ := lw_walk l htr9 b xs p e ha hc hk s m args below hf ((Spec.applies_iff_loose hf).mp happ).1 hP trivial
  exact ⟨k, o, h1, h2, h3, hQ⟩
theorem lw_frame {s t : State} {o : Outcome} {args : Array Value} (h : Framed s o t [] 601024 7293034) :
    Framed s o t (fieldLocs frame_1_writes args s ++ arrayLocs frame_1_arrays args s ++ staticLocs frame_1_statics s) 601024 7293034 := h
theorem lw_limb (L : Cond) (hL : ∀ (args : Array Value) (s t : State), L.after args s (.returned (some (.int 1))) t = true) :
    ArmFor flags0 classFile x code maxLocals ret World_1 tables_1 room_1 Calls_1 rest_1 Pre_1
      (fun tb e a s o t => postC L tb e a s o t ∧ Framed s o t (fieldLocs frame_1_writes a s ++ arrayLocs frame_1_arrays a s ++ staticLocs frame_1_statics s) 601024 7293034) := by
  intro l hfl9 _ _ p e ha hc hk s m args below hf hfit hheap happ hpre
  have htr9 : l.stackTraces = false := by
    unfold Launch.stackTraces
    rw [hfl9]
    decide +kernel
  obtain ⟨k, o, h1, h2, h3, rfl, hF⟩ := lw_comes l htr9 p e ha hc hk s m args below hf hfit hheap happ hpre
  exact ⟨k, _, h1, h2, h3, hL args s _, lw_frame hF⟩
theorem i_vc : Claimed_1_1 ∧ Claimed_1_2 := ⟨lw_limb limb_1_1 (fun args s t => by simp [limb_1_1, Cond.after, Cond.holds, Cond.value]), lw_limb limb_1_2 (fun args s t => Cond.after_iff.mpr (by
  first | (rw [show limb_1_2 = Cond.eq .result (.int 1) from rfl, Cond.eq_ints (x := 1) (y := 1) rfl rfl]; simp; done) | (simp [limb_1_2, Cond.value, Term.eval]; done)))⟩
