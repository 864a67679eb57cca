section
-- ===== PART A: goes FIRST, ahead of the names: the tables' words, and 'selects' of the private methods out of them =====
/-- a private method of a class that the tables say can be made, by its rows of tables_1 -/
def lw_okq (q : MethodName × Nat) : Prop := (q.1.cls ≠ "java/lang/invoke/MethodHandle" ∧ q.1.cls ≠ "java/lang/invoke/VarHandle") ∧ Cond.instantiable q.1.cls q.2 ∈ tables_1 ∧ Cond.privateMethod q.1 ∈ tables_1 ∧ Cond.instanceMethod q.1 ∈ tables_1
theorem lw_p0 : lw_okq (⟨"java/lang/Throwable", "fillInStackTrace", "(I)Ljava/lang/Throwable;"⟩, 6) := ⟨⟨by decide +kernel, by decide +kernel⟩, List.mem_of_getElem? (i := 224) (by decide +kernel), List.mem_of_getElem? (i := 222) (by decide +kernel), List.mem_of_getElem? (i := 223) (by decide +kernel)⟩
theorem lw_p1 : lw_okq (⟨"CaptionLines$Setting", "findWords", "(LCaptionLines$Row;)V"⟩, 9) := ⟨⟨by decide +kernel, by decide +kernel⟩, List.mem_of_getElem? (i := 63) (by decide +kernel), List.mem_of_getElem? (i := 394) (by decide +kernel), List.mem_of_getElem? (i := 395) (by decide +kernel)⟩
theorem lw_p2 : lw_okq (⟨"CaptionLines$Setting", "addWord", "(II)V"⟩, 9) := ⟨⟨by decide +kernel, by decide +kernel⟩, List.mem_of_getElem? (i := 63) (by decide +kernel), List.mem_of_getElem? (i := 400) (by decide +kernel), List.mem_of_getElem? (i := 401) (by decide +kernel)⟩
theorem lw_p3 : lw_okq (⟨"CaptionLines$Setting", "longestWord", "()I"⟩, 9) := ⟨⟨by decide +kernel, by decide +kernel⟩, List.mem_of_getElem? (i := 63) (by decide +kernel), List.mem_of_getElem? (i := 404) (by decide +kernel), List.mem_of_getElem? (i := 405) (by decide +kernel)⟩
theorem lw_p4 : lw_okq (⟨"CaptionLines$Setting", "findLeast", "(I)V"⟩, 9) := ⟨⟨by decide +kernel, by decide +kernel⟩, List.mem_of_getElem? (i := 63) (by decide +kernel), List.mem_of_getElem? (i := 409) (by decide +kernel), List.mem_of_getElem? (i := 410) (by decide +kernel)⟩
theorem lw_p5 : lw_okq (⟨"CaptionLines$Setting", "takeLines", "()V"⟩, 9) := ⟨⟨by decide +kernel, by decide +kernel⟩, List.mem_of_getElem? (i := 63) (by decide +kernel), List.mem_of_getElem? (i := 414) (by decide +kernel), List.mem_of_getElem? (i := 415) (by decide +kernel)⟩
theorem lw_p6 : lw_okq (⟨"CaptionLines$Contractions", "longestAt", "(LCaptionLines$Row;I)I"⟩, 2) := ⟨⟨by decide +kernel, by decide +kernel⟩, List.mem_of_getElem? (i := 97) (by decide +kernel), List.mem_of_getElem? (i := 473) (by decide +kernel), List.mem_of_getElem? (i := 474) (by decide +kernel)⟩
theorem lw_p7 : lw_okq (⟨"CaptionLines$Zones", "squareOfDistance", "(III)I"⟩, 4) := ⟨⟨by decide +kernel, by decide +kernel⟩, List.mem_of_getElem? (i := 111) (by decide +kernel), List.mem_of_getElem? (i := 549) (by decide +kernel), List.mem_of_getElem? (i := 550) (by decide +kernel)⟩
theorem lw_p8 : lw_okq (⟨"CaptionLines$Rooms", "besideAny", "(I)I"⟩, 2) := ⟨⟨by decide +kernel, by decide +kernel⟩, List.mem_of_getElem? (i := 130) (by decide +kernel), List.mem_of_getElem? (i := 603) (by decide +kernel), List.mem_of_getElem? (i := 604) (by decide +kernel)⟩
theorem lw_p9 : lw_okq (⟨"CaptionLinesModel", "goes", "(ZZ)Z"⟩, 29) := ⟨⟨by decide +kernel, by decide +kernel⟩, List.mem_of_getElem? (i := 627) (by decide +kernel), List.mem_of_getElem? (i := 733) (by decide +kernel), List.mem_of_getElem? (i := 734) (by decide +kernel)⟩
theorem lw_p10 : lw_okq (⟨"CaptionLinesModel", "fault", "()I"⟩, 29) := ⟨⟨by decide +kernel, by decide +kernel⟩, List.mem_of_getElem? (i := 627) (by decide +kernel), List.mem_of_getElem? (i := 751) (by decide +kernel), List.mem_of_getElem? (i := 752) (by decide +kernel)⟩
theorem lw_p11 : lw_okq (⟨"CaptionLinesModel", "shownIn", "(II)I"⟩, 29) := ⟨⟨by decide +kernel, by decide +kernel⟩, List.mem_of_getElem? (i := 627) (by decide +kernel), List.mem_of_getElem? (i := 763) (by decide +kernel), List.mem_of_getElem? (i := 764) (by decide +kernel)⟩
theorem lw_p12 : lw_okq (⟨"CaptionLinesModel", "latest", "(II)I"⟩, 29) := ⟨⟨by decide +kernel, by decide +kernel⟩, List.mem_of_getElem? (i := 627) (by decide +kernel), List.mem_of_getElem? (i := 775) (by decide +kernel), List.mem_of_getElem? (i := 776) (by decide +kernel)⟩
theorem lw_p13 : lw_okq (⟨"CaptionLinesModel", "part", "(I)V"⟩, 29) := ⟨⟨by decide +kernel, by decide +kernel⟩, List.mem_of_getElem? (i := 627) (by decide +kernel), List.mem_of_getElem? (i := 779) (by decide +kernel), List.mem_of_getElem? (i := 780) (by decide +kernel)⟩
theorem lw_p14 : lw_okq (⟨"CaptionLinesModel", "solve", "(II)V"⟩, 29) := ⟨⟨by decide +kernel, by decide +kernel⟩, List.mem_of_getElem? (i := 627) (by decide +kernel), List.mem_of_getElem? (i := 783) (by decide +kernel), List.mem_of_getElem? (i := 784) (by decide +kernel)⟩
theorem lw_p15 : lw_okq (⟨"CaptionLinesModel", "isPad", "(I)Z"⟩, 29) := ⟨⟨by decide +kernel, by decide +kernel⟩, List.mem_of_getElem? (i := 627) (by decide +kernel), List.mem_of_getElem? (i := 799) (by decide +kernel), List.mem_of_getElem? (i := 800) (by decide +kernel)⟩
def lw_privs_1 : List (MethodName × Nat) := [(⟨"java/lang/Throwable", "fillInStackTrace", "(I)Ljava/lang/Throwable;"⟩, 6), (⟨"CaptionLines$Setting", "findWords", "(LCaptionLines$Row;)V"⟩, 9), (⟨"CaptionLines$Setting", "addWord", "(II)V"⟩, 9), (⟨"CaptionLines$Setting", "longestWord", "()I"⟩, 9), (⟨"CaptionLines$Setting", "findLeast", "(I)V"⟩, 9), (⟨"CaptionLines$Setting", "takeLines", "()V"⟩, 9), (⟨"CaptionLines$Contractions", "longestAt", "(LCaptionLines$Row;I)I"⟩, 2), (⟨"CaptionLines$Zones", "squareOfDistance", "(III)I"⟩, 4), (⟨"CaptionLines$Rooms", "besideAny", "(I)I"⟩, 2), (⟨"CaptionLinesModel", "goes", "(ZZ)Z"⟩, 29), (⟨"CaptionLinesModel", "fault", "()I"⟩, 29), (⟨"CaptionLinesModel", "shownIn", "(II)I"⟩, 29), (⟨"CaptionLinesModel", "latest", "(II)I"⟩, 29), (⟨"CaptionLinesModel", "part", "(I)V"⟩, 29), (⟨"CaptionLinesModel", "solve", "(II)V"⟩, 29), (⟨"CaptionLinesModel", "isPad", "(I)Z"⟩, 29)]
theorem lw_r1 : ∀ q ∈ lw_privs_1, lw_okq q := List.forall_mem_cons.mpr ⟨lw_p0, List.forall_mem_cons.mpr ⟨lw_p1, List.forall_mem_cons.mpr ⟨lw_p2, List.forall_mem_cons.mpr ⟨lw_p3, List.forall_mem_cons.mpr ⟨lw_p4, List.forall_mem_cons.mpr ⟨lw_p5, List.forall_mem_cons.mpr ⟨lw_p6, List.forall_mem_cons.mpr ⟨lw_p7, List.forall_mem_cons.mpr ⟨lw_p8, List.forall_mem_cons.mpr ⟨lw_p9, List.forall_mem_cons.mpr ⟨lw_p10, List.forall_mem_cons.mpr ⟨lw_p11, List.forall_mem_cons.mpr ⟨lw_p12, List.forall_mem_cons.mpr ⟨lw_p13, List.forall_mem_cons.mpr ⟨lw_p14, List.forall_mem_cons.mpr ⟨lw_p15, fun _ h => absurd h List.not_mem_nil⟩⟩⟩⟩⟩⟩⟩⟩⟩⟩⟩⟩⟩⟩⟩⟩
theorem lw_p16 : lw_okq (⟨"CaptionLinesModel", "stands", "(III)Z"⟩, 29) := ⟨⟨by decide +kernel, by decide +kernel⟩, List.mem_of_getElem? (i := 627) (by decide +kernel), List.mem_of_getElem? (i := 807) (by decide +kernel), List.mem_of_getElem? (i := 808) (by decide +kernel)⟩
theorem lw_p17 : lw_okq (⟨"CaptionLinesModel", "measure", "(I)V"⟩, 29) := ⟨⟨by decide +kernel, by decide +kernel⟩, List.mem_of_getElem? (i := 627) (by decide +kernel), List.mem_of_getElem? (i := 841) (by decide +kernel), List.mem_of_getElem? (i := 842) (by decide +kernel)⟩
def lw_privs_2 : List (MethodName × Nat) := [(⟨"CaptionLinesModel", "stands", "(III)Z"⟩, 29), (⟨"CaptionLinesModel", "measure", "(I)V"⟩, 29)]
theorem lw_r2 : ∀ q ∈ lw_privs_2, lw_okq q := List.forall_mem_cons.mpr ⟨lw_p16, List.forall_mem_cons.mpr ⟨lw_p17, fun _ h => absurd h List.not_mem_nil⟩⟩
def lw_privs : List (MethodName × Nat) := lw_privs_1 ++ (lw_privs_2)
def lw_tbl : List Cond := k2_sels lw_privs ++ tables_1
theorem lw_privs_ok : ∀ q ∈ lw_privs, lw_okq q := by
  show ∀ q ∈ lw_privs_1 ++ (lw_privs_2), lw_okq q
  exact List.forall_mem_append.mpr ⟨lw_r1, lw_r2⟩
end
section
/-! ===== BEGIN words of one list among another's, by their places ===== -/
theorem goodIn_r {big : List Cond} (ws : List Cond) (ps : List Nat) (hp : ws = ps.filterMap (fun i => big[i]?)) (h : ws.all goodWord = true) : GoodIn big ws := by
  intro w hw
  have h1 := List.all_eq_true.mp h w hw
  rw [hp] at hw
  obtain ⟨i, -, hi⟩ := List.mem_filterMap.mp hw
  have hm : w ∈ big := by first | exact List.mem_of_getElem? hi | exact List.getElem?_mem hi
  exact ⟨hm, good_of_word h1⟩
theorem goodIn_app {big a b : List Cond} (ha : GoodIn big a) (hb : GoodIn big b) : GoodIn big (a ++ b) := fun w h => (List.mem_append.mp h).elim (ha w) (hb w)
theorem goodIn_ca {big a b : List Cond} {c : Cond} (ha : GoodIn big (c :: a)) (hb : GoodIn big b) : GoodIn big (c :: (a ++ b)) := fun w h => (List.mem_cons.mp h).elim (fun e => ha w (List.mem_cons.mpr (Or.inl e))) (fun h => (List.mem_append.mp h).elim (fun h => ha w (List.mem_cons.mpr (Or.inr h))) (hb w))
theorem goodIn_sub {big ws : List Cond} (hm : ∀ w ∈ ws, w ∈ big) (h : ws.all goodWord = true) : GoodIn big ws := fun w hw => ⟨hm w hw, good_of_word (List.all_eq_true.mp h w hw)⟩
/-! ===== END ===== -/

/-! ===== BEGIN exceptions that leave a method, and their catching by the caller (launches without stack traces) ===== -/
section VXA
/-! The laws vx_back, vx_callV, vx_callS, vx_callSW, vx_throw0, vx_throwS follow proofs of the library, with one case more: JvmDerived/Free/Laws.lean (Back.of_free), Shelf42/LK1.lean (callV, callS), Shelf/KitTraced.lean (throwNew0V, throwNewS). -/
/-- where a method has thrown q: the class by its name, the cell, what was written, the world -/
def vx_T (XC : String → State → State → Prop) (st : State) (q : Addr) (t : State) (mc ms : Nat) (free : Addr → Prop) : Prop :=
  ∃ (E : String) (ce : Cell) (L : List Loc), XC E st t ∧ t.heap[q]? = some ce ∧ ce.vm = .none ∧ st.vm.findClass E = some ce.cls ∧ st.WarmedH t.vm ∧ st.sameButNew ({ t with vm := st.vm } : State) L mc ms ∧ ∀ z ∈ L, free z.base
def vx_Q (Qc : Array Value → State → Outcome → State → Prop) (XC : String → State → State → Prop) (mc ms : Nat) (free : Addr → Prop) : Array Value → State → Outcome → State → Prop := fun a st o t =>
  (Qc a st o t ∧ ∃ L, FrameEnd st o t L mc ms ∧ ∀ q ∈ L, free q.base) ∨ ∃ q, o = .threw q ∧ vx_T XC st q t mc ms free
/-- a callee that returns or throws -/
def vx_Met (l : Launch) (y : MethodName) (ws : List Cond) (rm : Room) (Pc : Array Value → State → Prop) (Qc : Array Value → State → Outcome → State → Prop) (XC : String → State → State → Prop) (mc ms : Nat) (free : Addr → Prop) : Prop :=
  MetFree l y (headSpec ws rm) Pc (fun _ _ _ _ _ => True) (vx_Q Qc XC mc ms free)
def vx_Post (XC : String → State → State → Prop) (mc ms : Nat) (free : Addr → Prop) : Pt → Array Value → Addr → Pt → Prop := fun A a q B =>
  ∃ (g : JFrame) (mk : MethodId) (t : State) (L : List Loc) (E : String) (ce : Cell), B.U.heap = t.heap ∧ B.U.vm = t.vm ∧ XC E (A.U.calling g mk a) t ∧ t.heap[q]? = some ce ∧ ce.vm = .none ∧ A.U.vm.findClass E = some ce.cls ∧ B.locs = A.locs ++ L ∧ (∀ z ∈ L, free z.base) ∧ B.cells = A.cells + mc ∧ B.slots = A.slots + ms
def vx_Back (l : Launch) (R : Room) (p : Program) (e : Env) (below : List Frame) (s : State) (sargs : Array Value) (y : MethodName) (len W9 : Nat)
    (Pre : Pt → Array Value → Prop) (Post : Pt → Array Value → Option Value → Pt → Prop) (PostX : Pt → Array Value → Addr → Pt → Prop) : Prop :=
  ∀ (m : MethodId) (meth : Method) (c : Code) (A : Pt) (g : JFrame) (ig : Instr) (mk : MethodId) (a : Array Value),
    Stand p l e R s m sargs below meth c A.U A.locs A.cells A.slots → g.method = m → g.locals.size = c.maxLocals → decode c.code g.pc = .ok (ig, len) →
    2 * g.monitorRoom + (g.stack.map fun v => v.category).sum ≤ W9 → A.U.methodNamed? y = some mk → Pre A a →
    (∃ (v : Option Value) (B : Pt), Stand p l e R s m sargs below meth c B.U B.locs B.cells B.slots ∧ Post A a v B ∧
      Steps p.tables e below (doInvoke e (A.U.setTop g) [] mk a).1 (B.U.setTop { g with pc := g.pc + len, stack := v.toList ++ g.stack })) ∨
    (∃ (q : Addr) (B : Pt), Stand p l e R s m sargs below meth c B.U B.locs B.cells B.slots ∧ PostX A a q B ∧
      Steps p.tables e below (doInvoke e (A.U.setTop g) [] mk a).1 ((B.U.setTop g).pushFrame (.throwing q)))
section Payer
variable {l : Launch} {R : Room} {p : Program} {e : Env} {below : List Frame} {s : State} {sargs : Array Value} {y : MethodName} {len W9 : Nat}
theorem vx_back {ws : List Cond} {rm : Room} {Pc : Array Value → State → Prop} {Qc : Array Value → State → Outcome → State → Prop} {XC : String → State → State → Prop} {mc ms : Nat} {free : Addr → Prop} {bytes : ByteArray} {maxL : Nat} {ret : Option FieldType}
    (hM : vx_Met l y ws rm Pc Qc XC mc ms free) (hblind : FrameBlind Pc) (hrc : rm.cells = mc) (hrs : rm.slots = ms)
    (hframes : rm.frames + 1 ≤ R.frames) (hlocals : W9 + (maxL + 11) + rm.locals ≤ R.locals)
    (hws : ∀ w ∈ ws, ∀ a' U, s.WarmedH U.vm → w.before a' U = true) (hcode : Cond.code y bytes maxL ret ∈ ws) (hinit : ∀ a' U, s.WarmedH U.vm → (Cond.initialized y.cls).before a' U = true) :
    vx_Back l R p e below s sargs y len W9 (PreOf R mc ms Pc) (PostOf Qc mc ms free) (vx_Post XC mc ms free) := by
  intro m meth c A g ig mk a X hg hsize hdg hW hn hp
  have h1 : (headSpec ws rm).pre.before a A.U = true := atoms_intro fun w hw => hws w hw _ _ X.warmed
  have h2 : (Cond.code y bytes maxL ret).before a A.U = true := hws _ hcode _ _ X.warmed
  have h3 : (Cond.initialized y.cls).before a A.U = true := hinit _ _ X.warmed
  have h4 : A.cells + (headSpec ws rm).room.cells ≤ R.cells := by rw [show (headSpec ws rm).room.cells = mc from hrc]; exact hp.1
  have h5 : A.slots + (headSpec ws rm).room.slots ≤ R.slots := by rw [show (headSpec ws rm).room.slots = ms from hrs]; exact hp.2.1
  have hPc : Pc a (A.U.calling g mk a) := hblind _ _ _ _ hp.2.2
  obtain ⟨U, Ls, c0, s0⟩ := A
  dsimp only [Pt.U, Pt.locs, Pt.cells, Pt.slots] at h1 h2 h3 h4 h5 X hn hPc ⊢
  obtain ⟨methY, cY, hmY, hcY, -, hlY, -, -, -, -⟩ := Cond.code_spec hn h2
  obtain ⟨kY, hkY, -⟩ := className_of_methodNamed hn
  have hinitY : kY.init = .initialized := Cond.initialized_spec (findClass_of_methodNamed hn) hkY h3
  have h : At U g.method c below := by rw [hg]; exact X.here
  have hlocals9 : W9 + (maxL + 11) + (headSpec ws rm).room.locals ≤ R.locals := hlocals
  have happ : (headSpec ws rm).appliesLoose y e.platform (U.calling g mk a) = true :=
    Spec.appliesLoose_calling (g := g) h hdg hn hkY hinitY
      (X.room_calling (g := g) (R' := (headSpec ws rm).room) hsize hmY hcY hframes (by rw [hlY]; omega) h4 h5) h1
  obtain ⟨mid, hmid⟩ := h.above
  have hfr : (U.setTop g).frames = (.java g :: mid) ++ below := by rw [State.frames_setTop' g h.top, hmid]; rfl
  obtain ⟨o, s₂, hsteps, -, hend, hq⟩ := Steps.callFree hM p X.admits X.cas X.clock (acts := []) hfr happ hPc trivial
  have hq' : vx_Q Qc XC mc ms free a (U.calling g mk a) o s₂ := hq
  rw [State.frames_setTop' g h.top] at hend
  obtain ⟨g₀, hg0⟩ := Option.isSome_iff_exists.mp h.top
  obtain ⟨r, hr⟩ := State.topJava?_eq_some.mp hg0
  have hr' : (({ U with heap := s₂.heap, slotsUsed := s₂.slotsUsed } : State).setVm s₂.vm).frames = .java g₀ :: r := hr
  rcases hq' with ⟨hqc, L, hfe, hL⟩ | ⟨q, rfl, E, ce, L, hx, hce, hcv, hcl, hW₂, hsm, hL⟩
  · obtain ⟨⟨v, rfl⟩, hW₂, e2, q2, q3, q4, q5, q6⟩ := id hfe
    have e3 : s₂ = ({ (U.calling g mk a).setFrames s₂.frames with heap := s₂.heap, slotsUsed := s₂.slotsUsed } : State).setVm s₂.vm := by
      have : s₂ = ({ s₂ with vm := (U.calling g mk a).vm } : State).setVm s₂.vm := rfl
      rw [e2] at this
      exact this
    obtain ⟨c₂, i₂, len₂, hc₂, hd₂, hf₂⟩ := hend
    have hW' : U.WarmedH s₂.vm := hW₂
    have hcc : c₂ = c := by
      have h1 : s₂.code? g.method = U.code? g.method := by
        rw [State.code?_eq, State.code?_eq, hW'.alike.method?]
      exact Option.some.inj (hc₂.symm.trans (h1.trans h.code))
    subst hcc
    have hlen : len₂ = len := by rw [hdg] at hd₂; cases hd₂; rfl
    subst hlen
    have hs₂ : s₂ = (({ U with heap := s₂.heap, slotsUsed := s₂.slotsUsed } : State).setVm s₂.vm).setTop { g with pc := g.pc + len₂, stack := v.toList ++ g.stack } := by
      refine e3.trans ?_
      rw [hf₂, State.calling_eq h.top, State.setFrames_setFrames, State.setTop_of_frames _ hr', hr]
      rfl
    have hsame : U.sameButNew ({ U with heap := s₂.heap, slotsUsed := s₂.slotsUsed } : State) L mc ms := by
      refine ⟨?_, q2, q3, q4, q5, q6⟩
      obtain ⟨t, ht, -⟩ := State.frames_cons hr
      show ({ U with heap := s₂.heap, slotsUsed := s₂.slotsUsed } : State) = { U.setFrames U.frames with heap := s₂.heap, slotsUsed := s₂.slotsUsed }
      rw [State.setFrames_self ht]
    subst hg
    refine Or.inl ⟨v, ⟨(({ U with heap := s₂.heap, slotsUsed := s₂.slotsUsed } : State).setVm s₂.vm), Ls ++ L, c0 + mc, s0 + ms⟩,
      ⟨X.admits, X.cas, X.clock, X.frames, X.room, X.hears, X.method, X.code, (X.here.setHeapUsed s₂.heap s₂.slotsUsed).setVm hW'.alike, X.tail, State.WarmedH.trans X.warmed hW', X.limits, X.bytes, X.same.trans (hsame.setVm s.vm)⟩,
      ⟨g, mk, s₂, L, rfl, rfl, hqc, rfl, hL, rfl, rfl⟩, ?_⟩
    show Steps p.tables e below _ ((({ U with heap := s₂.heap, slotsUsed := s₂.slotsUsed } : State).setVm s₂.vm).setTop { g with pc := g.pc + len₂, stack := v.toList ++ g.stack })
    rw [← hs₂]
    exact hsteps
  · obtain ⟨e2, q2, q3, q4, q5, q6⟩ := id hsm
    have e3 : s₂ = ({ (U.calling g mk a).setFrames s₂.frames with heap := s₂.heap, slotsUsed := s₂.slotsUsed } : State).setVm s₂.vm := by
      have : s₂ = ({ s₂ with vm := (U.calling g mk a).vm } : State).setVm s₂.vm := rfl
      rw [e2] at this
      exact this
    have hf₂ : s₂.frames = .throwing q :: .java g :: U.frames.tail := hend
    have hW' : U.WarmedH s₂.vm := hW₂
    have hs₂ : s₂ = ((({ U with heap := s₂.heap, slotsUsed := s₂.slotsUsed } : State).setVm s₂.vm).setTop g).pushFrame (.throwing q) := by
      refine e3.trans ?_
      rw [hf₂, State.calling_eq h.top, State.setFrames_setFrames, State.pushFrame, State.frames_setTop _ hr', State.setTop_of_frames _ hr', State.setFrames_setFrames, hr]
      rfl
    have hsame : U.sameButNew ({ U with heap := s₂.heap, slotsUsed := s₂.slotsUsed } : State) L mc ms := by
      refine ⟨?_, q2, q3, q4, q5, q6⟩
      obtain ⟨t, ht, -⟩ := State.frames_cons hr
      show ({ U with heap := s₂.heap, slotsUsed := s₂.slotsUsed } : State) = { U.setFrames U.frames with heap := s₂.heap, slotsUsed := s₂.slotsUsed }
      rw [State.setFrames_self ht]
    subst hg
    refine Or.inr ⟨q, ⟨(({ U with heap := s₂.heap, slotsUsed := s₂.slotsUsed } : State).setVm s₂.vm), Ls ++ L, c0 + mc, s0 + ms⟩,
      ⟨X.admits, X.cas, X.clock, X.frames, X.room, X.hears, X.method, X.code, (X.here.setHeapUsed s₂.heap s₂.slotsUsed).setVm hW'.alike, X.tail, State.WarmedH.trans X.warmed hW', X.limits, X.bytes, X.same.trans (hsame.setVm s.vm)⟩,
      ⟨g, mk, s₂, L, E, ce, rfl, rfl, hx, hce, hcv, hcl, rfl, hL, rfl, rfl⟩, ?_⟩
    show Steps p.tables e below _ (((({ U with heap := s₂.heap, slotsUsed := s₂.slotsUsed } : State).setVm s₂.vm).setTop g).pushFrame (.throwing q))
    rw [← hs₂]
    exact hsteps
end Payer
section Calls
variable {p : Program} {l : Launch} {e : Env} {R : Room} {s : State} {m : MethodId} {args : Array Value} {below : List Frame} {meth : Method} {c : Code} {T : State} {locs : List Loc} {cells slots : Nat}
theorem vx_callV (X : Stand p l e R s m args below meth c T locs cells slots) (hexec : p.tables.exec = Jvm.exec) {own C : String} {index : Nat} {y : MethodName} {bytes : ByteArray} {maxL : Nat} {ret : Option FieldType}
    (hown : s.vm.findClass own = some m.cls) (hlink : (Cond.methodLink own index y).before args s = true) (hinst : (Cond.instanceMethod y).before args s = true) (hsel : (Cond.selects C y y).before args s = true)
    (hcode : (Cond.code y bytes maxL ret).before args s = true) (hy : y.cls ≠ "java/lang/invoke/MethodHandle" ∧ y.cls ≠ "java/lang/invoke/VarHandle")
    {W9 : Nat} {Pre : Pt → Array Value → Prop} {Post : Pt → Array Value → Option Value → Pt → Prop} {PostX : Pt → Array Value → Addr → Pt → Prop} (hK : vx_Back l R p e below s args y 3 W9 Pre Post PostX)
    {b : Addr} {cellB : Cell} (hcell : T.heap[b]? = some cellB) (hobj : cellB.vm.isStatics = false) (hcls : s.vm.findClass C = some cellB.cls)
    {g : JFrame} (hg : g.method = m) (hsize : g.locals.size = c.maxLocals) {argsL rest : List Value} (hlen : ∀ sig, parseMethodDescriptor y.desc = some sig → argsL.length = sig.parameters.length)
    (hstack : g.stack = argsL.reverse ++ .ref b :: rest) (hW : 2 * g.monitorRoom + (rest.map fun v => v.category).sum ≤ W9) (hdg : decode c.code g.pc = .ok (.invokevirtual index, 3))
    (hpre : ∀ vm₁, s.WarmedH vm₁ → Pre ⟨T.setVm vm₁, locs, cells, slots⟩ (Value.ref b :: argsL).toArray) :
    (∃ (v : Option Value) (vm₁ : Vm) (B : Pt), s.WarmedH vm₁ ∧ Stand p l e R s m args below meth c B.U B.locs B.cells B.slots ∧ Post ⟨T.setVm vm₁, locs, cells, slots⟩ (Value.ref b :: argsL).toArray v B ∧
      ∀ target, Steps p.tables e below (B.U.setTop { g with pc := g.pc + 3, stack := v.toList ++ rest }) target → Steps p.tables e below (T.setTop g) target) ∨
    (∃ (q : Addr) (vm₁ : Vm) (B : Pt), s.WarmedH vm₁ ∧ Stand p l e R s m args below meth c B.U B.locs B.cells B.slots ∧ PostX ⟨T.setVm vm₁, locs, cells, slots⟩ (Value.ref b :: argsL).toArray q B ∧
      Steps p.tables e below (T.setTop g) ((B.U.setTop { g with stack := rest }).pushFrame (.throwing q))) := by
  obtain ⟨mk, methM, hnamed, hmethM, hstM, habM⟩ := Cond.instanceMethod_spec hinst
  obtain ⟨methM', cM, hmethM', -, -, -, -, -, -, hsigM⟩ := Cond.code_spec hnamed hcode
  cases hmethM.symm.trans hmethM'
  obtain ⟨c2, r2, m2, q1, q2, q3, q4, kP, hkP, hkPi⟩ := Cond.selects_spec hsel
  cases hcls.symm.trans q1
  cases (State.methodFound?_of_named hnamed hy).symm.trans q2
  cases hnamed.symm.trans q3
  have hselP : selectMethod e.platform s.vm cellB.cls mk = .method mk := by rw [Launch.admits_selectMethod X.admits]; exact q4
  obtain ⟨vm₁, X₁, hstep₁⟩ := X.invokevirtual hexec hown hlink hnamed hmethM hstM hkP hkPi hy (a := b) (cell := cellB) hcell
    (fun z h => by rw [h] at hobj; cases hobj) hselP hmethM habM hkP hkPi (g := g) hg (argsL := argsL) (rest := rest) (hlen _ hsigM) hstack hdg
  rcases hK m meth c ⟨T.setVm vm₁, locs, cells, slots⟩ { g with stack := rest } (.invokevirtual index) mk (Value.ref b :: argsL).toArray X₁ hg hsize hdg hW (X₁.named hnamed) (hpre vm₁ X₁.warmed) with ⟨v, B, X', hpost, hsteps⟩ | ⟨q, B, X', hpost, hsteps⟩
  · exact Or.inl ⟨v, vm₁, B, X₁.warmed, X', hpost, fun target h => hstep₁ _ fun acts => by rw [doInvoke_state]; exact hsteps.trans h⟩
  · exact Or.inr ⟨q, vm₁, B, X₁.warmed, X', hpost, hstep₁ _ fun acts => by rw [doInvoke_state]; exact hsteps⟩
theorem vx_callS (X : Stand p l e R s m args below meth c T locs cells slots) (hexec : p.tables.exec = Jvm.exec) {own : String} {index : Nat} {y : MethodName} {bytes : ByteArray} {maxL : Nat} {ret : Option FieldType}
    (hown : s.vm.findClass own = some m.cls) (hlink : (Cond.methodLink own index y).before args s = true) (hstat : (Cond.static y).before args s = true) (hinit : (Cond.initialized y.cls).before args s = true)
    (hcode : (Cond.code y bytes maxL ret).before args s = true) (hy : y.cls ≠ "java/lang/invoke/MethodHandle" ∧ y.cls ≠ "java/lang/invoke/VarHandle")
    {W9 : Nat} {Pre : Pt → Array Value → Prop} {Post : Pt → Array Value → Option Value → Pt → Prop} {PostX : Pt → Array Value → Addr → Pt → Prop} (hK : vx_Back l R p e below s args y 3 W9 Pre Post PostX)
    {g : JFrame} (hg : g.method = m) (hsize : g.locals.size = c.maxLocals) {argsL rest : List Value} (hlen : ∀ sig, parseMethodDescriptor y.desc = some sig → argsL.length = sig.parameters.length)
    (hstack : g.stack = argsL.reverse ++ rest) (hW : 2 * g.monitorRoom + (rest.map fun v => v.category).sum ≤ W9) (hdg : decode c.code g.pc = .ok (.invokestatic index, 3))
    (hpre : ∀ vm₁, s.WarmedH vm₁ → Pre ⟨T.setVm vm₁, locs, cells, slots⟩ argsL.toArray) :
    (∃ (v : Option Value) (vm₁ : Vm) (B : Pt), s.WarmedH vm₁ ∧ Stand p l e R s m args below meth c B.U B.locs B.cells B.slots ∧ Post ⟨T.setVm vm₁, locs, cells, slots⟩ argsL.toArray v B ∧
      ∀ target, Steps p.tables e below (B.U.setTop { g with pc := g.pc + 3, stack := v.toList ++ rest }) target → Steps p.tables e below (T.setTop g) target) ∨
    (∃ (q : Addr) (vm₁ : Vm) (B : Pt), s.WarmedH vm₁ ∧ Stand p l e R s m args below meth c B.U B.locs B.cells B.slots ∧ PostX ⟨T.setVm vm₁, locs, cells, slots⟩ argsL.toArray q B ∧
      Steps p.tables e below (T.setTop g) ((B.U.setTop { g with stack := rest }).pushFrame (.throwing q))) := by
  obtain ⟨mk, hnamed⟩ := Cond.code_named hcode
  obtain ⟨methM, cM, hmethM, -, -, -, -, -, -, hsigM⟩ := Cond.code_spec hnamed hcode
  have hstatic : methM.isStatic = true := Cond.static_spec hnamed hmethM hstat
  obtain ⟨kP, hkP, -⟩ := className_of_methodNamed hnamed
  have hinitP : kP.init = .initialized := Cond.initialized_spec (findClass_of_methodNamed hnamed) hkP hinit
  obtain ⟨vm₁, X₁, hstep₁⟩ := X.invokestatic hexec hown hlink hnamed hmethM hstatic hkP hinitP hy (g := g) hg (argsL := argsL) (rest := rest) (hlen _ hsigM) hstack hdg
  rcases hK m meth c ⟨T.setVm vm₁, locs, cells, slots⟩ { g with stack := rest } (.invokestatic index) mk argsL.toArray X₁ hg hsize hdg hW (X₁.named hnamed) (hpre vm₁ X₁.warmed) with ⟨v, B, X', hpost, hsteps⟩ | ⟨q, B, X', hpost, hsteps⟩
  · exact Or.inl ⟨v, vm₁, B, X₁.warmed, X', hpost, fun target h => hstep₁ _ fun acts => by rw [doInvoke_state]; exact hsteps.trans h⟩
  · exact Or.inr ⟨q, vm₁, B, X₁.warmed, X', hpost, hstep₁ _ fun acts => by rw [doInvoke_state]; exact hsteps⟩
end Calls
theorem vx_cls {s : State} {T : State} {vm₁ : Vm} {E : String} {k : ClassId} (hW : s.WarmedH vm₁) (h : (T.setVm vm₁).vm.findClass E = some k) : s.vm.findClass E = some k := by
  have h1 : vm₁.findClass E = some k := h
  rw [hW.alike.findClass] at h1
  exact h1
/-- the method's frame g, with q thrown over it -/
def vx_W (p : Program) (l : Launch) (e : Env) (R : Room) (s : State) (m : MethodId) (args : Array Value) (below : List Frame) (meth : Method) (c : Code) (H : Heap) (locs : List Loc) (cells slots : Nat) (Q : State → Prop) (g : JFrame) (q : Addr) : Prop :=
  ∀ T : State, T.heap = H → Stand p l e R s m args below meth c T locs cells slots → ∃ t, Steps p.tables e below ((T.setTop g).pushFrame (.throwing q)) t ∧ Q t
def vx_Run (p : Program) (l : Launch) (e : Env) (R : Room) (s : State) (m : MethodId) (args : Array Value) (below : List Frame) (meth : Method) (c : Code) (H : Heap) (locs : List Loc) (cells slots mc ms : Nat) (g : JFrame) (rest : List Value) (Qa : State → Outcome → State → Prop) (XC : String → State → State → Prop) (free : Addr → Prop) : Prop :=
  ∀ T : State, T.heap = H → Stand p l e R s m args below meth c T locs cells slots →
    (∃ (v : Option Value) (st₀ t T' : State) (L : List Loc), st₀.heap = H ∧ Stand p l e R s m args below meth c T' (locs ++ L) (cells + mc) (slots + ms) ∧ (∀ q ∈ L, free q.base) ∧ T'.heap = t.heap ∧ T'.vm = t.vm ∧ Qa st₀ (.returned v) t ∧
      Goes p e below T g T' { g with pc := g.pc + 3, stack := v.toList ++ rest }) ∨
    (∃ (q : Addr) (st₀ t T' : State) (L : List Loc) (E : String) (ce : Cell), st₀.heap = H ∧ Stand p l e R s m args below meth c T' (locs ++ L) (cells + mc) (slots + ms) ∧ (∀ z ∈ L, free z.base) ∧ T'.heap = t.heap ∧ T'.vm = t.vm ∧ XC E st₀ t ∧ t.heap[q]? = some ce ∧ ce.vm = .none ∧ s.vm.findClass E = some ce.cls ∧
      Steps p.tables e below (T.setTop g) ((T'.setTop { g with stack := rest }).pushFrame (.throwing q)))
def vx_X {S : Type} (px : S → Prop) (B : String → S → State → Prop) (A : Nat → Prop) : String → State → State → Prop := fun E st t => ∃ u : S, px u ∧ B E u t ∧ va_F A st t
section Runs
variable {p : Program} {l : Launch} {e : Env} {R : Room} {s : State} {m : MethodId} {args : Array Value} {below : List Frame} {meth : Method} {c : Code} {H : Heap} {locs : List Loc} {cells slots : Nat}
variable {y : MethodName} {bytes cc : ByteArray} {maxL nL mc ms n index : Nat} {ret : Option FieldType} {ws : List Cond} {rm : Room} {Pc : Array Value → State → Prop} {Qc : Array Value → State → Outcome → State → Prop} {XC : String → State → State → Prop} {free : Addr → Prop} {Ts : List Cond} {own C : String} {b : Addr} {As rest : List Value} {g : JFrame}
theorem vx_callBack (cb : CallB R s args own index y bytes maxL ret ws rm mc ms n) (hM : vx_Met l y ws rm Pc Qc XC mc ms free) (hbl : FrameBlind Pc) : vx_Back l R p e below s args y 3 8 (PreOf R mc ms Pc) (PostOf Qc mc ms free) (vx_Post XC mc ms free) := by
  obtain ⟨hrc, hrs, hfr, hlo, hws, hcw, -, hini, -⟩ := cb
  exact vx_back (bytes := bytes) (maxL := maxL) (ret := ret) hM hbl hrc hrs hfr hlo hws hcw (fun a' U hW => word_at hW (Or.inl (by first | rfl | simp [Cond.onTables, Cond.keeps, Cond.steady])) hini)
theorem vx_runV (S : CallFix p m c cc nL s args Ts own) (hM : vx_Met l y ws rm Pc Qc XC mc ms free) (cw : CallW R s args own C index y bytes maxL ret ws rm mc ms n) (hp : PreV s H C b Pc As)
    (hg : g.method = m) (hn : As.length = n) (hsize : g.locals.size = nL) (hstack : g.stack = As.reverse ++ .ref b :: rest) (hW : 2 * g.monitorRoom + (rest.map fun v => v.category).sum ≤ 8) (hdg : decode cc g.pc = .ok (.invokevirtual index, 3)) (hf : cells + mc ≤ R.cells ∧ slots + ms ≤ R.slots) :
    vx_Run p l e R s m args below meth c H locs cells slots mc ms g rest (Qc (Value.ref b :: As).toArray) XC free := by
  have hK : vx_Back l R p e below s args y 3 8 (PreOf R mc ms Pc) (PostOf Qc mc ms free) (vx_Post XC mc ms free) := vx_callBack cw.1 hM hp.1
  obtain ⟨⟨-, -, -, -, -, -, hcode, -, hy, hlen, hl⟩, hin, hse⟩ := cw
  obtain ⟨hx, hb, hml, ho, -⟩ := S
  obtain ⟨-, ⟨cellB, hcB, hoB, hclB⟩, hPc⟩ := hp
  intro T hT X
  rcases vx_callV X hx (C := C) (bytes := bytes) (maxL := maxL) (ret := ret) ho hl hin hse hcode hy hK (by rw [hT]; exact hcB) hoB hclB hg (hsize.trans hml.symm) (argsL := As) (rest := rest) (fun sig h => hn.trans (hlen sig h)) hstack hW (by rw [hb]; exact hdg)
    (fun vm₁ hW₁ => ⟨hf.1, hf.2, hPc (T.setVm vm₁) hT hW₁⟩) with ⟨v, vm₁, ⟨U', l2, c2, s2⟩, hW₁, X', ⟨g', mk, t, L, e1, e2, hq, h1, hL, h2, h3⟩, st⟩ | ⟨q, vm₁, ⟨U', l2, c2, s2⟩, hW₁, X', ⟨g', mk, t, L, E, ce, e1, e2, hq, hce, hcv, hcl, h1, hL, h2, h3⟩, st⟩
  · dsimp only [Pt.U, Pt.locs, Pt.cells, Pt.slots] at X' e1 e2 h1 h2 h3 st
    subst h1; subst h2; subst h3
    exact Or.inl ⟨v, (T.setVm vm₁).calling g' mk (Value.ref b :: As).toArray, t, U', L, hT, X', hL, e1, e2, hq, st⟩
  · dsimp only [Pt.U, Pt.locs, Pt.cells, Pt.slots] at X' e1 e2 h1 h2 h3 st hcl
    subst h1; subst h2; subst h3
    exact Or.inr ⟨q, (T.setVm vm₁).calling g' mk (Value.ref b :: As).toArray, t, U', L, E, ce, hT, X', hL, e1, e2, hq, hce, hcv, vx_cls hW₁ hcl, st⟩
theorem vx_runS (S : CallFix p m c cc nL s args Ts own) (hM : vx_Met l y ws rm Pc Qc XC mc ms free) (cw : CallB R s args own index y bytes maxL ret ws rm mc ms n ∧ (Cond.static y).before args s = true) (hp : PreS s H Pc As)
    (hg : g.method = m) (hn : As.length = n) (hsize : g.locals.size = nL) (hstack : g.stack = As.reverse ++ rest) (hW : 2 * g.monitorRoom + (rest.map fun v => v.category).sum ≤ 8) (hdg : decode cc g.pc = .ok (.invokestatic index, 3)) (hf : cells + mc ≤ R.cells ∧ slots + ms ≤ R.slots) :
    vx_Run p l e R s m args below meth c H locs cells slots mc ms g rest (Qc As.toArray) XC free := by
  have hK : vx_Back l R p e below s args y 3 8 (PreOf R mc ms Pc) (PostOf Qc mc ms free) (vx_Post XC mc ms free) := vx_callBack cw.1 hM hp.1
  obtain ⟨⟨-, -, -, -, -, -, hcode, hini, hy, hlen, hl⟩, hstt⟩ := cw
  obtain ⟨hx, hb, hml, ho, -⟩ := S
  intro T hT X
  rcases vx_callS X hx (bytes := bytes) (maxL := maxL) (ret := ret) ho hl hstt hini hcode hy hK hg (hsize.trans hml.symm) (argsL := As) (rest := rest) (fun sig h => hn.trans (hlen sig h)) hstack hW (by rw [hb]; exact hdg)
    (fun vm₁ hW₁ => ⟨hf.1, hf.2, hp.2 (T.setVm vm₁) hT hW₁⟩) with ⟨v, vm₁, ⟨U', l2, c2, s2⟩, hW₁, X', ⟨g', mk, t, L, e1, e2, hq, h1, hL, h2, h3⟩, st⟩ | ⟨q, vm₁, ⟨U', l2, c2, s2⟩, hW₁, X', ⟨g', mk, t, L, E, ce, e1, e2, hq, hce, hcv, hcl, h1, hL, h2, h3⟩, st⟩
  · dsimp only [Pt.U, Pt.locs, Pt.cells, Pt.slots] at X' e1 e2 h1 h2 h3 st
    subst h1; subst h2; subst h3
    exact Or.inl ⟨v, (T.setVm vm₁).calling g' mk As.toArray, t, U', L, hT, X', hL, e1, e2, hq, st⟩
  · dsimp only [Pt.U, Pt.locs, Pt.cells, Pt.slots] at X' e1 e2 h1 h2 h3 st hcl
    subst h1; subst h2; subst h3
    exact Or.inr ⟨q, (T.setVm vm₁).calling g' mk As.toArray, t, U', L, E, ce, hT, X', hL, e1, e2, hq, hce, hcv, vx_cls hW₁ hcl, st⟩
end Runs
section Rows
variable {p : Program} {l : Launch} {e : Env} {R : Room} {s : State} {m : MethodId} {args : Array Value} {below : List Frame} {meth : Method} {c : Code} {H : Heap} {locs : List Loc} {cells slots : Nat} {Q : State → Prop}
variable {mc ms : Nat} {free : Addr → Prop} {A0 A1 : Nat → Prop} {H0 : Heap} {a : Array Value} {pc : Nat} {ls : Array Slot} {st0 rest : List Value}
theorem vx_keep {st₀ t T' : State} {L : List Loc} (h0 : st₀.heap = H) (e1 : T'.heap = t.heap) (hS : va_S A0 H0 H locs) (hA : ∀ q, q < H.size → A1 q → A0 q) (hf : ∀ q, free q → A0 q) (hL : ∀ q ∈ L, free q.base) (hF : va_F A1 st₀ t) :
    H.size ≤ T'.heap.size ∧ (∀ q : Nat, q < H.size → ¬ A1 q → T'.heap[q]? = H[q]?) ∧ va_S A0 H0 T'.heap (locs ++ L) := by
  obtain ⟨hz, hk⟩ := hF
  rw [h0] at hz hk
  exact ⟨by rw [e1]; exact hz, fun q h1 h2 => by rw [e1]; exact hk q h1 h2,
    ⟨Nat.le_trans hS.1 (by rw [e1]; exact hz), fun q h1 h2 => by rw [e1, hk q (Nat.lt_of_lt_of_le h1 hS.1) (fun z => h2 (hA q (Nat.lt_of_lt_of_le h1 hS.1) z))]; exact hS.2.1 q h1 h2, fun q hq => by
      rcases List.mem_append.mp hq with h | h
      · exact hS.2.2 q h
      · exact hf _ (hL q h)⟩⟩
theorem vx_calli {S SX : Type} {post : Int32 → S → Prop} {px : SX → Prop} {B : S → State → Prop} {BX : String → SX → State → Prop} {AX : Nat → Prop} (hr : vx_Run p l e R s m args below meth c H locs cells slots mc ms (F0 m pc ls st0) rest (va_Qi post B A1 a) (vx_X px BX AX) free) (hS : va_S A0 H0 H locs) (hA : ∀ q, q < H.size → A1 q → A0 q) (hf : ∀ q, free q → A0 q) (hAX : ∀ q, q < H.size → AX q → A0 q)
    (kx : ∀ (E : String) (ce : Cell) (q9 : Addr) (u : SX) (t : State) (H1 : Heap) (locs1 : List Loc), t.heap = H1 → s.vm.Alike t.vm → px u → BX E u t → H.size ≤ H1.size → (∀ q : Nat, q < H.size → ¬ AX q → H1[q]? = H[q]?) → va_S A0 H0 H1 locs1 → H1[q9]? = some ce → ce.vm = .none → s.vm.findClass E = some ce.cls → vx_W p l e R s m args below meth c H1 locs1 (cells + mc) (slots + ms) Q (F0 m pc ls rest) q9)
    (kk : ∀ (r : Int32) (u : S) (t : State) (H1 : Heap) (locs1 : List Loc), t.heap = H1 → s.vm.Alike t.vm → post r u → B u t → H.size ≤ H1.size → (∀ q : Nat, q < H.size → ¬ A1 q → H1[q]? = H[q]?) → va_S A0 H0 H1 locs1 → W p l e R s m args below meth c H1 locs1 (cells + mc) (slots + ms) Q (F0 m (pc + 3) ls (.int r :: rest))) : W p l e R s m args below meth c H locs cells slots Q (F0 m pc ls st0) := by
  intro T hT X
  rcases hr T hT X with ⟨v, st₀, t, T', L, h0, X', hL, e1, e2, ⟨⟨r, u, hv, hp, hb⟩, hF⟩, st⟩ | ⟨q, st₀, t, T', L, E, ce, h0, X', hL, e1, e2, ⟨u, hp, hb, hF⟩, hce, hcv, hcl, st⟩
  · cases hv
    obtain ⟨k1, k2, k3⟩ := vx_keep h0 e1 hS hA hf hL hF
    obtain ⟨t2, a1, b1⟩ := kk r u t T'.heap (locs ++ L) e1.symm (by rw [← e2]; exact X'.warmed.alike) hp hb k1 k2 k3 T' rfl X'
    exact ⟨t2, st t2 a1, b1⟩
  · obtain ⟨k1, k2, k3⟩ := vx_keep h0 e1 hS hAX hf hL hF
    obtain ⟨t2, a1, b1⟩ := kx E ce q u t T'.heap (locs ++ L) e1.symm (by rw [← e2]; exact X'.warmed.alike) hp hb k1 k2 k3 (by rw [e1]; exact hce) hcv hcl T' rfl X'
    exact ⟨t2, st.trans a1, b1⟩
theorem vx_calll {S SX : Type} {post : Int64 → S → Prop} {px : SX → Prop} {B : S → State → Prop} {BX : String → SX → State → Prop} {AX : Nat → Prop} (hr : vx_Run p l e R s m args below meth c H locs cells slots mc ms (F0 m pc ls st0) rest (va_Ql post B A1 a) (vx_X px BX AX) free) (hS : va_S A0 H0 H locs) (hA : ∀ q, q < H.size → A1 q → A0 q) (hf : ∀ q, free q → A0 q) (hAX : ∀ q, q < H.size → AX q → A0 q)
    (kx : ∀ (E : String) (ce : Cell) (q9 : Addr) (u : SX) (t : State) (H1 : Heap) (locs1 : List Loc), t.heap = H1 → s.vm.Alike t.vm → px u → BX E u t → H.size ≤ H1.size → (∀ q : Nat, q < H.size → ¬ AX q → H1[q]? = H[q]?) → va_S A0 H0 H1 locs1 → H1[q9]? = some ce → ce.vm = .none → s.vm.findClass E = some ce.cls → vx_W p l e R s m args below meth c H1 locs1 (cells + mc) (slots + ms) Q (F0 m pc ls rest) q9)
    (kk : ∀ (r : Int64) (u : S) (t : State) (H1 : Heap) (locs1 : List Loc), t.heap = H1 → s.vm.Alike t.vm → post r u → B u t → H.size ≤ H1.size → (∀ q : Nat, q < H.size → ¬ A1 q → H1[q]? = H[q]?) → va_S A0 H0 H1 locs1 → W p l e R s m args below meth c H1 locs1 (cells + mc) (slots + ms) Q (F0 m (pc + 3) ls (.long r :: rest))) : W p l e R s m args below meth c H locs cells slots Q (F0 m pc ls st0) := by
  intro T hT X
  rcases hr T hT X with ⟨v, st₀, t, T', L, h0, X', hL, e1, e2, ⟨⟨r, u, hv, hp, hb⟩, hF⟩, st⟩ | ⟨q, st₀, t, T', L, E, ce, h0, X', hL, e1, e2, ⟨u, hp, hb, hF⟩, hce, hcv, hcl, st⟩
  · cases hv
    obtain ⟨k1, k2, k3⟩ := vx_keep h0 e1 hS hA hf hL hF
    obtain ⟨t2, a1, b1⟩ := kk r u t T'.heap (locs ++ L) e1.symm (by rw [← e2]; exact X'.warmed.alike) hp hb k1 k2 k3 T' rfl X'
    exact ⟨t2, st t2 a1, b1⟩
  · obtain ⟨k1, k2, k3⟩ := vx_keep h0 e1 hS hAX hf hL hF
    obtain ⟨t2, a1, b1⟩ := kx E ce q u t T'.heap (locs ++ L) e1.symm (by rw [← e2]; exact X'.warmed.alike) hp hb k1 k2 k3 (by rw [e1]; exact hce) hcv hcl T' rfl X'
    exact ⟨t2, st.trans a1, b1⟩
theorem vx_callf {S SX : Type} {post : UInt32 → S → Prop} {px : SX → Prop} {B : S → State → Prop} {BX : String → SX → State → Prop} {AX : Nat → Prop} (hr : vx_Run p l e R s m args below meth c H locs cells slots mc ms (F0 m pc ls st0) rest (va_Qf post B A1 a) (vx_X px BX AX) free) (hS : va_S A0 H0 H locs) (hA : ∀ q, q < H.size → A1 q → A0 q) (hf : ∀ q, free q → A0 q) (hAX : ∀ q, q < H.size → AX q → A0 q)
    (kx : ∀ (E : String) (ce : Cell) (q9 : Addr) (u : SX) (t : State) (H1 : Heap) (locs1 : List Loc), t.heap = H1 → s.vm.Alike t.vm → px u → BX E u t → H.size ≤ H1.size → (∀ q : Nat, q < H.size → ¬ AX q → H1[q]? = H[q]?) → va_S A0 H0 H1 locs1 → H1[q9]? = some ce → ce.vm = .none → s.vm.findClass E = some ce.cls → vx_W p l e R s m args below meth c H1 locs1 (cells + mc) (slots + ms) Q (F0 m pc ls rest) q9)
    (kk : ∀ (r : UInt32) (u : S) (t : State) (H1 : Heap) (locs1 : List Loc), t.heap = H1 → s.vm.Alike t.vm → post r u → B u t → H.size ≤ H1.size → (∀ q : Nat, q < H.size → ¬ A1 q → H1[q]? = H[q]?) → va_S A0 H0 H1 locs1 → W p l e R s m args below meth c H1 locs1 (cells + mc) (slots + ms) Q (F0 m (pc + 3) ls (.float r :: rest))) : W p l e R s m args below meth c H locs cells slots Q (F0 m pc ls st0) := by
  intro T hT X
  rcases hr T hT X with ⟨v, st₀, t, T', L, h0, X', hL, e1, e2, ⟨⟨r, u, hv, hp, hb⟩, hF⟩, st⟩ | ⟨q, st₀, t, T', L, E, ce, h0, X', hL, e1, e2, ⟨u, hp, hb, hF⟩, hce, hcv, hcl, st⟩
  · cases hv
    obtain ⟨k1, k2, k3⟩ := vx_keep h0 e1 hS hA hf hL hF
    obtain ⟨t2, a1, b1⟩ := kk r u t T'.heap (locs ++ L) e1.symm (by rw [← e2]; exact X'.warmed.alike) hp hb k1 k2 k3 T' rfl X'
    exact ⟨t2, st t2 a1, b1⟩
  · obtain ⟨k1, k2, k3⟩ := vx_keep h0 e1 hS hAX hf hL hF
    obtain ⟨t2, a1, b1⟩ := kx E ce q u t T'.heap (locs ++ L) e1.symm (by rw [← e2]; exact X'.warmed.alike) hp hb k1 k2 k3 (by rw [e1]; exact hce) hcv hcl T' rfl X'
    exact ⟨t2, st.trans a1, b1⟩
theorem vx_calld {S SX : Type} {post : UInt64 → S → Prop} {px : SX → Prop} {B : S → State → Prop} {BX : String → SX → State → Prop} {AX : Nat → Prop} (hr : vx_Run p l e R s m args below meth c H locs cells slots mc ms (F0 m pc ls st0) rest (va_Qd post B A1 a) (vx_X px BX AX) free) (hS : va_S A0 H0 H locs) (hA : ∀ q, q < H.size → A1 q → A0 q) (hf : ∀ q, free q → A0 q) (hAX : ∀ q, q < H.size → AX q → A0 q)
    (kx : ∀ (E : String) (ce : Cell) (q9 : Addr) (u : SX) (t : State) (H1 : Heap) (locs1 : List Loc), t.heap = H1 → s.vm.Alike t.vm → px u → BX E u t → H.size ≤ H1.size → (∀ q : Nat, q < H.size → ¬ AX q → H1[q]? = H[q]?) → va_S A0 H0 H1 locs1 → H1[q9]? = some ce → ce.vm = .none → s.vm.findClass E = some ce.cls → vx_W p l e R s m args below meth c H1 locs1 (cells + mc) (slots + ms) Q (F0 m pc ls rest) q9)
    (kk : ∀ (r : UInt64) (u : S) (t : State) (H1 : Heap) (locs1 : List Loc), t.heap = H1 → s.vm.Alike t.vm → post r u → B u t → H.size ≤ H1.size → (∀ q : Nat, q < H.size → ¬ A1 q → H1[q]? = H[q]?) → va_S A0 H0 H1 locs1 → W p l e R s m args below meth c H1 locs1 (cells + mc) (slots + ms) Q (F0 m (pc + 3) ls (.double r :: rest))) : W p l e R s m args below meth c H locs cells slots Q (F0 m pc ls st0) := by
  intro T hT X
  rcases hr T hT X with ⟨v, st₀, t, T', L, h0, X', hL, e1, e2, ⟨⟨r, u, hv, hp, hb⟩, hF⟩, st⟩ | ⟨q, st₀, t, T', L, E, ce, h0, X', hL, e1, e2, ⟨u, hp, hb, hF⟩, hce, hcv, hcl, st⟩
  · cases hv
    obtain ⟨k1, k2, k3⟩ := vx_keep h0 e1 hS hA hf hL hF
    obtain ⟨t2, a1, b1⟩ := kk r u t T'.heap (locs ++ L) e1.symm (by rw [← e2]; exact X'.warmed.alike) hp hb k1 k2 k3 T' rfl X'
    exact ⟨t2, st t2 a1, b1⟩
  · obtain ⟨k1, k2, k3⟩ := vx_keep h0 e1 hS hAX hf hL hF
    obtain ⟨t2, a1, b1⟩ := kx E ce q u t T'.heap (locs ++ L) e1.symm (by rw [← e2]; exact X'.warmed.alike) hp hb k1 k2 k3 (by rw [e1]; exact hce) hcv hcl T' rfl X'
    exact ⟨t2, st.trans a1, b1⟩
theorem vx_callv {S SX : Type} {post : S → Prop} {px : SX → Prop} {B : S → State → Prop} {BX : String → SX → State → Prop} {AX : Nat → Prop} (hr : vx_Run p l e R s m args below meth c H locs cells slots mc ms (F0 m pc ls st0) rest (va_Qv post B A1 a) (vx_X px BX AX) free) (hS : va_S A0 H0 H locs) (hA : ∀ q, q < H.size → A1 q → A0 q) (hf : ∀ q, free q → A0 q) (hAX : ∀ q, q < H.size → AX q → A0 q)
    (kx : ∀ (E : String) (ce : Cell) (q9 : Addr) (u : SX) (t : State) (H1 : Heap) (locs1 : List Loc), t.heap = H1 → s.vm.Alike t.vm → px u → BX E u t → H.size ≤ H1.size → (∀ q : Nat, q < H.size → ¬ AX q → H1[q]? = H[q]?) → va_S A0 H0 H1 locs1 → H1[q9]? = some ce → ce.vm = .none → s.vm.findClass E = some ce.cls → vx_W p l e R s m args below meth c H1 locs1 (cells + mc) (slots + ms) Q (F0 m pc ls rest) q9)
    (kk : ∀ (u : S) (t : State) (H1 : Heap) (locs1 : List Loc), t.heap = H1 → s.vm.Alike t.vm → post u → B u t → H.size ≤ H1.size → (∀ q : Nat, q < H.size → ¬ A1 q → H1[q]? = H[q]?) → va_S A0 H0 H1 locs1 → W p l e R s m args below meth c H1 locs1 (cells + mc) (slots + ms) Q (F0 m (pc + 3) ls (rest))) : W p l e R s m args below meth c H locs cells slots Q (F0 m pc ls st0) := by
  intro T hT X
  rcases hr T hT X with ⟨v, st₀, t, T', L, h0, X', hL, e1, e2, ⟨⟨u, hv, hp, hb⟩, hF⟩, st⟩ | ⟨q, st₀, t, T', L, E, ce, h0, X', hL, e1, e2, ⟨u, hp, hb, hF⟩, hce, hcv, hcl, st⟩
  · cases hv
    obtain ⟨k1, k2, k3⟩ := vx_keep h0 e1 hS hA hf hL hF
    obtain ⟨t2, a1, b1⟩ := kk u t T'.heap (locs ++ L) e1.symm (by rw [← e2]; exact X'.warmed.alike) hp hb k1 k2 k3 T' rfl X'
    exact ⟨t2, st t2 a1, b1⟩
  · obtain ⟨k1, k2, k3⟩ := vx_keep h0 e1 hS hAX hf hL hF
    obtain ⟨t2, a1, b1⟩ := kx E ce q u t T'.heap (locs ++ L) e1.symm (by rw [← e2]; exact X'.warmed.alike) hp hb k1 k2 k3 (by rw [e1]; exact hce) hcv hcl T' rfl X'
    exact ⟨t2, st.trans a1, b1⟩
/-- caught by the row x of this method's table; the rows ahead don't take it -/
theorem vx_catch {own name : String} {E : String} {ce : Cell} {q : Addr} (hown : s.vm.findClass own = some m.cls) (pre : List ExceptionTableEntry) (x : ExceptionTableEntry) (suf : List ExceptionTableEntry) (hsplit : c.exceptionTable.toList = pre ++ x :: suf)
    (hpass : ∀ z ∈ pre, covers z pc = false ∨ (z.catchType ≠ 0 ∧ ∃ nm : String, (Cond.classLink own z.catchType nm).before args s = true ∧ va_Nc E nm s)) (hx : covers x pc = true) (h0 : x.catchType ≠ 0)
    (hlink : (Cond.classLink own x.catchType name).before args s = true) (hcast : (Cond.castable E name).before args s = true) (hcell : H[q]? = some ce) (hv : ce.vm = .none) (hcl : s.vm.findClass E = some ce.cls)
    (kk : W p l e R s m args below meth c H locs cells slots Q (F0 m x.handlerPc ls [.ref q])) : vx_W p l e R s m args below meth c H locs cells slots Q (F0 m pc ls rest) q := by
  intro T hT X
  have hpl : e.platform.magicAccessors = ({} : Platform).magicAccessors := by rw [X.admits.platform]
  obtain ⟨c3, c4, hc3, hc4, hasg⟩ := Cond.castable_spec hcast
  cases Option.some.inj (hc3.symm.trans hcl)
  obtain ⟨c5, hc5, hcl5⟩ := Cond.classLink_spec hown hlink e.platform hpl
  cases Option.some.inj (hc4.symm.trans hc5)
  obtain ⟨vm', X', st⟩ := X.thenCaughtThrough q (g := F0 m pc ls rest) rfl (Steps.refl _) (by rw [hT]; exact hcell) (by rw [hv]; rfl) (by obtain ⟨k9, h9, -⟩ := Vm.findClass_spec hcl; exact ⟨k9, h9⟩) pre x suf hsplit
    (fun z hz => by
      rcases hpass z hz with h | ⟨hz0, nm, hl1, hn1⟩
      · exact Or.inl h
      · obtain ⟨c6, hc6, hcl6⟩ := Cond.classLink_spec hown hl1 e.platform hpl
        obtain ⟨a8, b8, h1, h2, h3⟩ := hn1
        cases Option.some.inj (h1.symm.trans hcl)
        cases Option.some.inj (h2.symm.trans hc6)
        exact Or.inr ⟨hz0, _, hcl6, h3⟩) hx (Or.inr ⟨h0, c4, hcl5, hasg⟩)
  obtain ⟨t, a1, b1⟩ := kk (T.setVm vm') hT X'
  exact ⟨t, st.trans a1, b1⟩
end Rows
section Ends
variable {p : Program} {l : Launch} {e : Env} {R : Room} {s : State} {m : MethodId} {args : Array Value} {below : List Frame} {meth : Method} {c : Code} {H : Heap} {locs : List Loc} {cells slots : Nat} {Q : State → Prop}
variable {mc ms : Nat} {free : Addr → Prop} {A0 A1 : Nat → Prop} {H0 : Heap} {a : Array Value} {ls : Array Slot} {st0 rest : List Value}
variable {Qc : Array Value → State → Outcome → State → Prop} {XC : String → State → State → Prop}
/-- what a body that may throw owes at its end -/
def vx_MQ (below : List Frame) (Qc : Array Value → State → Outcome → State → Prop) (XC : String → State → State → Prop) (a : Array Value) (s : State) (mc ms : Nat) (free : Addr → Prop) : State → Prop := fun t =>
  ∃ o, t.status = .running ∧ Ended t below o ∧ vx_Q Qc XC mc ms free a s o t
theorem vx_ret {g : JFrame} {mc ms : Nat} (k : W p l e R s m args below meth c H locs cells slots (MQ below Qc args s mc ms free) g) : W p l e R s m args below meth c H locs cells slots (vx_MQ below Qc XC args s mc ms free) g := by
  intro T hT X
  obtain ⟨t, a1, o, b1, b2, b3, b4⟩ := k T hT X
  exact ⟨t, a1, o, b1, b2, Or.inl ⟨b3, b4⟩⟩
/-- not caught here: it goes on to the caller -/
theorem vx_widen {g : JFrame} {q : Addr} {k n : Nat} (h1 : cells ≤ k) (h2 : slots ≤ n) (kk : vx_W p l e R s m args below meth c H locs k n Q g q) : vx_W p l e R s m args below meth c H locs cells slots Q g q := fun T hT X => kk T hT (stand_widen X h1 h2)
theorem vx_out {pc : Nat} {E : String} {ce : Cell} {q : Addr} {mc ms : Nat} (hout : ∀ x ∈ c.exceptionTable.toList, covers x pc = false) (hlocks : meth.locks = false) (hcell : H[q]? = some ce) (hv : ce.vm = .none) (hcl : s.vm.findClass E = some ce.cls)
    (hx : ∀ t : State, t.heap = H → s.vm.Alike t.vm → XC E s t) (hf : ∀ z ∈ locs, free z.base) (hc : cells ≤ mc) (hs : slots ≤ ms) :
    vx_W p l e R s m args below meth c H locs cells slots (vx_MQ below Qc XC args s mc ms free) (F0 m pc ls rest) q := by
  intro T hT X
  obtain ⟨st1, hrun, hend, hW, hsm⟩ := X.leaveThrown q (g := F0 m pc ls rest) rfl rfl rfl hout hlocks
  have hcell9 : (T.setFrames (.throwing q :: below)).heap[q]? = some ce := by
    show T.heap[q]? = some ce
    rw [hT]; exact hcell
  exact ⟨_, st1, .threw q, hrun, hend, Or.inr ⟨q, rfl, E, ce, locs, hx _ hT hW.alike, hcell9, hv, hcl, hW, hsm.mono hc hs, hf⟩⟩
theorem vx_frame {U : State} {k n : Nat} (h : s.sameButNew ({ U with vm := s.vm } : State) locs k n) : s.heap.size ≤ U.heap.size ∧ ∀ q : Nat, q < s.heap.size → (∀ z ∈ locs, z.base ≠ q) → U.heap[q]? = s.heap[q]? := by
  obtain ⟨-, h2, -, -, -, h6⟩ := h
  refine ⟨h2, fun q hq hz => ?_⟩
  obtain ⟨c9, e1, e2, e3, e4⟩ := h6 q _ (Array.getElem?_eq_getElem hq)
  have hs : c9.slots = (s.heap[q]).slots := Array.ext_getElem? fun i => e4 i fun hm => hz _ hm rfl
  have h9 : c9 = s.heap[q] := by
    rw [hs] at e2
    exact e2
  have e5 : U.heap[q]? = some c9 := e1
  rw [e5, h9, Array.getElem?_eq_getElem hq]
/-- the words of a throw but the four that speak of the heap -/
def vx_no (w : Cond) : Bool := decide (w ≠ .isRef (.static Bundle.tN "UNASSIGNED_STACK" Bundle.steD)) && decide (w ≠ .isRef (.static Bundle.tN "SUPPRESSED_SENTINEL" Bundle.listD)) && decide (w ≠ .laysStatic Bundle.tN "UNASSIGNED_STACK" Bundle.steD) && decide (w ≠ .laysStatic Bundle.tN "SUPPRESSED_SENTINEL" Bundle.listD)
def vx_at0 (own : String) (ic : Nat) (X : String) (names : List String) : List Cond := (Bundle.ownAtoms0 own ic X names).filter vx_no
def vx_atS (own : String) (ic : Nat) (X : String) (names : List String) : List Cond := (Bundle.ownAtoms own ic X names).filter vx_no
/-- a word that the tables alone decide, or a good one -/
def vx_ot (w : Cond) : Bool := w.onTables || goodWord w
theorem vx_ot_at {args a' : Array Value} {s U : State} {w : Cond} (hW : s.WarmedH U.vm) (hvm : s.vm = U.vm) (hg : vx_ot w = true) (h : w.before args s = true) : w.before a' U = true := by
  simp only [vx_ot, Bool.or_eq_true] at hg
  rcases hg with hg | hg
  · exact va_tabs hg hvm h
  · exact word_at hW (good_of_word hg) h
/-- a list's words: the good ones out of the method's own list, the others by premises of their own -/
theorem vx_hat {args : Array Value} {s : State} {L B : List Cond} (h1 : ∀ w ∈ L.filter goodWord, w.before args s = true) (h2 : ∀ w ∈ L.filter (fun w => !goodWord w), w ∈ B) (h3 : ∀ w ∈ B, w.before args s = true) : ∀ w ∈ L, w.before args s = true := by
  intro w hw
  by_cases g : goodWord w = true
  · exact h1 w (List.mem_filter.mpr ⟨hw, g⟩)
  · refine h3 w (h2 w (List.mem_filter.mpr ⟨hw, ?_⟩))
    show (!goodWord w) = true
    cases hgw : goodWord w
    · rfl
    · exact absurd hgw g
theorem vx_c {args : Array Value} {s : State} {w : Cond} {B : List Cond} (h : w.before args s = true) (t : ∀ w ∈ B, w.before args s = true) : ∀ w' ∈ w :: B, w'.before args s = true := fun w' h' => (List.mem_cons.mp h').elim (fun e => by rw [e]; exact h) (t w')
theorem vx_n {args : Array Value} {s : State} : ∀ w ∈ ([] : List Cond), w.before args s = true := fun _ h => nomatch h
theorem vx_own {args : Array Value} {s : State} {L : List Cond} (h1 : ∀ w ∈ L.filter vx_no, w.before args s = true)
    (hU : (Cond.isRef (.static Bundle.tN "UNASSIGNED_STACK" Bundle.steD)).before args s = true) (hN : (Cond.isRef (.static Bundle.tN "SUPPRESSED_SENTINEL" Bundle.listD)).before args s = true)
    (lU : (Cond.laysStatic Bundle.tN "UNASSIGNED_STACK" Bundle.steD).before args s = true) (lN : (Cond.laysStatic Bundle.tN "SUPPRESSED_SENTINEL" Bundle.listD).before args s = true) : ∀ w ∈ L, w.before args s = true := by
  intro w hw
  by_cases e1 : w = .isRef (.static Bundle.tN "UNASSIGNED_STACK" Bundle.steD)
  · rw [e1]; exact hU
  · by_cases e2 : w = .isRef (.static Bundle.tN "SUPPRESSED_SENTINEL" Bundle.listD)
    · rw [e2]; exact hN
    · by_cases e3 : w = .laysStatic Bundle.tN "UNASSIGNED_STACK" Bundle.steD
      · rw [e3]; exact lU
      · by_cases e4 : w = .laysStatic Bundle.tN "SUPPRESSED_SENTINEL" Bundle.listD
        · rw [e4]; exact lN
        · exact h1 w (List.mem_filter.mpr ⟨hw, by unfold vx_no; rw [decide_eq_true e1, decide_eq_true e2, decide_eq_true e3, decide_eq_true e4]; rfl⟩)
/-- where a static field lies, its class's statics cell in H -/
def vx_L (C n d : String) (A : Nat → Prop) (U : State) (H : Heap) : Prop := ∃ (c : ClassId) (k : Class) (i : Nat) (f : Field) (a : Nat) (cell : Cell), U.vm.findClass C = some c ∧ U.fieldFound? C n d = some (c, k, i, f) ∧ f.isStatic = true ∧ k.statics = some a ∧ H[a]? = some cell ∧ cell.vm.isStatics = true ∧ cell.cls = c ∧ f.slot < cell.slots.size ∧ k.staticTypes[f.slot]? = some f.type ∧ ¬ A a
theorem vx_L.moved {C n d : String} {A : Nat → Prop} {u U : State} {H : Heap} (hvm : u.vm.Alike U.vm) (h : vx_L C n d A u H) : vx_L C n d A U H := by
  obtain ⟨c, k, i, f, a, cell, h1, h2, h3, h4, h5, h6, h7, h8, h9, h10⟩ := h
  obtain ⟨k', hi', he⟩ := State.fieldFound?_setVm hvm h2
  exact ⟨c, k', i, f, a, cell, by rw [hvm.findClass]; exact h1, hi', h3, by rw [he]; exact h4, h5, h6, h7, h8, by rw [he]; exact h9, h10⟩
theorem vx_L.kept {C n d : String} {A : Nat → Prop} {U : State} {H H1 : Heap} (h : vx_L C n d A U H) (hq : ∀ a : Nat, a < H.size → ¬ A a → H1[a]? = H[a]?) : vx_L C n d A U H1 := by
  obtain ⟨c, k, i, f, a, cell, h1, h2, h3, h4, h5, h6, h7, h8, h9, h10⟩ := h
  exact ⟨c, k, i, f, a, cell, h1, h2, h3, h4, by rw [hq a (Array.getElem?_eq_some_iff.mp h5).1 h10]; exact h5, h6, h7, h8, h9, h10⟩
theorem vx_L.narrow {C n d : String} {A B : Nat → Prop} {U : State} {H : Heap} (h : vx_L C n d A U H) (hAB : ∀ q, B q → A q) : vx_L C n d B U H := by
  obtain ⟨c, k, i, f, a, cell, h1, h2, h3, h4, h5, h6, h7, h8, h9, h10⟩ := h
  exact ⟨c, k, i, f, a, cell, h1, h2, h3, h4, h5, h6, h7, h8, h9, fun z => h10 (hAB _ z)⟩
theorem vx_L.word {C n d : String} {A : Nat → Prop} {s : State} {args : Array Value} (h : vx_L C n d A s s.heap) : (Cond.laysStatic C n d).before args s = true := by
  obtain ⟨c, k, i, f, a, cell, h1, h2, h3, h4, h5, h6, h7, h8, h9, -⟩ := h
  show (Cond.laysStatic C n d).holds args s none s [] = true
  exact Cond.laysStatic_of h1 h2 h3 h4 h5 h6 h7 h8 h9
/-- .. and what it holds: null or some reference -/
def vx_Zq (C n d : String) (A : Nat → Prop) (U : State) (H : Heap) : Prop := va_Zq C n d A U H ∧ vx_L C n d A U H
theorem vx_Zq.moved {C n d : String} {A : Nat → Prop} {u U : State} {H : Heap} (hvm : u.vm.Alike U.vm) (h : vx_Zq C n d A u H) : vx_Zq C n d A U H := ⟨va_Zq.moved hvm h.1, vx_L.moved hvm h.2⟩
theorem vx_Zq.kept {C n d : String} {A : Nat → Prop} {U : State} {H H1 : Heap} (h : vx_Zq C n d A U H) (hq : ∀ a : Nat, a < H.size → ¬ A a → H1[a]? = H[a]?) : vx_Zq C n d A U H1 := ⟨va_Zq.kept h.1 hq, vx_L.kept h.2 hq⟩
theorem vx_Zq.narrow {C n d : String} {A B : Nat → Prop} {U : State} {H : Heap} (h : vx_Zq C n d A U H) (hAB : ∀ q, B q → A q) : vx_Zq C n d B U H := ⟨va_Zq.narrow h.1 hAB, vx_L.narrow h.2 hAB⟩
theorem vx_Zqof {args : Array Value} {s : State} {C n d : String} {A : Nat → Prop} (hl : (Cond.laysStatic C n d).before args s = true) (hini : (Cond.initialized C).before args s = true) (h : (Cond.isRef (.static C n d)).before args s = true) (hA : ∀ a : Nat, a < s.heap.size → ¬ A a) : vx_Zq C n d A s s.heap := by
  refine ⟨va_Zqof hl hini h hA, ?_⟩
  obtain ⟨c, k, i, f, a, cell, h1, h2, h3, h4, h5, h6, h7, h8, h9⟩ := Cond.laysStatic_spec hl
  exact ⟨c, k, i, f, a, cell, h1, h2, h3, h4, h5, h6, h7, h8, h9, hA a (Array.getElem?_eq_some_iff.mp h5).1⟩
theorem vx_isRef {C n d : String} {v : Value} {A : Nat → Prop} {s : State} {args : Array Value} (h : va_Z C n d v A s s.heap) (hv : v.isRef = true) : (Cond.isRef (.static C n d)).before args s = true := by
  obtain ⟨cf, kf, fi, f, a, cell, h1, h2, h3, h4, h5, h6, h7, -⟩ := h
  have he : (Term.static C n d).eval args s none [] s = some v := by
    simp [Term.eval, State.fieldNamed?, h1, h2, h4, h5, h6, h7]
  simp only [Cond.before, Cond.holds, Cond.value, he]
  cases v <;> simp_all [Value.isRef]
theorem vx_isRefq {C n d : String} {A : Nat → Prop} {s : State} {args : Array Value} (h : va_Zq C n d A s s.heap) : (Cond.isRef (.static C n d)).before args s = true := by
  rcases h with h | ⟨t, h⟩
  · exact vx_isRef h rfl
  · exact vx_isRef h rfl
/-- the same frame, seen from here: as if the method were called anew in this heap -/
theorem vx_rebase {T : State} (X : Stand p l e R s m args below meth c T locs cells slots) {R' : Room} (hf : R'.frames ≤ R.frames) (hl : R'.locals ≤ R.locals) (hc : cells + R'.cells ≤ R.cells) (hs : slots + R'.slots ≤ R.slots) :
    Stand p l e R' ((T.setVm s.vm).setFrames (.invoking m args :: below)) m args below meth c T [] 0 0 := by
  have htop : (T.setVm s.vm).topJava?.isSome := X.here.top
  have hF : ((T.setVm s.vm).setFrames (.invoking m args :: below)).frames = .invoking m args :: below := State.frames_setFrames _ (State.cur_lt_of_top htop)
  obtain ⟨g₀, hg0⟩ := Option.isSome_iff_exists.mp htop
  obtain ⟨r, hr⟩ := State.topJava?_eq_some.mp hg0
  have hl9 : e.platform.stackLimits (T.setVm s.vm).me = e.platform.stackLimits s.me := X.limits
  have hb9 : (T.setVm s.vm).me.stackBytes = s.me.stackBytes := X.bytes
  refine ⟨X.admits, X.cas, X.clock, hF, ?_, X.hears, X.method, X.code, X.here, X.tail, X.warmed, ?_, ?_, ?_⟩
  · have h := X.room
    have hU : ((T.setVm s.vm).setFrames (.invoking m args :: below)).localsInUse = s.localsInUse := by
      rw [State.localsInUse_invoking hF (meth := meth) (c := c) X.method X.code, State.localsInUse_invoking X.frames X.method X.code]
    simp only [State.hasRoom, Bool.and_eq_true, decide_eq_true_eq] at h ⊢
    obtain ⟨⟨⟨⟨h1, h2, h3, h4, h5, h6⟩, h7⟩, h8⟩, h9⟩ := h
    rw [X.frames, List.length_cons] at h2 h3
    have q1 := X.heapSize
    have q2 := X.used
    simp only [hF, hU, List.length_cons, State.stackLimits_setFrames, State.stackBytes_setFrames, hl9, hb9]
    refine ⟨⟨⟨⟨by omega, by omega, by omega, by omega, by omega, h6⟩, ?_⟩, ?_⟩, X.book⟩
    · show T.heap.size + R'.cells ≤ e.platform.maxCells
      omega
    · show T.slotsUsed + R'.slots ≤ e.platform.maxSlots
      omega
  · rw [State.stackLimits_setFrames]; rfl
  · rw [State.stackBytes_setFrames]; rfl
  · refine ⟨?_, Nat.le_refl _, Nat.le_refl _, ?_, ?_, fun a c9 h9 => ⟨c9, h9, rfl, rfl, fun _ _ => rfl⟩⟩
    · obtain ⟨t, ht, -⟩ := State.frames_cons hr
      show T.setVm s.vm = { ((T.setVm s.vm).setFrames (.invoking m args :: below)).setFrames (T.setVm s.vm).frames with heap := T.heap, slotsUsed := T.slotsUsed }
      rw [State.setFrames_setFrames, State.setFrames_self ht]
      rfl
    · show T.slotsUsed = T.slotsUsed + ((T.heap.toList.drop T.heap.size).map (·.slots.size)).sum
      rw [List.drop_eq_nil_of_le (Nat.le_of_eq Array.length_toList)]
      rfl
    · show ((T.heap.toList.drop T.heap.size).map (·.slots.size)).sum ≤ 0
      rw [List.drop_eq_nil_of_le (Nat.le_of_eq Array.length_toList)]
      exact Nat.le_refl _
/-- 'throw new E()': new; dup; invokespecial; athrow -/
theorem vx_throw0 {cc : ByteArray} {pc : Nat} (hexec : p.tables.exec = Jvm.exec) (hb : c.code = cc) (hl : l.stackTraces = false) {own cls : String} {names : List String} {ik ic mc ms : Nat} {A : Nat → Prop}
    (hown : s.vm.findClass own = some m.cls) (hcls : Bundle.fit cls = true) (hnames : ∀ n ∈ names, Bundle.fit n = true)
    (hk : (Cond.classLink own ik cls).before args s = true) (hini : (Cond.initialized cls).before args s = true) (hat : ∀ w ∈ vx_at0 own ic cls names, w.before args s = true)
    (hgood : ∀ w ∈ Cond.classLink own ik cls :: Cond.initialized cls :: vx_at0 own ic cls names, vx_ot w = true)
    (hU : vx_Zq Bundle.tN "UNASSIGNED_STACK" Bundle.steD A s s.heap) (hN : vx_Zq Bundle.tN "SUPPRESSED_SENTINEL" Bundle.listD A s s.heap) (hS : va_S A s.heap H locs) (hsize : ls.size = c.maxLocals)
    (d0 : decode cc pc = .ok (.new ik, 3)) (d3 : decode cc (pc + 3) = .ok (.dup, 1)) (d4 : decode cc (pc + 4) = .ok (.invokespecial ic, 3)) (d7 : decode cc (pc + 7) = .ok (.athrow, 1))
    (hout : ∀ x ∈ c.exceptionTable.toList, covers x (pc + 7) = false)
    (hRframes : names.length + 3 < R.frames) (hRlocals : (rest.map fun v => v.category).sum + (13 * (names.length + 1) + 42) ≤ R.locals) (hRcells : cells + 1 ≤ R.cells) (hRslots : slots + 6 ≤ R.slots) (hlocks : meth.locks = false)
    (hx : ∀ t : State, s.vm.Alike t.vm → H.size ≤ t.heap.size → (∀ q : Nat, q < H.size → t.heap[q]? = H[q]?) → XC cls s t)
    (hf : ∀ z ∈ locs, free z.base) (hc : cells + 1 ≤ mc) (hs : slots + 6 ≤ ms) :
    W p l e R s m args below meth c H locs cells slots (vx_MQ below Qc XC args s mc ms free) (F0 m pc ls rest) := by
  intro T hT X
  have htr : e.platform.stackTraces = false := (show e.platform.stackTraces = l.stackTraces by rw [X.admits.platform]).trans hl
  have Y := vx_rebase X (R' := { frames := R.frames, locals := R.locals, cells := 1, slots := 6 }) (Nat.le_refl _) (Nat.le_refl _) hRcells hRslots
  obtain ⟨s', hA⟩ : ∃ z, z = (T.setVm s.vm).setFrames (.invoking m args :: below) := ⟨_, rfl⟩
  rw [← hA] at Y
  have hvm : s'.vm = s.vm := by rw [hA]; rfl
  have hhp : s'.heap = H := by rw [hA]; exact hT
  have hW0 : s.WarmedH s'.vm := by rw [hvm]; exact State.WarmedH.refl s
  have hat' : ∀ w ∈ vx_at0 own ic cls names, w.before args s' = true := fun w hw => vx_ot_at hW0 hvm.symm (hgood w (List.mem_cons_of_mem _ (List.mem_cons_of_mem _ hw))) (hat w hw)
  have hk' : (Cond.classLink own ik cls).before args s' = true := vx_ot_at hW0 hvm.symm (hgood _ List.mem_cons_self) hk
  have hini' : (Cond.initialized cls).before args s' = true := vx_ot_at hW0 hvm.symm (hgood _ (List.mem_cons_of_mem _ List.mem_cons_self)) hini
  have hU' : vx_Zq Bundle.tN "UNASSIGNED_STACK" Bundle.steD A s' s'.heap := by rw [hhp]; exact vx_Zq.moved hW0.alike (hU.kept hS.2.1)
  have hN' : vx_Zq Bundle.tN "SUPPRESSED_SENTINEL" Bundle.listD A s' s'.heap := by rw [hhp]; exact vx_Zq.moved hW0.alike (hN.kept hS.2.1)
  have h : ∀ w ∈ Bundle.ownAtoms0 own ic cls names, w.before args s' = true := vx_own hat' (vx_isRefq hU'.1) (vx_isRefq hN'.1) hU'.2.word hN'.2.word
  have hown' : s'.vm.findClass own = some m.cls := by rw [hvm]; exact hown
  have hins : (Cond.instantiable cls 6).before args s' = true := h _ (by simp [Bundle.ownAtoms0])
  obtain ⟨vm₁, cX, kX, hfX, hkX, -, -, X₁, st1⟩ := Y.newCold hexec (own := own) (C := cls) (index := ik) (n := 6) hown' hk' hins hini'
    (g := F0 m pc ls rest) rfl (by rw [hb]; exact d0) (Nat.le_refl _) (Nat.le_refl _)
  generalize hT1 : (T.setVm vm₁).pushCell { cls := cX, slots := kX.instanceTypes.map defaultValue, vm := .none } = T1 at X₁ st1
  have hcat : (Value.ref T.heap.size).category = 1 := rfl
  have hcellA : T1.heap[T.heap.size]? = some (freshCell cX kX) := by rw [← hT1]; exact State.heap_pushCell_size _ _
  have d3' : decode c.code (pc + 3) = .ok (.dup, 1) := by rw [hb]; exact d3
  obtain ⟨U, hsteps, hrun, hend, hW, hsame, ce, hce, hO⟩ := X₁.ctorThrow0 hexec htr (own := own) (cls := cls) (names := names) (ic := ic) hown' hcls hnames h (fun x hx => nomatch hx) hfX hkX hcellA (by rw [hhp, hT]; exact Nat.le_refl _)
    (g := { method := m, pc := pc + 4, locals := ls, stack := .ref T.heap.size :: .ref T.heap.size :: rest, locked := none }) rfl hsize rfl rfl (rest := rest) rfl
    (by rw [hb]; exact d4) (by rw [hb]; exact d7) hout hRframes (by simp only [List.map_cons, List.sum_cons, hcat]; omega) hlocks
  obtain ⟨f1, f2⟩ := vx_frame hsame
  rw [hhp] at f1 f2
  have hWs : s.WarmedH U.vm := State.WarmedH.trans hW0 hW
  have hcl : s.vm.findClass cls = some ce.cls := by
    have h9 := hO.cls
    rw [hvm] at h9
    exact h9
  have hall : s.sameButNew ({ U with vm := s.vm } : State) locs mc ms := by
    subst hA
    obtain ⟨e1, e2⟩ := hsame
    rw [State.setFrames_setFrames] at e1
    have h2 : (T.setVm s.vm).sameButNew ({ U with vm := s.vm } : State) [] (0 + 1) (0 + 6) := ⟨e1, e2⟩
    have h3 := X.same.trans h2
    rw [List.append_nil] at h3
    exact h3.mono hc hs
  refine ⟨U, ?_, .threw T.heap.size, hrun, hend, Or.inr ⟨T.heap.size, rfl, cls, ce, locs, hx U hWs.alike f1 (fun q hq => f2 q hq (fun z hz => nomatch hz)), hce, hO.vm, hcl, hWs, hall, hf⟩⟩
  refine st1 _ ?_
  show Steps p.tables e below (T1.setTop { method := m, pc := pc + 3, locals := ls, stack := .ref T.heap.size :: rest, locked := none }) _
  jvm_step X₁.here [X₁.here.top, hexec, d3', Value.category]
  exact hsteps
/-- 'throw new E("text")': new; dup; ldc; invokespecial; athrow -/
theorem vx_throwS {cc : ByteArray} {pc : Nat} (hexec : p.tables.exec = Jvm.exec) (hb : c.code = cc) (hl : l.stackTraces = false) {own cls text : String} {names : List String} {ik is ic mc ms sa : Nat} {A : Nat → Prop}
    (hown : s.vm.findClass own = some m.cls) (hcls : Bundle.fit cls = true) (hnames : ∀ n ∈ names, Bundle.fit n = true)
    (hk : (Cond.classLink own ik cls).before args s = true) (hini : (Cond.initialized cls).before args s = true) (hstr : vk_R own is text sa s) (hat : ∀ w ∈ vx_atS own ic cls names, w.before args s = true)
    (hgood : ∀ w ∈ Cond.classLink own ik cls :: Cond.initialized cls :: vx_atS own ic cls names, vx_ot w = true)
    (hU : vx_Zq Bundle.tN "UNASSIGNED_STACK" Bundle.steD A s s.heap) (hN : vx_Zq Bundle.tN "SUPPRESSED_SENTINEL" Bundle.listD A s s.heap) (hS : va_S A s.heap H locs) (hsize : ls.size = c.maxLocals)
    (d0 : decode cc pc = .ok (.new ik, 3)) (d3 : decode cc (pc + 3) = .ok (.dup, 1)) (d4 : decode cc (pc + 4) = .ok (.ldc is, 2)) (d6 : decode cc (pc + 6) = .ok (.invokespecial ic, 3)) (d9 : decode cc (pc + 9) = .ok (.athrow, 1))
    (hout : ∀ x ∈ c.exceptionTable.toList, covers x (pc + 9) = false)
    (hRframes : names.length + 3 < R.frames) (hRlocals : (rest.map fun v => v.category).sum + (13 * (names.length + 1) + 43) ≤ R.locals) (hRcells : cells + 1 ≤ R.cells) (hRslots : slots + 6 ≤ R.slots) (hlocks : meth.locks = false)
    (hx : ∀ t : State, s.vm.Alike t.vm → H.size ≤ t.heap.size → (∀ q : Nat, q < H.size → t.heap[q]? = H[q]?) → XC cls s t)
    (hf : ∀ z ∈ locs, free z.base) (hc : cells + 1 ≤ mc) (hs : slots + 6 ≤ ms) :
    W p l e R s m args below meth c H locs cells slots (vx_MQ below Qc XC args s mc ms free) (F0 m pc ls rest) := by
  intro T hT X
  have htr : e.platform.stackTraces = false := (show e.platform.stackTraces = l.stackTraces by rw [X.admits.platform]).trans hl
  have Y := vx_rebase X (R' := { frames := R.frames, locals := R.locals, cells := 1, slots := 6 }) (Nat.le_refl _) (Nat.le_refl _) hRcells hRslots
  obtain ⟨s', hA⟩ : ∃ z, z = (T.setVm s.vm).setFrames (.invoking m args :: below) := ⟨_, rfl⟩
  rw [← hA] at Y
  have hvm : s'.vm = s.vm := by rw [hA]; rfl
  have hhp : s'.heap = H := by rw [hA]; exact hT
  have hW0 : s.WarmedH s'.vm := by rw [hvm]; exact State.WarmedH.refl s
  have hat' : ∀ w ∈ vx_atS own ic cls names, w.before args s' = true := fun w hw => vx_ot_at hW0 hvm.symm (hgood w (List.mem_cons_of_mem _ (List.mem_cons_of_mem _ hw))) (hat w hw)
  have hk' : (Cond.classLink own ik cls).before args s' = true := vx_ot_at hW0 hvm.symm (hgood _ List.mem_cons_self) hk
  have hini' : (Cond.initialized cls).before args s' = true := vx_ot_at hW0 hvm.symm (hgood _ (List.mem_cons_of_mem _ List.mem_cons_self)) hini
  have hU' : vx_Zq Bundle.tN "UNASSIGNED_STACK" Bundle.steD A s' s'.heap := by rw [hhp]; exact vx_Zq.moved hW0.alike (hU.kept hS.2.1)
  have hN' : vx_Zq Bundle.tN "SUPPRESSED_SENTINEL" Bundle.listD A s' s'.heap := by rw [hhp]; exact vx_Zq.moved hW0.alike (hN.kept hS.2.1)
  have h : ∀ w ∈ Bundle.ownAtoms own ic cls names, w.before args s' = true := vx_own hat' (vx_isRefq hU'.1) (vx_isRefq hN'.1) hU'.2.word hN'.2.word
  have hown' : s'.vm.findClass own = some m.cls := by rw [hvm]; exact hown
  have hins : (Cond.instantiable cls 6).before args s' = true := h _ (by simp [Bundle.ownAtoms])
  obtain ⟨vm₁, cX, kX, hfX, hkX, -, -, X₁, st1⟩ := Y.newCold hexec (own := own) (C := cls) (index := ik) (n := 6) hown' hk' hins hini'
    (g := F0 m pc ls rest) rfl (by rw [hb]; exact d0) (Nat.le_refl _) (Nat.le_refl _)
  generalize hT1 : (T.setVm vm₁).pushCell { cls := cX, slots := kX.instanceTypes.map defaultValue, vm := .none } = T1 at X₁ st1
  have hcat : (Value.ref T.heap.size).category = 1 := rfl
  have hcellA : T1.heap[T.heap.size]? = some (freshCell cX kX) := by rw [← hT1]; exact State.heap_pushCell_size _ _
  have d3' : decode c.code (pc + 3) = .ok (.dup, 1) := by rw [hb]; exact d3
  have d4' : decode c.code (pc + 4) = .ok (.ldc is, 2) := by rw [hb]; exact d4
  have hstr' : vk_R own is text sa s' := vk_R.warm hW0 hstr
  obtain ⟨U, hsteps, hrun, hend, hW, hsame, ce, hce, hO⟩ := X₁.ctorThrowS hexec htr (own := own) (cls := cls) (names := names) (ic := ic) hown' hcls hnames h (fun x hx => nomatch hx) hfX hkX hcellA (by rw [hhp, hT]; exact Nat.le_refl _) (msg := .ref sa) rfl
    (g := { method := m, pc := pc + 6, locals := ls, stack := .ref sa :: .ref T.heap.size :: .ref T.heap.size :: rest, locked := none }) rfl hsize rfl rfl (rest := rest) rfl
    (by rw [hb]; exact d6) (by rw [hb]; exact d9) hout hRframes (by simp only [List.map_cons, List.sum_cons, hcat]; omega) hlocks
  obtain ⟨f1, f2⟩ := vx_frame hsame
  rw [hhp] at f1 f2
  have hWs : s.WarmedH U.vm := State.WarmedH.trans hW0 hW
  have hcl : s.vm.findClass cls = some ce.cls := by
    have h9 := hO.cls
    rw [hvm] at h9
    exact h9
  have hall : s.sameButNew ({ U with vm := s.vm } : State) locs mc ms := by
    subst hA
    obtain ⟨e1, e2⟩ := hsame
    rw [State.setFrames_setFrames] at e1
    have h2 : (T.setVm s.vm).sameButNew ({ U with vm := s.vm } : State) [] (0 + 1) (0 + 6) := ⟨e1, e2⟩
    have h3 := X.same.trans h2
    rw [List.append_nil] at h3
    exact h3.mono hc hs
  refine ⟨U, ?_, .threw T.heap.size, hrun, hend, Or.inr ⟨T.heap.size, rfl, cls, ce, locs, hx U hWs.alike f1 (fun q hq => f2 q hq (fun z hz => nomatch hz)), hce, hO.vm, hcl, hWs, hall, hf⟩⟩
  refine st1 _ ?_
  show Steps p.tables e below (T1.setTop { method := m, pc := pc + 3, locals := ls, stack := .ref T.heap.size :: rest, locked := none }) _
  jvm_step X₁.here [X₁.here.top, hexec, d3', Value.category]
  exact X₁.ldcString hexec (own := own) (text := text) (index := is) (a := sa) hown' hstr'.1 hstr'.2
    (g := { method := m, pc := pc + 4, locals := ls, stack := .ref T.heap.size :: .ref T.heap.size :: rest, locked := none }) rfl d4' _ hsteps
/-- 'throw new E("text")', the text by a wide index -/
theorem vx_throwSW {cc : ByteArray} {pc : Nat} (hexec : p.tables.exec = Jvm.exec) (hb : c.code = cc) (hl : l.stackTraces = false) {own cls text : String} {names : List String} {ik is ic mc ms sa : Nat} {A : Nat → Prop}
    (hown : s.vm.findClass own = some m.cls) (hcls : Bundle.fit cls = true) (hnames : ∀ n ∈ names, Bundle.fit n = true)
    (hk : (Cond.classLink own ik cls).before args s = true) (hini : (Cond.initialized cls).before args s = true) (hstr : vk_R own is text sa s) (hat : ∀ w ∈ vx_atS own ic cls names, w.before args s = true)
    (hgood : ∀ w ∈ Cond.classLink own ik cls :: Cond.initialized cls :: vx_atS own ic cls names, vx_ot w = true)
    (hU : vx_Zq Bundle.tN "UNASSIGNED_STACK" Bundle.steD A s s.heap) (hN : vx_Zq Bundle.tN "SUPPRESSED_SENTINEL" Bundle.listD A s s.heap) (hS : va_S A s.heap H locs) (hsize : ls.size = c.maxLocals)
    (d0 : decode cc pc = .ok (.new ik, 3)) (d3 : decode cc (pc + 3) = .ok (.dup, 1)) (d4 : decode cc (pc + 4) = .ok (.ldc_w is, 3)) (d7 : decode cc (pc + 7) = .ok (.invokespecial ic, 3)) (d10 : decode cc (pc + 10) = .ok (.athrow, 1))
    (hout : ∀ x ∈ c.exceptionTable.toList, covers x (pc + 10) = false)
    (hRframes : names.length + 3 < R.frames) (hRlocals : (rest.map fun v => v.category).sum + (13 * (names.length + 1) + 43) ≤ R.locals) (hRcells : cells + 1 ≤ R.cells) (hRslots : slots + 6 ≤ R.slots) (hlocks : meth.locks = false)
    (hx : ∀ t : State, s.vm.Alike t.vm → H.size ≤ t.heap.size → (∀ q : Nat, q < H.size → t.heap[q]? = H[q]?) → XC cls s t)
    (hf : ∀ z ∈ locs, free z.base) (hc : cells + 1 ≤ mc) (hs : slots + 6 ≤ ms) :
    W p l e R s m args below meth c H locs cells slots (vx_MQ below Qc XC args s mc ms free) (F0 m pc ls rest) := by
  intro T hT X
  have htr : e.platform.stackTraces = false := (show e.platform.stackTraces = l.stackTraces by rw [X.admits.platform]).trans hl
  have Y := vx_rebase X (R' := { frames := R.frames, locals := R.locals, cells := 1, slots := 6 }) (Nat.le_refl _) (Nat.le_refl _) hRcells hRslots
  obtain ⟨s', hA⟩ : ∃ z, z = (T.setVm s.vm).setFrames (.invoking m args :: below) := ⟨_, rfl⟩
  rw [← hA] at Y
  have hvm : s'.vm = s.vm := by rw [hA]; rfl
  have hhp : s'.heap = H := by rw [hA]; exact hT
  have hW0 : s.WarmedH s'.vm := by rw [hvm]; exact State.WarmedH.refl s
  have hat' : ∀ w ∈ vx_atS own ic cls names, w.before args s' = true := fun w hw => vx_ot_at hW0 hvm.symm (hgood w (List.mem_cons_of_mem _ (List.mem_cons_of_mem _ hw))) (hat w hw)
  have hk' : (Cond.classLink own ik cls).before args s' = true := vx_ot_at hW0 hvm.symm (hgood _ List.mem_cons_self) hk
  have hini' : (Cond.initialized cls).before args s' = true := vx_ot_at hW0 hvm.symm (hgood _ (List.mem_cons_of_mem _ List.mem_cons_self)) hini
  have hU' : vx_Zq Bundle.tN "UNASSIGNED_STACK" Bundle.steD A s' s'.heap := by rw [hhp]; exact vx_Zq.moved hW0.alike (hU.kept hS.2.1)
  have hN' : vx_Zq Bundle.tN "SUPPRESSED_SENTINEL" Bundle.listD A s' s'.heap := by rw [hhp]; exact vx_Zq.moved hW0.alike (hN.kept hS.2.1)
  have h : ∀ w ∈ Bundle.ownAtoms own ic cls names, w.before args s' = true := vx_own hat' (vx_isRefq hU'.1) (vx_isRefq hN'.1) hU'.2.word hN'.2.word
  have hown' : s'.vm.findClass own = some m.cls := by rw [hvm]; exact hown
  have hins : (Cond.instantiable cls 6).before args s' = true := h _ (by simp [Bundle.ownAtoms])
  obtain ⟨vm₁, cX, kX, hfX, hkX, -, -, X₁, st1⟩ := Y.newCold hexec (own := own) (C := cls) (index := ik) (n := 6) hown' hk' hins hini'
    (g := F0 m pc ls rest) rfl (by rw [hb]; exact d0) (Nat.le_refl _) (Nat.le_refl _)
  generalize hT1 : (T.setVm vm₁).pushCell { cls := cX, slots := kX.instanceTypes.map defaultValue, vm := .none } = T1 at X₁ st1
  have hcat : (Value.ref T.heap.size).category = 1 := rfl
  have hcellA : T1.heap[T.heap.size]? = some (freshCell cX kX) := by rw [← hT1]; exact State.heap_pushCell_size _ _
  have d3' : decode c.code (pc + 3) = .ok (.dup, 1) := by rw [hb]; exact d3
  have d4' : decode c.code (pc + 4) = .ok (.ldc_w is, 3) := by rw [hb]; exact d4
  have hstr' : vk_R own is text sa s' := vk_R.warm hW0 hstr
  obtain ⟨U, hsteps, hrun, hend, hW, hsame, ce, hce, hO⟩ := X₁.ctorThrowS hexec htr (own := own) (cls := cls) (names := names) (ic := ic) hown' hcls hnames h (fun x hx => nomatch hx) hfX hkX hcellA (by rw [hhp, hT]; exact Nat.le_refl _) (msg := .ref sa) rfl
    (g := { method := m, pc := pc + 7, locals := ls, stack := .ref sa :: .ref T.heap.size :: .ref T.heap.size :: rest, locked := none }) rfl hsize rfl rfl (rest := rest) rfl
    (by rw [hb]; exact d7) (by rw [hb]; exact d10) hout hRframes (by simp only [List.map_cons, List.sum_cons, hcat]; omega) hlocks
  obtain ⟨f1, f2⟩ := vx_frame hsame
  rw [hhp] at f1 f2
  have hWs : s.WarmedH U.vm := State.WarmedH.trans hW0 hW
  have hcl : s.vm.findClass cls = some ce.cls := by
    have h9 := hO.cls
    rw [hvm] at h9
    exact h9
  have hall : s.sameButNew ({ U with vm := s.vm } : State) locs mc ms := by
    subst hA
    obtain ⟨e1, e2⟩ := hsame
    rw [State.setFrames_setFrames] at e1
    have h2 : (T.setVm s.vm).sameButNew ({ U with vm := s.vm } : State) [] (0 + 1) (0 + 6) := ⟨e1, e2⟩
    have h3 := X.same.trans h2
    rw [List.append_nil] at h3
    exact h3.mono hc hs
  refine ⟨U, ?_, .threw T.heap.size, hrun, hend, Or.inr ⟨T.heap.size, rfl, cls, ce, locs, hx U hWs.alike f1 (fun q hq => f2 q hq (fun z hz => nomatch hz)), hce, hO.vm, hcl, hWs, hall, hf⟩⟩
  refine st1 _ ?_
  show Steps p.tables e below (T1.setTop { method := m, pc := pc + 3, locals := ls, stack := .ref T.heap.size :: rest, locked := none }) _
  jvm_step X₁.here [X₁.here.top, hexec, d3', Value.category]
  exact X₁.ldcStringW hexec (own := own) (text := text) (index := is) (a := sa) hown' hstr'.1 hstr'.2
    (g := { method := m, pc := pc + 4, locals := ls, stack := .ref T.heap.size :: .ref T.heap.size :: rest, locked := none }) rfl d4' _ hsteps
end Ends
section Bodies
variable {l : Launch}
theorem vx_ofW {y : MethodName} {ws ws' : List Cond} {rm : Room} {Pc : Array Value → State → Prop} {Qc : Array Value → State → Outcome → State → Prop} {XC : String → State → State → Prop} {mc ms : Nat} {free : Addr → Prop} {cc : ByteArray} {maxL : Nat} {ret : Option FieldType}
    (hy : plainName y.cls = true) (hw : ws = Cond.code y cc maxL ret :: ws')
    (body : ∀ p e s m args below meth c s₁, BodyLoose p l y (headSpec ws rm) cc maxL ret e s m args below meth c s₁ → c.maxLocals = maxL → (∀ x ∈ c.exceptionTable.toList, False) → Pc args s →
      W p l e (headSpec ws rm).room s m args below meth c s.heap [] 0 0 (vx_MQ below Qc XC args s mc ms free) (entryFrame m args maxL)) : vx_Met l y ws rm Pc Qc XC mc ms free := by
  refine MetFree.of_bodyS (code := cc) (maxLocals := maxL) (ret := ret) hy ?_ ?_
  · intro args s m h hn
    obtain ⟨meth, c, h1, h2, h3, h4, h5, h6, -, -⟩ := Cond.code_spec hn (atoms_spec (ws := ws) h _ (by rw [hw]; exact List.mem_cons_self))
    exact ⟨meth, c, h1, h2, h3, h4, h5, h6⟩
  · intro p e s m args below meth c s₁ B hml hP _
    have hh0 : s₁.heap = s.heap := by rw [B.state]; rfl
    have ht : ∀ x ∈ c.exceptionTable.toList, False := by
      obtain ⟨meth9, c9, h1, h2, -, -, -, -, h7, -⟩ := Cond.code_spec B.named (atoms_spec (ws := ws) B.pre _ (by rw [hw]; exact List.mem_cons_self))
      cases Option.some.inj (h1.symm.trans B.method)
      cases Option.some.inj (h2.symm.trans (Stand.of_body B).code)
      intro x hx
      rw [Array.isEmpty_iff.mp h7] at hx
      cases hx
    obtain ⟨t, a1, o, b1, b2, b3⟩ := body p e s m args below meth c s₁ B hml ht hP s₁ hh0 (Stand.of_body B)
    exact ⟨t, o, a1, b1, b2, b3⟩
/-- the table of a body with handlers -/
theorem vx_table {p : Program} {x y : MethodName} {S : Spec} {cc bytes : ByteArray} {maxL maxL' : Nat} {ret ret' : Option FieldType} {e : Env} {s s₁ : State} {m : MethodId} {args : Array Value} {below : List Frame} {meth : Method} {c : Code} {hh : List (Nat × Nat × Nat × Nat)}
    (B : BodyLoose p l y S cc maxL ret e s m args below meth c s₁) (h : (Cond.codeWith y bytes maxL' ret' hh).before args s = true) : c.exceptionTable.toList = tableOf hh := by
  obtain ⟨m9, meth9, c9, hn9, h1, h2, -, -, h6, -⟩ := Cond.codeWith_spec h
  cases Option.some.inj (hn9.symm.trans B.named)
  cases Option.some.inj (h1.symm.trans B.method)
  cases Option.some.inj (h2.symm.trans (Stand.of_body B).code)
  rw [← h6, table_eq]
end Bodies
end VXA
/-! ===== END ===== -/
/-! ===== BEGIN a static call of a method with an exception table ===== -/
section VXS
variable {p : Program} {l : Launch} {e : Env} {R : Room} {s : State} {m : MethodId} {args : Array Value} {below : List Frame} {meth : Method} {c : Code} {T : State} {H : Heap} {locs : List Loc} {cells slots : Nat}
abbrev vx_CSW (R : Room) (s : State) (args : Array Value) (own : String) (index : Nat) (y : MethodName) (bytes : ByteArray) (maxL : Nat) (ret : Option FieldType) (hh : List (Nat × Nat × Nat × Nat)) (ws : List Cond) (rm : Room) (mc ms n : Nat) : Prop :=
  (rm.cells = mc ∧ rm.slots = ms ∧ rm.frames + 1 ≤ R.frames ∧ 8 + (maxL + 11) + rm.locals ≤ R.locals ∧ (∀ w ∈ ws, ∀ (a' : Array Value) (U : State), s.WarmedH U.vm → w.before a' U = true) ∧ Cond.codeWith y bytes maxL ret hh ∈ ws) ∧
  (Cond.codeWith y bytes maxL ret hh).before args s = true ∧ (Cond.initialized y.cls).before args s = true ∧ (y.cls ≠ "java/lang/invoke/MethodHandle" ∧ y.cls ≠ "java/lang/invoke/VarHandle") ∧
  (∀ sig, parseMethodDescriptor y.desc = some sig → n = sig.parameters.length) ∧ (Cond.methodLink own index y).before args s = true ∧ (Cond.static y).before args s = true
theorem vx_cwSW {own : String} {index maxL mc ms : Nat} {y : MethodName} {bytes : ByteArray} {ret : Option FieldType} {hh : List (Nat × Nat × Nat × Nat)} {Ts ws ws' : List Cond} {rm : Room} (n : Nat) (ht : ∀ w ∈ Ts, w.before args s = true) (hT : GoodIn Ts (va_wsS own index y ws)) (hw : ws = Cond.codeWith y bytes maxL ret hh :: ws') (hrc : rm.cells = mc) (hrs : rm.slots = ms)
    (hd : y.cls ≠ "java/lang/invoke/MethodHandle" ∧ y.cls ≠ "java/lang/invoke/VarHandle" ∧ (parseMethodDescriptor y.desc).map (fun d => d.parameters.length) = some n) (hR : rm.frames + 1 ≤ R.frames ∧ 8 + (maxL + 11) + rm.locals ≤ R.locals) :
    vx_CSW R s args own index y bytes maxL ret hh ws rm mc ms n := by
  have ok : ∀ w ∈ va_wsS own index y ws, w.before args s = true := fun w h => ht w (hT w h).1
  have hG : GoodIn Ts ws := fun w h => hT w (by unfold va_wsS; exact List.mem_append_right _ h)
  have hc : Cond.codeWith y bytes maxL ret hh ∈ ws := by rw [hw]; exact List.mem_cons_self
  refine ⟨⟨hrc, hrs, hR.1, hR.2, pay_in ht hG, hc⟩, ht _ (hG _ hc).1, ok _ (by simp [va_wsS]), ⟨hd.1, hd.2.1⟩, fun sig h => ?_, ok _ (by simp [va_wsS]), ok _ (by simp [va_wsS])⟩
  have h2 := hd.2.2
  rw [h] at h2
  exact (Option.some.inj h2).symm
theorem vx_callSW (X : Stand p l e R s m args below meth c T locs cells slots) (hexec : p.tables.exec = Jvm.exec) {own : String} {index : Nat} {y : MethodName} {bytes : ByteArray} {maxL : Nat} {ret : Option FieldType} {hh : List (Nat × Nat × Nat × Nat)}
    (hown : s.vm.findClass own = some m.cls) (hlink : (Cond.methodLink own index y).before args s = true) (hstat : (Cond.static y).before args s = true) (hinit : (Cond.initialized y.cls).before args s = true)
    (hcode : (Cond.codeWith y bytes maxL ret hh).before args s = true) (hy : y.cls ≠ "java/lang/invoke/MethodHandle" ∧ y.cls ≠ "java/lang/invoke/VarHandle")
    {W9 : Nat} {Pre : Pt → Array Value → Prop} {Post : Pt → Array Value → Option Value → Pt → Prop} (hK : Back l R p e below s args y 3 W9 Pre Post)
    {g : JFrame} (hg : g.method = m) (hsize : g.locals.size = c.maxLocals) {argsL rest : List Value} (hlen : ∀ sig, parseMethodDescriptor y.desc = some sig → argsL.length = sig.parameters.length)
    (hstack : g.stack = argsL.reverse ++ rest) (hW : 2 * g.monitorRoom + (rest.map fun v => v.category).sum ≤ W9) (hdg : decode c.code g.pc = .ok (.invokestatic index, 3))
    (hpre : ∀ vm₁, s.WarmedH vm₁ → Pre ⟨T.setVm vm₁, locs, cells, slots⟩ argsL.toArray) :
    ∃ (v : Option Value) (vm₁ : Vm) (B : Pt), s.WarmedH vm₁ ∧ Stand p l e R s m args below meth c B.U B.locs B.cells B.slots ∧ Post ⟨T.setVm vm₁, locs, cells, slots⟩ argsL.toArray v B ∧
      ∀ target, Steps p.tables e below (B.U.setTop { g with pc := g.pc + 3, stack := v.toList ++ rest }) target → Steps p.tables e below (T.setTop g) target := by
  obtain ⟨mk, methM, cM, hnamed, hmethM, -, -, -, -, -, -, hsigM⟩ := Cond.codeWith_spec hcode
  have hstatic : methM.isStatic = true := Cond.static_spec hnamed hmethM hstat
  obtain ⟨kP, hkP, -⟩ := className_of_methodNamed hnamed
  have hinitP : kP.init = .initialized := Cond.initialized_spec (findClass_of_methodNamed hnamed) hkP hinit
  obtain ⟨vm₁, X₁, hstep₁⟩ := X.invokestatic hexec hown hlink hnamed hmethM hstatic hkP hinitP hy (g := g) hg (argsL := argsL) (rest := rest) (hlen _ hsigM) hstack hdg
  obtain ⟨v, B, X', hpost, hsteps⟩ := hK m meth c ⟨T.setVm vm₁, locs, cells, slots⟩ { g with stack := rest } (.invokestatic index) mk argsL.toArray X₁ hg hsize hdg hW (X₁.named hnamed) (hpre vm₁ X₁.warmed)
  exact ⟨v, vm₁, B, X₁.warmed, X', hpost, fun target h => hstep₁ _ fun acts => by rw [doInvoke_state]; exact hsteps.trans h⟩
theorem vx_runSW {y : MethodName} {bytes cc : ByteArray} {maxL nL mc ms n index : Nat} {ret : Option FieldType} {hh : List (Nat × Nat × Nat × Nat)} {ws : List Cond} {rm : Room} {Pc : Array Value → State → Prop} {Qc : Array Value → State → Outcome → State → Prop} {free : Addr → Prop} {Ts : List Cond} {own : String} {As rest : List Value} {g : JFrame}
    (S : CallFix p m c cc nL s args Ts own) (hM : Met l y ws rm Pc Qc mc ms free) (cw : vx_CSW R s args own index y bytes maxL ret hh ws rm mc ms n) (hp : PreS s H Pc As)
    (hg : g.method = m) (hn : As.length = n) (hsize : g.locals.size = nL) (hstack : g.stack = As.reverse ++ rest) (hW : 2 * g.monitorRoom + (rest.map fun v => v.category).sum ≤ 8) (hdg : decode cc g.pc = .ok (.invokestatic index, 3)) (hf : cells + mc ≤ R.cells ∧ slots + ms ≤ R.slots) :
    va_Run p l e R s m args below meth c H locs cells slots mc ms g rest (Qc As.toArray) (free) := by
  obtain ⟨⟨hrc, hrs, hfr, hlo, hws, hcw⟩, hcode, hini, hy, hlen, hl, hstt⟩ := cw
  have hK : Back l R p e below s args y 3 8 (PreOf R mc ms Pc) (PostOf Qc mc ms free) := va_backW (hh := hh) (bytes := bytes) (maxL := maxL) (ret := ret) hM hp.1 hrc hrs hfr hlo hws hcw (fun a' U hW => word_at hW (Or.inl (by first | rfl | simp [Cond.onTables, Cond.keeps, Cond.steady])) hini)
  obtain ⟨hx, hb, hml, ho, -⟩ := S
  intro T hT X
  obtain ⟨v, vm₁, ⟨U', l2, c2, s2⟩, hW₁, X', ⟨g', mk, t, L, e1, e2, hq, h1, hL, h2, h3⟩, st⟩ := vx_callSW X hx (hh := hh) (bytes := bytes) (maxL := maxL) (ret := ret) ho hl hstt hini hcode hy hK hg (hsize.trans hml.symm) (argsL := As) (rest := rest) (fun sig h => hn.trans (hlen sig h)) hstack hW (by rw [hb]; exact hdg)
    (fun vm₁ hW₁ => ⟨hf.1, hf.2, hp.2 (T.setVm vm₁) hT hW₁⟩)
  dsimp only [Pt.U, Pt.locs, Pt.cells, Pt.slots] at X' e1 e2 h1 h2 h3 st
  subst h1; subst h2; subst h3
  exact ⟨v, (T.setVm vm₁).calling g' mk As.toArray, t, U', L, hT, X', hL, e1, e2, hq, st⟩
/-- not caught here, past rows that name other classes: it goes on to the caller -/
theorem vx_outP {p : Program} {l : Launch} {e : Env} {R : Room} {s : State} {m : MethodId} {args : Array Value} {below : List Frame} {meth : Method} {c : Code} {H : Heap} {locs : List Loc} {cells slots : Nat} {free : Addr → Prop} {ls : Array Slot} {rest : List Value} {Qc : Array Value → State → Outcome → State → Prop} {XC : String → State → State → Prop}
    {pc : Nat} {own E : String} {ce : Cell} {q : Addr} {mc ms : Nat} (hown : s.vm.findClass own = some m.cls) (hlocks : meth.locks = false)
    (hpass : ∀ z ∈ c.exceptionTable.toList, covers z pc = false ∨ (z.catchType ≠ 0 ∧ ∃ nm : String, (Cond.classLink own z.catchType nm).before args s = true ∧ va_Nc E nm s)) (hcell : H[q]? = some ce) (hv : ce.vm = .none) (hcl : s.vm.findClass E = some ce.cls)
    (hx : ∀ t : State, t.heap = H → s.vm.Alike t.vm → XC E s t) (hf : ∀ z ∈ locs, free z.base) (hc : cells ≤ mc) (hs : slots ≤ ms) :
    vx_W p l e R s m args below meth c H locs cells slots (vx_MQ below Qc XC args s mc ms free) (F0 m pc ls rest) q := by
  intro T hT X
  have hpl : e.platform.magicAccessors = ({} : Platform).magicAccessors := by rw [X.admits.platform]
  obtain ⟨vm', hW', X', st⟩ := X.outThrough hlocks q (g := F0 m pc ls rest) rfl rfl rfl (cell := ce) (by rw [hT]; exact hcell) (by rw [hv]; rfl)
    (by obtain ⟨k9, h9, -⟩ := Vm.findClass_spec hcl; exact ⟨k9, h9⟩) (fun z hz => by
      rcases hpass z hz with h | ⟨hz0, nm, hl1, hn1⟩
      · exact Or.inl h
      · obtain ⟨c6, hc6, hcl6⟩ := Cond.classLink_spec hown hl1 e.platform hpl
        obtain ⟨a8, b8, h1, h2, h3⟩ := hn1
        cases Option.some.inj (h1.symm.trans hcl)
        cases Option.some.inj (h2.symm.trans hc6)
        exact Or.inr ⟨hz0, _, hcl6, h3⟩)
  obtain ⟨g₀, hfr⟩ := X'.frames_eq
  have hcell9 : ((T.setVm vm').setFrames (.throwing q :: below)).heap[q]? = some ce := by
    show T.heap[q]? = some ce
    rw [hT]; exact hcell
  have hend : Ended ((T.setVm vm').setFrames (.throwing q :: below)) below (.threw q) := State.frames_setFrames _ (State.cur_lt_of_frames hfr)
  refine ⟨(T.setVm vm').setFrames (.throwing q :: below), ?_, .threw q, X'.here.running, hend, Or.inr ⟨q, rfl, E, ce, locs, hx _ hT (X'.ends _).1.alike, hcell9, hv, hcl, (X'.ends _).1, (X'.ends _).2.mono hc hs, hf⟩⟩
  rw [X.pushThrowing_eq]
  exact st
/-- a thing of a world lies in the heap -/
theorem vx_lt {D : va_G} {cl : List vw_C} {ws : va_W} {H1 : Heap} (h : va_P D cl ws H1) {k : Nat} {q : Nat × va_E} (hk : ws[k]? = some q) : q.1 < H1.size := (h k q hk).lt
end VXS
/-! ===== END ===== -/
/-! ===== BEGIN methods with a table of their own: called by a name, returning or throwing ===== -/
section VXH
/-! vx_backW, vx_callVX, vx_callSX, vx_callVW, vx_runVW, vx_runVX, vx_runSX, vx_ofWH follow the same proofs as their sisters above (Free/Laws.lean, Shelf42/LK1.lean); vx_outP calls Shelf42/NT130.lean (outThrough). -/
section
variable {l : Launch} {R : Room} {p : Program} {e : Env} {below : List Frame} {s : State} {sargs : Array Value} {y : MethodName} {len W9 : Nat}
theorem vx_backW {ws : List Cond} {rm : Room} {Pc : Array Value → State → Prop} {Qc : Array Value → State → Outcome → State → Prop} {XC : String → State → State → Prop} {mc ms : Nat} {free : Addr → Prop} {bytes : ByteArray} {maxL : Nat} {ret : Option FieldType} {hh : List (Nat × Nat × Nat × Nat)}
    (hM : vx_Met l y ws rm Pc Qc XC mc ms free) (hblind : FrameBlind Pc) (hrc : rm.cells = mc) (hrs : rm.slots = ms)
    (hframes : rm.frames + 1 ≤ R.frames) (hlocals : W9 + (maxL + 11) + rm.locals ≤ R.locals)
    (hws : ∀ w ∈ ws, ∀ a' U, s.WarmedH U.vm → w.before a' U = true) (hcode : Cond.codeWith y bytes maxL ret hh ∈ ws) (hinit : ∀ a' U, s.WarmedH U.vm → (Cond.initialized y.cls).before a' U = true) :
    vx_Back l R p e below s sargs y len W9 (PreOf R mc ms Pc) (PostOf Qc mc ms free) (vx_Post XC mc ms free) := by
  intro m meth c A g ig mk a X hg hsize hdg hW hn hp
  have h1 : (headSpec ws rm).pre.before a A.U = true := atoms_intro fun w hw => hws w hw _ _ X.warmed
  have h2 : (Cond.codeWith y bytes maxL ret hh).before a A.U = true := hws _ hcode _ _ X.warmed
  have h3 : (Cond.initialized y.cls).before a A.U = true := hinit _ _ X.warmed
  have h4 : A.cells + (headSpec ws rm).room.cells ≤ R.cells := by rw [show (headSpec ws rm).room.cells = mc from hrc]; exact hp.1
  have h5 : A.slots + (headSpec ws rm).room.slots ≤ R.slots := by rw [show (headSpec ws rm).room.slots = ms from hrs]; exact hp.2.1
  have hPc : Pc a (A.U.calling g mk a) := hblind _ _ _ _ hp.2.2
  obtain ⟨U, Ls, c0, s0⟩ := A
  dsimp only [Pt.U, Pt.locs, Pt.cells, Pt.slots] at h1 h2 h3 h4 h5 X hn hPc ⊢
  obtain ⟨m9, methY, cY, hn9, hmY, hcY, -, hlY, -⟩ := Cond.codeWith_spec h2
  cases Option.some.inj (hn9.symm.trans hn)
  obtain ⟨kY, hkY, -⟩ := className_of_methodNamed hn
  have hinitY : kY.init = .initialized := Cond.initialized_spec (findClass_of_methodNamed hn) hkY h3
  have h : At U g.method c below := by rw [hg]; exact X.here
  have hlocals9 : W9 + (maxL + 11) + (headSpec ws rm).room.locals ≤ R.locals := hlocals
  have happ : (headSpec ws rm).appliesLoose y e.platform (U.calling g mk a) = true :=
    Spec.appliesLoose_calling (g := g) h hdg hn hkY hinitY
      (X.room_calling (g := g) (R' := (headSpec ws rm).room) hsize hmY hcY hframes (by rw [hlY]; omega) h4 h5) h1
  obtain ⟨mid, hmid⟩ := h.above
  have hfr : (U.setTop g).frames = (.java g :: mid) ++ below := by rw [State.frames_setTop' g h.top, hmid]; rfl
  obtain ⟨o, s₂, hsteps, -, hend, hq⟩ := Steps.callFree hM p X.admits X.cas X.clock (acts := []) hfr happ hPc trivial
  have hq' : vx_Q Qc XC mc ms free a (U.calling g mk a) o s₂ := hq
  rw [State.frames_setTop' g h.top] at hend
  obtain ⟨g₀, hg0⟩ := Option.isSome_iff_exists.mp h.top
  obtain ⟨r, hr⟩ := State.topJava?_eq_some.mp hg0
  have hr' : (({ U with heap := s₂.heap, slotsUsed := s₂.slotsUsed } : State).setVm s₂.vm).frames = .java g₀ :: r := hr
  rcases hq' with ⟨hqc, L, hfe, hL⟩ | ⟨q, rfl, E, ce, L, hx, hce, hcv, hcl, hW₂, hsm, hL⟩
  · obtain ⟨⟨v, rfl⟩, hW₂, e2, q2, q3, q4, q5, q6⟩ := id hfe
    have e3 : s₂ = ({ (U.calling g mk a).setFrames s₂.frames with heap := s₂.heap, slotsUsed := s₂.slotsUsed } : State).setVm s₂.vm := by
      have : s₂ = ({ s₂ with vm := (U.calling g mk a).vm } : State).setVm s₂.vm := rfl
      rw [e2] at this
      exact this
    obtain ⟨c₂, i₂, len₂, hc₂, hd₂, hf₂⟩ := hend
    have hW' : U.WarmedH s₂.vm := hW₂
    have hcc : c₂ = c := by
      have h1 : s₂.code? g.method = U.code? g.method := by
        rw [State.code?_eq, State.code?_eq, hW'.alike.method?]
      exact Option.some.inj (hc₂.symm.trans (h1.trans h.code))
    subst hcc
    have hlen : len₂ = len := by rw [hdg] at hd₂; cases hd₂; rfl
    subst hlen
    have hs₂ : s₂ = (({ U with heap := s₂.heap, slotsUsed := s₂.slotsUsed } : State).setVm s₂.vm).setTop { g with pc := g.pc + len₂, stack := v.toList ++ g.stack } := by
      refine e3.trans ?_
      rw [hf₂, State.calling_eq h.top, State.setFrames_setFrames, State.setTop_of_frames _ hr', hr]
      rfl
    have hsame : U.sameButNew ({ U with heap := s₂.heap, slotsUsed := s₂.slotsUsed } : State) L mc ms := by
      refine ⟨?_, q2, q3, q4, q5, q6⟩
      obtain ⟨t, ht, -⟩ := State.frames_cons hr
      show ({ U with heap := s₂.heap, slotsUsed := s₂.slotsUsed } : State) = { U.setFrames U.frames with heap := s₂.heap, slotsUsed := s₂.slotsUsed }
      rw [State.setFrames_self ht]
    subst hg
    refine Or.inl ⟨v, ⟨(({ U with heap := s₂.heap, slotsUsed := s₂.slotsUsed } : State).setVm s₂.vm), Ls ++ L, c0 + mc, s0 + ms⟩,
      ⟨X.admits, X.cas, X.clock, X.frames, X.room, X.hears, X.method, X.code, (X.here.setHeapUsed s₂.heap s₂.slotsUsed).setVm hW'.alike, X.tail, State.WarmedH.trans X.warmed hW', X.limits, X.bytes, X.same.trans (hsame.setVm s.vm)⟩,
      ⟨g, mk, s₂, L, rfl, rfl, hqc, rfl, hL, rfl, rfl⟩, ?_⟩
    show Steps p.tables e below _ ((({ U with heap := s₂.heap, slotsUsed := s₂.slotsUsed } : State).setVm s₂.vm).setTop { g with pc := g.pc + len₂, stack := v.toList ++ g.stack })
    rw [← hs₂]
    exact hsteps
  · obtain ⟨e2, q2, q3, q4, q5, q6⟩ := id hsm
    have e3 : s₂ = ({ (U.calling g mk a).setFrames s₂.frames with heap := s₂.heap, slotsUsed := s₂.slotsUsed } : State).setVm s₂.vm := by
      have : s₂ = ({ s₂ with vm := (U.calling g mk a).vm } : State).setVm s₂.vm := rfl
      rw [e2] at this
      exact this
    have hf₂ : s₂.frames = .throwing q :: .java g :: U.frames.tail := hend
    have hW' : U.WarmedH s₂.vm := hW₂
    have hs₂ : s₂ = ((({ U with heap := s₂.heap, slotsUsed := s₂.slotsUsed } : State).setVm s₂.vm).setTop g).pushFrame (.throwing q) := by
      refine e3.trans ?_
      rw [hf₂, State.calling_eq h.top, State.setFrames_setFrames, State.pushFrame, State.frames_setTop _ hr', State.setTop_of_frames _ hr', State.setFrames_setFrames, hr]
      rfl
    have hsame : U.sameButNew ({ U with heap := s₂.heap, slotsUsed := s₂.slotsUsed } : State) L mc ms := by
      refine ⟨?_, q2, q3, q4, q5, q6⟩
      obtain ⟨t, ht, -⟩ := State.frames_cons hr
      show ({ U with heap := s₂.heap, slotsUsed := s₂.slotsUsed } : State) = { U.setFrames U.frames with heap := s₂.heap, slotsUsed := s₂.slotsUsed }
      rw [State.setFrames_self ht]
    subst hg
    refine Or.inr ⟨q, ⟨(({ U with heap := s₂.heap, slotsUsed := s₂.slotsUsed } : State).setVm s₂.vm), Ls ++ L, c0 + mc, s0 + ms⟩,
      ⟨X.admits, X.cas, X.clock, X.frames, X.room, X.hears, X.method, X.code, (X.here.setHeapUsed s₂.heap s₂.slotsUsed).setVm hW'.alike, X.tail, State.WarmedH.trans X.warmed hW', X.limits, X.bytes, X.same.trans (hsame.setVm s.vm)⟩,
      ⟨g, mk, s₂, L, E, ce, rfl, rfl, hx, hce, hcv, hcl, rfl, hL, rfl, rfl⟩, ?_⟩
    show Steps p.tables e below _ (((({ U with heap := s₂.heap, slotsUsed := s₂.slotsUsed } : State).setVm s₂.vm).setTop g).pushFrame (.throwing q))
    rw [← hs₂]
    exact hsteps
end
variable {p : Program} {l : Launch} {e : Env} {R : Room} {s : State} {m : MethodId} {args : Array Value} {below : List Frame} {meth : Method} {c : Code} {T : State} {H : Heap} {locs : List Loc} {cells slots : Nat}
theorem vx_callVX (X : Stand p l e R s m args below meth c T locs cells slots) (hexec : p.tables.exec = Jvm.exec) {own C : String} {index : Nat} {y : MethodName} {bytes : ByteArray} {maxL : Nat} {ret : Option FieldType} {hh : List (Nat × Nat × Nat × Nat)}
    (hown : s.vm.findClass own = some m.cls) (hlink : (Cond.methodLink own index y).before args s = true) (hinst : (Cond.instanceMethod y).before args s = true) (hsel : (Cond.selects C y y).before args s = true)
    (hcode : (Cond.codeWith y bytes maxL ret hh).before args s = true) (hy : y.cls ≠ "java/lang/invoke/MethodHandle" ∧ y.cls ≠ "java/lang/invoke/VarHandle")
    {W9 : Nat} {Pre : Pt → Array Value → Prop} {Post : Pt → Array Value → Option Value → Pt → Prop} {PostX : Pt → Array Value → Addr → Pt → Prop} (hK : vx_Back l R p e below s args y 3 W9 Pre Post PostX)
    {b : Addr} {cellB : Cell} (hcell : T.heap[b]? = some cellB) (hobj : cellB.vm.isStatics = false) (hcls : s.vm.findClass C = some cellB.cls)
    {g : JFrame} (hg : g.method = m) (hsize : g.locals.size = c.maxLocals) {argsL rest : List Value} (hlen : ∀ sig, parseMethodDescriptor y.desc = some sig → argsL.length = sig.parameters.length)
    (hstack : g.stack = argsL.reverse ++ .ref b :: rest) (hW : 2 * g.monitorRoom + (rest.map fun v => v.category).sum ≤ W9) (hdg : decode c.code g.pc = .ok (.invokevirtual index, 3))
    (hpre : ∀ vm₁, s.WarmedH vm₁ → Pre ⟨T.setVm vm₁, locs, cells, slots⟩ (Value.ref b :: argsL).toArray) :
    (∃ (v : Option Value) (vm₁ : Vm) (B : Pt), s.WarmedH vm₁ ∧ Stand p l e R s m args below meth c B.U B.locs B.cells B.slots ∧ Post ⟨T.setVm vm₁, locs, cells, slots⟩ (Value.ref b :: argsL).toArray v B ∧
      ∀ target, Steps p.tables e below (B.U.setTop { g with pc := g.pc + 3, stack := v.toList ++ rest }) target → Steps p.tables e below (T.setTop g) target) ∨
    (∃ (q : Addr) (vm₁ : Vm) (B : Pt), s.WarmedH vm₁ ∧ Stand p l e R s m args below meth c B.U B.locs B.cells B.slots ∧ PostX ⟨T.setVm vm₁, locs, cells, slots⟩ (Value.ref b :: argsL).toArray q B ∧
      Steps p.tables e below (T.setTop g) ((B.U.setTop { g with stack := rest }).pushFrame (.throwing q))) := by
  obtain ⟨mk, methM, hnamed, hmethM, hstM, habM⟩ := Cond.instanceMethod_spec hinst
  obtain ⟨m8, methM', cM, hn8, hmethM', -, -, -, -, -, -, hsigM⟩ := Cond.codeWith_spec hcode
  cases Option.some.inj (hn8.symm.trans hnamed)
  cases hmethM.symm.trans hmethM'
  obtain ⟨c2, r2, m2, q1, q2, q3, q4, kP, hkP, hkPi⟩ := Cond.selects_spec hsel
  cases hcls.symm.trans q1
  cases (State.methodFound?_of_named hnamed hy).symm.trans q2
  cases hnamed.symm.trans q3
  have hselP : selectMethod e.platform s.vm cellB.cls mk = .method mk := by rw [Launch.admits_selectMethod X.admits]; exact q4
  obtain ⟨vm₁, X₁, hstep₁⟩ := X.invokevirtual hexec hown hlink hnamed hmethM hstM hkP hkPi hy (a := b) (cell := cellB) hcell
    (fun z h => by rw [h] at hobj; cases hobj) hselP hmethM habM hkP hkPi (g := g) hg (argsL := argsL) (rest := rest) (hlen _ hsigM) hstack hdg
  rcases hK m meth c ⟨T.setVm vm₁, locs, cells, slots⟩ { g with stack := rest } (.invokevirtual index) mk (Value.ref b :: argsL).toArray X₁ hg hsize hdg hW (X₁.named hnamed) (hpre vm₁ X₁.warmed) with ⟨v, B, X', hpost, hsteps⟩ | ⟨q, B, X', hpost, hsteps⟩
  · exact Or.inl ⟨v, vm₁, B, X₁.warmed, X', hpost, fun target h => hstep₁ _ fun acts => by rw [doInvoke_state]; exact hsteps.trans h⟩
  · exact Or.inr ⟨q, vm₁, B, X₁.warmed, X', hpost, hstep₁ _ fun acts => by rw [doInvoke_state]; exact hsteps⟩
theorem vx_callSX (X : Stand p l e R s m args below meth c T locs cells slots) (hexec : p.tables.exec = Jvm.exec) {own : String} {index : Nat} {y : MethodName} {bytes : ByteArray} {maxL : Nat} {ret : Option FieldType} {hh : List (Nat × Nat × Nat × Nat)}
    (hown : s.vm.findClass own = some m.cls) (hlink : (Cond.methodLink own index y).before args s = true) (hstat : (Cond.static y).before args s = true) (hinit : (Cond.initialized y.cls).before args s = true)
    (hcode : (Cond.codeWith y bytes maxL ret hh).before args s = true) (hy : y.cls ≠ "java/lang/invoke/MethodHandle" ∧ y.cls ≠ "java/lang/invoke/VarHandle")
    {W9 : Nat} {Pre : Pt → Array Value → Prop} {Post : Pt → Array Value → Option Value → Pt → Prop} {PostX : Pt → Array Value → Addr → Pt → Prop} (hK : vx_Back l R p e below s args y 3 W9 Pre Post PostX)
    {g : JFrame} (hg : g.method = m) (hsize : g.locals.size = c.maxLocals) {argsL rest : List Value} (hlen : ∀ sig, parseMethodDescriptor y.desc = some sig → argsL.length = sig.parameters.length)
    (hstack : g.stack = argsL.reverse ++ rest) (hW : 2 * g.monitorRoom + (rest.map fun v => v.category).sum ≤ W9) (hdg : decode c.code g.pc = .ok (.invokestatic index, 3))
    (hpre : ∀ vm₁, s.WarmedH vm₁ → Pre ⟨T.setVm vm₁, locs, cells, slots⟩ argsL.toArray) :
    (∃ (v : Option Value) (vm₁ : Vm) (B : Pt), s.WarmedH vm₁ ∧ Stand p l e R s m args below meth c B.U B.locs B.cells B.slots ∧ Post ⟨T.setVm vm₁, locs, cells, slots⟩ argsL.toArray v B ∧
      ∀ target, Steps p.tables e below (B.U.setTop { g with pc := g.pc + 3, stack := v.toList ++ rest }) target → Steps p.tables e below (T.setTop g) target) ∨
    (∃ (q : Addr) (vm₁ : Vm) (B : Pt), s.WarmedH vm₁ ∧ Stand p l e R s m args below meth c B.U B.locs B.cells B.slots ∧ PostX ⟨T.setVm vm₁, locs, cells, slots⟩ argsL.toArray q B ∧
      Steps p.tables e below (T.setTop g) ((B.U.setTop { g with stack := rest }).pushFrame (.throwing q))) := by
  obtain ⟨mk, methM, cM, hnamed, hmethM, -, -, -, -, -, -, hsigM⟩ := Cond.codeWith_spec hcode
  have hstatic : methM.isStatic = true := Cond.static_spec hnamed hmethM hstat
  obtain ⟨kP, hkP, -⟩ := className_of_methodNamed hnamed
  have hinitP : kP.init = .initialized := Cond.initialized_spec (findClass_of_methodNamed hnamed) hkP hinit
  obtain ⟨vm₁, X₁, hstep₁⟩ := X.invokestatic hexec hown hlink hnamed hmethM hstatic hkP hinitP hy (g := g) hg (argsL := argsL) (rest := rest) (hlen _ hsigM) hstack hdg
  rcases hK m meth c ⟨T.setVm vm₁, locs, cells, slots⟩ { g with stack := rest } (.invokestatic index) mk argsL.toArray X₁ hg hsize hdg hW (X₁.named hnamed) (hpre vm₁ X₁.warmed) with ⟨v, B, X', hpost, hsteps⟩ | ⟨q, B, X', hpost, hsteps⟩
  · exact Or.inl ⟨v, vm₁, B, X₁.warmed, X', hpost, fun target h => hstep₁ _ fun acts => by rw [doInvoke_state]; exact hsteps.trans h⟩
  · exact Or.inr ⟨q, vm₁, B, X₁.warmed, X', hpost, hstep₁ _ fun acts => by rw [doInvoke_state]; exact hsteps⟩
theorem vx_callVW (X : Stand p l e R s m args below meth c T locs cells slots) (hexec : p.tables.exec = Jvm.exec) {own C : String} {index : Nat} {y : MethodName} {bytes : ByteArray} {maxL : Nat} {ret : Option FieldType} {hh : List (Nat × Nat × Nat × Nat)}
    (hown : s.vm.findClass own = some m.cls) (hlink : (Cond.methodLink own index y).before args s = true) (hinst : (Cond.instanceMethod y).before args s = true) (hsel : (Cond.selects C y y).before args s = true)
    (hcode : (Cond.codeWith y bytes maxL ret hh).before args s = true) (hy : y.cls ≠ "java/lang/invoke/MethodHandle" ∧ y.cls ≠ "java/lang/invoke/VarHandle")
    {W9 : Nat} {Pre : Pt → Array Value → Prop} {Post : Pt → Array Value → Option Value → Pt → Prop} (hK : Back l R p e below s args y 3 W9 Pre Post)
    {b : Addr} {cellB : Cell} (hcell : T.heap[b]? = some cellB) (hobj : cellB.vm.isStatics = false) (hcls : s.vm.findClass C = some cellB.cls)
    {g : JFrame} (hg : g.method = m) (hsize : g.locals.size = c.maxLocals) {argsL rest : List Value} (hlen : ∀ sig, parseMethodDescriptor y.desc = some sig → argsL.length = sig.parameters.length)
    (hstack : g.stack = argsL.reverse ++ .ref b :: rest) (hW : 2 * g.monitorRoom + (rest.map fun v => v.category).sum ≤ W9) (hdg : decode c.code g.pc = .ok (.invokevirtual index, 3))
    (hpre : ∀ vm₁, s.WarmedH vm₁ → Pre ⟨T.setVm vm₁, locs, cells, slots⟩ (Value.ref b :: argsL).toArray) :
    ∃ (v : Option Value) (vm₁ : Vm) (B : Pt), s.WarmedH vm₁ ∧ Stand p l e R s m args below meth c B.U B.locs B.cells B.slots ∧ Post ⟨T.setVm vm₁, locs, cells, slots⟩ (Value.ref b :: argsL).toArray v B ∧
      ∀ target, Steps p.tables e below (B.U.setTop { g with pc := g.pc + 3, stack := v.toList ++ rest }) target → Steps p.tables e below (T.setTop g) target := by
  obtain ⟨mk, methM, hnamed, hmethM, hstM, habM⟩ := Cond.instanceMethod_spec hinst
  obtain ⟨m8, methM', cM, hn8, hmethM', -, -, -, -, -, -, hsigM⟩ := Cond.codeWith_spec hcode
  cases Option.some.inj (hn8.symm.trans hnamed)
  cases hmethM.symm.trans hmethM'
  obtain ⟨c2, r2, m2, q1, q2, q3, q4, kP, hkP, hkPi⟩ := Cond.selects_spec hsel
  cases hcls.symm.trans q1
  cases (State.methodFound?_of_named hnamed hy).symm.trans q2
  cases hnamed.symm.trans q3
  have hselP : selectMethod e.platform s.vm cellB.cls mk = .method mk := by rw [Launch.admits_selectMethod X.admits]; exact q4
  obtain ⟨vm₁, X₁, hstep₁⟩ := X.invokevirtual hexec hown hlink hnamed hmethM hstM hkP hkPi hy (a := b) (cell := cellB) hcell
    (fun z h => by rw [h] at hobj; cases hobj) hselP hmethM habM hkP hkPi (g := g) hg (argsL := argsL) (rest := rest) (hlen _ hsigM) hstack hdg
  obtain ⟨v, B, X', hpost, hsteps⟩ := hK m meth c ⟨T.setVm vm₁, locs, cells, slots⟩ { g with stack := rest } (.invokevirtual index) mk (Value.ref b :: argsL).toArray X₁ hg hsize hdg hW (X₁.named hnamed) (hpre vm₁ X₁.warmed)
  exact ⟨v, vm₁, B, X₁.warmed, X', hpost, fun target h => hstep₁ _ fun acts => by rw [doInvoke_state]; exact hsteps.trans h⟩
abbrev vx_CVW (R : Room) (s : State) (args : Array Value) (own C : String) (index : Nat) (y : MethodName) (bytes : ByteArray) (maxL : Nat) (ret : Option FieldType) (hh : List (Nat × Nat × Nat × Nat)) (ws : List Cond) (rm : Room) (mc ms n : Nat) : Prop :=
  (rm.cells = mc ∧ rm.slots = ms ∧ rm.frames + 1 ≤ R.frames ∧ 8 + (maxL + 11) + rm.locals ≤ R.locals ∧ (∀ w ∈ ws, ∀ (a' : Array Value) (U : State), s.WarmedH U.vm → w.before a' U = true) ∧ Cond.codeWith y bytes maxL ret hh ∈ ws) ∧
  (Cond.codeWith y bytes maxL ret hh).before args s = true ∧ (Cond.initialized y.cls).before args s = true ∧ (y.cls ≠ "java/lang/invoke/MethodHandle" ∧ y.cls ≠ "java/lang/invoke/VarHandle") ∧
  (∀ sig, parseMethodDescriptor y.desc = some sig → n = sig.parameters.length) ∧ (Cond.methodLink own index y).before args s = true ∧ (Cond.instanceMethod y).before args s = true ∧ (Cond.selects C y y).before args s = true
theorem vx_cwVW {own C : String} {index maxL mc ms : Nat} {y : MethodName} {bytes : ByteArray} {ret : Option FieldType} {hh : List (Nat × Nat × Nat × Nat)} {Ts ws ws' : List Cond} {rm : Room} (n : Nat) (ht : ∀ w ∈ Ts, w.before args s = true) (hT : GoodIn Ts (wsV own index C y ws)) (hw : ws = Cond.codeWith y bytes maxL ret hh :: ws') (hrc : rm.cells = mc) (hrs : rm.slots = ms)
    (hd : y.cls = C ∧ y.cls ≠ "java/lang/invoke/MethodHandle" ∧ y.cls ≠ "java/lang/invoke/VarHandle" ∧ (parseMethodDescriptor y.desc).map (fun d => d.parameters.length) = some n) (hR : rm.frames + 1 ≤ R.frames ∧ 8 + (maxL + 11) + rm.locals ≤ R.locals) :
    vx_CVW R s args own C index y bytes maxL ret hh ws rm mc ms n := by
  obtain ⟨hC, hd⟩ := hd
  subst hC
  have ok : ∀ w ∈ wsV own index y.cls y ws, w.before args s = true := fun w h => ht w (hT w h).1
  have hG : GoodIn Ts ws := fun w h => hT w (by unfold wsV; exact List.mem_append_right _ h)
  have hc : Cond.codeWith y bytes maxL ret hh ∈ ws := by rw [hw]; exact List.mem_cons_self
  refine ⟨⟨hrc, hrs, hR.1, hR.2, pay_in ht hG, hc⟩, ht _ (hG _ hc).1, ok _ (by simp [wsV]), ⟨hd.1, hd.2.1⟩, fun sig h => ?_, ok _ (by simp [wsV]), ok _ (by simp [wsV]), ok _ (by simp [wsV])⟩
  have h2 := hd.2.2
  rw [h] at h2
  exact (Option.some.inj h2).symm
theorem vx_runVW {y : MethodName} {bytes cc : ByteArray} {maxL nL mc ms n index : Nat} {ret : Option FieldType} {hh : List (Nat × Nat × Nat × Nat)} {ws : List Cond} {rm : Room} {Pc : Array Value → State → Prop} {Qc : Array Value → State → Outcome → State → Prop} {free : Addr → Prop} {Ts : List Cond} {own C : String} {b : Addr} {As rest : List Value} {g : JFrame}
    (S : CallFix p m c cc nL s args Ts own) (hM : Met l y ws rm Pc Qc mc ms free) (cw : vx_CVW R s args own C index y bytes maxL ret hh ws rm mc ms n) (hp : PreV s H C b Pc As)
    (hg : g.method = m) (hn : As.length = n) (hsize : g.locals.size = nL) (hstack : g.stack = As.reverse ++ .ref b :: rest) (hW : 2 * g.monitorRoom + (rest.map fun v => v.category).sum ≤ 8) (hdg : decode cc g.pc = .ok (.invokevirtual index, 3)) (hf : cells + mc ≤ R.cells ∧ slots + ms ≤ R.slots) :
    va_Run p l e R s m args below meth c H locs cells slots mc ms g rest (Qc (Value.ref b :: As).toArray) free := by
  obtain ⟨⟨hrc, hrs, hfr, hlo, hws, hcw⟩, hcode, hini, hy, hlen, hl, hin, hse⟩ := cw
  have hK : Back l R p e below s args y 3 8 (PreOf R mc ms Pc) (PostOf Qc mc ms free) := va_backW (hh := hh) (bytes := bytes) (maxL := maxL) (ret := ret) hM hp.1 hrc hrs hfr hlo hws hcw (fun a' U hW => word_at hW (Or.inl (by first | rfl | simp [Cond.onTables, Cond.keeps, Cond.steady])) hini)
  obtain ⟨hx, hb, hml, ho, -⟩ := S
  obtain ⟨-, ⟨cellB, hcB, hoB, hclB⟩, hPc⟩ := hp
  intro T hT X
  obtain ⟨v, vm₁, ⟨U', l2, c2, s2⟩, hW₁, X', ⟨g', mk, t, L, e1, e2, hq, h1, hL, h2, h3⟩, st⟩ := vx_callVW X hx (C := C) (hh := hh) (bytes := bytes) (maxL := maxL) (ret := ret) ho hl hin hse hcode hy hK (by rw [hT]; exact hcB) hoB hclB hg (hsize.trans hml.symm) (argsL := As) (rest := rest) (fun sig h => hn.trans (hlen sig h)) hstack hW (by rw [hb]; exact hdg)
    (fun vm₁ hW₁ => ⟨hf.1, hf.2, hPc (T.setVm vm₁) hT hW₁⟩)
  dsimp only [Pt.U, Pt.locs, Pt.cells, Pt.slots] at X' e1 e2 h1 h2 h3 st
  subst h1; subst h2; subst h3
  exact ⟨v, (T.setVm vm₁).calling g' mk (Value.ref b :: As).toArray, t, U', L, hT, X', hL, e1, e2, hq, st⟩
section
variable {y : MethodName} {bytes cc : ByteArray} {maxL nL mc ms n index : Nat} {ret : Option FieldType} {ws : List Cond} {rm : Room} {Pc : Array Value → State → Prop} {Qc : Array Value → State → Outcome → State → Prop} {XC : String → State → State → Prop} {free : Addr → Prop} {Ts : List Cond} {own C : String} {b : Addr} {As rest : List Value} {g : JFrame}
theorem vx_runVX {hh : List (Nat × Nat × Nat × Nat)} (S : CallFix p m c cc nL s args Ts own) (hM : vx_Met l y ws rm Pc Qc XC mc ms free) (cw : vx_CVW R s args own C index y bytes maxL ret hh ws rm mc ms n) (hp : PreV s H C b Pc As)
    (hg : g.method = m) (hn : As.length = n) (hsize : g.locals.size = nL) (hstack : g.stack = As.reverse ++ .ref b :: rest) (hW : 2 * g.monitorRoom + (rest.map fun v => v.category).sum ≤ 8) (hdg : decode cc g.pc = .ok (.invokevirtual index, 3)) (hf : cells + mc ≤ R.cells ∧ slots + ms ≤ R.slots) :
    vx_Run p l e R s m args below meth c H locs cells slots mc ms g rest (Qc (Value.ref b :: As).toArray) XC free := by
  obtain ⟨⟨hrc, hrs, hfr, hlo, hws, hcw⟩, hcode, hini, hy, hlen, hl, hin, hse⟩ := cw
  have hK : vx_Back l R p e below s args y 3 8 (PreOf R mc ms Pc) (PostOf Qc mc ms free) (vx_Post XC mc ms free) := vx_backW (hh := hh) (bytes := bytes) (maxL := maxL) (ret := ret) hM hp.1 hrc hrs hfr hlo hws hcw (fun a' U hW => word_at hW (Or.inl (by first | rfl | simp [Cond.onTables, Cond.keeps, Cond.steady])) hini)
  obtain ⟨hx, hb, hml, ho, -⟩ := S
  obtain ⟨-, ⟨cellB, hcB, hoB, hclB⟩, hPc⟩ := hp
  intro T hT X
  rcases vx_callVX X hx (C := C) (hh := hh) (bytes := bytes) (maxL := maxL) (ret := ret) ho hl hin hse hcode hy hK (by rw [hT]; exact hcB) hoB hclB hg (hsize.trans hml.symm) (argsL := As) (rest := rest) (fun sig h => hn.trans (hlen sig h)) hstack hW (by rw [hb]; exact hdg)
    (fun vm₁ hW₁ => ⟨hf.1, hf.2, hPc (T.setVm vm₁) hT hW₁⟩) with ⟨v, vm₁, ⟨U', l2, c2, s2⟩, hW₁, X', ⟨g', mk, t, L, e1, e2, hq, h1, hL, h2, h3⟩, st⟩ | ⟨q, vm₁, ⟨U', l2, c2, s2⟩, hW₁, X', ⟨g', mk, t, L, E, ce, e1, e2, hq, hce, hcv, hcl, h1, hL, h2, h3⟩, st⟩
  · dsimp only [Pt.U, Pt.locs, Pt.cells, Pt.slots] at X' e1 e2 h1 h2 h3 st
    subst h1; subst h2; subst h3
    exact Or.inl ⟨v, (T.setVm vm₁).calling g' mk (Value.ref b :: As).toArray, t, U', L, hT, X', hL, e1, e2, hq, st⟩
  · dsimp only [Pt.U, Pt.locs, Pt.cells, Pt.slots] at X' e1 e2 h1 h2 h3 st hcl
    subst h1; subst h2; subst h3
    exact Or.inr ⟨q, (T.setVm vm₁).calling g' mk (Value.ref b :: As).toArray, t, U', L, E, ce, hT, X', hL, e1, e2, hq, hce, hcv, vx_cls hW₁ hcl, st⟩
theorem vx_runSX {hh : List (Nat × Nat × Nat × Nat)} (S : CallFix p m c cc nL s args Ts own) (hM : vx_Met l y ws rm Pc Qc XC mc ms free) (cw : vx_CSW R s args own index y bytes maxL ret hh ws rm mc ms n) (hp : PreS s H Pc As)
    (hg : g.method = m) (hn : As.length = n) (hsize : g.locals.size = nL) (hstack : g.stack = As.reverse ++ rest) (hW : 2 * g.monitorRoom + (rest.map fun v => v.category).sum ≤ 8) (hdg : decode cc g.pc = .ok (.invokestatic index, 3)) (hf : cells + mc ≤ R.cells ∧ slots + ms ≤ R.slots) :
    vx_Run p l e R s m args below meth c H locs cells slots mc ms g rest (Qc As.toArray) XC free := by
  obtain ⟨⟨hrc, hrs, hfr, hlo, hws, hcw⟩, hcode, hini, hy, hlen, hl, hstt⟩ := cw
  have hK : vx_Back l R p e below s args y 3 8 (PreOf R mc ms Pc) (PostOf Qc mc ms free) (vx_Post XC mc ms free) := vx_backW (hh := hh) (bytes := bytes) (maxL := maxL) (ret := ret) hM hp.1 hrc hrs hfr hlo hws hcw (fun a' U hW => word_at hW (Or.inl (by first | rfl | simp [Cond.onTables, Cond.keeps, Cond.steady])) hini)
  obtain ⟨hx, hb, hml, ho, -⟩ := S
  intro T hT X
  rcases vx_callSX X hx (hh := hh) (bytes := bytes) (maxL := maxL) (ret := ret) ho hl hstt hini hcode hy hK hg (hsize.trans hml.symm) (argsL := As) (rest := rest) (fun sig h => hn.trans (hlen sig h)) hstack hW (by rw [hb]; exact hdg)
    (fun vm₁ hW₁ => ⟨hf.1, hf.2, hp.2 (T.setVm vm₁) hT hW₁⟩) with ⟨v, vm₁, ⟨U', l2, c2, s2⟩, hW₁, X', ⟨g', mk, t, L, e1, e2, hq, h1, hL, h2, h3⟩, st⟩ | ⟨q, vm₁, ⟨U', l2, c2, s2⟩, hW₁, X', ⟨g', mk, t, L, E, ce, e1, e2, hq, hce, hcv, hcl, h1, hL, h2, h3⟩, st⟩
  · dsimp only [Pt.U, Pt.locs, Pt.cells, Pt.slots] at X' e1 e2 h1 h2 h3 st
    subst h1; subst h2; subst h3
    exact Or.inl ⟨v, (T.setVm vm₁).calling g' mk As.toArray, t, U', L, hT, X', hL, e1, e2, hq, st⟩
  · dsimp only [Pt.U, Pt.locs, Pt.cells, Pt.slots] at X' e1 e2 h1 h2 h3 st hcl
    subst h1; subst h2; subst h3
    exact Or.inr ⟨q, (T.setVm vm₁).calling g' mk As.toArray, t, U', L, E, ce, hT, X', hL, e1, e2, hq, hce, hcv, vx_cls hW₁ hcl, st⟩
end
end VXH
theorem vx_ofWH {l : Launch} {y : MethodName} {ws ws' : List Cond} {rm : Room} {Pc : Array Value → State → Prop} {Qc : Array Value → State → Outcome → State → Prop} {XC : String → State → State → Prop} {mc ms : Nat} {free : Addr → Prop} {cc : ByteArray} {maxL : Nat} {ret : Option FieldType} {hh : List (Nat × Nat × Nat × Nat)}
    (hy : plainName y.cls = true) (hw : ws = Cond.codeWith y cc maxL ret hh :: ws')
    (body : ∀ p e s m args below meth c s₁, BodyLoose p l y (headSpec ws rm) cc maxL ret e s m args below meth c s₁ → c.maxLocals = maxL → Pc args s →
      W p l e (headSpec ws rm).room s m args below meth c s.heap [] 0 0 (vx_MQ below Qc XC args s mc ms free) (entryFrame m args maxL)) : vx_Met l y ws rm Pc Qc XC mc ms free := by
  refine MetFree.of_bodyS (code := cc) (maxLocals := maxL) (ret := ret) hy ?_ ?_
  · intro args s m h hn
    obtain ⟨m9, meth, c, hn9, h1, h2, h3, h4, -, h5, h6, -⟩ := Cond.codeWith_spec (atoms_spec (ws := ws) h _ (by rw [hw]; exact List.mem_cons_self))
    cases hn.symm.trans hn9
    exact ⟨meth, c, h1, h2, h3, h4, h5, h6⟩
  · intro p e s m args below meth c s₁ B hml hP _
    have hh0 : s₁.heap = s.heap := by rw [B.state]; rfl
    obtain ⟨t, a1, o, b1, b2, b3⟩ := body p e s m args below meth c s₁ B hml hP s₁ hh0 (Stand.of_body B)
    exact ⟨t, o, a1, b1, b2, b3⟩
/-! ===== END ===== -/
end
section
/-! names, by program (wip/whole/gen/lay1.py) out of the task's papers -/
def RX0 : String := "CaptionLines$Captions"
def TX0 : u_T := fun k => match k with
  | 0 => ("CaptionLines$Captions", "versions", "[LCaptionLines$Row;", true)
  | 1 => ("CaptionLines$Captions", "versionCounts", "[I", true)
  | 2 => ("CaptionLines$Captions", "fallbacks", "[I", true)
  | _ => ("CaptionLines$Captions", "total", "I", false)
def tyX0 : Nat → FieldType := fun k => match k with
  | 0 => .array (.object "CaptionLines$Row")
  | 1 => .array .int
  | 2 => .array .int
  | _ => .int
theorem nmX0 : ∀ a, a < 4 → ∀ b, b < 4 → a ≠ b → (TX0 a).2.1 ≠ (TX0 b).2.1 := by decide +kernel
theorem tyX0_ok : ∀ k, k < 4 → parseFieldDescriptor (TX0 k).2.2.1 = some (tyX0 k) := by decide +kernel
def RX1 : String := "CaptionLines$Contractions"
def TX1 : u_T := fun k => match k with
  | 0 => ("CaptionLines$Contractions", "rows", "[LCaptionLines$Row;", true)
  | _ => ("CaptionLines$Contractions", "total", "I", false)
def tyX1 : Nat → FieldType := fun k => match k with
  | 0 => .array (.object "CaptionLines$Row")
  | _ => .int
theorem nmX1 : ∀ a, a < 2 → ∀ b, b < 2 → a ≠ b → (TX1 a).2.1 ≠ (TX1 b).2.1 := by decide +kernel
theorem tyX1_ok : ∀ k, k < 2 → parseFieldDescriptor (TX1 k).2.2.1 = some (tyX1 k) := by decide +kernel
def RX2 : String := "CaptionLines$Rooms"
def TX2 : u_T := fun k => match k with
  | 0 => ("CaptionLines$Rooms", "joined", "[I", true)
  | _ => ("CaptionLines$Rooms", "ways", "I", false)
def tyX2 : Nat → FieldType := fun k => match k with
  | 0 => .array .int
  | _ => .int
theorem nmX2 : ∀ a, a < 2 → ∀ b, b < 2 → a ≠ b → (TX2 a).2.1 ≠ (TX2 b).2.1 := by decide +kernel
theorem tyX2_ok : ∀ k, k < 2 → parseFieldDescriptor (TX2 k).2.2.1 = some (tyX2 k) := by decide +kernel
def RX3 : String := "CaptionLines$Row"
def TX3 : u_T := fun k => match k with
  | 0 => ("CaptionLines$Row", "items", "[I", true)
  | _ => ("CaptionLines$Row", "length", "I", false)
def tyX3 : Nat → FieldType := fun k => match k with
  | 0 => .array .int
  | _ => .int
theorem nmX3 : ∀ a, a < 2 → ∀ b, b < 2 → a ≠ b → (TX3 a).2.1 ≠ (TX3 b).2.1 := by decide +kernel
theorem tyX3_ok : ∀ k, k < 2 → parseFieldDescriptor (TX3 k).2.2.1 = some (tyX3 k) := by decide +kernel
def RX4 : String := "CaptionLines$Setting"
def TX4 : u_T := fun k => match k with
  | 0 => ("CaptionLines$Setting", "wordBegins", "[I", true)
  | 1 => ("CaptionLines$Setting", "wordEnds", "[I", true)
  | 2 => ("CaptionLines$Setting", "words", "I", false)
  | 3 => ("CaptionLines$Setting", "leastFrom", "[I", true)
  | 4 => ("CaptionLines$Setting", "nextFirst", "[I", true)
  | 5 => ("CaptionLines$Setting", "lineBegins", "[I", true)
  | 6 => ("CaptionLines$Setting", "lineSigns", "[I", true)
  | 7 => ("CaptionLines$Setting", "lines", "I", false)
  | _ => ("CaptionLines$Setting", "sum", "I", false)
def tyX4 : Nat → FieldType := fun k => match k with
  | 0 => .array .int
  | 1 => .array .int
  | 2 => .int
  | 3 => .array .int
  | 4 => .array .int
  | 5 => .array .int
  | 6 => .array .int
  | 7 => .int
  | _ => .int
theorem nmX4 : ∀ a, a < 9 → ∀ b, b < 9 → a ≠ b → (TX4 a).2.1 ≠ (TX4 b).2.1 := by decide +kernel
theorem tyX4_ok : ∀ k, k < 9 → parseFieldDescriptor (TX4 k).2.2.1 = some (tyX4 k) := by decide +kernel
def RX5 : String := "CaptionLines$Zones"
def TX5 : u_T := fun k => match k with
  | 0 => ("CaptionLines$Zones", "xs", "[I", true)
  | 1 => ("CaptionLines$Zones", "ys", "[I", true)
  | 2 => ("CaptionLines$Zones", "radii", "[I", true)
  | _ => ("CaptionLines$Zones", "total", "I", false)
def tyX5 : Nat → FieldType := fun k => match k with
  | 0 => .array .int
  | 1 => .array .int
  | 2 => .array .int
  | _ => .int
theorem nmX5 : ∀ a, a < 4 → ∀ b, b < 4 → a ≠ b → (TX5 a).2.1 ≠ (TX5 b).2.1 := by decide +kernel
theorem tyX5_ok : ∀ k, k < 4 → parseFieldDescriptor (TX5 k).2.2.1 = some (tyX5 k) := by decide +kernel
def RX6 : String := "CaptionLines"
def TX6 : u_T := fun k => match k with
  | 0 => ("CaptionLines", "pad", "LCaptionLines$Row;", true)
  | 1 => ("CaptionLines", "captions", "LCaptionLines$Captions;", true)
  | 2 => ("CaptionLines", "setting", "LCaptionLines$Setting;", true)
  | 3 => ("CaptionLines", "contractions", "LCaptionLines$Contractions;", true)
  | 4 => ("CaptionLines", "latestCells", "LCaptionLines$Row;", true)
  | 5 => ("CaptionLines", "zones", "LCaptionLines$Zones;", true)
  | _ => ("CaptionLines", "rooms", "LCaptionLines$Rooms;", true)
def tyX6 : Nat → FieldType := fun k => match k with
  | 0 => .object "CaptionLines$Row"
  | 1 => .object "CaptionLines$Captions"
  | 2 => .object "CaptionLines$Setting"
  | 3 => .object "CaptionLines$Contractions"
  | 4 => .object "CaptionLines$Row"
  | 5 => .object "CaptionLines$Zones"
  | _ => .object "CaptionLines$Rooms"
theorem nmX6 : ∀ a, a < 7 → ∀ b, b < 7 → a ≠ b → (TX6 a).2.1 ≠ (TX6 b).2.1 := by decide +kernel
theorem tyX6_ok : ∀ k, k < 7 → parseFieldDescriptor (TX6 k).2.2.1 = some (tyX6 k) := by decide +kernel
def RX7 : String := "CaptionLinesModel"
def TX7 : u_T := fun k => match k with
  | 0 => ("CaptionLinesModel", "thrown", "I", false)
  | 1 => ("CaptionLinesModel", "padded", "I", false)
  | 2 => ("CaptionLinesModel", "pad", "[I", true)
  | 3 => ("CaptionLinesModel", "many", "[I", true)
  | 4 => ("CaptionLinesModel", "lengths", "[I", true)
  | 5 => ("CaptionLinesModel", "signs", "[I", true)
  | 6 => ("CaptionLinesModel", "falls", "[I", true)
  | 7 => ("CaptionLinesModel", "words", "I", false)
  | 8 => ("CaptionLinesModel", "begins", "[I", true)
  | 9 => ("CaptionLinesModel", "ends", "[I", true)
  | 10 => ("CaptionLinesModel", "costs", "[I", true)
  | 11 => ("CaptionLinesModel", "takes", "[I", true)
  | 12 => ("CaptionLinesModel", "lines", "I", false)
  | 13 => ("CaptionLinesModel", "squares", "I", false)
  | 14 => ("CaptionLinesModel", "isSet", "Z", false)
  | 15 => ("CaptionLinesModel", "lineBegins", "[I", true)
  | 16 => ("CaptionLinesModel", "lineSigns", "[I", true)
  | 17 => ("CaptionLinesModel", "sizes", "[I", true)
  | 18 => ("CaptionLinesModel", "letters", "[I", true)
  | 19 => ("CaptionLinesModel", "contractions", "I", false)
  | 20 => ("CaptionLinesModel", "cells", "I", false)
  | 21 => ("CaptionLinesModel", "isFelt", "Z", false)
  | 22 => ("CaptionLinesModel", "cellRow", "[I", true)
  | 23 => ("CaptionLinesModel", "zones", "I", false)
  | 24 => ("CaptionLinesModel", "xs", "[I", true)
  | 25 => ("CaptionLinesModel", "ys", "[I", true)
  | 26 => ("CaptionLinesModel", "radii", "[I", true)
  | 27 => ("CaptionLinesModel", "ways", "[Z", true)
  | _ => ("CaptionLinesModel", "far", "[I", true)
def tyX7 : Nat → FieldType := fun k => match k with
  | 0 => .int
  | 1 => .int
  | 2 => .array .int
  | 3 => .array .int
  | 4 => .array .int
  | 5 => .array .int
  | 6 => .array .int
  | 7 => .int
  | 8 => .array .int
  | 9 => .array .int
  | 10 => .array .int
  | 11 => .array .int
  | 12 => .int
  | 13 => .int
  | 14 => .boolean
  | 15 => .array .int
  | 16 => .array .int
  | 17 => .array .int
  | 18 => .array .int
  | 19 => .int
  | 20 => .int
  | 21 => .boolean
  | 22 => .array .int
  | 23 => .int
  | 24 => .array .int
  | 25 => .array .int
  | 26 => .array .int
  | 27 => .array .boolean
  | _ => .array .int
theorem nmX7 : ∀ a, a < 29 → ∀ b, b < 29 → a ≠ b → (TX7 a).2.1 ≠ (TX7 b).2.1 := by decide +kernel
theorem tyX7_ok : ∀ k, k < 29 → parseFieldDescriptor (TX7 k).2.2.1 = some (tyX7 k) := by decide +kernel
def RL : String := "CaptionLinesLaw"
abbrev vwCl : List vw_C := [(RX0, TX0, 4), (RX1, TX1, 2), (RX2, TX2, 2), (RX3, TX3, 2), (RX4, TX4, 9), (RX5, TX5, 4), (RX6, TX6, 7), (RX7, TX7, 29)]
/-- the words that hold wherever the tables have only grown warmer -/
def am_big : List Cond := lw_tbl.filter goodWord
theorem am_good (w : Cond) (h : w ∈ am_big) : (w.onTables && w.keeps) = true ∨ ∃ ty, w = .arrayClass ty := good_of_word (List.mem_filter.mp h).2
theorem am_in {w : Cond} {i : Nat} (h : lw_tbl[i]? = some w) (g : goodWord w = true) : w ∈ am_big := List.mem_filter.mpr ⟨List.mem_of_getElem? h, g⟩
theorem am_bt {w : Cond} (h : w ∈ am_big) : w ∈ lw_tbl := (List.mem_filter.mp h).1
def am_exs : List String := ["java/lang/IndexOutOfBoundsException", "java/lang/IllegalStateException", "java/lang/IllegalArgumentException"]
def am_tys : List FieldType := [.int, .long, .object "CaptionLines$Row", .boolean]
def am_strs : List (String × Nat × String) := [("CaptionLines", 62, "the pad is full"), ("CaptionLines", 73, "no such sign"), ("CaptionLines", 228, "no such caption"), ("CaptionLines", 230, "no such language"), ("CaptionLines", 90, "there are four versions"), ("CaptionLines", 120, "no such version"), ("CaptionLines", 123, "no such place"), ("CaptionLines", 129, "no such width"), ("CaptionLines", 142, "what is neither 0 nor 1"), ("CaptionLines", 144, "no such line"), ("CaptionLines", 162, "the pad is not 2 to 5 letters"), ("CaptionLines", 164, "no cell for a contraction"), ("CaptionLines", 181, "no such cell"), ("CaptionLines", 183, "there are no cells"), ("CaptionLines", 191, "there are 16 zones"), ("CaptionLines", 234, "no such point"), ("CaptionLines", 196, "no such radius"), ("CaptionLines", 232, "no such room"), ("CaptionLines", 210, "the rooms are the same"), ("CaptionLines", 226, "nothing to count")]
def am_over : List Cond := [Cond.arrayOver (.object "CaptionLines$Row")]
def am_ncs : List (String × String) := [("java/lang/IllegalArgumentException", "java/lang/IllegalStateException"), ("java/lang/IllegalArgumentException", "java/lang/IndexOutOfBoundsException"), ("java/lang/IllegalStateException", "java/lang/IllegalArgumentException"), ("java/lang/IllegalStateException", "java/lang/IndexOutOfBoundsException"), ("java/lang/IndexOutOfBoundsException", "java/lang/IllegalArgumentException"), ("java/lang/IndexOutOfBoundsException", "java/lang/IllegalStateException")]
def am_dcl : List MethodName := [⟨"java/lang/RuntimeException", "<init>", "()V"⟩, ⟨"java/lang/RuntimeException", "<init>", "(Ljava/lang/String;)V"⟩, ⟨"java/lang/Exception", "<init>", "()V"⟩, ⟨"java/lang/Exception", "<init>", "(Ljava/lang/String;)V"⟩, ⟨"java/lang/Throwable", "<init>", "()V"⟩, ⟨"java/lang/Throwable", "<init>", "(Ljava/lang/String;)V"⟩]
def am_cst : List (String × String) := [("java/lang/IllegalStateException", "java/lang/IllegalStateException"), ("java/lang/IllegalArgumentException", "java/lang/IllegalArgumentException"), ("java/lang/IndexOutOfBoundsException", "java/lang/IndexOutOfBoundsException")]
def am_nst : List (String × Nat × MethodName × String) := [("CaptionLines$Contractions", 40, ⟨"CaptionLines", "ownCell", "(I)I"⟩, "CaptionLines"), ("CaptionLines$Contractions", 47, ⟨"CaptionLines", "ownSign", "(I)I"⟩, "CaptionLines")]
abbrev cX6_init : ByteArray := prog_1_method_1_code
def yX6_init : MethodName := ⟨RX6, "<init>", "()V"⟩
abbrev iX6_init : MethodName × ByteArray × Nat × Option FieldType × List (Nat × Nat × Nat × Nat) := (yX6_init, cX6_init, 1, none, [])
abbrev cX3_init : ByteArray := prog_5_method_1_code
def yX3_init : MethodName := ⟨RX3, "<init>", "(I)V"⟩
abbrev iX3_init : MethodName × ByteArray × Nat × Option FieldType × List (Nat × Nat × Nat × Nat) := (yX3_init, cX3_init, 2, none, [])
abbrev cX0_init : ByteArray := prog_2_method_1_code
def yX0_init : MethodName := ⟨RX0, "<init>", "()V"⟩
abbrev iX0_init : MethodName × ByteArray × Nat × Option FieldType × List (Nat × Nat × Nat × Nat) := (yX0_init, cX0_init, 2, none, [])
abbrev cX4_init : ByteArray := prog_6_method_1_code
def yX4_init : MethodName := ⟨RX4, "<init>", "()V"⟩
abbrev iX4_init : MethodName × ByteArray × Nat × Option FieldType × List (Nat × Nat × Nat × Nat) := (yX4_init, cX4_init, 1, none, [])
abbrev cX1_init : ByteArray := prog_3_method_1_code
def yX1_init : MethodName := ⟨RX1, "<init>", "()V"⟩
abbrev iX1_init : MethodName × ByteArray × Nat × Option FieldType × List (Nat × Nat × Nat × Nat) := (yX1_init, cX1_init, 1, none, [])
abbrev cX5_init : ByteArray := prog_7_method_1_code
def yX5_init : MethodName := ⟨RX5, "<init>", "()V"⟩
abbrev iX5_init : MethodName × ByteArray × Nat × Option FieldType × List (Nat × Nat × Nat × Nat) := (yX5_init, cX5_init, 1, none, [])
abbrev cX2_init : ByteArray := prog_4_method_1_code
def yX2_init : MethodName := ⟨RX2, "<init>", "()V"⟩
abbrev iX2_init : MethodName × ByteArray × Nat × Option FieldType × List (Nat × Nat × Nat × Nat) := (yX2_init, cX2_init, 1, none, [])
abbrev cX6_clear : ByteArray := prog_1_method_3_code
def yX6_clear : MethodName := ⟨RX6, "clear", "()I"⟩
abbrev iX6_clear : MethodName × ByteArray × Nat × Option FieldType × List (Nat × Nat × Nat × Nat) := (yX6_clear, cX6_clear, 2, (some .int), [])
abbrev cX3_length : ByteArray := prog_5_method_2_code
def yX3_length : MethodName := ⟨RX3, "length", "()I"⟩
abbrev iX3_length : MethodName × ByteArray × Nat × Option FieldType × List (Nat × Nat × Nat × Nat) := (yX3_length, cX3_length, 1, (some .int), [])
abbrev cX3_empty : ByteArray := prog_5_method_6_code
def yX3_empty : MethodName := ⟨RX3, "empty", "()V"⟩
abbrev iX3_empty : MethodName × ByteArray × Nat × Option FieldType × List (Nat × Nat × Nat × Nat) := (yX3_empty, cX3_empty, 1, none, [])
abbrev cL_unit : ByteArray := method_3_code
def yL_unit : MethodName := ⟨RL, "unit", "(LCaptionLines;I[J)I"⟩
abbrev iL_unit : MethodName × ByteArray × Nat × Option FieldType × List (Nat × Nat × Nat × Nat) := (yL_unit, cL_unit, 4, (some .int), [(0, 9, 12, 13), (0, 9, 15, 15)])
abbrev cX6_unit : ByteArray := prog_1_method_2_code
def yX6_unit : MethodName := ⟨RX6, "unit", "(I)I"⟩
abbrev iX6_unit : MethodName × ByteArray × Nat × Option FieldType × List (Nat × Nat × Nat × Nat) := (yX6_unit, cX6_unit, 2, (some .int), [])
abbrev cX6_isLetter : ByteArray := prog_1_method_24_code
def yX6_isLetter : MethodName := ⟨RX6, "isLetter", "(I)Z"⟩
abbrev iX6_isLetter : MethodName × ByteArray × Nat × Option FieldType × List (Nat × Nat × Nat × Nat) := (yX6_isLetter, cX6_isLetter, 1, (some .boolean), [])
abbrev cX3_add : ByteArray := prog_5_method_4_code
def yX3_add : MethodName := ⟨RX3, "add", "(I)V"⟩
abbrev iX3_add : MethodName × ByteArray × Nat × Option FieldType × List (Nat × Nat × Nat × Nat) := (yX3_add, cX3_add, 2, none, [])
abbrev cL_text : ByteArray := method_4_code
def yL_text : MethodName := ⟨RL, "text", "(LCaptionLines;II[J)I"⟩
abbrev iL_text : MethodName × ByteArray × Nat × Option FieldType × List (Nat × Nat × Nat × Nat) := (yL_text, cL_text, 5, (some .int), [(0, 10, 13, 21), (0, 10, 17, 13)])
abbrev cX6_text : ByteArray := prog_1_method_4_code
def yX6_text : MethodName := ⟨RX6, "text", "(II)I"⟩
abbrev iX6_text : MethodName × ByteArray × Nat × Option FieldType × List (Nat × Nat × Nat × Nat) := (yX6_text, cX6_text, 5, (some .int), [])
abbrev cX6_needCaptionAndLanguage : ByteArray := prog_1_method_20_code
def yX6_needCaptionAndLanguage : MethodName := ⟨RX6, "needCaptionAndLanguage", "(II)V"⟩
abbrev iX6_needCaptionAndLanguage : MethodName × ByteArray × Nat × Option FieldType × List (Nat × Nat × Nat × Nat) := (yX6_needCaptionAndLanguage, cX6_needCaptionAndLanguage, 2, none, [])
abbrev cX6_needLanguage : ByteArray := prog_1_method_21_code
def yX6_needLanguage : MethodName := ⟨RX6, "needLanguage", "(I)V"⟩
abbrev iX6_needLanguage : MethodName × ByteArray × Nat × Option FieldType × List (Nat × Nat × Nat × Nat) := (yX6_needLanguage, cX6_needLanguage, 1, none, [])
abbrev cX0_versionsOf : ByteArray := prog_2_method_3_code
def yX0_versionsOf : MethodName := ⟨RX0, "versionsOf", "(II)I"⟩
abbrev iX0_versionsOf : MethodName × ByteArray × Nat × Option FieldType × List (Nat × Nat × Nat × Nat) := (yX0_versionsOf, cX0_versionsOf, 3, (some .int), [])
abbrev cX6_firstWrongPlace : ByteArray := prog_1_method_25_code
def yX6_firstWrongPlace : MethodName := ⟨RX6, "firstWrongPlace", "(LCaptionLines$Row;)I"⟩
abbrev iX6_firstWrongPlace : MethodName × ByteArray × Nat × Option FieldType × List (Nat × Nat × Nat × Nat) := (yX6_firstWrongPlace, cX6_firstWrongPlace, 4, (some .int), [])
abbrev cX3_at : ByteArray := prog_5_method_3_code
def yX3_at : MethodName := ⟨RX3, "at", "(I)I"⟩
abbrev iX3_at : MethodName × ByteArray × Nat × Option FieldType × List (Nat × Nat × Nat × Nat) := (yX3_at, cX3_at, 2, (some .int), [])
abbrev cX6_mayFollow : ByteArray := prog_1_method_26_code
def yX6_mayFollow : MethodName := ⟨RX6, "mayFollow", "(II)Z"⟩
abbrev iX6_mayFollow : MethodName × ByteArray × Nat × Option FieldType × List (Nat × Nat × Nat × Nat) := (yX6_mayFollow, cX6_mayFollow, 2, (some .boolean), [])
abbrev cX3_copy : ByteArray := prog_5_method_7_code
def yX3_copy : MethodName := ⟨RX3, "copy", "()LCaptionLines$Row;"⟩
abbrev iX3_copy : MethodName × ByteArray × Nat × Option FieldType × List (Nat × Nat × Nat × Nat) := (yX3_copy, cX3_copy, 2, (some (.object "CaptionLines$Row")), [])
abbrev cX3_addAll : ByteArray := prog_5_method_5_code
def yX3_addAll : MethodName := ⟨RX3, "addAll", "(LCaptionLines$Row;)V"⟩
abbrev iX3_addAll : MethodName × ByteArray × Nat × Option FieldType × List (Nat × Nat × Nat × Nat) := (yX3_addAll, cX3_addAll, 3, none, [])
abbrev cX0_addVersion : ByteArray := prog_2_method_4_code
def yX0_addVersion : MethodName := ⟨RX0, "addVersion", "(IILCaptionLines$Row;)I"⟩
abbrev iX0_addVersion : MethodName × ByteArray × Nat × Option FieldType × List (Nat × Nat × Nat × Nat) := (yX0_addVersion, cX0_addVersion, 6, (some .int), [])
abbrev cL_falls : ByteArray := method_5_code
def yL_falls : MethodName := ⟨RL, "falls", "(LCaptionLines;II[J)I"⟩
abbrev iL_falls : MethodName × ByteArray × Nat × Option FieldType × List (Nat × Nat × Nat × Nat) := (yL_falls, cL_falls, 5, (some .int), [(0, 17, 20, 21)])
abbrev cX6_falls : ByteArray := prog_1_method_5_code
def yX6_falls : MethodName := ⟨RX6, "falls", "(II)Z"⟩
abbrev iX6_falls : MethodName × ByteArray × Nat × Option FieldType × List (Nat × Nat × Nat × Nat) := (yX6_falls, cX6_falls, 3, (some .boolean), [])
abbrev cX0_fallBack : ByteArray := prog_2_method_6_code
def yX0_fallBack : MethodName := ⟨RX0, "fallBack", "(II)Z"⟩
abbrev iX0_fallBack : MethodName × ByteArray × Nat × Option FieldType × List (Nat × Nat × Nat × Nat) := (yX0_fallBack, cX0_fallBack, 5, (some .boolean), [])
abbrev cL_shown : ByteArray := method_6_code
def yL_shown : MethodName := ⟨RL, "shown", "(LCaptionLines;II[J)I"⟩
abbrev iL_shown : MethodName × ByteArray × Nat × Option FieldType × List (Nat × Nat × Nat × Nat) := (yL_shown, cL_shown, 5, (some .int), [(0, 10, 13, 21)])
abbrev cX6_shown : ByteArray := prog_1_method_6_code
def yX6_shown : MethodName := ⟨RX6, "shown", "(II)I"⟩
abbrev iX6_shown : MethodName × ByteArray × Nat × Option FieldType × List (Nat × Nat × Nat × Nat) := (yX6_shown, cX6_shown, 3, (some .int), [])
abbrev cX0_languageShown : ByteArray := prog_2_method_7_code
def yX0_languageShown : MethodName := ⟨RX0, "languageShown", "(II)I"⟩
abbrev iX0_languageShown : MethodName × ByteArray × Nat × Option FieldType × List (Nat × Nat × Nat × Nat) := (yX0_languageShown, cX0_languageShown, 5, (some .int), [])
abbrev cL_sign : ByteArray := method_7_code
def yL_sign : MethodName := ⟨RL, "sign", "(LCaptionLines;IIII[J)I"⟩
abbrev iL_sign : MethodName × ByteArray × Nat × Option FieldType × List (Nat × Nat × Nat × Nat) := (yL_sign, cL_sign, 7, (some .int), [(0, 14, 17, 21)])
abbrev cX6_sign : ByteArray := prog_1_method_7_code
def yX6_sign : MethodName := ⟨RX6, "sign", "(IIII)I"⟩
abbrev iX6_sign : MethodName × ByteArray × Nat × Option FieldType × List (Nat × Nat × Nat × Nat) := (yX6_sign, cX6_sign, 6, (some .int), [])
abbrev cX0_version : ByteArray := prog_2_method_5_code
def yX0_version : MethodName := ⟨RX0, "version", "(III)LCaptionLines$Row;"⟩
abbrev iX0_version : MethodName × ByteArray × Nat × Option FieldType × List (Nat × Nat × Nat × Nat) := (yX0_version, cX0_version, 4, (some (.object "CaptionLines$Row")), [])
abbrev cL_lines : ByteArray := method_8_code
def yL_lines : MethodName := ⟨RL, "lines", "(LCaptionLines;III[J)I"⟩
abbrev iL_lines : MethodName × ByteArray × Nat × Option FieldType × List (Nat × Nat × Nat × Nat) := (yL_lines, cL_lines, 6, (some .int), [(0, 12, 15, 21), (0, 12, 19, 15)])
abbrev cX6_lines : ByteArray := prog_1_method_8_code
def yX6_lines : MethodName := ⟨RX6, "lines", "(III)I"⟩
abbrev iX6_lines : MethodName × ByteArray × Nat × Option FieldType × List (Nat × Nat × Nat × Nat) := (yX6_lines, cX6_lines, 5, (some .int), [])
abbrev cX0_latestShown : ByteArray := prog_2_method_8_code
def yX0_latestShown : MethodName := ⟨RX0, "latestShown", "(II)LCaptionLines$Row;"⟩
abbrev iX0_latestShown : MethodName × ByteArray × Nat × Option FieldType × List (Nat × Nat × Nat × Nat) := (yX0_latestShown, cX0_latestShown, 4, (some (.object "CaptionLines$Row")), [])
abbrev cX4_set : ByteArray := prog_6_method_6_code
def yX4_set : MethodName := ⟨RX4, "set", "(LCaptionLines$Row;I)Z"⟩
abbrev iX4_set : MethodName × ByteArray × Nat × Option FieldType × List (Nat × Nat × Nat × Nat) := (yX4_set, cX4_set, 3, (some .boolean), [])
abbrev cX4_findWords : ByteArray := prog_6_method_7_code
def yX4_findWords : MethodName := ⟨RX4, "findWords", "(LCaptionLines$Row;)V"⟩
abbrev iX4_findWords : MethodName × ByteArray × Nat × Option FieldType × List (Nat × Nat × Nat × Nat) := (yX4_findWords, cX4_findWords, 4, none, [])
abbrev cX4_addWord : ByteArray := prog_6_method_8_code
def yX4_addWord : MethodName := ⟨RX4, "addWord", "(II)V"⟩
abbrev iX4_addWord : MethodName × ByteArray × Nat × Option FieldType × List (Nat × Nat × Nat × Nat) := (yX4_addWord, cX4_addWord, 3, none, [])
abbrev cX4_longestWord : ByteArray := prog_6_method_9_code
def yX4_longestWord : MethodName := ⟨RX4, "longestWord", "()I"⟩
abbrev iX4_longestWord : MethodName × ByteArray × Nat × Option FieldType × List (Nat × Nat × Nat × Nat) := (yX4_longestWord, cX4_longestWord, 3, (some .int), [])
abbrev cX4_findLeast : ByteArray := prog_6_method_10_code
def yX4_findLeast : MethodName := ⟨RX4, "findLeast", "(I)V"⟩
abbrev iX4_findLeast : MethodName × ByteArray × Nat × Option FieldType × List (Nat × Nat × Nat × Nat) := (yX4_findLeast, cX4_findLeast, 6, none, [])
abbrev cX4_takeLines : ByteArray := prog_6_method_11_code
def yX4_takeLines : MethodName := ⟨RX4, "takeLines", "()V"⟩
abbrev iX4_takeLines : MethodName × ByteArray × Nat × Option FieldType × List (Nat × Nat × Nat × Nat) := (yX4_takeLines, cX4_takeLines, 4, none, [])
abbrev cX4_lineCount : ByteArray := prog_6_method_2_code
def yX4_lineCount : MethodName := ⟨RX4, "lineCount", "()I"⟩
abbrev iX4_lineCount : MethodName × ByteArray × Nat × Option FieldType × List (Nat × Nat × Nat × Nat) := (yX4_lineCount, cX4_lineCount, 1, (some .int), [])
abbrev cL_line : ByteArray := method_9_code
def yL_line : MethodName := ⟨RL, "line", "(LCaptionLines;II[J)I"⟩
abbrev iL_line : MethodName × ByteArray × Nat × Option FieldType × List (Nat × Nat × Nat × Nat) := (yL_line, cL_line, 5, (some .int), [(0, 10, 13, 21)])
abbrev cX6_line : ByteArray := prog_1_method_9_code
def yX6_line : MethodName := ⟨RX6, "line", "(II)I"⟩
abbrev iX6_line : MethodName × ByteArray × Nat × Option FieldType × List (Nat × Nat × Nat × Nat) := (yX6_line, cX6_line, 3, (some .int), [])
abbrev cX4_sumOfSquares : ByteArray := prog_6_method_3_code
def yX4_sumOfSquares : MethodName := ⟨RX4, "sumOfSquares", "()I"⟩
abbrev iX4_sumOfSquares : MethodName × ByteArray × Nat × Option FieldType × List (Nat × Nat × Nat × Nat) := (yX4_sumOfSquares, cX4_sumOfSquares, 1, (some .int), [])
abbrev cX4_beginOf : ByteArray := prog_6_method_4_code
def yX4_beginOf : MethodName := ⟨RX4, "beginOf", "(I)I"⟩
abbrev iX4_beginOf : MethodName × ByteArray × Nat × Option FieldType × List (Nat × Nat × Nat × Nat) := (yX4_beginOf, cX4_beginOf, 2, (some .int), [])
abbrev cX4_signsOf : ByteArray := prog_6_method_5_code
def yX4_signsOf : MethodName := ⟨RX4, "signsOf", "(I)I"⟩
abbrev iX4_signsOf : MethodName × ByteArray × Nat × Option FieldType × List (Nat × Nat × Nat × Nat) := (yX4_signsOf, cX4_signsOf, 2, (some .int), [])
abbrev cL_level : ByteArray := method_10_code
def yL_level : MethodName := ⟨RL, "level", "(LCaptionLines;II[J)I"⟩
abbrev iL_level : MethodName × ByteArray × Nat × Option FieldType × List (Nat × Nat × Nat × Nat) := (yL_level, cL_level, 5, (some .int), [(0, 10, 13, 21)])
abbrev cX6_level : ByteArray := prog_1_method_10_code
def yX6_level : MethodName := ⟨RX6, "level", "(II)I"⟩
abbrev iX6_level : MethodName × ByteArray × Nat × Option FieldType × List (Nat × Nat × Nat × Nat) := (yX6_level, cX6_level, 4, (some .int), [])
abbrev cX6_levelOf : ByteArray := prog_1_method_27_code
def yX6_levelOf : MethodName := ⟨RX6, "levelOf", "(LCaptionLines$Row;)I"⟩
abbrev iX6_levelOf : MethodName × ByteArray × Nat × Option FieldType × List (Nat × Nat × Nat × Nat) := (yX6_levelOf, cX6_levelOf, 6, (some .int), [])
abbrev cL_contract : ByteArray := method_11_code
def yL_contract : MethodName := ⟨RL, "contract", "(LCaptionLines;I[J)I"⟩
abbrev iL_contract : MethodName × ByteArray × Nat × Option FieldType × List (Nat × Nat × Nat × Nat) := (yL_contract, cL_contract, 4, (some .int), [(0, 16, 19, 13), (0, 16, 22, 15)])
abbrev cX6_contract : ByteArray := prog_1_method_11_code
def yX6_contract : MethodName := ⟨RX6, "contract", "(I)Z"⟩
abbrev iX6_contract : MethodName × ByteArray × Nat × Option FieldType × List (Nat × Nat × Nat × Nat) := (yX6_contract, cX6_contract, 2, (some .boolean), [])
abbrev cX6_canBeContracted : ByteArray := prog_1_method_28_code
def yX6_canBeContracted : MethodName := ⟨RX6, "canBeContracted", "(LCaptionLines$Row;)Z"⟩
abbrev iX6_canBeContracted : MethodName × ByteArray × Nat × Option FieldType × List (Nat × Nat × Nat × Nat) := (yX6_canBeContracted, cX6_canBeContracted, 2, (some .boolean), [])
abbrev cX1_rowOf : ByteArray := prog_3_method_3_code
def yX1_rowOf : MethodName := ⟨RX1, "rowOf", "(I)LCaptionLines$Row;"⟩
abbrev iX1_rowOf : MethodName × ByteArray × Nat × Option FieldType × List (Nat × Nat × Nat × Nat) := (yX1_rowOf, cX1_rowOf, 2, (some (.object "CaptionLines$Row")), [])
abbrev cX1_has : ByteArray := prog_3_method_4_code
def yX1_has : MethodName := ⟨RX1, "has", "(LCaptionLines$Row;)Z"⟩
abbrev iX1_has : MethodName × ByteArray × Nat × Option FieldType × List (Nat × Nat × Nat × Nat) := (yX1_has, cX1_has, 4, (some .boolean), [])
abbrev cX1_longestAt : ByteArray := prog_3_method_8_code
def yX1_longestAt : MethodName := ⟨RX1, "longestAt", "(LCaptionLines$Row;I)I"⟩
abbrev iX1_longestAt : MethodName × ByteArray × Nat × Option FieldType × List (Nat × Nat × Nat × Nat) := (yX1_longestAt, cX1_longestAt, 7, (some .int), [])
abbrev cX3_standsIn : ByteArray := prog_5_method_8_code
def yX3_standsIn : MethodName := ⟨RX3, "standsIn", "(LCaptionLines$Row;I)Z"⟩
abbrev iX3_standsIn : MethodName × ByteArray × Nat × Option FieldType × List (Nat × Nat × Nat × Nat) := (yX3_standsIn, cX3_standsIn, 4, (some .boolean), [])
abbrev cX1_put : ByteArray := prog_3_method_5_code
def yX1_put : MethodName := ⟨RX1, "put", "(ILCaptionLines$Row;)V"⟩
abbrev iX1_put : MethodName × ByteArray × Nat × Option FieldType × List (Nat × Nat × Nat × Nat) := (yX1_put, cX1_put, 3, none, [])
abbrev cL_fingers : ByteArray := method_12_code
def yL_fingers : MethodName := ⟨RL, "fingers", "(LCaptionLines;II[J)I"⟩
abbrev iL_fingers : MethodName × ByteArray × Nat × Option FieldType × List (Nat × Nat × Nat × Nat) := (yL_fingers, cL_fingers, 5, (some .int), [(0, 10, 13, 21)])
abbrev cX6_fingers : ByteArray := prog_1_method_12_code
def yX6_fingers : MethodName := ⟨RX6, "fingers", "(II)I"⟩
abbrev iX6_fingers : MethodName × ByteArray × Nat × Option FieldType × List (Nat × Nat × Nat × Nat) := (yX6_fingers, cX6_fingers, 4, (some .int), [])
abbrev cX1_write : ByteArray := prog_3_method_6_code
def yX1_write : MethodName := ⟨RX1, "write", "(LCaptionLines$Row;LCaptionLines$Row;)V"⟩
abbrev iX1_write : MethodName × ByteArray × Nat × Option FieldType × List (Nat × Nat × Nat × Nat) := (yX1_write, cX1_write, 7, none, [])
abbrev cX6_ownCell : ByteArray := prog_1_method_29_code
def yX6_ownCell : MethodName := ⟨RX6, "ownCell", "(I)I"⟩
abbrev iX6_ownCell : MethodName × ByteArray × Nat × Option FieldType × List (Nat × Nat × Nat × Nat) := (yX6_ownCell, cX6_ownCell, 1, (some .int), [])
abbrev cL_cell : ByteArray := method_13_code
def yL_cell : MethodName := ⟨RL, "cell", "(LCaptionLines;I[J)I"⟩
abbrev iL_cell : MethodName × ByteArray × Nat × Option FieldType × List (Nat × Nat × Nat × Nat) := (yL_cell, cL_cell, 4, (some .int), [(0, 9, 12, 21)])
abbrev cX6_cell : ByteArray := prog_1_method_13_code
def yX6_cell : MethodName := ⟨RX6, "cell", "(I)I"⟩
abbrev iX6_cell : MethodName × ByteArray × Nat × Option FieldType × List (Nat × Nat × Nat × Nat) := (yX6_cell, cX6_cell, 2, (some .int), [])
abbrev cL_back : ByteArray := method_14_code
def yL_back : MethodName := ⟨RL, "back", "(LCaptionLines;[J)I"⟩
abbrev iL_back : MethodName × ByteArray × Nat × Option FieldType × List (Nat × Nat × Nat × Nat) := (yL_back, cL_back, 3, (some .int), [(0, 8, 11, 13)])
abbrev cX6_back : ByteArray := prog_1_method_14_code
def yX6_back : MethodName := ⟨RX6, "back", "()I"⟩
abbrev iX6_back : MethodName × ByteArray × Nat × Option FieldType × List (Nat × Nat × Nat × Nat) := (yX6_back, cX6_back, 1, (some .int), [])
abbrev cX1_read : ByteArray := prog_3_method_7_code
def yX1_read : MethodName := ⟨RX1, "read", "(LCaptionLines$Row;LCaptionLines$Row;)V"⟩
abbrev iX1_read : MethodName × ByteArray × Nat × Option FieldType × List (Nat × Nat × Nat × Nat) := (yX1_read, cX1_read, 6, none, [])
abbrev cX6_ownSign : ByteArray := prog_1_method_30_code
def yX6_ownSign : MethodName := ⟨RX6, "ownSign", "(I)I"⟩
abbrev iX6_ownSign : MethodName × ByteArray × Nat × Option FieldType × List (Nat × Nat × Nat × Nat) := (yX6_ownSign, cX6_ownSign, 1, (some .int), [])
abbrev cL_zone : ByteArray := method_15_code
def yL_zone : MethodName := ⟨RL, "zone", "(LCaptionLines;III[J)I"⟩
abbrev iL_zone : MethodName × ByteArray × Nat × Option FieldType × List (Nat × Nat × Nat × Nat) := (yL_zone, cL_zone, 6, (some .int), [(0, 12, 15, 13), (0, 12, 19, 15)])
abbrev cX6_zone : ByteArray := prog_1_method_15_code
def yX6_zone : MethodName := ⟨RX6, "zone", "(III)I"⟩
abbrev iX6_zone : MethodName × ByteArray × Nat × Option FieldType × List (Nat × Nat × Nat × Nat) := (yX6_zone, cX6_zone, 5, (some .int), [])
abbrev cX5_total : ByteArray := prog_7_method_2_code
def yX5_total : MethodName := ⟨RX5, "total", "()I"⟩
abbrev iX5_total : MethodName × ByteArray × Nat × Option FieldType × List (Nat × Nat × Nat × Nat) := (yX5_total, cX5_total, 1, (some .int), [])
abbrev cX6_needPoint : ByteArray := prog_1_method_23_code
def yX6_needPoint : MethodName := ⟨RX6, "needPoint", "(II)V"⟩
abbrev iX6_needPoint : MethodName × ByteArray × Nat × Option FieldType × List (Nat × Nat × Nat × Nat) := (yX6_needPoint, cX6_needPoint, 2, none, [])
abbrev cX5_lowestOverlapped : ByteArray := prog_7_method_4_code
def yX5_lowestOverlapped : MethodName := ⟨RX5, "lowestOverlapped", "(III)I"⟩
abbrev iX5_lowestOverlapped : MethodName × ByteArray × Nat × Option FieldType × List (Nat × Nat × Nat × Nat) := (yX5_lowestOverlapped, cX5_lowestOverlapped, 6, (some .int), [])
abbrev cX5_squareOfDistance : ByteArray := prog_7_method_6_code
def yX5_squareOfDistance : MethodName := ⟨RX5, "squareOfDistance", "(III)I"⟩
abbrev iX5_squareOfDistance : MethodName × ByteArray × Nat × Option FieldType × List (Nat × Nat × Nat × Nat) := (yX5_squareOfDistance, cX5_squareOfDistance, 6, (some .int), [])
abbrev cX5_add : ByteArray := prog_7_method_3_code
def yX5_add : MethodName := ⟨RX5, "add", "(III)I"⟩
abbrev iX5_add : MethodName × ByteArray × Nat × Option FieldType × List (Nat × Nat × Nat × Nat) := (yX5_add, cX5_add, 4, (some .int), [])
abbrev cL_heard : ByteArray := method_16_code
def yL_heard : MethodName := ⟨RL, "heard", "(LCaptionLines;II[J)I"⟩
abbrev iL_heard : MethodName × ByteArray × Nat × Option FieldType × List (Nat × Nat × Nat × Nat) := (yL_heard, cL_heard, 5, (some .int), [(0, 10, 13, 15)])
abbrev cX6_heard : ByteArray := prog_1_method_16_code
def yX6_heard : MethodName := ⟨RX6, "heard", "(II)I"⟩
abbrev iX6_heard : MethodName × ByteArray × Nat × Option FieldType × List (Nat × Nat × Nat × Nat) := (yX6_heard, cX6_heard, 3, (some .int), [])
abbrev cX5_lowestAround : ByteArray := prog_7_method_5_code
def yX5_lowestAround : MethodName := ⟨RX5, "lowestAround", "(II)I"⟩
abbrev iX5_lowestAround : MethodName × ByteArray × Nat × Option FieldType × List (Nat × Nat × Nat × Nat) := (yX5_lowestAround, cX5_lowestAround, 4, (some .int), [])
abbrev cL_way : ByteArray := method_17_code
def yL_way : MethodName := ⟨RL, "way", "(LCaptionLines;IIZ[J)I"⟩
abbrev iL_way : MethodName × ByteArray × Nat × Option FieldType × List (Nat × Nat × Nat × Nat) := (yL_way, cL_way, 6, (some .int), [(0, 19, 22, 21), (0, 19, 26, 15)])
abbrev cX6_way : ByteArray := prog_1_method_17_code
def yX6_way : MethodName := ⟨RX6, "way", "(IIZ)Z"⟩
abbrev iX6_way : MethodName × ByteArray × Nat × Option FieldType × List (Nat × Nat × Nat × Nat) := (yX6_way, cX6_way, 4, (some .boolean), [])
abbrev cX6_needRoom : ByteArray := prog_1_method_22_code
def yX6_needRoom : MethodName := ⟨RX6, "needRoom", "(I)V"⟩
abbrev iX6_needRoom : MethodName × ByteArray × Nat × Option FieldType × List (Nat × Nat × Nat × Nat) := (yX6_needRoom, cX6_needRoom, 1, none, [])
abbrev cX2_areJoined : ByteArray := prog_4_method_3_code
def yX2_areJoined : MethodName := ⟨RX2, "areJoined", "(II)Z"⟩
abbrev iX2_areJoined : MethodName × ByteArray × Nat × Option FieldType × List (Nat × Nat × Nat × Nat) := (yX2_areJoined, cX2_areJoined, 3, (some .boolean), [])
abbrev cX2_turn : ByteArray := prog_4_method_4_code
def yX2_turn : MethodName := ⟨RX2, "turn", "(II)V"⟩
abbrev iX2_turn : MethodName × ByteArray × Nat × Option FieldType × List (Nat × Nat × Nat × Nat) := (yX2_turn, cX2_turn, 3, none, [])
abbrev cL_arrow : ByteArray := method_18_code
def yL_arrow : MethodName := ⟨RL, "arrow", "(LCaptionLines;II[J)I"⟩
abbrev iL_arrow : MethodName × ByteArray × Nat × Option FieldType × List (Nat × Nat × Nat × Nat) := (yL_arrow, cL_arrow, 5, (some .int), [(0, 10, 13, 21)])
abbrev cX6_arrow : ByteArray := prog_1_method_18_code
def yX6_arrow : MethodName := ⟨RX6, "arrow", "(II)I"⟩
abbrev iX6_arrow : MethodName × ByteArray × Nat × Option FieldType × List (Nat × Nat × Nat × Nat) := (yX6_arrow, cX6_arrow, 3, (some .int), [])
abbrev cX2_nextRoom : ByteArray := prog_4_method_5_code
def yX2_nextRoom : MethodName := ⟨RX2, "nextRoom", "(II)I"⟩
abbrev iX2_nextRoom : MethodName × ByteArray × Nat × Option FieldType × List (Nat × Nat × Nat × Nat) := (yX2_nextRoom, cX2_nextRoom, 7, (some .int), [])
abbrev cX2_lowestIn : ByteArray := prog_4_method_7_code
def yX2_lowestIn : MethodName := ⟨RX2, "lowestIn", "(I)I"⟩
abbrev iX2_lowestIn : MethodName × ByteArray × Nat × Option FieldType × List (Nat × Nat × Nat × Nat) := (yX2_lowestIn, cX2_lowestIn, 2, (some .int), [])
abbrev cX2_besideAny : ByteArray := prog_4_method_6_code
def yX2_besideAny : MethodName := ⟨RX2, "besideAny", "(I)I"⟩
abbrev iX2_besideAny : MethodName × ByteArray × Nat × Option FieldType × List (Nat × Nat × Nat × Nat) := (yX2_besideAny, cX2_besideAny, 4, (some .int), [])
abbrev cL_count : ByteArray := method_19_code
def yL_count : MethodName := ⟨RL, "count", "(LCaptionLines;I[J)I"⟩
abbrev iL_count : MethodName × ByteArray × Nat × Option FieldType × List (Nat × Nat × Nat × Nat) := (yL_count, cL_count, 4, (some .int), [(0, 9, 12, 21)])
abbrev cX6_count : ByteArray := prog_1_method_19_code
def yX6_count : MethodName := ⟨RX6, "count", "(I)I"⟩
abbrev iX6_count : MethodName × ByteArray × Nat × Option FieldType × List (Nat × Nat × Nat × Nat) := (yX6_count, cX6_count, 2, (some .int), [])
abbrev cX0_total : ByteArray := prog_2_method_2_code
def yX0_total : MethodName := ⟨RX0, "total", "()I"⟩
abbrev iX0_total : MethodName × ByteArray × Nat × Option FieldType × List (Nat × Nat × Nat × Nat) := (yX0_total, cX0_total, 1, (some .int), [])
abbrev cX1_total : ByteArray := prog_3_method_2_code
def yX1_total : MethodName := ⟨RX1, "total", "()I"⟩
abbrev iX1_total : MethodName × ByteArray × Nat × Option FieldType × List (Nat × Nat × Nat × Nat) := (yX1_total, cX1_total, 1, (some .int), [])
abbrev cX2_wayCount : ByteArray := prog_4_method_2_code
def yX2_wayCount : MethodName := ⟨RX2, "wayCount", "()I"⟩
abbrev iX2_wayCount : MethodName × ByteArray × Nat × Option FieldType × List (Nat × Nat × Nat × Nat) := (yX2_wayCount, cX2_wayCount, 1, (some .int), [])
abbrev cX7_init : ByteArray := prog_9_method_1_code
def yX7_init : MethodName := ⟨RX7, "<init>", "()V"⟩
abbrev iX7_init : MethodName × ByteArray × Nat × Option FieldType × List (Nat × Nat × Nat × Nat) := (yX7_init, cX7_init, 2, none, [])
abbrev cX7_thrown : ByteArray := prog_9_method_2_code
def yX7_thrown : MethodName := ⟨RX7, "thrown", "()I"⟩
abbrev iX7_thrown : MethodName × ByteArray × Nat × Option FieldType × List (Nat × Nat × Nat × Nat) := (yX7_thrown, cX7_thrown, 1, (some .int), [])
abbrev cX7_unit : ByteArray := prog_9_method_6_code
def yX7_unit : MethodName := ⟨RX7, "unit", "(I)I"⟩
abbrev iX7_unit : MethodName × ByteArray × Nat × Option FieldType × List (Nat × Nat × Nat × Nat) := (yX7_unit, cX7_unit, 2, (some .int), [])
abbrev cX7_isLetter : ByteArray := prog_9_method_5_code
def yX7_isLetter : MethodName := ⟨RX7, "isLetter", "(I)Z"⟩
abbrev iX7_isLetter : MethodName × ByteArray × Nat × Option FieldType × List (Nat × Nat × Nat × Nat) := (yX7_isLetter, cX7_isLetter, 1, (some .boolean), [])
abbrev cX7_goes : ByteArray := prog_9_method_3_code
def yX7_goes : MethodName := ⟨RX7, "goes", "(ZZ)Z"⟩
abbrev iX7_goes : MethodName × ByteArray × Nat × Option FieldType × List (Nat × Nat × Nat × Nat) := (yX7_goes, cX7_goes, 3, (some .boolean), [])
abbrev cX7_clear : ByteArray := prog_9_method_7_code
def yX7_clear : MethodName := ⟨RX7, "clear", "()I"⟩
abbrev iX7_clear : MethodName × ByteArray × Nat × Option FieldType × List (Nat × Nat × Nat × Nat) := (yX7_clear, cX7_clear, 2, (some .int), [])
abbrev cX7_text : ByteArray := prog_9_method_10_code
def yX7_text : MethodName := ⟨RX7, "text", "(II)I"⟩
abbrev iX7_text : MethodName × ByteArray × Nat × Option FieldType × List (Nat × Nat × Nat × Nat) := (yX7_text, cX7_text, 8, (some .int), [])
abbrev cX7_isPair : ByteArray := prog_9_method_9_code
def yX7_isPair : MethodName := ⟨RX7, "isPair", "(II)Z"⟩
abbrev iX7_isPair : MethodName × ByteArray × Nat × Option FieldType × List (Nat × Nat × Nat × Nat) := (yX7_isPair, cX7_isPair, 2, (some .boolean), [])
abbrev cX7_below : ByteArray := prog_9_method_4_code
def yX7_below : MethodName := ⟨RX7, "below", "(II)Z"⟩
abbrev iX7_below : MethodName × ByteArray × Nat × Option FieldType × List (Nat × Nat × Nat × Nat) := (yX7_below, cX7_below, 2, (some .boolean), [])
abbrev cX7_fault : ByteArray := prog_9_method_8_code
def yX7_fault : MethodName := ⟨RX7, "fault", "()I"⟩
abbrev iX7_fault : MethodName × ByteArray × Nat × Option FieldType × List (Nat × Nat × Nat × Nat) := (yX7_fault, cX7_fault, 5, (some .int), [])
abbrev cX7_falls : ByteArray := prog_9_method_11_code
def yX7_falls : MethodName := ⟨RX7, "falls", "(II)Z"⟩
abbrev iX7_falls : MethodName × ByteArray × Nat × Option FieldType × List (Nat × Nat × Nat × Nat) := (yX7_falls, cX7_falls, 4, (some .boolean), [])
abbrev cX7_shown : ByteArray := prog_9_method_13_code
def yX7_shown : MethodName := ⟨RX7, "shown", "(II)I"⟩
abbrev iX7_shown : MethodName × ByteArray × Nat × Option FieldType × List (Nat × Nat × Nat × Nat) := (yX7_shown, cX7_shown, 3, (some .int), [])
abbrev cX7_shownIn : ByteArray := prog_9_method_12_code
def yX7_shownIn : MethodName := ⟨RX7, "shownIn", "(II)I"⟩
abbrev iX7_shownIn : MethodName × ByteArray × Nat × Option FieldType × List (Nat × Nat × Nat × Nat) := (yX7_shownIn, cX7_shownIn, 4, (some .int), [])
abbrev cX7_sign : ByteArray := prog_9_method_15_code
def yX7_sign : MethodName := ⟨RX7, "sign", "(IIII)I"⟩
abbrev iX7_sign : MethodName × ByteArray × Nat × Option FieldType × List (Nat × Nat × Nat × Nat) := (yX7_sign, cX7_sign, 7, (some .int), [])
abbrev cX7_lines : ByteArray := prog_9_method_18_code
def yX7_lines : MethodName := ⟨RX7, "lines", "(III)I"⟩
abbrev iX7_lines : MethodName × ByteArray × Nat × Option FieldType × List (Nat × Nat × Nat × Nat) := (yX7_lines, cX7_lines, 6, (some .int), [])
abbrev cX7_latest : ByteArray := prog_9_method_14_code
def yX7_latest : MethodName := ⟨RX7, "latest", "(II)I"⟩
abbrev iX7_latest : MethodName × ByteArray × Nat × Option FieldType × List (Nat × Nat × Nat × Nat) := (yX7_latest, cX7_latest, 4, (some .int), [])
abbrev cX7_part : ByteArray := prog_9_method_16_code
def yX7_part : MethodName := ⟨RX7, "part", "(I)V"⟩
abbrev iX7_part : MethodName × ByteArray × Nat × Option FieldType × List (Nat × Nat × Nat × Nat) := (yX7_part, cX7_part, 4, none, [])
abbrev cX7_solve : ByteArray := prog_9_method_17_code
def yX7_solve : MethodName := ⟨RX7, "solve", "(II)V"⟩
abbrev iX7_solve : MethodName × ByteArray × Nat × Option FieldType × List (Nat × Nat × Nat × Nat) := (yX7_solve, cX7_solve, 9, none, [])
abbrev cX7_line : ByteArray := prog_9_method_19_code
def yX7_line : MethodName := ⟨RX7, "line", "(II)I"⟩
abbrev iX7_line : MethodName × ByteArray × Nat × Option FieldType × List (Nat × Nat × Nat × Nat) := (yX7_line, cX7_line, 3, (some .int), [])
abbrev cX7_level : ByteArray := prog_9_method_20_code
def yX7_level : MethodName := ⟨RX7, "level", "(II)I"⟩
abbrev iX7_level : MethodName × ByteArray × Nat × Option FieldType × List (Nat × Nat × Nat × Nat) := (yX7_level, cX7_level, 9, (some .int), [])
abbrev cX7_contract : ByteArray := prog_9_method_22_code
def yX7_contract : MethodName := ⟨RX7, "contract", "(I)Z"⟩
abbrev iX7_contract : MethodName × ByteArray × Nat × Option FieldType × List (Nat × Nat × Nat × Nat) := (yX7_contract, cX7_contract, 5, (some .boolean), [])
abbrev cX7_isPad : ByteArray := prog_9_method_21_code
def yX7_isPad : MethodName := ⟨RX7, "isPad", "(I)Z"⟩
abbrev iX7_isPad : MethodName × ByteArray × Nat × Option FieldType × List (Nat × Nat × Nat × Nat) := (yX7_isPad, cX7_isPad, 4, (some .boolean), [])
abbrev cX7_fingers : ByteArray := prog_9_method_24_code
def yX7_fingers : MethodName := ⟨RX7, "fingers", "(II)I"⟩
abbrev iX7_fingers : MethodName × ByteArray × Nat × Option FieldType × List (Nat × Nat × Nat × Nat) := (yX7_fingers, cX7_fingers, 10, (some .int), [])
abbrev cX7_stands : ByteArray := prog_9_method_23_code
def yX7_stands : MethodName := ⟨RX7, "stands", "(III)Z"⟩
abbrev iX7_stands : MethodName × ByteArray × Nat × Option FieldType × List (Nat × Nat × Nat × Nat) := (yX7_stands, cX7_stands, 6, (some .boolean), [])
abbrev cX7_cell : ByteArray := prog_9_method_25_code
def yX7_cell : MethodName := ⟨RX7, "cell", "(I)I"⟩
abbrev iX7_cell : MethodName × ByteArray × Nat × Option FieldType × List (Nat × Nat × Nat × Nat) := (yX7_cell, cX7_cell, 2, (some .int), [])
abbrev cX7_back : ByteArray := prog_9_method_26_code
def yX7_back : MethodName := ⟨RX7, "back", "()I"⟩
abbrev iX7_back : MethodName × ByteArray × Nat × Option FieldType × List (Nat × Nat × Nat × Nat) := (yX7_back, cX7_back, 5, (some .int), [])
abbrev cX7_zone : ByteArray := prog_9_method_29_code
def yX7_zone : MethodName := ⟨RX7, "zone", "(III)I"⟩
abbrev iX7_zone : MethodName × ByteArray × Nat × Option FieldType × List (Nat × Nat × Nat × Nat) := (yX7_zone, cX7_zone, 5, (some .int), [])
abbrev cX7_isPoint : ByteArray := prog_9_method_27_code
def yX7_isPoint : MethodName := ⟨RX7, "isPoint", "(II)Z"⟩
abbrev iX7_isPoint : MethodName × ByteArray × Nat × Option FieldType × List (Nat × Nat × Nat × Nat) := (yX7_isPoint, cX7_isPoint, 2, (some .boolean), [])
abbrev cX7_isNearer : ByteArray := prog_9_method_28_code
def yX7_isNearer : MethodName := ⟨RX7, "isNearer", "(III)Z"⟩
abbrev iX7_isNearer : MethodName × ByteArray × Nat × Option FieldType × List (Nat × Nat × Nat × Nat) := (yX7_isNearer, cX7_isNearer, 3, (some .boolean), [])
abbrev cX7_heard : ByteArray := prog_9_method_30_code
def yX7_heard : MethodName := ⟨RX7, "heard", "(II)I"⟩
abbrev iX7_heard : MethodName × ByteArray × Nat × Option FieldType × List (Nat × Nat × Nat × Nat) := (yX7_heard, cX7_heard, 6, (some .int), [])
abbrev cX7_way : ByteArray := prog_9_method_31_code
def yX7_way : MethodName := ⟨RX7, "way", "(IIZ)Z"⟩
abbrev iX7_way : MethodName × ByteArray × Nat × Option FieldType × List (Nat × Nat × Nat × Nat) := (yX7_way, cX7_way, 5, (some .boolean), [])
abbrev cX7_arrow : ByteArray := prog_9_method_33_code
def yX7_arrow : MethodName := ⟨RX7, "arrow", "(II)I"⟩
abbrev iX7_arrow : MethodName × ByteArray × Nat × Option FieldType × List (Nat × Nat × Nat × Nat) := (yX7_arrow, cX7_arrow, 5, (some .int), [])
abbrev cX7_measure : ByteArray := prog_9_method_32_code
def yX7_measure : MethodName := ⟨RX7, "measure", "(I)V"⟩
abbrev iX7_measure : MethodName × ByteArray × Nat × Option FieldType × List (Nat × Nat × Nat × Nat) := (yX7_measure, cX7_measure, 4, none, [])
abbrev cX7_count : ByteArray := prog_9_method_34_code
def yX7_count : MethodName := ⟨RX7, "count", "(I)I"⟩
abbrev iX7_count : MethodName × ByteArray × Nat × Option FieldType × List (Nat × Nat × Nat × Nat) := (yX7_count, cX7_count, 4, (some .int), [])
abbrev cL_law : ByteArray := code
def yL_law : MethodName := ⟨RL, "law", "([I)Z"⟩
abbrev iL_law : MethodName × ByteArray × Nat × Option FieldType × List (Nat × Nat × Nat × Nat) := (yL_law, cL_law, 7, (some .boolean), [])
end
section
/-! THE ABSTRACT HEAP: cells by small numbers (addresses of our own), mapped to the machine's by 'ad' -/
def am_v (ad : Nat → Nat) (v : Value) : Value := match v with
  | .ref a => .ref (ad a)
  | v => v
def am_ok (n : Nat) (v : Value) : Prop := ∀ b : Nat, v = .ref b → b < n
theorem am_v_eq {ad ad' : Nat → Nat} {n : Nat} (h : ∀ a : Nat, a < n → ad' a = ad a) {v : Value} (hv : am_ok n v) : am_v ad' v = am_v ad v := by
  cases v with
  | ref b => show Value.ref (ad' b) = Value.ref (ad b); rw [h b (hv b rfl)]
  | _ => rfl
theorem am_v_cat (ad : Nat → Nat) (v : Value) : (am_v ad v).category = v.category := by cases v <;> rfl
theorem am_ok_le {n n' : Nat} (h : n ≤ n') {v : Value} (hv : am_ok n v) : am_ok n' v := fun b e => Nat.lt_of_lt_of_le (hv b e) h
theorem am_okI {n : Nat} {x : Int32} : am_ok n (.int x) := fun _ h => by cases h
theorem am_okJ {n : Nat} {x : Int64} : am_ok n (.long x) := fun _ h => by cases h
theorem am_okN {n : Nat} : am_ok n .null := fun _ h => by cases h
theorem am_okR {n a : Nat} (h : a < n) : am_ok n (.ref a) := fun b e => by cases e; exact h
theorem am_map_eq {ad ad' : Nat → Nat} {n : Nat} (h : ∀ a : Nat, a < n → ad' a = ad a) {st : List Value} (hs : ∀ v ∈ st, am_ok n v) : st.map (am_v ad') = st.map (am_v ad) :=
  List.map_congr_left (fun v hv => am_v_eq h (hs v hv))
theorem am_c {n : Nat} {v : Value} {st : List Value} (h : am_ok n v) (t : ∀ w ∈ st, am_ok n w) : ∀ w ∈ v :: st, am_ok n w := fun w hw => (List.mem_cons.mp hw).elim (fun e => by rw [e]; exact h) (t w)
theorem am_h {n : Nat} {v : Value} {st : List Value} (h : ∀ w ∈ v :: st, am_ok n w) : am_ok n v := h v List.mem_cons_self
theorem am_t {n : Nat} {v : Value} {st : List Value} (h : ∀ w ∈ v :: st, am_ok n w) : ∀ w ∈ st, am_ok n w := fun w hw => h w (List.mem_cons_of_mem _ hw)
/-- a cell: an array (its kind, length, contents) or an object (its class's number, its fields) -/
abbrev am_C : Type := (Nat × vp_A) ⊕ (Nat × List Value)
/-- the abstract heap: the cells, how many there are (0 is no cell) -/
abbrev am_S : Type := (Nat → am_C) × Nat
/-- what a launch gives: class numbers and slots, array classes, where the heap of the law begins -/
abbrev am_K : Type := va_G × List (ClassId × FieldType) × Nat
/-- a method: name, code, locals, answer, handlers -/
abbrev am_I : Type := MethodName × ByteArray × Nat × Option FieldType × List (Nat × Nat × Nat × Nat)
abbrev am_Y : Type := (Nat → Int32) ⊕ (Nat → Int64) ⊕ (Nat → UInt32) ⊕ (Nat → UInt64) ⊕ (Nat → Option Nat)
def am_p (ad : Nat → Nat) (x : am_Y) : am_Y := match x with
  | .inl f => .inl f
  | .inr (.inl f) => .inr (.inl f)
  | .inr (.inr (.inl f)) => .inr (.inr (.inl f))
  | .inr (.inr (.inr (.inl f))) => .inr (.inr (.inr (.inl f)))
  | .inr (.inr (.inr (.inr f))) => .inr (.inr (.inr (.inr (fun j => (f j).map ad))))
def am_e (K : am_K) (ad : Nat → Nat) (x : am_C) : va_E := match x with
  | .inl y => .inl ((K.2.1.getD y.1 (0, .int)).1, y.2.1, am_p ad y.2.2)
  | .inr y => .inr (y.1, y.2.map (am_v ad))
def am_okY (n : Nat) (x : am_Y) : Prop := match x with
  | .inr (.inr (.inr (.inr f))) => ∀ (j b : Nat), f j = some b → b < n
  | _ => True
def am_okC (n : Nat) (x : am_C) : Prop := match x with
  | .inl y => am_okY n y.2.2
  | .inr y => ∀ v ∈ y.2, am_ok n v
theorem am_okY_le {n n' : Nat} (h : n ≤ n') {x : am_Y} (hx : am_okY n x) : am_okY n' x := by
  match x, hx with
  | .inl f, _ => exact trivial
  | .inr (.inl f), _ => exact trivial
  | .inr (.inr (.inl f)), _ => exact trivial
  | .inr (.inr (.inr (.inl f))), _ => exact trivial
  | .inr (.inr (.inr (.inr f))), hx => exact fun j b hj => Nat.lt_of_lt_of_le (hx j b hj) h
theorem am_okC_le {n n' : Nat} (h : n ≤ n') {x : am_C} (hx : am_okC n x) : am_okC n' x := by
  match x, hx with
  | .inl y, hx => exact am_okY_le h hx
  | .inr y, hx => exact fun v hv => am_ok_le h (hx v hv)
theorem am_p_eq {ad ad' : Nat → Nat} {n : Nat} (h : ∀ a : Nat, a < n → ad' a = ad a) {x : am_Y} (hx : am_okY n x) : am_p ad' x = am_p ad x := by
  match x, hx with
  | .inl f, _ => rfl
  | .inr (.inl f), _ => rfl
  | .inr (.inr (.inl f)), _ => rfl
  | .inr (.inr (.inr (.inl f))), _ => rfl
  | .inr (.inr (.inr (.inr f))), hx =>
    have e : (fun j => (f j).map ad') = (fun j => (f j).map ad) := by
      funext j
      cases hj : f j with
      | none => rfl
      | some b => show some (ad' b) = some (ad b); rw [h b (hx j b hj)]
    show Sum.inr (Sum.inr (Sum.inr (Sum.inr (fun j => (f j).map ad')))) = _
    rw [e]; rfl
theorem am_e_eq {K : am_K} {ad ad' : Nat → Nat} {n : Nat} (h : ∀ a : Nat, a < n → ad' a = ad a) {x : am_C} (hx : am_okC n x) : am_e K ad' x = am_e K ad x := by
  match x, hx with
  | .inl y, hx => show Sum.inl (_, _, am_p ad' y.2.2) = _; rw [am_p_eq h hx]; rfl
  | .inr y, hx => show Sum.inr (_, y.2.map (am_v ad')) = _; rw [am_map_eq h hx]; rfl
def am_up (h : Nat → am_C) (a : Nat) (x : am_C) : Nat → am_C := fun j => if j = a then x else h j
theorem am_up_s {h : Nat → am_C} {a : Nat} {x : am_C} : am_up h a x a = x := if_pos rfl
theorem am_up_n {h : Nat → am_C} {a j : Nat} {x : am_C} (e : j ≠ a) : am_up h a x j = h j := if_neg e
def am_l (K : am_K) (ad : Nat → Nat) (S : am_S) : va_W := (List.range (S.2 - 1)).map (fun j => (ad (j + 1), am_e K ad (S.1 (j + 1))))
theorem am_l_at (K : am_K) (ad : Nat → Nat) (S : am_S) (k : Nat) : (am_l K ad S)[k]? = if k < S.2 - 1 then some (ad (k + 1), am_e K ad (S.1 (k + 1))) else none := by
  unfold am_l
  rw [List.getElem?_map]
  by_cases h : k < S.2 - 1
  · rw [if_pos h, List.getElem?_range h]; rfl
  · rw [if_neg h, List.getElem?_eq_none (by simp; omega)]; rfl
theorem am_l_get {K : am_K} {ad : Nat → Nat} {S : am_S} {a : Nat} (h0 : 0 < a) (h1 : a < S.2) : (am_l K ad S)[a - 1]? = some (ad a, am_e K ad (S.1 a)) := by
  have e : a - 1 + 1 = a := by omega
  rw [am_l_at, if_pos (by omega), e]
theorem am_l_set {K : am_K} {ad : Nat → Nat} {S : am_S} {a : Nat} {x : am_C} (h0 : 0 < a) (h1 : a < S.2) : (am_l K ad S).set (a - 1) (ad a, am_e K ad x) = am_l K ad (am_up S.1 a x, S.2) := by
  apply List.ext_getElem?
  intro k
  rw [List.getElem?_set, am_l_at, am_l_at]
  have hlen : (am_l K ad S).length = S.2 - 1 := by simp [am_l]
  by_cases e : a - 1 = k
  · subst e
    have e2 : a - 1 + 1 = a := by omega
    rw [if_pos rfl, hlen, if_pos (show a - 1 < S.2 - 1 by omega), if_pos (show a - 1 < S.2 - 1 by omega), e2]
    show _ = some (ad a, am_e K ad (am_up S.1 a x a))
    rw [am_up_s]
  · rw [if_neg e]
    by_cases h : k < S.2 - 1
    · rw [if_pos h, if_pos h]
      show _ = some (ad (k + 1), am_e K ad (am_up S.1 a x (k + 1)))
      rw [am_up_n (by omega)]
    · rw [if_neg h, if_neg h]
theorem am_l_push {K : am_K} {ad : Nat → Nat} {S : am_S} {q : Nat} {x : am_C} (h0 : 0 < S.2) (hok : ∀ a : Nat, am_okC S.2 (S.1 a)) (hx : am_okC S.2 x) : am_l K ad S ++ [(q, am_e K ad x)] = am_l K (va_up ad S.2 q) (am_up S.1 S.2 x, S.2 + 1) := by
  have hag : ∀ a : Nat, a < S.2 → va_up ad S.2 q a = ad a := fun a h => va_up_ne ad q (Nat.ne_of_lt h)
  apply List.ext_getElem?
  intro k
  have hlen : (am_l K ad S).length = S.2 - 1 := by simp [am_l]
  by_cases h : k < S.2 - 1
  · rw [List.getElem?_append_left (by omega), am_l_at, am_l_at, if_pos h, if_pos (show k < S.2 + 1 - 1 by omega)]
    show _ = some (va_up ad S.2 q (k + 1), am_e K (va_up ad S.2 q) (am_up S.1 S.2 x (k + 1)))
    rw [am_up_n (by omega), hag _ (by omega), am_e_eq hag (hok _)]
  · rw [List.getElem?_append_right (by omega), am_l_at, hlen]
    by_cases e : k = S.2 - 1
    · subst e
      have e2 : S.2 - 1 + 1 = S.2 := by omega
      rw [if_pos (show S.2 - 1 < S.2 + 1 - 1 by omega), e2, Nat.sub_self]
      show _ = some (va_up ad S.2 q S.2, am_e K (va_up ad S.2 q) (am_up S.1 S.2 x S.2))
      rw [am_up_s, va_up_self, am_e_eq hag hx]; rfl
    · rw [if_neg (show ¬ k < S.2 + 1 - 1 by omega), List.getElem?_eq_none (by simp; omega)]
/-- the machine's heap holds the abstract one -/
def am_R (K : am_K) (ad : Nat → Nat) (S : am_S) (H : Heap) : Prop :=
  va_P K.1 vwCl (am_l K ad S) H ∧ va_D (fun q => K.2.2 ≤ q) (am_l K ad S) ∧ (∀ a : Nat, a = 0 ∨ S.2 ≤ a → S.1 a = .inr (1000, [])) ∧ 0 < S.2 ∧ ∀ a : Nat, am_okC S.2 (S.1 a)
theorem am_R.kept {K : am_K} {ad : Nat → Nat} {S : am_S} {H H1 : Heap} (h : am_R K ad S H) (hq : ∀ q : Nat, q < H.size → H1[q]? = H[q]?) : am_R K ad S H1 :=
  ⟨h.1.kept (fun k q hk => hq _ (h.1 k q hk).lt), h.2⟩
theorem am_R.in {K : am_K} {ad : Nat → Nat} {S : am_S} {H : Heap} {a : Nat} {x : am_C} (h : am_R K ad S H) (hc : S.1 a = x) (hx : x ≠ .inr (1000, [])) : 0 < a ∧ a < S.2 := by
  constructor
  · rcases Nat.eq_zero_or_pos a with e | e
    · exact absurd (hc.symm.trans (h.2.2.1 a (Or.inl e))) hx
    · exact e
  · rcases Nat.lt_or_ge a S.2 with e | e
    · exact e
    · exact absurd (hc.symm.trans (h.2.2.1 a (Or.inr e))) hx
theorem am_R.at {K : am_K} {ad : Nat → Nat} {S : am_S} {H : Heap} {a : Nat} {x : am_C} (h : am_R K ad S H) (hc : S.1 a = x) (hx : x ≠ .inr (1000, [])) : (am_l K ad S)[a - 1]? = some (ad a, am_e K ad x) := by
  obtain ⟨h0, h1⟩ := h.in hc hx
  rw [am_l_get h0 h1, hc]
theorem am_R.set {K : am_K} {ad : Nat → Nat} {S : am_S} {H H1 : Heap} {a : Nat} {x y : am_C} {ws : va_W} (h : am_R K ad S H) (hc : S.1 a = x) (hx : x ≠ .inr (1000, [])) (hy : am_okC S.2 y)
    (e : ws = (am_l K ad S).set (a - 1) (ad a, am_e K ad y)) (hP : va_P K.1 vwCl ws H1) (hD : va_D (fun q => K.2.2 ≤ q) ws) : am_R K ad (am_up S.1 a y, S.2) H1 := by
  obtain ⟨h0, h1⟩ := h.in hc hx
  rw [am_l_set h0 h1] at e
  subst e
  refine ⟨hP, hD, fun b hb => ?_, h.2.2.2.1, fun b => ?_⟩
  · show am_up S.1 a y b = _
    rw [am_up_n (by rcases hb with hb | hb <;> omega)]
    exact h.2.2.1 b hb
  · show am_okC S.2 (am_up S.1 a y b)
    by_cases eb : b = a
    · rw [eb, am_up_s]; exact hy
    · rw [am_up_n eb]; exact h.2.2.2.2 b
theorem am_R.push {K : am_K} {ad : Nat → Nat} {S : am_S} {H H1 : Heap} {q : Nat} {y : am_C} {ws : va_W} (h : am_R K ad S H) (hy : am_okC S.2 y)
    (e : ws = am_l K ad S ++ [(q, am_e K ad y)]) (hP : va_P K.1 vwCl ws H1) (hD : va_D (fun q => K.2.2 ≤ q) ws) : am_R K (va_up ad S.2 q) (am_up S.1 S.2 y, S.2 + 1) H1 := by
  rw [am_l_push h.2.2.2.1 h.2.2.2.2 hy] at e
  subst e
  refine ⟨hP, hD, fun b hb => ?_, Nat.succ_pos _, fun b => ?_⟩
  · show am_up S.1 S.2 y b = _
    have h0 := h.2.2.2.1
    rw [am_up_n (by rcases hb with hb | hb <;> omega)]
    exact h.2.2.1 b (hb.imp id (fun z => by omega))
  · show am_okC (S.2 + 1) (am_up S.1 S.2 y b)
    by_cases eb : b = S.2
    · rw [eb, am_up_s]; exact am_okC_le (Nat.le_succ _) hy
    · rw [am_up_n eb]; exact am_okC_le (Nat.le_succ _) (h.2.2.2.2 b)
/-! the locals -/
def am_L (ad : Nat → Nat) (n nL : Nat) (L : List (Option Value)) (ls : Array Slot) : Prop :=
  ls.size = nL ∧ L.length = nL ∧ lv_wf ls ∧ ∀ (i : Nat) (v : Value), L[i]? = some (some v) → v.category = 1 ∧ am_ok n v ∧ ls[i]? = some (.val (am_v ad v))
theorem am_L.move {ad ad' : Nat → Nat} {n n' nL : Nat} {L : List (Option Value)} {ls : Array Slot} (h : am_L ad n nL L ls) (hag : ∀ a : Nat, a < n → ad' a = ad a) (hn : n ≤ n') : am_L ad' n' nL L ls :=
  ⟨h.1, h.2.1, h.2.2.1, fun i v hv => ⟨(h.2.2.2 i v hv).1, am_ok_le hn (h.2.2.2 i v hv).2.1, by rw [am_v_eq hag (h.2.2.2 i v hv).2.1]; exact (h.2.2.2 i v hv).2.2⟩⟩
def am_lp (ad : Nat → Nat) (L : List (Option Value)) (nL : Nat) : List (Nat × Value) := (List.range nL).filterMap (fun j => match L[j]? with
  | some (some v) => some (j, am_v ad v)
  | _ => none)
theorem am_lp_mem {ad : Nat → Nat} {L : List (Option Value)} {nL j : Nat} {v : Value} (hj : j < nL) (h : L[j]? = some (some v)) : (j, am_v ad v) ∈ am_lp ad L nL := by
  unfold am_lp
  rw [List.mem_filterMap]
  exact ⟨j, List.mem_range.mpr hj, by rw [h]⟩
theorem am_lp_inv {ad : Nat → Nat} {L : List (Option Value)} {nL : Nat} {q : Nat × Value} (h : q ∈ am_lp ad L nL) : ∃ v : Value, L[q.1]? = some (some v) ∧ q.2 = am_v ad v := by
  unfold am_lp at h
  rw [List.mem_filterMap] at h
  obtain ⟨j, -, hj⟩ := h
  match hL : L[j]?, hj with
  | some (some v), hj =>
    cases hj
    exact ⟨v, hL, rfl⟩
  | some none, hj => cases hj
  | none, hj => cases hj
theorem am_L.has {ad : Nat → Nat} {n nL : Nat} {L : List (Option Value)} {ls : Array Slot} (h : am_L ad n nL L ls) : lv_has ls nL (am_lp ad L nL) := by
  refine ⟨h.1, h.2.2.1, fun q hq => ?_⟩
  obtain ⟨v, h1, h2⟩ := am_lp_inv hq
  rw [h2]
  exact (h.2.2.2 _ _ h1).2.2
theorem am_L.back {ad : Nat → Nat} {n nL i : Nat} {L : List (Option Value)} {ls ls' : Array Slot} {v w : Value} (h : am_L ad n nL L ls) (hi : i < nL) (hw : w = am_v ad v) (hc : v.category = 1) (hok : am_ok n v)
    (h' : lv_has ls' nL ((i, w) :: (am_lp ad L nL).filter (fun q => !(q.1 == i) && !(q.1 + 1 == i && q.2.category == 2)))) : am_L ad n nL (L.set i (some v)) ls' := by
  obtain ⟨g1, g2, g3⟩ := h'
  refine ⟨g1, by rw [List.length_set]; exact h.2.1, g2, fun j u hj => ?_⟩
  rw [List.getElem?_set] at hj
  by_cases e : i = j
  · subst e
    rw [if_pos rfl, if_pos (by rw [h.2.1]; exact hi)] at hj
    cases hj
    exact ⟨hc, hok, by rw [← hw]; exact g3 (i, w) List.mem_cons_self⟩
  · rw [if_neg e] at hj
    obtain ⟨k1, k2, -⟩ := h.2.2.2 j u hj
    have hjn : j < nL := by rw [← h.2.1]; exact (List.getElem?_eq_some_iff.mp hj).1
    refine ⟨k1, k2, g3 (j, am_v ad u) (List.mem_cons_of_mem _ (List.mem_filter.mpr ⟨am_lp_mem hjn hj, ?_⟩))⟩
    have c2 : ((am_v ad u).category == 2) = false := by rw [am_v_cat, k1]; rfl
    have c1 : (j == i) = false := by simpa using (fun z => e z.symm)
    show (!(j == i) && !(j + 1 == i && (am_v ad u).category == 2)) = true
    rw [c1, c2]; simp
theorem am_L.drop {ad : Nat → Nat} {n nL i : Nat} {L : List (Option Value)} {ls ls' : Array Slot} {w : Value} (h : am_L ad n nL L ls)
    (h' : lv_has ls' nL ((i, w) :: (am_lp ad L nL).filter (fun q => !(q.1 == i) && !(q.1 + 1 == i && q.2.category == 2)))) : am_L ad n nL (L.set i none) ls' := by
  obtain ⟨g1, g2, g3⟩ := h'
  refine ⟨g1, by rw [List.length_set]; exact h.2.1, g2, fun j u hj => ?_⟩
  rw [List.getElem?_set] at hj
  by_cases e : i = j
  · subst e
    rw [if_pos rfl] at hj
    split at hj <;> cases hj
  · rw [if_neg e] at hj
    obtain ⟨k1, k2, -⟩ := h.2.2.2 j u hj
    have hjn : j < nL := by rw [← h.2.1]; exact (List.getElem?_eq_some_iff.mp hj).1
    refine ⟨k1, k2, g3 (j, am_v ad u) (List.mem_cons_of_mem _ (List.mem_filter.mpr ⟨am_lp_mem hjn hj, ?_⟩))⟩
    have c2 : ((am_v ad u).category == 2) = false := by rw [am_v_cat, k1]; rfl
    have c1 : (j == i) = false := by simpa using (fun z => e z.symm)
    show (!(j == i) && !(j + 1 == i && (am_v ad u).category == 2)) = true
    rw [c1, c2]; simp
end
section
/-! THE WALK OVER THE ABSTRACT HEAP -/
/-- what the machine's own classes give a throw: two statics, the texts -/
def am_T (K : am_K) (U : State) (H : Heap) : Prop := vx_Zq Bundle.tN "UNASSIGNED_STACK" Bundle.steD (fun q => K.2.2 ≤ q) U H ∧ vx_Zq Bundle.tN "SUPPRESSED_SENTINEL" Bundle.listD (fun q => K.2.2 ≤ q) U H ∧ (∀ w ∈ am_strs, ∃ sa : Nat, vk_R w.1 w.2.1 w.2.2 sa U) ∧ (∀ C : String, Cond.arrayOver (.object C) ∈ am_over → va_AO C U) ∧ (∀ w ∈ am_ncs, va_Nc w.1 w.2 U) ∧ (∀ x ∈ am_dcl, va_Nw (.declares x) U) ∧ (∀ w ∈ am_cst, va_Nw (.castable w.1 w.2) U) ∧ ∀ w ∈ am_nst, va_Nw (.methodLinkNest w.1 w.2.1 w.2.2.1 w.2.2.2) U
theorem am_T.moved {K : am_K} {u U : State} {H : Heap} (hW : u.WarmedH U.vm) (h : am_T K u H) : am_T K U H := by
  obtain ⟨h1, h2, h3, h4, h5, h6, h7, h8⟩ := h
  exact ⟨vx_Zq.moved hW.alike h1, vx_Zq.moved hW.alike h2, fun w hw => by obtain ⟨sa, hs⟩ := h3 w hw; exact ⟨sa, vk_R.warm hW hs⟩, fun C hC => va_AO.moved hW.alike (h4 C hC), fun w hw => va_Nc.moved hW.alike (h5 w hw), fun x hx => va_Nw.warmD hW (h6 x hx), fun w hw => va_Nw.warmC hW (h7 w hw), fun w hw => va_Nw.warmM hW (h8 w hw)⟩
theorem am_T.same {K : am_K} {u U : State} {H : Heap} (hv : U.vm = u.vm) (h : am_T K u H) : am_T K U H := by
  obtain ⟨h1, h2, h3, h4, h5, h6, h7, h8⟩ := h
  have ha : u.vm.Alike U.vm := by rw [hv]; exact Vm.Alike.refl _
  exact ⟨vx_Zq.moved ha h1, vx_Zq.moved ha h2, fun w hw => by obtain ⟨sa, hs⟩ := h3 w hw; exact ⟨sa, vk_R.same hv hs⟩, fun C hC => va_AO.moved ha (h4 C hC), fun w hw => va_Nc.moved ha (h5 w hw), fun x hx => va_Nw.same rfl hv.symm (h6 x hx), fun w hw => va_Nw.same rfl hv.symm (h7 w hw), fun w hw => va_Nw.same rfl hv.symm (h8 w hw)⟩
theorem am_T.kept {K : am_K} {U : State} {H H1 : Heap} (h : am_T K U H) (hq : ∀ a : Nat, a < H.size → ¬ K.2.2 ≤ a → H1[a]? = H[a]?) : am_T K U H1 := ⟨vx_Zq.kept h.1 hq, vx_Zq.kept h.2.1 hq, h.2.2⟩
/-- what holds at a method's body, whatever its state -/
def am_X (K : am_K) (I : am_I) (p : Program) (l : Launch) (s : State) (m : MethodId) (args : Array Value) (meth : Method) (c : Code) : Prop :=
  p.tables.exec = Jvm.exec ∧ c.code = I.2.1 ∧ c.maxLocals = I.2.2.1 ∧ meth.sig.returnType = I.2.2.2.1 ∧ c.exceptionTable.toList = tableOf I.2.2.2.2 ∧ meth.locks = false ∧ s.vm.findClass I.1.cls = some m.cls ∧ (∀ w ∈ am_big, w.before args s = true) ∧ va_K K.1 vwCl K.2.1 s ∧ am_T K s s.heap ∧ l.stackTraces = false ∧ meth.name = I.1.name ∧ K.2.2 ≤ s.heap.size ∧ K.2.1.map (fun q => q.2) = am_tys
def am_W (K : am_K) (I : am_I) (p : Program) (l : Launch) (e : Env) (R : Room) (s : State) (m : MethodId) (args : Array Value) (below : List Frame) (meth : Method) (c : Code) (S0 : am_S) (ad0 : Nat → Nat) (Q : State → Prop) (pc : Nat) (L : List (Option Value)) (st : List Value) (S : am_S) (cells slots : Nat) : Prop :=
  am_X K I p l s m args meth c → ∀ (ad : Nat → Nat) (ls : Array Slot) (H : Heap) (locs : List Loc), (∀ a : Nat, a < S0.2 → ad a = ad0 a) → S0.2 ≤ S.2 → am_R K ad S H → va_S (fun q => K.2.2 ≤ q) s.heap H locs → am_L ad S.2 I.2.2.1 L ls → (∀ v ∈ st, am_ok S.2 v) →
    W p l e R s m args below meth c H locs cells slots Q (F0 m pc ls (st.map (am_v ad)))
section AMB
variable {K : am_K} {I : am_I} {p : Program} {l : Launch} {e : Env} {R : Room} {s : State} {m : MethodId} {args : Array Value} {below : List Frame} {meth : Method} {c : Code} {S0 S : am_S} {ad0 : Nat → Nat} {Q : State → Prop} {pc : Nat} {L : List (Option Value)} {st : List Value} {cells slots : Nat}
theorem am_iconst {n : Int} {x : Int32} (hd : decode I.2.1 pc = .ok (.iconst n, 1)) (hv : Int32.ofInt n = x)
    (kk : am_W K I p l e R s m args below meth c S0 ad0 Q (pc + 1) L (.int x :: st) S cells slots) : am_W K I p l e R s m args below meth c S0 ad0 Q pc L (st) S cells slots := by
  intro C ad ls H locs h0 h1 hR hS hL hst
  exact lv_iconst C.1 C.2.1 hd hv (kk C ad ls H locs h0 h1 hR hS hL (am_c am_okI hst))
theorem am_bipush {n : Int} {x : Int32} (hd : decode I.2.1 pc = .ok (.bipush n, 2)) (hv : (Int8.ofInt n).toInt32 = x)
    (kk : am_W K I p l e R s m args below meth c S0 ad0 Q (pc + 2) L (.int x :: st) S cells slots) : am_W K I p l e R s m args below meth c S0 ad0 Q pc L (st) S cells slots := by
  intro C ad ls H locs h0 h1 hR hS hL hst
  exact lv_bipush C.1 C.2.1 hd hv (kk C ad ls H locs h0 h1 hR hS hL (am_c am_okI hst))
theorem am_sipush {n : Int} {x : Int32} (hd : decode I.2.1 pc = .ok (.sipush n, 3)) (hv : (Int16.ofInt n).toInt32 = x)
    (kk : am_W K I p l e R s m args below meth c S0 ad0 Q (pc + 3) L (.int x :: st) S cells slots) : am_W K I p l e R s m args below meth c S0 ad0 Q pc L (st) S cells slots := by
  intro C ad ls H locs h0 h1 hR hS hL hst
  exact lv_sipush C.1 C.2.1 hd hv (kk C ad ls H locs h0 h1 hR hS hL (am_c am_okI hst))
theorem am_lconst {n : Fin 2} {x : Int64} (hd : decode I.2.1 pc = .ok (.lconst n, 1)) (hv : Int64.ofNat (n : Nat) = x)
    (kk : am_W K I p l e R s m args below meth c S0 ad0 Q (pc + 1) L (.long x :: st) S cells slots) : am_W K I p l e R s m args below meth c S0 ad0 Q pc L (st) S cells slots := by
  intro C ad ls H locs h0 h1 hR hS hL hst
  exact lv_lconst C.1 C.2.1 hd hv (kk C ad ls H locs h0 h1 hR hS hL (am_c am_okJ hst))
theorem am_ldc {i : Nat} {x : Int32} (hd : decode I.2.1 pc = .ok (.ldc i, 2)) (hw : Jvm.Cond.constant I.1.cls i x ∈ am_big)
    (kk : am_W K I p l e R s m args below meth c S0 ad0 Q (pc + 2) L (.int x :: st) S cells slots) : am_W K I p l e R s m args below meth c S0 ad0 Q pc L (st) S cells slots := by
  intro C ad ls H locs h0 h1 hR hS hL hst
  exact lv_ldc C.1 C.2.1 C.2.2.2.2.2.2.1 (C.2.2.2.2.2.2.2.1 _ hw) hd (kk C ad ls H locs h0 h1 hR hS hL (am_c am_okI hst))
theorem am_null  (hd : decode I.2.1 pc = .ok (.aconst_null, 1))
    (kk : am_W K I p l e R s m args below meth c S0 ad0 Q (pc + 1) L (.null :: st) S cells slots) : am_W K I p l e R s m args below meth c S0 ad0 Q pc L (st) S cells slots := by
  intro C ad ls H locs h0 h1 hR hS hL hst
  exact lv_null C.1 C.2.1 hd (kk C ad ls H locs h0 h1 hR hS hL (am_c am_okN hst))
theorem am_iload_n {k : Fin 4} {i : Nat} {x : Int32} (hd : decode I.2.1 pc = .ok (.iload_n k, 1)) (hi : (k : Nat) = i) (hl : L[i]? = some (some (.int x)))
    (kk : am_W K I p l e R s m args below meth c S0 ad0 Q (pc + 1) L (.int x :: st) S cells slots) : am_W K I p l e R s m args below meth c S0 ad0 Q pc L (st) S cells slots := by
  intro C ad ls H locs h0 h1 hR hS hL hst
  exact lv_iload_n C.1 C.2.1 hd hi (hL.2.2.2 i _ hl).2.2 (kk C ad ls H locs h0 h1 hR hS hL (am_c (hL.2.2.2 i _ hl).2.1 hst))
theorem am_iload {i : Nat} {x : Int32} (hd : decode I.2.1 pc = .ok (.iload i, 2)) (hl : L[i]? = some (some (.int x)))
    (kk : am_W K I p l e R s m args below meth c S0 ad0 Q (pc + 2) L (.int x :: st) S cells slots) : am_W K I p l e R s m args below meth c S0 ad0 Q pc L (st) S cells slots := by
  intro C ad ls H locs h0 h1 hR hS hL hst
  exact lv_iload C.1 C.2.1 hd (hL.2.2.2 i _ hl).2.2 (kk C ad ls H locs h0 h1 hR hS hL (am_c (hL.2.2.2 i _ hl).2.1 hst))
theorem am_aload_n {k : Fin 4} {i : Nat} {x : Nat} (hd : decode I.2.1 pc = .ok (.aload_n k, 1)) (hi : (k : Nat) = i) (hl : L[i]? = some (some (.ref x)))
    (kk : am_W K I p l e R s m args below meth c S0 ad0 Q (pc + 1) L (.ref x :: st) S cells slots) : am_W K I p l e R s m args below meth c S0 ad0 Q pc L (st) S cells slots := by
  intro C ad ls H locs h0 h1 hR hS hL hst
  exact lv_aload_n C.1 C.2.1 hd hi (hL.2.2.2 i _ hl).2.2 (kk C ad ls H locs h0 h1 hR hS hL (am_c (hL.2.2.2 i _ hl).2.1 hst))
theorem am_aload {i : Nat} {x : Nat} (hd : decode I.2.1 pc = .ok (.aload i, 2)) (hl : L[i]? = some (some (.ref x)))
    (kk : am_W K I p l e R s m args below meth c S0 ad0 Q (pc + 2) L (.ref x :: st) S cells slots) : am_W K I p l e R s m args below meth c S0 ad0 Q pc L (st) S cells slots := by
  intro C ad ls H locs h0 h1 hR hS hL hst
  exact lv_aload C.1 C.2.1 hd (hL.2.2.2 i _ hl).2.2 (kk C ad ls H locs h0 h1 hR hS hL (am_c (hL.2.2.2 i _ hl).2.1 hst))
theorem am_aload_nN {k : Fin 4} {i : Nat} (hd : decode I.2.1 pc = .ok (.aload_n k, 1)) (hi : (k : Nat) = i) (hl : L[i]? = some (some .null))
    (kk : am_W K I p l e R s m args below meth c S0 ad0 Q (pc + 1) L (.null :: st) S cells slots) : am_W K I p l e R s m args below meth c S0 ad0 Q pc L (st) S cells slots := by
  intro C ad ls H locs h0 h1 hR hS hL hst
  exact lv_aload_nN C.1 C.2.1 hd hi (hL.2.2.2 i _ hl).2.2 (kk C ad ls H locs h0 h1 hR hS hL (am_c am_okN hst))
theorem am_aloadN {i : Nat} (hd : decode I.2.1 pc = .ok (.aload i, 2)) (hl : L[i]? = some (some .null))
    (kk : am_W K I p l e R s m args below meth c S0 ad0 Q (pc + 2) L (.null :: st) S cells slots) : am_W K I p l e R s m args below meth c S0 ad0 Q pc L (st) S cells slots := by
  intro C ad ls H locs h0 h1 hR hS hL hst
  exact lv_aloadN C.1 C.2.1 hd (hL.2.2.2 i _ hl).2.2 (kk C ad ls H locs h0 h1 hR hS hL (am_c am_okN hst))
theorem am_istore_n {k : Fin 4} {i : Nat} {L' : List (Option Value)} {x : Int32} (hd : decode I.2.1 pc = .ok (.istore_n k, 1)) (hi : (k : Nat) = i) (hn : i < I.2.2.1) (hl : L.set i (some (.int x)) = L')
    (kk : am_W K I p l e R s m args below meth c S0 ad0 Q (pc + 1) L' st S cells slots) : am_W K I p l e R s m args below meth c S0 ad0 Q pc L (.int x :: st) S cells slots := by
  intro C ad ls H locs h0 h1 hR hS hL hst
  exact lv_istore_n C.1 C.2.1 hd hi hL.has hn rfl (fun ls' h' => kk C ad ls' H locs h0 h1 hR hS (by rw [← hl]; exact hL.back hn rfl rfl (am_h hst) h') (am_t hst))
theorem am_istore {i : Nat} {L' : List (Option Value)} {x : Int32} (hd : decode I.2.1 pc = .ok (.istore i, 2)) (hn : i < I.2.2.1) (hl : L.set i (some (.int x)) = L')
    (kk : am_W K I p l e R s m args below meth c S0 ad0 Q (pc + 2) L' st S cells slots) : am_W K I p l e R s m args below meth c S0 ad0 Q pc L (.int x :: st) S cells slots := by
  intro C ad ls H locs h0 h1 hR hS hL hst
  exact lv_istore C.1 C.2.1 hd hL.has hn rfl (fun ls' h' => kk C ad ls' H locs h0 h1 hR hS (by rw [← hl]; exact hL.back hn rfl rfl (am_h hst) h') (am_t hst))
theorem am_astore_n {k : Fin 4} {i : Nat} {L' : List (Option Value)} {x : Nat} (hd : decode I.2.1 pc = .ok (.astore_n k, 1)) (hi : (k : Nat) = i) (hn : i < I.2.2.1) (hl : L.set i (some (.ref x)) = L')
    (kk : am_W K I p l e R s m args below meth c S0 ad0 Q (pc + 1) L' st S cells slots) : am_W K I p l e R s m args below meth c S0 ad0 Q pc L (.ref x :: st) S cells slots := by
  intro C ad ls H locs h0 h1 hR hS hL hst
  exact lv_astore_n C.1 C.2.1 hd hi hL.has hn rfl (fun ls' h' => kk C ad ls' H locs h0 h1 hR hS (by rw [← hl]; exact hL.back hn rfl rfl (am_h hst) h') (am_t hst))
theorem am_astore {i : Nat} {L' : List (Option Value)} {x : Nat} (hd : decode I.2.1 pc = .ok (.astore i, 2)) (hn : i < I.2.2.1) (hl : L.set i (some (.ref x)) = L')
    (kk : am_W K I p l e R s m args below meth c S0 ad0 Q (pc + 2) L' st S cells slots) : am_W K I p l e R s m args below meth c S0 ad0 Q pc L (.ref x :: st) S cells slots := by
  intro C ad ls H locs h0 h1 hR hS hL hst
  exact lv_astore C.1 C.2.1 hd hL.has hn rfl (fun ls' h' => kk C ad ls' H locs h0 h1 hR hS (by rw [← hl]; exact hL.back hn rfl rfl (am_h hst) h') (am_t hst))
theorem am_astore_nN {k : Fin 4} {i : Nat} {L' : List (Option Value)}  (hd : decode I.2.1 pc = .ok (.astore_n k, 1)) (hi : (k : Nat) = i) (hn : i < I.2.2.1) (hl : L.set i (some (.null)) = L')
    (kk : am_W K I p l e R s m args below meth c S0 ad0 Q (pc + 1) L' st S cells slots) : am_W K I p l e R s m args below meth c S0 ad0 Q pc L (.null :: st) S cells slots := by
  intro C ad ls H locs h0 h1 hR hS hL hst
  exact lv_astore_nN C.1 C.2.1 hd hi hL.has hn rfl (fun ls' h' => kk C ad ls' H locs h0 h1 hR hS (by rw [← hl]; exact hL.back hn rfl rfl (am_h hst) h') (am_t hst))
theorem am_astoreN {i : Nat} {L' : List (Option Value)}  (hd : decode I.2.1 pc = .ok (.astore i, 2)) (hn : i < I.2.2.1) (hl : L.set i (some (.null)) = L')
    (kk : am_W K I p l e R s m args below meth c S0 ad0 Q (pc + 2) L' st S cells slots) : am_W K I p l e R s m args below meth c S0 ad0 Q pc L (.null :: st) S cells slots := by
  intro C ad ls H locs h0 h1 hR hS hL hst
  exact lv_astoreN C.1 C.2.1 hd hL.has hn rfl (fun ls' h' => kk C ad ls' H locs h0 h1 hR hS (by rw [← hl]; exact hL.back hn rfl rfl (am_h hst) h') (am_t hst))
theorem am_iinc {i : Nat} {n : Int} {x y : Int32} {L' : List (Option Value)} (hd : decode I.2.1 pc = .ok (.iinc i n, 3)) (hx : L[i]? = some (some (.int x))) (hv : x + Int32.ofInt n = y) (hl : L.set i (some (.int y)) = L')
    (kk : am_W K I p l e R s m args below meth c S0 ad0 Q (pc + 3) L' st S cells slots) : am_W K I p l e R s m args below meth c S0 ad0 Q pc L st S cells slots := by
  intro C ad ls H locs h0 h1 hR hS hL hst
  have hn : i < I.2.2.1 := by rw [← hL.2.1]; exact (List.getElem?_eq_some_iff.mp hx).1
  obtain ⟨k, hk⟩ := List.getElem?_of_mem (am_lp_mem (ad := ad) hn hx)
  exact lv_iinc C.1 C.2.1 hd hL.has (k := k) hk hv hn rfl (fun ls' h' => kk C ad ls' H locs h0 h1 hR hS (by rw [← hl]; exact hL.back hn rfl rfl am_okI h') hst)
theorem am_iadd {x y : Int32} (hd : decode I.2.1 pc = .ok (.iadd, 1))
    (kk : am_W K I p l e R s m args below meth c S0 ad0 Q (pc + 1) L (.int (x + y) :: st) S cells slots) : am_W K I p l e R s m args below meth c S0 ad0 Q pc L (.int y :: .int x :: st) S cells slots := by
  intro C ad ls H locs h0 h1 hR hS hL hst
  exact lv_iadd C.1 C.2.1 hd (kk C ad ls H locs h0 h1 hR hS hL (am_c am_okI (am_t (am_t hst))))
theorem am_isub {x y : Int32} (hd : decode I.2.1 pc = .ok (.isub, 1))
    (kk : am_W K I p l e R s m args below meth c S0 ad0 Q (pc + 1) L (.int (x - y) :: st) S cells slots) : am_W K I p l e R s m args below meth c S0 ad0 Q pc L (.int y :: .int x :: st) S cells slots := by
  intro C ad ls H locs h0 h1 hR hS hL hst
  exact lv_isub C.1 C.2.1 hd (kk C ad ls H locs h0 h1 hR hS hL (am_c am_okI (am_t (am_t hst))))
theorem am_imul {x y : Int32} (hd : decode I.2.1 pc = .ok (.imul, 1))
    (kk : am_W K I p l e R s m args below meth c S0 ad0 Q (pc + 1) L (.int (x * y) :: st) S cells slots) : am_W K I p l e R s m args below meth c S0 ad0 Q pc L (.int y :: .int x :: st) S cells slots := by
  intro C ad ls H locs h0 h1 hR hS hL hst
  exact lv_imul C.1 C.2.1 hd (kk C ad ls H locs h0 h1 hR hS hL (am_c am_okI (am_t (am_t hst))))
theorem am_iand {x y : Int32} (hd : decode I.2.1 pc = .ok (.iand, 1))
    (kk : am_W K I p l e R s m args below meth c S0 ad0 Q (pc + 1) L (.int (x &&& y) :: st) S cells slots) : am_W K I p l e R s m args below meth c S0 ad0 Q pc L (.int y :: .int x :: st) S cells slots := by
  intro C ad ls H locs h0 h1 hR hS hL hst
  exact lv_iand C.1 C.2.1 hd (kk C ad ls H locs h0 h1 hR hS hL (am_c am_okI (am_t (am_t hst))))
theorem am_ior {x y : Int32} (hd : decode I.2.1 pc = .ok (.ior, 1))
    (kk : am_W K I p l e R s m args below meth c S0 ad0 Q (pc + 1) L (.int (x ||| y) :: st) S cells slots) : am_W K I p l e R s m args below meth c S0 ad0 Q pc L (.int y :: .int x :: st) S cells slots := by
  intro C ad ls H locs h0 h1 hR hS hL hst
  exact lv_ior C.1 C.2.1 hd (kk C ad ls H locs h0 h1 hR hS hL (am_c am_okI (am_t (am_t hst))))
theorem am_ixor {x y : Int32} (hd : decode I.2.1 pc = .ok (.ixor, 1))
    (kk : am_W K I p l e R s m args below meth c S0 ad0 Q (pc + 1) L (.int (x ^^^ y) :: st) S cells slots) : am_W K I p l e R s m args below meth c S0 ad0 Q pc L (.int y :: .int x :: st) S cells slots := by
  intro C ad ls H locs h0 h1 hR hS hL hst
  exact lv_ixor C.1 C.2.1 hd (kk C ad ls H locs h0 h1 hR hS hL (am_c am_okI (am_t (am_t hst))))
theorem am_ishl {x y : Int32} (hd : decode I.2.1 pc = .ok (.ishl, 1))
    (kk : am_W K I p l e R s m args below meth c S0 ad0 Q (pc + 1) L (.int (x <<< (y &&& 31)) :: st) S cells slots) : am_W K I p l e R s m args below meth c S0 ad0 Q pc L (.int y :: .int x :: st) S cells slots := by
  intro C ad ls H locs h0 h1 hR hS hL hst
  exact lv_ishl C.1 C.2.1 hd (kk C ad ls H locs h0 h1 hR hS hL (am_c am_okI (am_t (am_t hst))))
theorem am_ishr {x y : Int32} (hd : decode I.2.1 pc = .ok (.ishr, 1))
    (kk : am_W K I p l e R s m args below meth c S0 ad0 Q (pc + 1) L (.int (x >>> (y &&& 31)) :: st) S cells slots) : am_W K I p l e R s m args below meth c S0 ad0 Q pc L (.int y :: .int x :: st) S cells slots := by
  intro C ad ls H locs h0 h1 hR hS hL hst
  exact lv_ishr C.1 C.2.1 hd (kk C ad ls H locs h0 h1 hR hS hL (am_c am_okI (am_t (am_t hst))))
theorem am_idiv {x y : Int32} (hd : decode I.2.1 pc = .ok (.idiv, 1)) (hne : ¬ y = 0)
    (kk : am_W K I p l e R s m args below meth c S0 ad0 Q (pc + 1) L (.int (x / y) :: st) S cells slots) : am_W K I p l e R s m args below meth c S0 ad0 Q pc L (.int y :: .int x :: st) S cells slots := by
  intro C ad ls H locs h0 h1 hR hS hL hst
  exact lv_idiv C.1 C.2.1 hd hne (kk C ad ls H locs h0 h1 hR hS hL (am_c am_okI (am_t (am_t hst))))
theorem am_irem {x y : Int32} (hd : decode I.2.1 pc = .ok (.irem, 1)) (hne : ¬ y = 0)
    (kk : am_W K I p l e R s m args below meth c S0 ad0 Q (pc + 1) L (.int (x - x / y * y) :: st) S cells slots) : am_W K I p l e R s m args below meth c S0 ad0 Q pc L (.int y :: .int x :: st) S cells slots := by
  intro C ad ls H locs h0 h1 hR hS hL hst
  exact lv_irem C.1 C.2.1 hd hne (kk C ad ls H locs h0 h1 hR hS hL (am_c am_okI (am_t (am_t hst))))
theorem am_iushr {x y : Int32} (hd : decode I.2.1 pc = .ok (.iushr, 1))
    (kk : am_W K I p l e R s m args below meth c S0 ad0 Q (pc + 1) L (.int ((x.toUInt32 >>> (y.toUInt32 &&& Int32.toUInt32 31)).toInt32) :: st) S cells slots) : am_W K I p l e R s m args below meth c S0 ad0 Q pc L (.int y :: .int x :: st) S cells slots := by
  intro C ad ls H locs h0 h1 hR hS hL hst
  exact lv_iushr C.1 C.2.1 hd rfl (kk C ad ls H locs h0 h1 hR hS hL (am_c am_okI (am_t (am_t hst))))
theorem am_ineg {x : Int32} (hd : decode I.2.1 pc = .ok (.ineg, 1))
    (kk : am_W K I p l e R s m args below meth c S0 ad0 Q (pc + 1) L (.int (-x) :: st) S cells slots) : am_W K I p l e R s m args below meth c S0 ad0 Q pc L (.int x :: st) S cells slots := by
  intro C ad ls H locs h0 h1 hR hS hL hst
  exact lv_ineg C.1 C.2.1 hd (kk C ad ls H locs h0 h1 hR hS hL (am_c am_okI (am_t hst)))
theorem am_i2l {x : Int32} (hd : decode I.2.1 pc = .ok (.i2l, 1))
    (kk : am_W K I p l e R s m args below meth c S0 ad0 Q (pc + 1) L (.long x.toInt64 :: st) S cells slots) : am_W K I p l e R s m args below meth c S0 ad0 Q pc L (.int x :: st) S cells slots := by
  intro C ad ls H locs h0 h1 hR hS hL hst
  exact lv_i2l C.1 C.2.1 hd rfl (kk C ad ls H locs h0 h1 hR hS hL (am_c am_okJ (am_t hst)))
theorem am_dup {v : Value} (hd : decode I.2.1 pc = .ok (.dup, 1)) (hv : v.category = 1)
    (kk : am_W K I p l e R s m args below meth c S0 ad0 Q (pc + 1) L (v :: v :: st) S cells slots) : am_W K I p l e R s m args below meth c S0 ad0 Q pc L (v :: st) S cells slots := by
  intro C ad ls H locs h0 h1 hR hS hL hst
  exact lv_dup C.1 C.2.1 hd ((am_v_cat ad v).trans hv) (kk C ad ls H locs h0 h1 hR hS hL (am_c (am_h hst) hst))
theorem am_pop {v : Value} (hd : decode I.2.1 pc = .ok (.pop, 1)) (hv : v.category = 1)
    (kk : am_W K I p l e R s m args below meth c S0 ad0 Q (pc + 1) L (st) S cells slots) : am_W K I p l e R s m args below meth c S0 ad0 Q pc L (v :: st) S cells slots := by
  intro C ad ls H locs h0 h1 hR hS hL hst
  exact lv_pop C.1 C.2.1 hd ((am_v_cat ad v).trans hv) (kk C ad ls H locs h0 h1 hR hS hL (am_t hst))
theorem am_dup_x1 {v w : Value} (hd : decode I.2.1 pc = .ok (.dup_x1, 1)) (hv : v.category = 1) (hw : w.category = 1)
    (kk : am_W K I p l e R s m args below meth c S0 ad0 Q (pc + 1) L (v :: w :: v :: st) S cells slots) : am_W K I p l e R s m args below meth c S0 ad0 Q pc L (v :: w :: st) S cells slots := by
  intro C ad ls H locs h0 h1 hR hS hL hst
  exact lv_dup_x1 C.1 C.2.1 hd ((am_v_cat ad v).trans hv) ((am_v_cat ad w).trans hw) (kk C ad ls H locs h0 h1 hR hS hL (am_c (am_h hst) (am_c (am_h (am_t hst)) (am_c (am_h hst) (am_t (am_t hst))))))
theorem am_dup_x2 {v w z : Value} (hd : decode I.2.1 pc = .ok (.dup_x2, 1)) (hv : v.category = 1) (hw : w.category = 1) (hz : z.category = 1)
    (kk : am_W K I p l e R s m args below meth c S0 ad0 Q (pc + 1) L (v :: w :: z :: v :: st) S cells slots) : am_W K I p l e R s m args below meth c S0 ad0 Q pc L (v :: w :: z :: st) S cells slots := by
  intro C ad ls H locs h0 h1 hR hS hL hst
  exact lv_dup_x2 C.1 C.2.1 hd ((am_v_cat ad v).trans hv) ((am_v_cat ad w).trans hw) ((am_v_cat ad z).trans hz) (kk C ad ls H locs h0 h1 hR hS hL (am_c (am_h hst) (am_c (am_h (am_t hst)) (am_c (am_h (am_t (am_t hst))) (am_c (am_h hst) (am_t (am_t (am_t hst))))))))
theorem am_dup2 {v w : Value} (hd : decode I.2.1 pc = .ok (.dup2, 1)) (hv : v.category = 1) (hw : w.category = 1)
    (kk : am_W K I p l e R s m args below meth c S0 ad0 Q (pc + 1) L (v :: w :: v :: w :: st) S cells slots) : am_W K I p l e R s m args below meth c S0 ad0 Q pc L (v :: w :: st) S cells slots := by
  intro C ad ls H locs h0 h1 hR hS hL hst
  exact lv_dup2_11 C.1 C.2.1 hd ((am_v_cat ad v).trans hv) ((am_v_cat ad w).trans hw) (kk C ad ls H locs h0 h1 hR hS hL (am_c (am_h hst) (am_c (am_h (am_t hst)) hst)))
theorem am_if_eq {x : Int32} {off : Int} {tgt : Nat} (hd : decode I.2.1 pc = .ok (.ifCond .eq off, 3)) (ht : (pc : Int) + off = (tgt : Int))
    (kt : x = 0 → am_W K I p l e R s m args below meth c S0 ad0 Q tgt L st S cells slots) (kf : ¬ x = 0 → am_W K I p l e R s m args below meth c S0 ad0 Q (pc + 3) L st S cells slots) : am_W K I p l e R s m args below meth c S0 ad0 Q pc L (.int x :: st) S cells slots := by
  intro C ad ls H locs h0 h1 hR hS hL hst
  exact lv_if_eq C.1 C.2.1 hd ht (fun q => kt q C ad ls H locs h0 h1 hR hS hL (am_t hst)) (fun q => kf q C ad ls H locs h0 h1 hR hS hL (am_t hst))
theorem am_icmp_eq {x y : Int32} {off : Int} {tgt : Nat} (hd : decode I.2.1 pc = .ok (.if_icmp .eq off, 3)) (ht : (pc : Int) + off = (tgt : Int))
    (kt : x = y → am_W K I p l e R s m args below meth c S0 ad0 Q tgt L st S cells slots) (kf : ¬ x = y → am_W K I p l e R s m args below meth c S0 ad0 Q (pc + 3) L st S cells slots) : am_W K I p l e R s m args below meth c S0 ad0 Q pc L (.int y :: .int x :: st) S cells slots := by
  intro C ad ls H locs h0 h1 hR hS hL hst
  exact lv_icmp_eq C.1 C.2.1 hd ht (fun q => kt q C ad ls H locs h0 h1 hR hS hL (am_t (am_t hst))) (fun q => kf q C ad ls H locs h0 h1 hR hS hL (am_t (am_t hst)))
theorem am_if_ne {x : Int32} {off : Int} {tgt : Nat} (hd : decode I.2.1 pc = .ok (.ifCond .ne off, 3)) (ht : (pc : Int) + off = (tgt : Int))
    (kt : ¬ x = 0 → am_W K I p l e R s m args below meth c S0 ad0 Q tgt L st S cells slots) (kf : x = 0 → am_W K I p l e R s m args below meth c S0 ad0 Q (pc + 3) L st S cells slots) : am_W K I p l e R s m args below meth c S0 ad0 Q pc L (.int x :: st) S cells slots := by
  intro C ad ls H locs h0 h1 hR hS hL hst
  exact lv_if_ne C.1 C.2.1 hd ht (fun q => kt q C ad ls H locs h0 h1 hR hS hL (am_t hst)) (fun q => kf q C ad ls H locs h0 h1 hR hS hL (am_t hst))
theorem am_icmp_ne {x y : Int32} {off : Int} {tgt : Nat} (hd : decode I.2.1 pc = .ok (.if_icmp .ne off, 3)) (ht : (pc : Int) + off = (tgt : Int))
    (kt : ¬ x = y → am_W K I p l e R s m args below meth c S0 ad0 Q tgt L st S cells slots) (kf : x = y → am_W K I p l e R s m args below meth c S0 ad0 Q (pc + 3) L st S cells slots) : am_W K I p l e R s m args below meth c S0 ad0 Q pc L (.int y :: .int x :: st) S cells slots := by
  intro C ad ls H locs h0 h1 hR hS hL hst
  exact lv_icmp_ne C.1 C.2.1 hd ht (fun q => kt q C ad ls H locs h0 h1 hR hS hL (am_t (am_t hst))) (fun q => kf q C ad ls H locs h0 h1 hR hS hL (am_t (am_t hst)))
theorem am_if_lt {x : Int32} {off : Int} {tgt : Nat} (hd : decode I.2.1 pc = .ok (.ifCond .lt off, 3)) (ht : (pc : Int) + off = (tgt : Int))
    (kt : x < 0 → am_W K I p l e R s m args below meth c S0 ad0 Q tgt L st S cells slots) (kf : ¬ x < 0 → am_W K I p l e R s m args below meth c S0 ad0 Q (pc + 3) L st S cells slots) : am_W K I p l e R s m args below meth c S0 ad0 Q pc L (.int x :: st) S cells slots := by
  intro C ad ls H locs h0 h1 hR hS hL hst
  exact lv_if_lt C.1 C.2.1 hd ht (fun q => kt q C ad ls H locs h0 h1 hR hS hL (am_t hst)) (fun q => kf q C ad ls H locs h0 h1 hR hS hL (am_t hst))
theorem am_icmp_lt {x y : Int32} {off : Int} {tgt : Nat} (hd : decode I.2.1 pc = .ok (.if_icmp .lt off, 3)) (ht : (pc : Int) + off = (tgt : Int))
    (kt : x < y → am_W K I p l e R s m args below meth c S0 ad0 Q tgt L st S cells slots) (kf : ¬ x < y → am_W K I p l e R s m args below meth c S0 ad0 Q (pc + 3) L st S cells slots) : am_W K I p l e R s m args below meth c S0 ad0 Q pc L (.int y :: .int x :: st) S cells slots := by
  intro C ad ls H locs h0 h1 hR hS hL hst
  exact lv_icmp_lt C.1 C.2.1 hd ht (fun q => kt q C ad ls H locs h0 h1 hR hS hL (am_t (am_t hst))) (fun q => kf q C ad ls H locs h0 h1 hR hS hL (am_t (am_t hst)))
theorem am_if_ge {x : Int32} {off : Int} {tgt : Nat} (hd : decode I.2.1 pc = .ok (.ifCond .ge off, 3)) (ht : (pc : Int) + off = (tgt : Int))
    (kt : 0 ≤ x → am_W K I p l e R s m args below meth c S0 ad0 Q tgt L st S cells slots) (kf : ¬ 0 ≤ x → am_W K I p l e R s m args below meth c S0 ad0 Q (pc + 3) L st S cells slots) : am_W K I p l e R s m args below meth c S0 ad0 Q pc L (.int x :: st) S cells slots := by
  intro C ad ls H locs h0 h1 hR hS hL hst
  exact lv_if_ge C.1 C.2.1 hd ht (fun q => kt q C ad ls H locs h0 h1 hR hS hL (am_t hst)) (fun q => kf q C ad ls H locs h0 h1 hR hS hL (am_t hst))
theorem am_icmp_ge {x y : Int32} {off : Int} {tgt : Nat} (hd : decode I.2.1 pc = .ok (.if_icmp .ge off, 3)) (ht : (pc : Int) + off = (tgt : Int))
    (kt : y ≤ x → am_W K I p l e R s m args below meth c S0 ad0 Q tgt L st S cells slots) (kf : ¬ y ≤ x → am_W K I p l e R s m args below meth c S0 ad0 Q (pc + 3) L st S cells slots) : am_W K I p l e R s m args below meth c S0 ad0 Q pc L (.int y :: .int x :: st) S cells slots := by
  intro C ad ls H locs h0 h1 hR hS hL hst
  exact lv_icmp_ge C.1 C.2.1 hd ht (fun q => kt q C ad ls H locs h0 h1 hR hS hL (am_t (am_t hst))) (fun q => kf q C ad ls H locs h0 h1 hR hS hL (am_t (am_t hst)))
theorem am_if_gt {x : Int32} {off : Int} {tgt : Nat} (hd : decode I.2.1 pc = .ok (.ifCond .gt off, 3)) (ht : (pc : Int) + off = (tgt : Int))
    (kt : 0 < x → am_W K I p l e R s m args below meth c S0 ad0 Q tgt L st S cells slots) (kf : ¬ 0 < x → am_W K I p l e R s m args below meth c S0 ad0 Q (pc + 3) L st S cells slots) : am_W K I p l e R s m args below meth c S0 ad0 Q pc L (.int x :: st) S cells slots := by
  intro C ad ls H locs h0 h1 hR hS hL hst
  exact lv_if_gt C.1 C.2.1 hd ht (fun q => kt q C ad ls H locs h0 h1 hR hS hL (am_t hst)) (fun q => kf q C ad ls H locs h0 h1 hR hS hL (am_t hst))
theorem am_icmp_gt {x y : Int32} {off : Int} {tgt : Nat} (hd : decode I.2.1 pc = .ok (.if_icmp .gt off, 3)) (ht : (pc : Int) + off = (tgt : Int))
    (kt : y < x → am_W K I p l e R s m args below meth c S0 ad0 Q tgt L st S cells slots) (kf : ¬ y < x → am_W K I p l e R s m args below meth c S0 ad0 Q (pc + 3) L st S cells slots) : am_W K I p l e R s m args below meth c S0 ad0 Q pc L (.int y :: .int x :: st) S cells slots := by
  intro C ad ls H locs h0 h1 hR hS hL hst
  exact lv_icmp_gt C.1 C.2.1 hd ht (fun q => kt q C ad ls H locs h0 h1 hR hS hL (am_t (am_t hst))) (fun q => kf q C ad ls H locs h0 h1 hR hS hL (am_t (am_t hst)))
theorem am_if_le {x : Int32} {off : Int} {tgt : Nat} (hd : decode I.2.1 pc = .ok (.ifCond .le off, 3)) (ht : (pc : Int) + off = (tgt : Int))
    (kt : x ≤ 0 → am_W K I p l e R s m args below meth c S0 ad0 Q tgt L st S cells slots) (kf : ¬ x ≤ 0 → am_W K I p l e R s m args below meth c S0 ad0 Q (pc + 3) L st S cells slots) : am_W K I p l e R s m args below meth c S0 ad0 Q pc L (.int x :: st) S cells slots := by
  intro C ad ls H locs h0 h1 hR hS hL hst
  exact lv_if_le C.1 C.2.1 hd ht (fun q => kt q C ad ls H locs h0 h1 hR hS hL (am_t hst)) (fun q => kf q C ad ls H locs h0 h1 hR hS hL (am_t hst))
theorem am_icmp_le {x y : Int32} {off : Int} {tgt : Nat} (hd : decode I.2.1 pc = .ok (.if_icmp .le off, 3)) (ht : (pc : Int) + off = (tgt : Int))
    (kt : x ≤ y → am_W K I p l e R s m args below meth c S0 ad0 Q tgt L st S cells slots) (kf : ¬ x ≤ y → am_W K I p l e R s m args below meth c S0 ad0 Q (pc + 3) L st S cells slots) : am_W K I p l e R s m args below meth c S0 ad0 Q pc L (.int y :: .int x :: st) S cells slots := by
  intro C ad ls H locs h0 h1 hR hS hL hst
  exact lv_icmp_le C.1 C.2.1 hd ht (fun q => kt q C ad ls H locs h0 h1 hR hS hL (am_t (am_t hst))) (fun q => kf q C ad ls H locs h0 h1 hR hS hL (am_t (am_t hst)))
theorem am_goto {off : Int} {tgt : Nat} (hd : decode I.2.1 pc = .ok (.goto off, 3)) (ht : (pc : Int) + off = (tgt : Int)) (kk : am_W K I p l e R s m args below meth c S0 ad0 Q tgt L st S cells slots) : am_W K I p l e R s m args below meth c S0 ad0 Q pc L st S cells slots := by
  intro C ad ls H locs h0 h1 hR hS hL hst
  exact lv_goto C.1 C.2.1 hd ht (kk C ad ls H locs h0 h1 hR hS hL hst)
theorem am_ifnonnull {x : Nat} {off : Int} {tgt : Nat} (hd : decode I.2.1 pc = .ok (.ifnonnull off, 3)) (ht : (pc : Int) + off = (tgt : Int)) (kk : am_W K I p l e R s m args below meth c S0 ad0 Q tgt L st S cells slots) : am_W K I p l e R s m args below meth c S0 ad0 Q pc L (.ref x :: st) S cells slots := by
  intro C ad ls H locs h0 h1 hR hS hL hst
  exact lv_ifnonnull C.1 C.2.1 hd ht (kk C ad ls H locs h0 h1 hR hS hL (am_t hst))
theorem am_ifnull {x : Nat} {off : Int} (hd : decode I.2.1 pc = .ok (.ifnull off, 3)) (kk : am_W K I p l e R s m args below meth c S0 ad0 Q (pc + 3) L st S cells slots) : am_W K I p l e R s m args below meth c S0 ad0 Q pc L (.ref x :: st) S cells slots := by
  intro C ad ls H locs h0 h1 hR hS hL hst
  exact lv_ifnull C.1 C.2.1 hd (kk C ad ls H locs h0 h1 hR hS hL (am_t hst))
theorem am_ifnullN {off : Int} {tgt : Nat} (hd : decode I.2.1 pc = .ok (.ifnull off, 3)) (ht : (pc : Int) + off = (tgt : Int)) (kk : am_W K I p l e R s m args below meth c S0 ad0 Q tgt L st S cells slots) : am_W K I p l e R s m args below meth c S0 ad0 Q pc L (.null :: st) S cells slots := by
  intro C ad ls H locs h0 h1 hR hS hL hst
  exact lv_ifnullN C.1 C.2.1 hd ht (kk C ad ls H locs h0 h1 hR hS hL (am_t hst))
theorem am_ifnonnullN {off : Int} (hd : decode I.2.1 pc = .ok (.ifnonnull off, 3)) (kk : am_W K I p l e R s m args below meth c S0 ad0 Q (pc + 3) L st S cells slots) : am_W K I p l e R s m args below meth c S0 ad0 Q pc L (.null :: st) S cells slots := by
  intro C ad ls H locs h0 h1 hR hS hL hst
  exact lv_ifnonnullN C.1 C.2.1 hd (kk C ad ls H locs h0 h1 hR hS hL (am_t hst))
theorem am_tableOut {dflt lo hi : Int} {offs : Array Int} {len : Nat} {x : Int32} {tgt : Nat} (hd : decode I.2.1 pc = .ok (.tableswitch dflt lo hi offs, len)) (h : x.toInt < lo ∨ hi < x.toInt) (ht : (pc : Int) + dflt = (tgt : Int)) (kk : am_W K I p l e R s m args below meth c S0 ad0 Q tgt L st S cells slots) : am_W K I p l e R s m args below meth c S0 ad0 Q pc L (.int x :: st) S cells slots := by
  intro C ad ls H locs h0 h1 hR hS hL hst
  exact lv_tableOut C.1 C.2.1 hd h ht (kk C ad ls H locs h0 h1 hR hS hL (am_t hst))
theorem am_tableIn {dflt lo hi : Int} {offs : Array Int} {len : Nat} {x : Int32} {off : Int} {tgt : Nat} (hd : decode I.2.1 pc = .ok (.tableswitch dflt lo hi offs, len)) (g1 : ¬ x.toInt < lo) (g2 : ¬ hi < x.toInt) (ho : offs[(x.toInt - lo).toNat]? = some off) (ht : (pc : Int) + off = (tgt : Int)) (kk : am_W K I p l e R s m args below meth c S0 ad0 Q tgt L st S cells slots) : am_W K I p l e R s m args below meth c S0 ad0 Q pc L (.int x :: st) S cells slots := by
  intro C ad ls H locs h0 h1 hR hS hL hst
  exact lv_tableIn C.1 C.2.1 hd g1 g2 ho ht (kk C ad ls H locs h0 h1 hR hS hL (am_t hst))
end AMB
end
section
/-- field k of the class ci, as the instructions of 'own' name it -/
def am_Fl (own : String) (idx ci k : Nat) (ty : FieldType) (fin : Bool) : Prop :=
  ∃ (Cn : String) (T : u_T) (N : Nat) (ty0 : Nat → FieldType), vwCl[ci]? = some (Cn, T, N) ∧ k < N ∧ Cond.fieldLink own idx (T k).1 (T k).2.1 (T k).2.2.1 ∈ am_big ∧ (∀ w ∈ u_ws Cn T N, w ∈ am_big) ∧ (∀ k, k < N → parseFieldDescriptor (T k).2.2.1 = some (ty0 k)) ∧ (∀ a, a < N → ∀ b, b < N → a ≠ b → (T a).2.1 ≠ (T b).2.1) ∧ parseFieldDescriptor (T k).2.2.1 = some ty ∧ (T k).2.2.2 = fin ∧ (T k).1 = own
theorem am_ci {ci : Nat} {r : vw_C} {fs : List Value} (h : vwCl[ci]? = some r) : (Sum.inr (ci, fs) : am_C) ≠ .inr (1000, []) := fun e => by
  cases e
  rw [show vwCl[1000]? = none from rfl] at h
  cases h
theorem am_ai {y : Nat × vp_A} : (Sum.inl y : am_C) ≠ .inr (1000, []) := fun e => by cases e
theorem am_ty {tys : List (ClassId × FieldType)} {k : Nat} {ty : FieldType} (hty : tys.map (fun q => q.2) = am_tys) (h : am_tys[k]? = some ty) : tys[k]? = some ((tys.getD k (0, .int)).1, ty) := by
  rw [← hty, List.getElem?_map] at h
  cases e : tys[k]? with
  | none => rw [e] at h; cases h
  | some q =>
    rw [e] at h
    have h2 : q.2 = ty := Option.some.inj h
    rw [List.getD_eq_getElem?_getD, e, ← h2]; rfl
theorem am_ra {s : State} {c1 c2 : ClassId} {ty : FieldType} (h1 : va_RA s c1 ty) (h2 : va_RA s c2 ty) : c1 = c2 := by
  cases ty with
  | object C =>
    obtain ⟨_, _, _, _, _, e1⟩ := h1
    obtain ⟨_, _, _, _, _, e2⟩ := h2
    exact Option.some.inj (e1.symm.trans e2)
  | _ =>
    have e1 : s.vm.findClass _ = some c1 := h1
    have e2 : s.vm.findClass _ = some c2 := h2
    exact Option.some.inj (e1.symm.trans e2)
section AMC
variable {K : am_K} {I : am_I} {p : Program} {l : Launch} {e : Env} {R : Room} {s : State} {m : MethodId} {args : Array Value} {below : List Frame} {meth : Method} {c : Code} {S0 S : am_S} {ad0 : Nat → Nat} {Q : State → Prop} {pc : Nat} {L : List (Option Value)} {st : List Value} {cells slots : Nat}
theorem am_getf {idx ci k a : Nat} {ty : FieldType} {fin : Bool} {fs : List Value} {v : Value} (hf : am_Fl I.1.cls idx ci k ty fin) (hd : decode I.2.1 pc = .ok (.getfield idx, 3)) (hc : S.1 a = .inr (ci, fs)) (hv : fs[k]? = some v)
    (kk : am_W K I p l e R s m args below meth c S0 ad0 Q (pc + 3) L (v :: st) S cells slots) : am_W K I p l e R s m args below meth c S0 ad0 Q pc L (.ref a :: st) S cells slots := by
  intro C ad ls H locs h0 h1 hR hS hL hst
  obtain ⟨hx, hb, hml, hr, htab, hlk, hown, hts, hK, hT, htr, hnm, hbs, hty⟩ := id C
  obtain ⟨Cn, T, N, ty0, hcl, hk, hw, hin, -⟩ := hf
  have hok : am_ok S.2 v := by
    have h9 := hR.2.2.2.2 a
    rw [hc] at h9
    exact h9 v (List.mem_of_getElem? hv)
  exact va_get (D := K.1) (ci := ci) (C := Cn) (T := T) (N := N) (v := am_v ad v) hx hb hts hin hown hK hR.1 (a - 1) (hR.at hc (am_ci hcl)) hcl k hk (hts _ hw) (fun _ h9 => h9) (by rw [List.getElem?_map, hv]; rfl) hd (kk C ad ls H locs h0 h1 hR hS hL (am_c hok (am_t hst)))
theorem am_putf {idx ci k a : Nat} {ty : FieldType} {fs fs' : List Value} {v : Value} (hf : am_Fl I.1.cls idx ci k ty false) (hd : decode I.2.1 pc = .ok (.putfield idx, 3)) (hc : S.1 a = .inr (ci, fs)) (hn : ∀ ad : Nat → Nat, narrow ty (am_v ad v) = am_v ad v ∧ fits ty (am_v ad v) = true) (hl : k < fs.length) (he : fs.set k v = fs')
    (kk : am_W K I p l e R s m args below meth c S0 ad0 Q (pc + 3) L st (am_up S.1 a (.inr (ci, fs')), S.2) cells slots) : am_W K I p l e R s m args below meth c S0 ad0 Q pc L (v :: .ref a :: st) S cells slots := by
  intro C ad ls H locs h0 h1 hR hS hL hst
  obtain ⟨hx, hb, hml, hr, htab, hlk, hown, hts, hK, hT, htr, hnm, hbs, hty⟩ := id C
  obtain ⟨Cn, T, N, ty0, hcl, hk, hw, hin, hty0, hnms, htk, hfin, hdecl⟩ := hf
  have hok : am_okC S.2 (.inr (ci, fs')) := by
    have h9 := hR.2.2.2.2 a
    rw [hc] at h9
    intro w hw2
    rw [← he] at hw2
    rcases List.mem_or_eq_of_mem_set hw2 with h8 | h8
    · exact h9 w h8
    · rw [h8]; exact am_h hst
  exact va_put (D := K.1) (ci := ci) (C := Cn) (T := T) (N := N) (v := am_v ad v) (ty := ty) hx hb hts hin ty0 hty0 hnms hown hK hR.1 hR.2.1 hS (a - 1) (hR.at hc (am_ci hcl)) hcl k hk (hts _ hw) (fun _ h9 => h9) hfin htk (hn ad).1 (hn ad).2 (by rw [List.length_map]; exact hl) hd
    (fun H1 locs1 hP1 hD1 hS1 => kk C ad ls H1 locs1 h0 h1 (hR.set hc (am_ci hcl) hok (by rw [← he]; show _ = (am_l K ad S).set (a - 1) (ad a, .inr (ci, (fs.set k v).map (am_v ad))); rw [List.map_set]) hP1 hD1) hS1 hL (am_t (am_t hst)))
theorem am_putF {idx ci k a : Nat} {ty : FieldType} {fs fs' : List Value} {v : Value} (hf : am_Fl I.1.cls idx ci k ty true) (hini : I.1.name = "<init>") (hd : decode I.2.1 pc = .ok (.putfield idx, 3)) (hc : S.1 a = .inr (ci, fs)) (hn : ∀ ad : Nat → Nat, narrow ty (am_v ad v) = am_v ad v ∧ fits ty (am_v ad v) = true) (hl : k < fs.length) (he : fs.set k v = fs')
    (kk : am_W K I p l e R s m args below meth c S0 ad0 Q (pc + 3) L st (am_up S.1 a (.inr (ci, fs')), S.2) cells slots) : am_W K I p l e R s m args below meth c S0 ad0 Q pc L (v :: .ref a :: st) S cells slots := by
  intro C ad ls H locs h0 h1 hR hS hL hst
  obtain ⟨hx, hb, hml, hr, htab, hlk, hown, hts, hK, hT, htr, hnm, hbs, hty⟩ := id C
  obtain ⟨Cn, T, N, ty0, hcl, hk, hw, hin, hty0, hnms, htk, hfin, hdecl⟩ := hf
  have hok : am_okC S.2 (.inr (ci, fs')) := by
    have h9 := hR.2.2.2.2 a
    rw [hc] at h9
    intro w hw2
    rw [← he] at hw2
    rcases List.mem_or_eq_of_mem_set hw2 with h8 | h8
    · exact h9 w h8
    · rw [h8]; exact am_h hst
  exact va_putF (D := K.1) (ci := ci) (C := Cn) (T := T) (N := N) (v := am_v ad v) (ty := ty) hx hb hts hin ty0 hty0 hnms hown hK hR.1 hR.2.1 hS (a - 1) (hR.at hc (am_ci hcl)) hcl k hk (hts _ hw) (fun _ h9 => h9) hfin (hnm.trans hini) hdecl htk (hn ad).1 (hn ad).2 (by rw [List.length_map]; exact hl) hd
    (fun H1 locs1 hP1 hD1 hS1 => kk C ad ls H1 locs1 h0 h1 (hR.set hc (am_ci hcl) hok (by rw [← he]; show _ = (am_l K ad S).set (a - 1) (ad a, .inr (ci, (fs.set k v).map (am_v ad))); rw [List.map_set]) hP1 hD1) hS1 hL (am_t (am_t hst)))
theorem am_alen {k a n : Nat} {q : am_Y} {ty : FieldType} (hd : decode I.2.1 pc = .ok (.arraylength, 1)) (hc : S.1 a = .inl (k, n, q)) (hk : am_tys[k]? = some ty)
    (kk : am_W K I p l e R s m args below meth c S0 ad0 Q (pc + 1) L (.int (Int32.ofNat n) :: st) S cells slots) : am_W K I p l e R s m args below meth c S0 ad0 Q pc L (.ref a :: st) S cells slots := by
  intro C ad ls H locs h0 h1 hR hS hL hst
  obtain ⟨hx, hb, hml, hr, htab, hlk, hown, hts, hK, hT, htr, hnm, hbs, hty⟩ := id C
  exact va_alen (D := K.1) hx hb hK hR.1 (a - 1) k (hR.at hc am_ai) (am_ty hty hk) rfl hd (kk C ad ls H locs h0 h1 hR hS hL (am_c am_okI (am_t hst)))
theorem am_iaload {k a n : Nat} {f : Nat → Int32} {i : Int32} (hd : decode I.2.1 pc = .ok (.iaload, 1)) (hc : S.1 a = .inl (k, n, .inl f)) (hk : am_tys[k]? = some .int) (hin : vp_in i n)
    (kk : am_W K I p l e R s m args below meth c S0 ad0 Q (pc + 1) L (.int (f i.toNatClampNeg) :: st) S cells slots) : am_W K I p l e R s m args below meth c S0 ad0 Q pc L (.int i :: .ref a :: st) S cells slots := by
  intro C ad ls H locs h0 h1 hR hS hL hst
  obtain ⟨hx, hb, hml, hr, htab, hlk, hown, hts, hK, hT, htr, hnm, hbs, hty⟩ := id C
  exact va_iald (D := K.1) hx hb hK hR.1 (a - 1) k (hR.at hc am_ai) (am_ty hty hk) hin hd (kk C ad ls H locs h0 h1 hR hS hL (am_c am_okI (am_t (am_t hst))))
theorem am_iastore {k a n : Nat} {f : Nat → Int32} {i : Int32} {x : Int32} (hd : decode I.2.1 pc = .ok (.iastore, 1)) (hc : S.1 a = .inl (k, n, .inl f)) (hk : am_tys[k]? = some .int) (hin : vp_in i n)
    (kk : am_W K I p l e R s m args below meth c S0 ad0 Q (pc + 1) L st (am_up S.1 a (.inl (k, n, .inl (upd f i.toNatClampNeg x))), S.2) cells slots) : am_W K I p l e R s m args below meth c S0 ad0 Q pc L (.int x :: .int i :: .ref a :: st) S cells slots := by
  intro C ad ls H locs h0 h1 hR hS hL hst
  obtain ⟨hx, hb, hml, hr, htab, hlk, hown, hts, hK, hT, htr, hnm, hbs, hty⟩ := id C
  exact va_iast (D := K.1) hx hb hK hR.1 hR.2.1 hS (a - 1) k (hR.at hc am_ai) (am_ty hty hk) hin hd
    (fun H1 locs1 hP1 hD1 hS1 => kk C ad ls H1 locs1 h0 h1 (hR.set hc am_ai trivial rfl hP1 hD1) hS1 hL (am_t (am_t (am_t hst))))
theorem am_laload {k a n : Nat} {f : Nat → Int64} {i : Int32} (hd : decode I.2.1 pc = .ok (.laload, 1)) (hc : S.1 a = .inl (k, n, .inr (.inl f))) (hk : am_tys[k]? = some .long) (hin : vp_in i n)
    (kk : am_W K I p l e R s m args below meth c S0 ad0 Q (pc + 1) L (.long (f i.toNatClampNeg) :: st) S cells slots) : am_W K I p l e R s m args below meth c S0 ad0 Q pc L (.int i :: .ref a :: st) S cells slots := by
  intro C ad ls H locs h0 h1 hR hS hL hst
  obtain ⟨hx, hb, hml, hr, htab, hlk, hown, hts, hK, hT, htr, hnm, hbs, hty⟩ := id C
  exact va_lald (D := K.1) hx hb hK hR.1 (a - 1) k (hR.at hc am_ai) (am_ty hty hk) hin hd (kk C ad ls H locs h0 h1 hR hS hL (am_c am_okJ (am_t (am_t hst))))
theorem am_lastore {k a n : Nat} {f : Nat → Int64} {i : Int32} {x : Int64} (hd : decode I.2.1 pc = .ok (.lastore, 1)) (hc : S.1 a = .inl (k, n, .inr (.inl f))) (hk : am_tys[k]? = some .long) (hin : vp_in i n)
    (kk : am_W K I p l e R s m args below meth c S0 ad0 Q (pc + 1) L st (am_up S.1 a (.inl (k, n, .inr (.inl (vp_updL f i.toNatClampNeg x)))), S.2) cells slots) : am_W K I p l e R s m args below meth c S0 ad0 Q pc L (.long x :: .int i :: .ref a :: st) S cells slots := by
  intro C ad ls H locs h0 h1 hR hS hL hst
  obtain ⟨hx, hb, hml, hr, htab, hlk, hown, hts, hK, hT, htr, hnm, hbs, hty⟩ := id C
  exact va_last (D := K.1) hx hb hK hR.1 hR.2.1 hS (a - 1) k (hR.at hc am_ai) (am_ty hty hk) hin hd
    (fun H1 locs1 hP1 hD1 hS1 => kk C ad ls H1 locs1 h0 h1 (hR.set hc am_ai trivial rfl hP1 hD1) hS1 hL (am_t (am_t (am_t hst))))
theorem am_baload {k a n : Nat} {f : Nat → Int32} {i : Int32} (hd : decode I.2.1 pc = .ok (.baload, 1)) (hc : S.1 a = .inl (k, n, .inl f)) (hk : am_tys[k]? = some .boolean) (hin : vp_in i n)
    (kk : am_W K I p l e R s m args below meth c S0 ad0 Q (pc + 1) L (.int (f i.toNatClampNeg) :: st) S cells slots) : am_W K I p l e R s m args below meth c S0 ad0 Q pc L (.int i :: .ref a :: st) S cells slots := by
  intro C ad ls H locs h0 h1 hR hS hL hst
  obtain ⟨hx, hb, hml, hr, htab, hlk, hown, hts, hK, hT, htr, hnm, hbs, hty⟩ := id C
  exact va_zald (D := K.1) hx hb hK hR.1 (a - 1) k (hR.at hc am_ai) (am_ty hty hk) hin hd (kk C ad ls H locs h0 h1 hR hS hL (am_c am_okI (am_t (am_t hst))))
theorem am_bastore {k a n : Nat} {f : Nat → Int32} {i x : Int32} (hd : decode I.2.1 pc = .ok (.bastore, 1)) (hc : S.1 a = .inl (k, n, .inl f)) (hk : am_tys[k]? = some .boolean) (hin : vp_in i n) (hz : x = 0 ∨ x = 1)
    (kk : am_W K I p l e R s m args below meth c S0 ad0 Q (pc + 1) L st (am_up S.1 a (.inl (k, n, .inl (upd f i.toNatClampNeg x))), S.2) cells slots) : am_W K I p l e R s m args below meth c S0 ad0 Q pc L (.int x :: .int i :: .ref a :: st) S cells slots := by
  intro C ad ls H locs h0 h1 hR hS hL hst
  obtain ⟨hx, hb, hml, hr, htab, hlk, hown, hts, hK, hT, htr, hnm, hbs, hty⟩ := id C
  have ez : vp_nar .boolean x = x := by rcases hz with rfl | rfl <;> rfl
  exact va_zast (D := K.1) hx hb hK hR.1 hR.2.1 hS (a - 1) k (hR.at hc am_ai) (am_ty hty hk) hin hd
    (fun H1 locs1 hP1 hD1 hS1 => by
      rw [ez] at hP1 hD1
      exact kk C ad ls H1 locs1 h0 h1 (hR.set hc am_ai trivial rfl hP1 hD1) hS1 hL (am_t (am_t (am_t hst))))
theorem am_aaload {k a n : Nat} {f : Nat → Option Nat} {Cn : String} {i : Int32} (hd : decode I.2.1 pc = .ok (.aaload, 1)) (hc : S.1 a = .inl (k, n, .inr (.inr (.inr (.inr f))))) (hk : am_tys[k]? = some (.object Cn)) (hin : vp_in i n)
    (kk : am_W K I p l e R s m args below meth c S0 ad0 Q (pc + 1) L (va_rf (f i.toNatClampNeg) :: st) S cells slots) : am_W K I p l e R s m args below meth c S0 ad0 Q pc L (.int i :: .ref a :: st) S cells slots := by
  intro C ad ls H locs h0 h1 hR hS hL hst
  obtain ⟨hx, hb, hml, hr, htab, hlk, hown, hts, hK, hT, htr, hnm, hbs, hty⟩ := id C
  have h9 := hR.2.2.2.2 a
  rw [hc] at h9
  have hok : am_ok S.2 (va_rf (f i.toNatClampNeg)) := by
    cases e9 : f i.toNatClampNeg with
    | none => exact am_okN
    | some b => exact am_okR (h9 _ _ e9)
  have e8 : va_rf ((f i.toNatClampNeg).map ad) = am_v ad (va_rf (f i.toNatClampNeg)) := by cases f i.toNatClampNeg <;> rfl
  refine va_aldq (D := K.1) hx hb hK hR.1 (a - 1) k (hR.at hc am_ai) (am_ty hty hk) hin hd ?_
  have h7 := kk C ad ls H locs h0 h1 hR hS hL (am_c hok (am_t (am_t hst)))
  rw [List.map_cons, ← e8] at h7
  exact h7
theorem am_aastore {k a n ci b : Nat} {fs : List Value} {f : Nat → Option Nat} {r : vw_C} {i : Int32} (hd : decode I.2.1 pc = .ok (.aastore, 1)) (hc : S.1 a = .inl (k, n, .inr (.inr (.inr (.inr f))))) (hcl : vwCl[ci]? = some r) (hk : am_tys[k]? = some (.object r.1)) (hin : vp_in i n) (hv : S.1 b = .inr (ci, fs))
    (kk : am_W K I p l e R s m args below meth c S0 ad0 Q (pc + 1) L st (am_up S.1 a (.inl (k, n, .inr (.inr (.inr (.inr (va_up f i.toNatClampNeg (some b))))))), S.2) cells slots) : am_W K I p l e R s m args below meth c S0 ad0 Q pc L (.ref b :: .int i :: .ref a :: st) S cells slots := by
  intro C ad ls H locs h0 h1 hR hS hL hst
  obtain ⟨hx, hb, hml, hr, htab, hlk, hown, hts, hK, hT, htr, hnm, hbs, hty⟩ := id C
  have h9 := hR.2.2.2.2 a
  rw [hc] at h9
  have hb2 := (hR.in hv (am_ci hcl)).2
  have hok : am_okC S.2 (.inl (k, n, .inr (.inr (.inr (.inr (va_up f i.toNatClampNeg (some b))))))) := by
    intro j z hz
    by_cases ej : j = i.toNatClampNeg
    · rw [ej, va_up_self] at hz; cases hz; exact hb2
    · rw [va_up_ne f (some b) ej] at hz; exact h9 j z hz
  have ef : (fun j => (va_up f i.toNatClampNeg (some b) j).map ad) = va_up (fun j => (f j).map ad) i.toNatClampNeg (some (ad b)) := by
    funext j
    by_cases ej : j = i.toNatClampNeg
    · rw [ej, va_up_self, va_up_self]; rfl
    · rw [va_up_ne f (some b) ej, va_up_ne _ _ ej]
  exact va_astq (D := K.1) hx hb hK hR.1 hR.2.1 hS (a - 1) k (b - 1) ci (hR.at hc am_ai) (am_ty hty hk) (hR.at hv (am_ci hcl)) hcl hin hd
    (fun H1 locs1 hP1 hD1 hS1 => kk C ad ls H1 locs1 h0 h1 (hR.set hc am_ai hok (by show _ = (am_l K ad S).set (a - 1) (ad a, .inl (_, n, .inr (.inr (.inr (.inr (fun j => (va_up f i.toNatClampNeg (some b) j).map ad)))))); rw [ef]) hP1 hD1) hS1 hL (am_t (am_t (am_t hst))))
theorem am_made {q : Nat} {ad : Nat → Nat} {H1 : Heap} {locs : List Loc} {ls : Array Slot} {k : Nat} {y : am_C} (C : am_X K I p l s m args meth c) (h0 : ∀ a : Nat, a < S0.2 → ad a = ad0 a) (h1 : S0.2 ≤ S.2) (hR1 : am_R K (va_up ad S.2 q) (am_up S.1 S.2 y, S.2 + 1) H1) (hS1 : va_S (fun q => K.2.2 ≤ q) s.heap H1 locs) (hL : am_L ad S.2 I.2.2.1 L ls) (hst : ∀ v ∈ st, am_ok S.2 v)
    (kk : am_W K I p l e R s m args below meth c S0 ad0 Q k L (.ref S.2 :: st) (am_up S.1 S.2 y, S.2 + 1) cells slots) : W p l e R s m args below meth c H1 locs cells slots Q (F0 m k ls (.ref q :: st.map (am_v ad))) := by
  have hag : ∀ a : Nat, a < S.2 → va_up ad S.2 q a = ad a := fun a h => va_up_ne ad q (Nat.ne_of_lt h)
  have h7 := kk C (va_up ad S.2 q) ls H1 locs (fun a h => (hag a (Nat.lt_of_lt_of_le h h1)).trans (h0 a h)) (Nat.le_succ_of_le h1) hR1 hS1 (hL.move hag (Nat.le_succ _)) (am_c (am_okR (Nat.lt_succ_self _)) (fun v hv => am_ok_le (Nat.le_succ _) (hst v hv)))
  rw [List.map_cons, am_map_eq hag hst, show am_v (va_up ad S.2 q) (.ref S.2) = .ref q from congrArg Value.ref (va_up_self ad S.2 q)] at h7
  exact h7
theorem am_newarray {k n : Nat} {x : Int32} {atype : ArrayType} {ty : FieldType} {q0 : am_Y} (hd : decode I.2.1 pc = .ok (.newarray atype, 2)) (hty0 : newarray.typeOf atype = ty) (hk : am_tys[k]? = some ty) (hw : Cond.arrayClass (newarray.typeOf atype) ∈ am_big) (hq : ∀ cA : ClassId, vp_cell cA (n, q0) = arrV cA n (fun _ => defaultValue ty)) (hq2 : ∀ ad : Nat → Nat, am_p ad q0 = q0) (hq3 : ∀ z : Nat, am_okY z q0) (hn : ¬ x < 0) (hN : x.toNatClampNeg = n) (hby : n * componentBytes ty ≤ 536870912) (hce : cells + 1 ≤ R.cells) (hsl : slots + n ≤ R.slots)
    (kk : am_W K I p l e R s m args below meth c S0 ad0 Q (pc + 2) L (.ref S.2 :: st) (am_up S.1 S.2 (.inl (k, n, q0)), S.2 + 1) (cells + 1) (slots + n)) : am_W K I p l e R s m args below meth c S0 ad0 Q pc L (.int x :: st) S cells slots := by
  intro C ad ls H locs h0 h1 hR hS hL hst
  obtain ⟨hx, hb, hml, hr, htab, hlk, hown, hts, hK, hT, htr, hnm, hbs, hty⟩ := id C
  refine va_newa (D := K.1) (a0 := (n, q0)) hx hb (hts _ hw) hty0 hK hR.1 hR.2.1 hS (fun q h9 => Nat.le_trans hbs h9) hq hn hN hby hce hsl hd (fun q cA H1 hK1 hP1 hD1 hS1 => ?_)
  have hcA : cA = (K.2.1.getD k (0, .int)).1 := am_ra (hK1.2 K.2.1.length (cA, ty) (by rw [List.getElem?_append_right (Nat.le_refl _), Nat.sub_self]; rfl)).2 (hK.2 k _ (am_ty hty hk)).2
  have e9 : am_e K ad (.inl (k, n, q0)) = .inl (cA, n, q0) := by
    show Sum.inl (_, _, am_p ad q0) = _
    rw [hq2 ad, hcA]
  exact am_made C h0 h1 (hR.push (y := .inl (k, n, q0)) (hq3 _) (by rw [e9]) hP1 hD1) hS1 hL (am_t hst) kk
theorem am_anewarray {k n idx : Nat} {x : Int32} {Cn : String} (hd : decode I.2.1 pc = .ok (.anewarray idx, 3)) (hk : am_tys[k]? = some (.object Cn)) (hw : Cond.classLink I.1.cls idx Cn ∈ am_big) (hw2 : Cond.arrayOver (.object Cn) ∈ am_over) (hn : ¬ x < 0) (hN : x.toNatClampNeg = n) (hby : n * 4 ≤ 536870912) (hce : cells + 1 ≤ R.cells) (hsl : slots + n ≤ R.slots)
    (kk : am_W K I p l e R s m args below meth c S0 ad0 Q (pc + 3) L (.ref S.2 :: st) (am_up S.1 S.2 (.inl (k, n, .inr (.inr (.inr (.inr (fun _ => none)))))), S.2 + 1) (cells + 1) (slots + n)) : am_W K I p l e R s m args below meth c S0 ad0 Q pc L (.int x :: st) S cells slots := by
  intro C ad ls H locs h0 h1 hR hS hL hst
  obtain ⟨hx, hb, hml, hr, htab, hlk, hown, hts, hK, hT, htr, hnm, hbs, hty⟩ := id C
  refine va_newq (D := K.1) hx hb hown (hts _ hw) (hT.2.2.2.1 _ hw2) hK hR.1 hR.2.1 hS (fun q h9 => Nat.le_trans hbs h9) hn hN hby hce hsl hd (fun q cA H1 hK1 hP1 hD1 hS1 => ?_)
  have hcA : cA = (K.2.1.getD k (0, .int)).1 := am_ra (hK1.2 K.2.1.length (cA, .object Cn) (by rw [List.getElem?_append_right (Nat.le_refl _), Nat.sub_self]; rfl)).2 (hK.2 k _ (am_ty hty hk)).2
  have e9 : am_e K ad (.inl (k, n, .inr (.inr (.inr (.inr (fun _ => none)))))) = .inl (cA, n, .inr (.inr (.inr (.inr (fun _ => none))))) := by
    rw [hcA]; rfl
  exact am_made C h0 h1 (hR.push (y := .inl (k, n, .inr (.inr (.inr (.inr (fun _ => none)))))) (fun _ _ h9 => by cases h9) (by rw [e9]) hP1 hD1) hS1 hL (am_t hst) kk
/-- 'new': class ci, its fields at their defaults -/
def am_Nl (own : String) (idx ci N : Nat) (fs : List Value) : Prop :=
  ∃ (Cn : String) (T : u_T) (ty0 : Nat → FieldType), vwCl[ci]? = some (Cn, T, N) ∧ Cond.classLink own idx Cn ∈ am_big ∧ Cond.instantiable Cn N ∈ am_big ∧ Cond.initialized Cn ∈ am_big ∧ (∀ w ∈ u_ws Cn T N, w ∈ am_big) ∧ (∀ k, k < N → parseFieldDescriptor (T k).2.2.1 = some (ty0 k)) ∧ (∀ j, j < N → defaultValue (ty0 j) = vp_V fs j) ∧ ∀ v ∈ fs, ∀ b : Nat, v ≠ .ref b
theorem am_new {idx ci N : Nat} {fs : List Value} (hf : am_Nl I.1.cls idx ci N fs) (hd : decode I.2.1 pc = .ok (.new idx, 3)) (hce : cells + 1 ≤ R.cells) (hsl : slots + N ≤ R.slots)
    (kk : am_W K I p l e R s m args below meth c S0 ad0 Q (pc + 3) L (.ref S.2 :: st) (am_up S.1 S.2 (.inr (ci, fs)), S.2 + 1) (cells + 1) (slots + N)) : am_W K I p l e R s m args below meth c S0 ad0 Q pc L st S cells slots := by
  intro C ad ls H locs h0 h1 hR hS hL hst
  obtain ⟨hx, hb, hml, hr, htab, hlk, hown, hts, hK, hT, htr, hnm, hbs, hty⟩ := id C
  obtain ⟨Cn, T, ty0, hcl, hw1, hw2, hw3, hin, hty0, hdf, hnr⟩ := hf
  refine va_new (D := K.1) (ci := ci) (fs := fs) (C := Cn) (T := T) (N := N) hx hb hts hin ty0 hty0 hown (hts _ hw1) (hts _ hw2) (hts _ hw3) hK hR.1 hR.2.1 hS (fun q h9 => Nat.le_trans hbs h9) hcl hdf hce hsl hd (fun q H1 hP1 hD1 hS1 => ?_)
  have e9 : am_e K ad (.inr (ci, fs)) = .inr (ci, fs) := by
    show Sum.inr (ci, fs.map (am_v ad)) = _
    have : fs.map (am_v ad) = fs := by
      conv => rhs; rw [← List.map_id fs]
      exact List.map_congr_left (fun v hv => by
        cases v with
        | ref b => exact absurd rfl (hnr _ hv b)
        | _ => rfl)
    rw [this]
  exact am_made C h0 h1 (hR.push (y := .inr (ci, fs)) (fun v hv b eb => absurd eb (hnr v hv b)) (by rw [e9]) hP1 hD1) hS1 hL hst kk
theorem am_objInit {idx a : Nat} (hd : decode I.2.1 pc = .ok (.invokespecial idx, 3)) (hw1 : Cond.methodLink I.1.cls idx Lib.objectInit ∈ am_big) (hw2 : Cond.instanceMethod Lib.objectInit ∈ am_big) (hw3 : Cond.code Lib.objectInit ⟨#[0xb1]⟩ 1 none ∈ am_big) (hfr : 1 ≤ R.frames) (hlo : (st.map fun v => v.category).sum + 12 ≤ R.locals)
    (kk : am_W K I p l e R s m args below meth c S0 ad0 Q (pc + 3) L st S cells slots) : am_W K I p l e R s m args below meth c S0 ad0 Q pc L (.ref a :: st) S cells slots := by
  intro C ad ls H locs h0 h1 hR hS hL hst
  obtain ⟨hx, hb, hml, hr, htab, hlk, hown, hts, hK, hT, htr, hnm, hbs, hty⟩ := id C
  have ecat : ((st.map (am_v ad)).map fun v => v.category) = st.map fun v => v.category := by
    rw [List.map_map]; exact List.map_congr_left (fun v _ => am_v_cat ad v)
  refine W.objInit (g := F0 m pc ls (.ref (ad a) :: st.map (am_v ad))) hx hb hown (hts _ hw1) (hts _ hw2) (hts _ hw3) rfl (by rw [hml]; exact hL.1) rfl hd hfr (by rw [ecat]; show 2 * 0 + _ + _ ≤ _; omega) ?_
  exact kk C ad ls H locs h0 h1 hR hS hL (am_t hst)
theorem am_mmax {idx : Nat} {x y : Int32} (hd : decode I.2.1 pc = .ok (.invokestatic idx, 3)) (hw1 : Cond.methodLink I.1.cls idx Lib.Math.max.name ∈ am_big) (hw2 : Cond.static Lib.Math.max.name ∈ am_big) (hw3 : Cond.initialized "java/lang/Math" ∈ am_big) (hw4 : Cond.code Lib.Math.max.name Lib.Math.max.code 2 (some .int) ∈ am_big) (hfr : 1 ≤ R.frames) (hlo : (st.map fun v => v.category).sum + 13 ≤ R.locals) (hce : cells ≤ R.cells) (hsl : slots ≤ R.slots)
    (kk : am_W K I p l e R s m args below meth c S0 ad0 Q (pc + 3) L (.int (if x < y then y else x) :: st) S cells slots) : am_W K I p l e R s m args below meth c S0 ad0 Q pc L (.int y :: .int x :: st) S cells slots := by
  intro C ad ls H locs h0 h1 hR hS hL hst
  obtain ⟨hx, hb, hml, hr, htab, hlk, hown, hts, hK, hT, htr, hnm, hbs, hty⟩ := id C
  have ecat : ((st.map (am_v ad)).map fun v => v.category) = st.map fun v => v.category := by
    rw [List.map_map]; exact List.map_congr_left (fun v _ => am_v_cat ad v)
  exact va_mmax hx hb (by rw [hml]; exact hL.1.symm) hown (hts _ hw1) (hts _ hw2) (hts _ hw3) (hts _ hw4) hfr (by rw [ecat]; exact hlo) hce hsl hd (kk C ad ls H locs h0 h1 hR hS hL (am_c am_okI (am_t (am_t hst))))
theorem am_lcmp {x y : Int64} (hd : decode I.2.1 pc = .ok (.lcmp, 1)) (kk : am_W K I p l e R s m args below meth c S0 ad0 Q (pc + 1) L (.int (lg_cmp x y) :: st) S cells slots) : am_W K I p l e R s m args below meth c S0 ad0 Q pc L (.long y :: .long x :: st) S cells slots := by
  intro C ad ls H locs h0 h1 hR hS hL hst
  obtain ⟨hx, hb, hml, hr, htab, hlk, hown, hts, hK, hT, htr, hnm, hbs, hty⟩ := id C
  exact W.lcmp hx hb hd (kk C ad ls H locs h0 h1 hR hS hL (am_c am_okI (am_t (am_t hst))))
theorem am_widen {k n : Nat} (g1 : cells ≤ k) (g2 : slots ≤ n) (kk : am_W K I p l e R s m args below meth c S0 ad0 Q pc L st S k n) : am_W K I p l e R s m args below meth c S0 ad0 Q pc L st S cells slots := fun C ad ls H locs h0 h1 hR hS hL hst => W.widen g1 g2 (kk C ad ls H locs h0 h1 hR hS hL hst)
theorem am_same {pc' : Nat} {L' : List (Option Value)} {st' : List Value} {S' : am_S} {cells' slots' : Nat} (e1 : pc = pc') (e2 : L = L') (e3 : st = st') (e4 : S = S') (e5 : cells = cells') (e6 : slots = slots') (kk : am_W K I p l e R s m args below meth c S0 ad0 Q pc' L' st' S' cells' slots') : am_W K I p l e R s m args below meth c S0 ad0 Q pc L st S cells slots := by subst e1; subst e2; subst e3; subst e4; subst e5; subst e6; exact kk
end AMC
end
section
/-! CONTRACTS OVER THE ABSTRACT HEAP: called with the values vs at S: answers v at S' with Z v S', or throws the j-th exception at S' with X j S' -/
def am_Pc (K : am_K) (ad : Nat → Nat) (vs : List Value) (S : am_S) : Array Value → State → Prop := va_Pc (vs.map (am_v ad)) (fun U => am_R K ad S U.heap ∧ va_K K.1 vwCl K.2.1 U ∧ am_T K U U.heap ∧ K.2.2 ≤ U.heap.size ∧ (∀ v ∈ vs, am_ok S.2 v) ∧ K.2.1.map (fun q => q.2) = am_tys)
def am_Qc (K : am_K) (ad : Nat → Nat) (S : am_S) (Z : Option Value → am_S → Prop) : Array Value → State → Outcome → State → Prop := fun _ st o t =>
  (∃ (v : Option Value) (S' : am_S) (ad' : Nat → Nat), o = .returned (v.map (am_v ad')) ∧ Z v S' ∧ am_R K ad' S' t.heap ∧ (∀ a : Nat, a < S.2 → ad' a = ad a) ∧ S.2 ≤ S'.2 ∧ ∀ w : Value, v = some w → am_ok S'.2 w) ∧ va_F (fun q => K.2.2 ≤ q) st t
def am_XC (K : am_K) (ad : Nat → Nat) (S : am_S) (X : Nat → am_S → Prop) : String → State → State → Prop := fun E st t =>
  (∃ (j : Nat) (S' : am_S) (ad' : Nat → Nat), am_exs[j]? = some E ∧ X j S' ∧ am_R K ad' S' t.heap ∧ (∀ a : Nat, a < S.2 → ad' a = ad a) ∧ S.2 ≤ S'.2) ∧ va_F (fun q => K.2.2 ≤ q) st t
def am_cd (I : am_I) : Cond := match I.2.2.2.2 with
  | [] => Cond.code I.1 I.2.1 I.2.2.1 I.2.2.2.1
  | hh => Cond.codeWith I.1 I.2.1 I.2.2.1 I.2.2.2.1 hh
def am_ws (I : am_I) : List Cond := am_cd I :: am_big
def am_room (d mc ms : Nat) : Room := { frames := d, cells := mc, slots := ms, locals := 36 * d }
def am_M (K : am_K) (l : Launch) (I : am_I) (d mc ms : Nat) (vs : List Value) (S : am_S) (Z : Option Value → am_S → Prop) (X : Nat → am_S → Prop) : Prop :=
  l.stackTraces = false → ∀ ad : Nat → Nat, vx_Met l I.1 (am_ws I) (am_room d mc ms) (am_Pc K ad vs S) (am_Qc K ad S Z) (am_XC K ad S X) mc ms (fun q => K.2.2 ≤ q)
/-- a method's own end -/
def am_E (K : am_K) (ad : Nat → Nat) (S : am_S) (Z : Option Value → am_S → Prop) (X : Nat → am_S → Prop) (below : List Frame) (args : Array Value) (s : State) (mc ms : Nat) : State → Prop :=
  vx_MQ below (am_Qc K ad S Z) (am_XC K ad S X) args s mc ms (fun q => K.2.2 ≤ q)
theorem am_blind {K : am_K} {ad : Nat → Nat} {vs : List Value} {S : am_S} : FrameBlind (am_Pc K ad vs S) := by
  intro a U g mk h
  obtain ⟨h1, h2, h3, h4, h5, h6, h7⟩ := h
  exact ⟨h1, h2, va_K.moved (u := U) (U := U.calling g mk a) (Vm.Alike.refl U.vm) h3, am_T.same (u := U) (U := U.calling g mk a) rfl h4, h5, h6, h7⟩
def am_L0 (vs : List Value) (n : Nat) : List (Option Value) := vs.map some ++ List.replicate (n - vs.length) none
theorem am_args1 (ad : Nat → Nat) : ∀ (vs : List Value) (i j : Nat) (v : Value), (∀ w ∈ vs, w.category = 1) → vs[j]? = some v → (i + j, am_v ad v) ∈ lv_args i (vs.map (am_v ad))
  | [], _, _, _, _, h => by cases h
  | w :: vs, i, 0, v, hc, h => by
    cases h
    exact List.mem_cons_self
  | w :: vs, i, j + 1, v, hc, h => by
    have h2 := am_args1 ad vs (i + 1) j v (fun u hu => hc u (List.mem_cons_of_mem _ hu)) h
    have e1 : ¬ (am_v ad w).category = 2 := by rw [am_v_cat, hc w List.mem_cons_self]; decide
    show _ ∈ (i, am_v ad w) :: lv_args (if (am_v ad w).category = 2 then i + 2 else i + 1) (vs.map (am_v ad))
    rw [if_neg e1]
    have e2 : i + (j + 1) = i + 1 + j := by omega
    rw [e2]
    exact List.mem_cons_of_mem _ h2
theorem am_sl_len (ad : Nat → Nat) : ∀ (vs : List Value), (∀ w ∈ vs, w.category = 1) → (lg_sl (vs.map (am_v ad))).length = vs.length
  | [], _ => rfl
  | w :: vs, hc => by
    have h2 := am_sl_len ad vs (fun u hu => hc u (List.mem_cons_of_mem _ hu))
    have e1 : (am_v ad w).category = 1 := by rw [am_v_cat]; exact hc w List.mem_cons_self
    unfold lg_sl at h2 ⊢
    rw [List.map_cons, List.flatMap_cons, List.length_append, h2]
    simp [e1]; omega
theorem am_entry {ad : Nat → Nat} {n nL : Nat} {vs : List Value} (hc : ∀ w ∈ vs, w.category = 1) (hok : ∀ w ∈ vs, am_ok n w) (hn : vs.length ≤ nL) :
    am_L ad n nL (am_L0 vs nL) ((lg_sl (vs.map (am_v ad)) ++ List.replicate (nL - (lg_sl (vs.map (am_v ad))).length) Slot.unset).toArray) := by
  have hl := lv_entry (vs.map (am_v ad)) (n := nL) (by rw [am_sl_len ad vs hc]; exact hn)
  obtain ⟨g1, g2, g3⟩ := hl
  refine ⟨g1, by simp [am_L0]; omega, g2, fun i v hv => ?_⟩
  unfold am_L0 at hv
  by_cases hi : i < vs.length
  · rw [List.getElem?_append_left (by simpa using hi), List.getElem?_map] at hv
    cases hvi : vs[i]? with
    | none => rw [hvi] at hv; cases hv
    | some w =>
      rw [hvi] at hv
      cases hv
      have hm := List.mem_of_getElem? hvi
      have h9 := am_args1 ad vs 0 i v hc hvi
      rw [Nat.zero_add] at h9
      exact ⟨hc v hm, hok v hm, g3 _ h9⟩
  · rw [List.getElem?_append_right (by simp; omega)] at hv
    have h8 := List.eq_of_mem_replicate (List.mem_of_getElem? hv)
    cases h8
/-- a contract out of the body's walk (a method without handlers) -/
theorem am_body {K : am_K} {l : Launch} {I : am_I} {d mc ms : Nat} {vs : List Value} {S : am_S} {Z : Option Value → am_S → Prop} {X : Nat → am_S → Prop} (hy : plainName I.1.cls = true) (hh : I.2.2.2.2 = []) (hc : ∀ w ∈ vs, w.category = 1) (hn : vs.length ≤ I.2.2.1)
    (body : ∀ p e s m args below meth c ad0, am_W K I p l e (am_room d mc ms) s m args below meth c S ad0 (am_E K ad0 S Z X below args s mc ms) 0 (am_L0 vs I.2.2.1) [] S 0 0) : am_M K l I d mc ms vs S Z X := by
  intro hl ad
  have hw : am_ws I = Cond.code I.1 I.2.1 I.2.2.1 I.2.2.2.1 :: am_big := by unfold am_ws am_cd; rw [hh]
  refine vx_ofW hy hw ?_
  intro p e s m args below meth c s₁ B hml ht hv
  obtain ⟨rfl, hR, hK, hT, hbs, hok, hty⟩ := hv
  have hts := atoms_spec (ws := am_ws I) B.pre
  have hown : s.vm.findClass I.1.cls = some m.cls := findClass_of_methodNamed B.named
  have htab : c.exceptionTable.toList = tableOf I.2.2.2.2 := by
    rw [hh]
    cases e9 : c.exceptionTable.toList with
    | nil => rfl
    | cons x r => exact (ht x (by rw [e9]; exact List.mem_cons_self)).elim
  have C : am_X K I p l s m (vs.map (am_v ad)).toArray meth c := ⟨B.exec, B.bytes, hml, B.returns, htab, B.notSynchronized, hown, fun w hw9 => hts w (List.mem_cons_of_mem _ hw9), hK, hT, hl, (name_of_methodNamed B.named B.method).1, hbs, hty⟩
  rw [lg_entry_eq]
  exact body p e s m _ below meth c ad C ad _ s.heap [] (fun _ _ => rfl) (Nat.le_refl _) hR va_S.rf (am_entry hc hok hn) (fun v h9 => by cases h9)
/-- the same, of a method with handlers -/
theorem am_bodyH {K : am_K} {l : Launch} {I : am_I} {d mc ms : Nat} {vs : List Value} {S : am_S} {Z : Option Value → am_S → Prop} {X : Nat → am_S → Prop} {h9 : Nat × Nat × Nat × Nat} {hr9 : List (Nat × Nat × Nat × Nat)} (hy : plainName I.1.cls = true) (hh : I.2.2.2.2 = h9 :: hr9) (hc : ∀ w ∈ vs, w.category = 1) (hn : vs.length ≤ I.2.2.1)
    (body : ∀ p e s m args below meth c ad0, am_W K I p l e (am_room d mc ms) s m args below meth c S ad0 (am_E K ad0 S Z X below args s mc ms) 0 (am_L0 vs I.2.2.1) [] S 0 0) : am_M K l I d mc ms vs S Z X := by
  intro hl ad
  have hw : am_ws I = Cond.codeWith I.1 I.2.1 I.2.2.1 I.2.2.2.1 I.2.2.2.2 :: am_big := by unfold am_ws am_cd; rw [hh]
  refine vx_ofWH hy hw ?_
  intro p e s m args below meth c s₁ B hml hv
  obtain ⟨rfl, hR, hK, hT, hbs, hok, hty⟩ := hv
  have hts := atoms_spec (ws := am_ws I) B.pre
  have hown : s.vm.findClass I.1.cls = some m.cls := findClass_of_methodNamed B.named
  have htab : c.exceptionTable.toList = tableOf I.2.2.2.2 := vx_table (x := I.1) B (hts _ (by rw [hw]; exact List.mem_cons_self))
  have C : am_X K I p l s m (vs.map (am_v ad)).toArray meth c := ⟨B.exec, B.bytes, hml, B.returns, htab, B.notSynchronized, hown, fun w hw9 => hts w (List.mem_cons_of_mem _ hw9), hK, hT, hl, (name_of_methodNamed B.named B.method).1, hbs, hty⟩
  rw [lg_entry_eq]
  exact body p e s m _ below meth c ad C ad _ s.heap [] (fun _ _ => rfl) (Nat.le_refl _) hR va_S.rf (am_entry hc hok hn) (fun v h9 => by cases h9)
section AMD
variable {K : am_K} {I : am_I} {p : Program} {l : Launch} {e : Env} {R : Room} {s : State} {m : MethodId} {args : Array Value} {below : List Frame} {meth : Method} {c : Code} {S0 S : am_S} {ad0 : Nat → Nat} {Q : State → Prop} {pc : Nat} {L : List (Option Value)} {st : List Value} {cells slots : Nat} {mc ms : Nat} {Z : Option Value → am_S → Prop} {X : Nat → am_S → Prop}
theorem am_iret {x : Int32} (hd : decode I.2.1 pc = .ok (.ireturn, 1)) (hret : I.2.2.2.1 = some .int) (hc : cells ≤ mc) (hs : slots ≤ ms) (hz9 : Z (some (.int x)) S) : am_W K I p l e R s m args below meth c S0 ad0 (am_E K ad0 S0 Z X below args s mc ms) pc L [.int x] S cells slots := by
  intro C ad ls H locs h0 h1 hR hS hL hst
  obtain ⟨hx, hb, hml, hr, htab, hlk, hown, hts, hK, hT, htr, hnm, hbs, hty⟩ := id C
  refine W.widen hc hs (vx_ret ?_)
  exact W.iret hx hb (hr.trans hret) (fun t ht hW => ⟨⟨_, S, ad, rfl, hz9, by rw [ht]; exact hR, h0, h1, (fun w hw => by cases hw; exact am_okI)⟩, hS.F ht⟩) hS.2.2 hd
theorem am_zret {x : Int32} (hd : decode I.2.1 pc = .ok (.ireturn, 1)) (hret : I.2.2.2.1 = some .boolean) (hz : x = 0 ∨ x = 1) (hc : cells ≤ mc) (hs : slots ≤ ms) (hz9 : Z (some (.int x)) S) : am_W K I p l e R s m args below meth c S0 ad0 (am_E K ad0 S0 Z X below args s mc ms) pc L [.int x] S cells slots := by
  intro C ad ls H locs h0 h1 hR hS hL hst
  obtain ⟨hx, hb, hml, hr, htab, hlk, hown, hts, hK, hT, htr, hnm, hbs, hty⟩ := id C
  refine W.widen hc hs (vx_ret ?_)
  exact W.zret hx hb (hr.trans hret) (by rcases hz with rfl | rfl <;> rfl) (fun t ht hW => ⟨⟨_, S, ad, rfl, hz9, by rw [ht]; exact hR, h0, h1, (fun w hw => by cases hw; exact am_okI)⟩, hS.F ht⟩) hS.2.2 hd
theorem am_vret (hd : decode I.2.1 pc = .ok (.return_, 1)) (hret : I.2.2.2.1 = none) (hc : cells ≤ mc) (hs : slots ≤ ms) (hz9 : Z (none) S) : am_W K I p l e R s m args below meth c S0 ad0 (am_E K ad0 S0 Z X below args s mc ms) pc L [] S cells slots := by
  intro C ad ls H locs h0 h1 hR hS hL hst
  obtain ⟨hx, hb, hml, hr, htab, hlk, hown, hts, hK, hT, htr, hnm, hbs, hty⟩ := id C
  refine W.widen hc hs (vx_ret ?_)
  exact W.vret hx hb (hr.trans hret) (fun t ht hW => ⟨⟨_, S, ad, rfl, hz9, by rw [ht]; exact hR, h0, h1, (fun w hw => by cases hw)⟩, hS.F ht⟩) hS.2.2 hd
theorem am_aret {v : Value} {rt : FieldType} (hd : decode I.2.1 pc = .ok (.areturn, 1)) (hret : I.2.2.2.1 = some rt) (hrt : (∃ n, rt = .object n) ∨ ∃ t, rt = .array t) (hv : v = .null ∨ ∃ a, v = .ref a) (hc : cells ≤ mc) (hs : slots ≤ ms) (hz9 : Z (some v) S) : am_W K I p l e R s m args below meth c S0 ad0 (am_E K ad0 S0 Z X below args s mc ms) pc L [v] S cells slots := by
  intro C ad ls H locs h0 h1 hR hS hL hst
  obtain ⟨hx, hb, hml, hr, htab, hlk, hown, hts, hK, hT, htr, hnm, hbs, hty⟩ := id C
  refine W.widen hc hs (vx_ret ?_)
  have hv2 : am_v ad v = .null ∨ ∃ a, am_v ad v = .ref a := by
    rcases hv with rfl | ⟨a, rfl⟩
    · exact Or.inl rfl
    · exact Or.inr ⟨ad a, rfl⟩
  exact W.aret hx hb (hr.trans hret) hrt hv2 (fun t ht hW => ⟨⟨some v, S, ad, rfl, hz9, by rw [ht]; exact hR, h0, h1, (fun w hw => by cases hw; exact am_h hst)⟩, hS.F ht⟩) hS.2.2 hd
def am_WX (K : am_K) (I : am_I) (p : Program) (l : Launch) (e : Env) (R : Room) (s : State) (m : MethodId) (args : Array Value) (below : List Frame) (meth : Method) (c : Code) (S0 : am_S) (ad0 : Nat → Nat) (Q : State → Prop) (pc : Nat) (L : List (Option Value)) (st : List Value) (S : am_S) (cells slots : Nat) (j : Nat) : Prop :=
  am_X K I p l s m args meth c → ∀ (ad : Nat → Nat) (ls : Array Slot) (H : Heap) (locs : List Loc) (E : String) (q : Addr) (ce : Cell), (∀ a : Nat, a < S0.2 → ad a = ad0 a) → S0.2 ≤ S.2 → am_R K ad S H → va_S (fun q => K.2.2 ≤ q) s.heap H locs → am_L ad S.2 I.2.2.1 L ls → (∀ v ∈ st, am_ok S.2 v) →
    am_exs[j]? = some E → H[q]? = some ce → ce.vm = .none → s.vm.findClass E = some ce.cls →
    vx_W p l e R s m args below meth c H locs cells slots Q (F0 m pc ls (st.map (am_v ad))) q
theorem am_out {j : Nat} (hh : I.2.2.2.2 = []) (hc : cells ≤ mc) (hs : slots ≤ ms) (hX9 : X j S) : am_WX K I p l e R s m args below meth c S0 ad0 (am_E K ad0 S0 Z X below args s mc ms) pc L st S cells slots j := by
  intro C ad ls H locs E q ce h0 h1 hR hS hL hst hE hce hcv hcl
  obtain ⟨hx, hb, hml, hr, htab, hlk, hown, hts, hK, hT, htr, hnm, hbs, hty⟩ := id C
  refine vx_out (E := E) (ce := ce) (by rw [htab, hh]; intro x h9; cases h9) hlk hce hcv hcl (fun t ht ha => ⟨⟨j, S, ad, hE, hX9, by rw [ht]; exact hR, h0, h1⟩, hS.F ht⟩) hS.2.2 hc hs
theorem am_catch {j i k : Nat} {E9 nm9 : String} {L' : List (Option Value)} {hp : Nat} (pre suf : List (Nat × Nat × Nat × Nat)) (x : Nat × Nat × Nat × Nat) (hsp : I.2.2.2.2 = pre ++ x :: suf) (hE9 : am_exs[j]? = some E9)
    (hpass : ∀ z ∈ pre, z.2.2.2 ≠ 0 ∧ ∃ nm : String, Cond.classLink I.1.cls z.2.2.2 nm ∈ am_big ∧ (E9, nm) ∈ am_ncs) (hcov : covers ⟨x.1, x.2.1, x.2.2.1, x.2.2.2⟩ pc = true) (hx0 : x.2.2.2 ≠ 0) (hlink : Cond.classLink I.1.cls x.2.2.2 nm9 ∈ am_big) (hcast : (E9, nm9) ∈ am_cst) (hpx : x.2.2.1 = hp)
    (hd : (decode I.2.1 hp = .ok (.astore i, 2) ∧ k = hp + 2) ∨ (∃ f : Fin 4, decode I.2.1 hp = .ok (.astore_n f, 1) ∧ (f : Nat) = i ∧ k = hp + 1)) (hn : i < I.2.2.1) (hl : L.set i none = L')
    (kk : am_W K I p l e R s m args below meth c S0 ad0 Q k L' [] S cells slots) : am_WX K I p l e R s m args below meth c S0 ad0 Q pc L st S cells slots j := by
  intro C ad ls H locs E q ce h0 h1 hR hS hL hst hE hce hcv hcl
  obtain ⟨hx, hb, hml, hr, htab, hlk, hown, hts, hK, hT, htr, hnm, hbs, hty⟩ := id C
  cases hE9.symm.trans hE
  refine vx_catch (name := nm9) (E := E9) (ce := ce) hown (tableOf pre) ⟨x.1, x.2.1, x.2.2.1, x.2.2.2⟩ (tableOf suf) (by rw [htab, hsp]; simp [tableOf]) (fun z hz => ?_) hcov hx0 (hts _ hlink) (va_Nw.use rfl (hT.2.2.2.2.2.2.1 _ hcast)) hce hcv hcl ?_
  · obtain ⟨w, hw1, rfl⟩ := List.mem_map.mp hz
    obtain ⟨g1, nm, g2, g3⟩ := hpass w hw1
    exact Or.inr ⟨g1, nm, hts _ g2, hT.2.2.2.2.1 _ g3⟩
  · subst hpx
    rcases hd with ⟨hd, rfl⟩ | ⟨f, hd, hf, rfl⟩
    · exact lv_astore hx hb hd hL.has hn rfl (fun ls' h' => kk C ad ls' H locs h0 h1 hR hS (by rw [← hl]; exact hL.drop h') (fun v h9 => by cases h9))
    · exact lv_astore_n hx hb hd hf hL.has hn rfl (fun ls' h' => kk C ad ls' H locs h0 h1 hR hS (by rw [← hl]; exact hL.drop h') (fun v h9 => by cases h9))
/-- throw new E("text") -/
def am_Tl (own : String) (ik is ic j : Nat) : Prop :=
  ∃ (cls text : String) (names : List String), am_exs[j]? = some cls ∧ Bundle.fit cls = true ∧ (∀ n ∈ names, Bundle.fit n = true) ∧ Cond.classLink own ik cls ∈ am_big ∧ Cond.initialized cls ∈ am_big ∧ (own, is, text) ∈ am_strs ∧ (∀ w ∈ vx_atS own ic cls names, w ∈ am_big ∨ w ∈ am_dcl.map Cond.declares ∨ w ∈ am_cst.map (fun q => Cond.castable q.1 q.2)) ∧ (∀ w ∈ Cond.classLink own ik cls :: Cond.initialized cls :: vx_atS own ic cls names, vx_ot w = true) ∧ names.length ≤ 2
theorem am_throw {ik is ic j : Nat} (ht : am_Tl I.1.cls ik is ic j) (hh : I.2.2.2.2 = []) (d0 : decode I.2.1 pc = .ok (.new ik, 3)) (d3 : decode I.2.1 (pc + 3) = .ok (.dup, 1)) (d4 : decode I.2.1 (pc + 4) = .ok (.ldc is, 2)) (d6 : decode I.2.1 (pc + 6) = .ok (.invokespecial ic, 3)) (d9 : decode I.2.1 (pc + 9) = .ok (.athrow, 1))
    (hfr : 6 ≤ R.frames) (hlo : (st.map fun v => v.category).sum + 82 ≤ R.locals) (hce : cells + 1 ≤ R.cells) (hsl : slots + 6 ≤ R.slots) (hc : cells + 1 ≤ mc) (hs : slots + 6 ≤ ms) (hX9 : X j S) : am_W K I p l e R s m args below meth c S0 ad0 (am_E K ad0 S0 Z X below args s mc ms) pc L st S cells slots := by
  intro C ad ls H locs h0 h1 hR hS hL hst
  obtain ⟨hx, hb, hml, hr, htab, hlk, hown, hts, hK, hT, htr, hnm, hbs, hty⟩ := id C
  obtain ⟨cls, text, names, hj, hfit, hfits, hw1, hw2, hw3, hw4, hg, hnl⟩ := ht
  obtain ⟨sa, hsa⟩ := hT.2.2.1 _ hw3
  have ecat : ((st.map (am_v ad)).map fun v => v.category) = st.map fun v => v.category := by
    rw [List.map_map]; exact List.map_congr_left (fun v _ => am_v_cat ad v)
  refine vx_throwS hx hb htr hown hfit hfits (hts _ hw1) (hts _ hw2) hsa (fun w h9 => by
    rcases hw4 w h9 with h8 | h8 | h8
    · exact hts w h8
    · obtain ⟨x, hx8, rfl⟩ := List.mem_map.mp h8
      exact va_Nw.use rfl (hT.2.2.2.2.2.1 x hx8)
    · obtain ⟨x, hx8, rfl⟩ := List.mem_map.mp h8
      exact va_Nw.use rfl (hT.2.2.2.2.2.2.1 x hx8)) hg hT.1 hT.2.1 hS (by rw [hml]; exact hL.1) d0 d3 d4 d6 d9 (by rw [htab, hh]; intro x h9; cases h9) (by omega) (by rw [ecat]; omega) hce hsl hlk
    (fun t ha hz hq => ⟨⟨j, S, ad, hj, hX9, hR.kept hq, h0, h1⟩, ⟨Nat.le_trans hS.1 hz, fun q g1 g2 => (hq q (Nat.lt_of_lt_of_le g1 hS.1)).trans (hS.2.1 q g1 g2)⟩⟩) hS.2.2 hc hs
theorem am_back {J : am_I} {d mc' ms' : Nat} {vs : List Value} {Z' : Option Value → am_S → Prop} {X' : Nat → am_S → Prop} {ad : Nat → Nat} {ls : Array Slot} {H : Heap} {locs : List Loc} {st0 : List Value} (C : am_X K I p l s m args meth c) (h0 : ∀ a : Nat, a < S0.2 → ad a = ad0 a) (h1 : S0.2 ≤ S.2) (hS : va_S (fun q => K.2.2 ≤ q) s.heap H locs) (hL : am_L ad S.2 I.2.2.1 L ls) (hst : ∀ v ∈ st, am_ok S.2 v) {av : Array Value}
    (hrun : vx_Run p l e R s m args below meth c H locs cells slots mc' ms' (F0 m pc ls st0) (st.map (am_v ad)) (am_Qc K ad S Z' av) (am_XC K ad S X') (fun q => K.2.2 ≤ q))
    (kr : ∀ (v : Option Value) (S' : am_S), Z' v S' → S.2 ≤ S'.2 → am_W K I p l e R s m args below meth c S0 ad0 Q (pc + 3) L (v.toList ++ st) S' (cells + mc') (slots + ms'))
    (kx : ∀ (j : Nat) (S' : am_S), X' j S' → S.2 ≤ S'.2 → am_WX K I p l e R s m args below meth c S0 ad0 Q pc L st S' (cells + mc') (slots + ms') j) :
    W p l e R s m args below meth c H locs cells slots Q (F0 m pc ls st0) := by
  intro T hTH X9
  rcases hrun T hTH X9 with ⟨v, st₀, t, T', Lc, g0, X', hLc, e1, e2, ⟨⟨v2, S', ad', ho, hz, hR', hag, hn, hok⟩, hF⟩, stp⟩ | ⟨q, st₀, t, T', Lc, E, ce, g0, X', hLc, e1, e2, ⟨⟨j, S', ad', hE, hz, hR', hag, hn⟩, hF⟩, hce, hcv, hcl, stp⟩
  · cases ho
    obtain ⟨k1, k2, k3⟩ := vx_keep (A0 := fun q => K.2.2 ≤ q) (A1 := fun q => K.2.2 ≤ q) (free := fun q => K.2.2 ≤ q) (H0 := s.heap) g0 e1 hS (fun _ _ h => h) (fun _ h => h) hLc hF
    have hst' : ∀ w ∈ v2.toList ++ st, am_ok S'.2 w := by
      intro w hw
      rcases List.mem_append.mp hw with h9 | h9
      · cases v2 with
        | none => cases h9
        | some u => rw [List.mem_singleton.mp h9]; exact hok u rfl
      · exact am_ok_le hn (hst w h9)
    have h7 := kr v2 S' hz hn C ad' ls T'.heap (locs ++ Lc) (fun a ha => (hag a (Nat.lt_of_lt_of_le ha h1)).trans (h0 a ha)) (Nat.le_trans h1 hn) (by rw [e1]; exact hR') k3 (hL.move hag hn) hst'
    rw [List.map_append, am_map_eq hag hst] at h7
    have e7 : v2.toList.map (am_v ad') = (v2.map (am_v ad')).toList := by cases v2 <;> rfl
    rw [e7] at h7
    obtain ⟨t2, a1, b1⟩ := h7 T' rfl X'
    exact ⟨t2, stp t2 a1, b1⟩
  · obtain ⟨k1, k2, k3⟩ := vx_keep (A0 := fun q => K.2.2 ≤ q) (A1 := fun q => K.2.2 ≤ q) (free := fun q => K.2.2 ≤ q) (H0 := s.heap) g0 e1 hS (fun _ _ h => h) (fun _ h => h) hLc hF
    have h7 := kx j S' hz hn C ad' ls T'.heap (locs ++ Lc) E q ce (fun a ha => (hag a (Nat.lt_of_lt_of_le ha h1)).trans (h0 a ha)) (Nat.le_trans h1 hn) (by rw [e1]; exact hR') k3 (hL.move hag hn) (fun w h9 => am_ok_le hn (hst w h9)) hE (by rw [e1]; exact hce) hcv hcl
    rw [am_map_eq hag hst] at h7
    obtain ⟨t2, a1, b1⟩ := h7 T' rfl X'
    exact ⟨t2, stp.trans a1, b1⟩
theorem am_pre {ad : Nat → Nat} {H : Heap} {locs : List Loc} {vs : List Value} (C : am_X K I p l s m args meth c) (hR : am_R K ad S H) (hS : va_S (fun q => K.2.2 ≤ q) s.heap H locs) (hvs : ∀ v ∈ vs, am_ok S.2 v) : ∀ U : State, U.heap = H → s.WarmedH U.vm → am_Pc K ad vs S (vs.map (am_v ad)).toArray U := by
  intro U hU hW
  obtain ⟨hx, hb, hml, hr, htab, hlk, hown, hts, hK, hT, htr, hnm, hbs, hty⟩ := id C
  exact ⟨rfl, by rw [hU]; exact hR, va_K.moved hW.alike hK, am_T.kept (am_T.moved hW hT) (fun a g1 g2 => by rw [hU]; exact hS.2.1 a g1 g2), by rw [hU]; exact Nat.le_trans hbs hS.1, hvs, hty⟩
theorem am_goodC {J : am_I} (hcd : am_cd J ∈ am_big) : GoodIn am_big (am_ws J) := fun w hw => by
  rcases List.mem_cons.mp hw with rfl | h
  · exact ⟨hcd, am_good _ hcd⟩
  · exact ⟨h, am_good w h⟩
theorem am_good4 {ws r : List Cond} (h : ∀ w ∈ r, w ∈ am_big) (g : GoodIn am_big ws) : GoodIn am_big (r ++ ws) := fun w hw => by
  rcases List.mem_append.mp hw with h9 | h9
  · exact ⟨h w h9, am_good w (h w h9)⟩
  · exact g w h9
/-- what a call of J by 'own' needs of the tables -/
def am_CV (own : String) (idx ci n : Nat) (J : am_I) : Prop :=
  ∃ (T : u_T) (N : Nat), vwCl[ci]? = some (J.1.cls, T, N) ∧ (∀ w ∈ ([.methodLink own idx J.1, .instanceMethod J.1, .selects J.1.cls J.1 J.1, .initialized J.1.cls] : List Cond), w ∈ am_big) ∧ am_cd J ∈ am_big ∧ J.2.2.2.2 = [] ∧ J.1.cls ≠ "java/lang/invoke/MethodHandle" ∧ J.1.cls ≠ "java/lang/invoke/VarHandle" ∧ (parseMethodDescriptor J.1.desc).map (fun d => d.parameters.length) = some n
theorem am_callV {idx ci a d mc' ms' n : Nat} {J : am_I} {vs : List Value} {fs : List Value} {Z' : Option Value → am_S → Prop} {X' : Nat → am_S → Prop} (hl : am_CV I.1.cls idx ci n J) (hM : am_M K l J d mc' ms' (.ref a :: vs) S Z' X') (hd : decode I.2.1 pc = .ok (.invokevirtual idx, 3)) (hc : S.1 a = .inr (ci, fs)) (hn : vs.length = n) (hw8 : (st.map fun v => v.category).sum ≤ 8) (hRo : d + 1 ≤ R.frames ∧ 8 + (J.2.2.1 + 11) + 36 * d ≤ R.locals) (hce : cells + mc' ≤ R.cells) (hsl : slots + ms' ≤ R.slots) {st1 : List Value} (hst1 : st1 = vs.reverse ++ .ref a :: st)
    (kr : ∀ (v : Option Value) (S' : am_S), Z' v S' → S.2 ≤ S'.2 → am_W K I p l e R s m args below meth c S0 ad0 Q (pc + 3) L (v.toList ++ st) S' (cells + mc') (slots + ms'))
    (kx : ∀ (j : Nat) (S' : am_S), X' j S' → S.2 ≤ S'.2 → am_WX K I p l e R s m args below meth c S0 ad0 Q pc L st S' (cells + mc') (slots + ms') j) : am_W K I p l e R s m args below meth c S0 ad0 Q pc L st1 S cells slots := by
  subst hst1
  intro C ad ls H locs h0 h1 hR hS hL hst
  obtain ⟨hx, hb, hml, hr, htab, hlk, hown, hts, hK, hT, htr, hnm, hbs, hty⟩ := id C
  obtain ⟨T, N, hcl, hw4, hcd, hhh, hd1, hd2, hd3⟩ := hl
  have hwJ : am_ws J = Cond.code J.1 J.2.1 J.2.2.1 J.2.2.2.1 :: am_big := by unfold am_ws am_cd; rw [hhh]
  have ecat : ((st.map (am_v ad)).map fun v => v.category) = st.map fun v => v.category := by
    rw [List.map_map]; exact List.map_congr_left (fun v _ => am_v_cat ad v)
  have hvs : ∀ v ∈ .ref a :: vs, am_ok S.2 v := fun v hv => hst v (by
    rcases List.mem_cons.mp hv with rfl | h9
    · exact List.mem_append_right _ List.mem_cons_self
    · exact List.mem_append_left _ (List.mem_reverse.mpr h9))
  have hrs : ∀ v ∈ st, am_ok S.2 v := fun v hv => hst v (List.mem_append_right _ (List.mem_cons_of_mem _ hv))
  have est : (vs.reverse ++ Value.ref a :: st).map (am_v ad) = (vs.map (am_v ad)).reverse ++ Value.ref (ad a) :: st.map (am_v ad) := by
    rw [List.map_append, List.map_reverse]; rfl
  rw [est]
  have hrun := vx_runV (R := R) (p := p) (e := e) (below := below) (meth := meth) (locs := locs) (cells := cells) (slots := slots) (As := vs.map (am_v ad)) (rest := st.map (am_v ad)) (g := F0 m pc ls ((vs.map (am_v ad)).reverse ++ Value.ref (ad a) :: st.map (am_v ad))) ⟨hx, hb, hml, hown, hts⟩ (hM htr ad) (cwV n hts (am_good4 hw4 (am_goodC hcd)) hwJ rfl rfl ⟨rfl, hd1, hd2, hd3⟩ hRo) ⟨am_blind, va_recv hK hR.1 hcl (hR.at hc (am_ci hcl)), am_pre C hR hS hvs⟩ rfl (by rw [List.length_map]; exact hn) hL.1 rfl (by rw [ecat]; show 2 * 0 + _ ≤ 8; omega) hd ⟨hce, hsl⟩
  exact am_back (J := J) (d := d) (vs := vs) C h0 h1 hS hL hrs hrun kr kx
def am_CS (own : String) (idx n : Nat) (J : am_I) : Prop :=
  (∀ w ∈ ([.methodLink own idx J.1, .static J.1, .initialized J.1.cls] : List Cond), w ∈ am_big) ∧ am_cd J ∈ am_big ∧ J.1.cls ≠ "java/lang/invoke/MethodHandle" ∧ J.1.cls ≠ "java/lang/invoke/VarHandle" ∧ (parseMethodDescriptor J.1.desc).map (fun d => d.parameters.length) = some n
theorem am_callS {idx d mc' ms' n : Nat} {J : am_I} {vs : List Value} {Z' : Option Value → am_S → Prop} {X' : Nat → am_S → Prop} (hl : am_CS I.1.cls idx n J) (hhh : J.2.2.2.2 = []) (hM : am_M K l J d mc' ms' vs S Z' X') (hd : decode I.2.1 pc = .ok (.invokestatic idx, 3)) (hn : vs.length = n) (hw8 : (st.map fun v => v.category).sum ≤ 8) (hRo : d + 1 ≤ R.frames ∧ 8 + (J.2.2.1 + 11) + 36 * d ≤ R.locals) (hce : cells + mc' ≤ R.cells) (hsl : slots + ms' ≤ R.slots) {st1 : List Value} (hst1 : st1 = vs.reverse ++ st)
    (kr : ∀ (v : Option Value) (S' : am_S), Z' v S' → S.2 ≤ S'.2 → am_W K I p l e R s m args below meth c S0 ad0 Q (pc + 3) L (v.toList ++ st) S' (cells + mc') (slots + ms'))
    (kx : ∀ (j : Nat) (S' : am_S), X' j S' → S.2 ≤ S'.2 → am_WX K I p l e R s m args below meth c S0 ad0 Q pc L st S' (cells + mc') (slots + ms') j) : am_W K I p l e R s m args below meth c S0 ad0 Q pc L st1 S cells slots := by
  subst hst1
  intro C ad ls H locs h0 h1 hR hS hL hst
  obtain ⟨hx, hb, hml, hr, htab, hlk, hown, hts, hK, hT, htr, hnm, hbs, hty⟩ := id C
  obtain ⟨hw3, hcd, hd1, hd2, hd3⟩ := hl
  have hwJ : am_ws J = Cond.code J.1 J.2.1 J.2.2.1 J.2.2.2.1 :: am_big := by unfold am_ws am_cd; rw [hhh]
  have ecat : ((st.map (am_v ad)).map fun v => v.category) = st.map fun v => v.category := by
    rw [List.map_map]; exact List.map_congr_left (fun v _ => am_v_cat ad v)
  have hvs : ∀ v ∈ vs, am_ok S.2 v := fun v hv => hst v (List.mem_append_left _ (List.mem_reverse.mpr hv))
  have hrs : ∀ v ∈ st, am_ok S.2 v := fun v hv => hst v (List.mem_append_right _ hv)
  have est : (vs.reverse ++ st).map (am_v ad) = (vs.map (am_v ad)).reverse ++ st.map (am_v ad) := by
    rw [List.map_append, List.map_reverse]
  rw [est]
  have hrun := vx_runS (R := R) (p := p) (e := e) (below := below) (meth := meth) (locs := locs) (cells := cells) (slots := slots) (As := vs.map (am_v ad)) (rest := st.map (am_v ad)) (g := F0 m pc ls ((vs.map (am_v ad)).reverse ++ st.map (am_v ad))) ⟨hx, hb, hml, hown, hts⟩ (hM htr ad) (va_cwS n hts (am_good4 hw3 (am_goodC hcd)) hwJ rfl rfl ⟨hd1, hd2, hd3⟩ hRo) ⟨am_blind, am_pre C hR hS hvs⟩ rfl (by rw [List.length_map]; exact hn) hL.1 rfl (by rw [ecat]; show 2 * 0 + _ ≤ 8; omega) hd ⟨hce, hsl⟩
  exact am_back (J := J) (d := d) (vs := vs) C h0 h1 hS hL hrs hrun kr kx
/-- a static method with handlers -/
theorem am_callSH {idx d mc' ms' n : Nat} {J : am_I} {vs : List Value} {Z' : Option Value → am_S → Prop} {X' : Nat → am_S → Prop} {h9 : Nat × Nat × Nat × Nat} {hr9 : List (Nat × Nat × Nat × Nat)} (hl : am_CS I.1.cls idx n J) (hhh : J.2.2.2.2 = h9 :: hr9) (hM : am_M K l J d mc' ms' vs S Z' X') (hd : decode I.2.1 pc = .ok (.invokestatic idx, 3)) (hn : vs.length = n) (hw8 : (st.map fun v => v.category).sum ≤ 8) (hRo : d + 1 ≤ R.frames ∧ 8 + (J.2.2.1 + 11) + 36 * d ≤ R.locals) (hce : cells + mc' ≤ R.cells) (hsl : slots + ms' ≤ R.slots) {st1 : List Value} (hst1 : st1 = vs.reverse ++ st)
    (kr : ∀ (v : Option Value) (S' : am_S), Z' v S' → S.2 ≤ S'.2 → am_W K I p l e R s m args below meth c S0 ad0 Q (pc + 3) L (v.toList ++ st) S' (cells + mc') (slots + ms'))
    (kx : ∀ (j : Nat) (S' : am_S), X' j S' → S.2 ≤ S'.2 → am_WX K I p l e R s m args below meth c S0 ad0 Q pc L st S' (cells + mc') (slots + ms') j) : am_W K I p l e R s m args below meth c S0 ad0 Q pc L st1 S cells slots := by
  subst hst1
  intro C ad ls H locs h0 h1 hR hS hL hst
  obtain ⟨hx, hb, hml, hr, htab, hlk, hown, hts, hK, hT, htr, hnm, hbs, hty⟩ := id C
  obtain ⟨hw3, hcd, hd1, hd2, hd3⟩ := hl
  have hwJ : am_ws J = Cond.codeWith J.1 J.2.1 J.2.2.1 J.2.2.2.1 J.2.2.2.2 :: am_big := by unfold am_ws am_cd; rw [hhh]
  have ecat : ((st.map (am_v ad)).map fun v => v.category) = st.map fun v => v.category := by
    rw [List.map_map]; exact List.map_congr_left (fun v _ => am_v_cat ad v)
  have hvs : ∀ v ∈ vs, am_ok S.2 v := fun v hv => hst v (List.mem_append_left _ (List.mem_reverse.mpr hv))
  have hrs : ∀ v ∈ st, am_ok S.2 v := fun v hv => hst v (List.mem_append_right _ hv)
  have est : (vs.reverse ++ st).map (am_v ad) = (vs.map (am_v ad)).reverse ++ st.map (am_v ad) := by
    rw [List.map_append, List.map_reverse]
  rw [est]
  have hrun := vx_runSX (R := R) (p := p) (e := e) (below := below) (meth := meth) (locs := locs) (cells := cells) (slots := slots) (As := vs.map (am_v ad)) (rest := st.map (am_v ad)) (g := F0 m pc ls ((vs.map (am_v ad)).reverse ++ st.map (am_v ad))) ⟨hx, hb, hml, hown, hts⟩ (hM htr ad) (vx_cwSW n hts (am_good4 hw3 (am_goodC hcd)) hwJ rfl rfl ⟨hd1, hd2, hd3⟩ hRo) ⟨am_blind, am_pre C hR hS hvs⟩ rfl (by rw [List.length_map]; exact hn) hL.1 rfl (by rw [ecat]; show 2 * 0 + _ ≤ 8; omega) hd ⟨hce, hsl⟩
  exact am_back (J := J) (d := d) (vs := vs) C h0 h1 hS hL hrs hrun kr kx
theorem am_met {J : am_I} {d mc' ms' : Nat} {vs : List Value} {Z' : Option Value → am_S → Prop} (htr : l.stackTraces = false) (hM : am_M K l J d mc' ms' vs S Z' (fun _ _ => False)) (ad : Nat → Nat) : Met l J.1 (am_ws J) (am_room d mc' ms') (am_Pc K ad vs S) (am_Qc K ad S Z') mc' ms' (fun q => K.2.2 ≤ q) :=
  MetFree.mono (hM htr ad) (fun _ _ h => h) (fun _ _ _ _ _ h => h) (fun a st o t _ h => by
    rcases h with h | ⟨q, -, E, ce, L9, ⟨⟨j, S', ad', -, hf, -⟩, -⟩, -⟩
    · exact h
    · exact hf.elim)
def am_CI (own : String) (idx n : Nat) (J : am_I) : Prop :=
  (∀ w ∈ ([.methodLink own idx J.1, .instanceMethod J.1, .initialized J.1.cls] : List Cond), w ∈ am_big) ∧ am_cd J ∈ am_big ∧ J.2.2.2.2 = [] ∧ J.2.2.2.1 = none ∧ J.1.name = "<init>" ∧ J.1.cls ≠ "java/lang/invoke/MethodHandle" ∧ J.1.cls ≠ "java/lang/invoke/VarHandle" ∧ (parseMethodDescriptor J.1.desc).map (fun d => d.parameters.length) = some n
theorem am_runX {H : Heap} {locs : List Loc} {mc' ms' : Nat} {g : JFrame} {rest : List Value} {Qa : State → Outcome → State → Prop} {XC : String → State → State → Prop} {free : Addr → Prop} (h : va_Run p l e R s m args below meth c H locs cells slots mc' ms' g rest Qa free) : vx_Run p l e R s m args below meth c H locs cells slots mc' ms' g rest Qa XC free :=
  fun T hT X9 => Or.inl (h T hT X9)
theorem am_callI {idx a d mc' ms' n : Nat} {J : am_I} {vs : List Value} {Z' : Option Value → am_S → Prop} (hl : am_CI I.1.cls idx n J) (hM : am_M K l J d mc' ms' (.ref a :: vs) S Z' (fun _ _ => False)) (hd : decode I.2.1 pc = .ok (.invokespecial idx, 3)) (hn : vs.length = n) (hw8 : (st.map fun v => v.category).sum ≤ 8) (hRo : d + 1 ≤ R.frames ∧ 8 + (J.2.2.1 + 11) + 36 * d ≤ R.locals) (hce : cells + mc' ≤ R.cells) (hsl : slots + ms' ≤ R.slots) {st1 : List Value} (hst1 : st1 = vs.reverse ++ .ref a :: st)
    (kr : ∀ (v : Option Value) (S' : am_S), Z' v S' → S.2 ≤ S'.2 → am_W K I p l e R s m args below meth c S0 ad0 Q (pc + 3) L (v.toList ++ st) S' (cells + mc') (slots + ms')) : am_W K I p l e R s m args below meth c S0 ad0 Q pc L st1 S cells slots := by
  subst hst1
  intro C ad ls H locs h0 h1 hR hS hL hst
  obtain ⟨hx, hb, hml, hr, htab, hlk, hown, hts, hK, hT, htr, hnm, hbs, hty⟩ := id C
  obtain ⟨hw3, hcd, hhh, hrt, hnmi, hd1, hd2, hd3⟩ := hl
  have hwJ : am_ws J = Cond.code J.1 J.2.1 J.2.2.1 none :: am_big := by unfold am_ws am_cd; rw [hhh, hrt]
  have ecat : ((st.map (am_v ad)).map fun v => v.category) = st.map fun v => v.category := by
    rw [List.map_map]; exact List.map_congr_left (fun v _ => am_v_cat ad v)
  have hvs : ∀ v ∈ .ref a :: vs, am_ok S.2 v := fun v hv => hst v (by
    rcases List.mem_cons.mp hv with rfl | h9
    · exact List.mem_append_right _ List.mem_cons_self
    · exact List.mem_append_left _ (List.mem_reverse.mpr h9))
  have hrs : ∀ v ∈ st, am_ok S.2 v := fun v hv => hst v (List.mem_append_right _ (List.mem_cons_of_mem _ hv))
  have est : (vs.reverse ++ Value.ref a :: st).map (am_v ad) = (vs.map (am_v ad)).reverse ++ Value.ref (ad a) :: st.map (am_v ad) := by
    rw [List.map_append, List.map_reverse]; rfl
  rw [est]
  have hrun := va_runI (R := R) (p := p) (e := e) (below := below) (meth := meth) (locs := locs) (cells := cells) (slots := slots) (As := vs.map (am_v ad)) (rest := st.map (am_v ad)) (g := F0 m pc ls ((vs.map (am_v ad)).reverse ++ Value.ref (ad a) :: st.map (am_v ad))) ⟨hx, hb, hml, hown, hts⟩ (am_met htr hM ad) (cwI n hts (am_goodC hcd) hwJ rfl rfl (hts _ (hw3 _ (by simp))) (hts _ (hw3 _ (by simp))) (hts _ (hw3 _ (by simp))) hnmi ⟨hd1, hd2, hd3⟩ hRo) ⟨am_blind, am_pre C hR hS hvs⟩ rfl (by rw [List.length_map]; exact hn) hL.1 rfl (by rw [ecat]; show 2 * 0 + _ ≤ 8; omega) hd ⟨hce, hsl⟩
  exact am_back (J := J) (d := d) (vs := vs) (X' := fun _ _ => False) C h0 h1 hS hL hrs (am_runX hrun) kr (fun _ _ h9 => h9.elim)
/-- a private static method of a nest mate -/
def am_CN (own : String) (idx n : Nat) (host : String) (J : am_I) : Prop :=
  (own, idx, J.1, host) ∈ am_nst ∧ (∀ w ∈ ([.static J.1, .initialized J.1.cls] : List Cond), w ∈ am_big) ∧ am_cd J ∈ am_big ∧ J.1.cls ≠ "java/lang/invoke/MethodHandle" ∧ J.1.cls ≠ "java/lang/invoke/VarHandle" ∧ (parseMethodDescriptor J.1.desc).map (fun d => d.parameters.length) = some n
theorem am_callSN {idx d mc' ms' n : Nat} {host : String} {J : am_I} {vs : List Value} {Z' : Option Value → am_S → Prop} (hl : am_CN I.1.cls idx n host J) (hhh : J.2.2.2.2 = []) (hM : am_M K l J d mc' ms' vs S Z' (fun _ _ => False)) (hd : decode I.2.1 pc = .ok (.invokestatic idx, 3)) (hn : vs.length = n) (hw8 : (st.map fun v => v.category).sum ≤ 8) (hRo : d + 1 ≤ R.frames ∧ 8 + (J.2.2.1 + 11) + 36 * d ≤ R.locals) (hce : cells + mc' ≤ R.cells) (hsl : slots + ms' ≤ R.slots) {st1 : List Value} (hst1 : st1 = vs.reverse ++ st)
    (kr : ∀ (v : Option Value) (S' : am_S), Z' v S' → S.2 ≤ S'.2 → am_W K I p l e R s m args below meth c S0 ad0 Q (pc + 3) L (v.toList ++ st) S' (cells + mc') (slots + ms')) : am_W K I p l e R s m args below meth c S0 ad0 Q pc L st1 S cells slots := by
  subst hst1
  intro C ad ls H locs h0 h1 hR hS hL hst
  obtain ⟨hx, hb, hml, hr, htab, hlk, hown, hts, hK, hT, htr, hnm, hbs, hty⟩ := id C
  obtain ⟨hm0, hw3, hcd, hd1, hd2, hd3⟩ := hl
  have hwJ : am_ws J = Cond.code J.1 J.2.1 J.2.2.1 J.2.2.2.1 :: am_big := by unfold am_ws am_cd; rw [hhh]
  have ecat : ((st.map (am_v ad)).map fun v => v.category) = st.map fun v => v.category := by
    rw [List.map_map]; exact List.map_congr_left (fun v _ => am_v_cat ad v)
  have hvs : ∀ v ∈ vs, am_ok S.2 v := fun v hv => hst v (List.mem_append_left _ (List.mem_reverse.mpr hv))
  have hrs : ∀ v ∈ st, am_ok S.2 v := fun v hv => hst v (List.mem_append_right _ hv)
  have est : (vs.reverse ++ st).map (am_v ad) = (vs.map (am_v ad)).reverse ++ st.map (am_v ad) := by
    rw [List.map_append, List.map_reverse]
  rw [est]
  have hnw : va_Nw (.methodLinkNest I.1.cls idx J.1 host) s := hT.2.2.2.2.2.2.2 _ hm0
  have hrun := va_runSN (R := R) (p := p) (e := e) (below := below) (meth := meth) (locs := locs) (cells := cells) (slots := slots) (As := vs.map (am_v ad)) (rest := st.map (am_v ad)) (g := F0 m pc ls ((vs.map (am_v ad)).reverse ++ st.map (am_v ad))) ⟨hx, hb, hml, hown, hts⟩ (am_met htr hM ad) ⟨va_cnB n hts (am_goodC hcd) hwJ rfl rfl hnw (hts _ (hw3 _ (by simp))) ⟨hd1, hd2, hd3⟩ hRo, hts _ (hw3 _ (by simp)), trivial⟩ ⟨am_blind, am_pre C hR hS hvs⟩ rfl (by rw [List.length_map]; exact hn) hL.1 rfl (by rw [ecat]; show 2 * 0 + _ ≤ 8; omega) hd ⟨hce, hsl⟩
  exact am_back (J := J) (d := d) (vs := vs) (X' := fun _ _ => False) C h0 h1 hS hL hrs (am_runX hrun) kr (fun _ _ h9 => h9.elim)
theorem am_ne {f : Nat → am_C} {a b : Nat} {x y : am_C} (h : f b = y) (h' : f a = x) (hxy : y ≠ x) : b ≠ a := fun e => hxy (by rw [← h, e, h'])
end AMD
end
section
theorem inX0 : ∀ w ∈ u_ws RX0 TX0 4, w ∈ am_big := by decide +kernel
theorem inX1 : ∀ w ∈ u_ws RX1 TX1 2, w ∈ am_big := by decide +kernel
theorem inX2 : ∀ w ∈ u_ws RX2 TX2 2, w ∈ am_big := by decide +kernel
theorem inX3 : ∀ w ∈ u_ws RX3 TX3 2, w ∈ am_big := by decide +kernel
theorem inX4 : ∀ w ∈ u_ws RX4 TX4 9, w ∈ am_big := by decide +kernel
theorem inX5 : ∀ w ∈ u_ws RX5 TX5 4, w ∈ am_big := by decide +kernel
theorem inX6 : ∀ w ∈ u_ws RX6 TX6 7, w ∈ am_big := by decide +kernel
theorem inX7 : ∀ w ∈ u_ws RX7 TX7 29, w ∈ am_big := by decide +kernel
theorem ln_X6_7 : am_Nl RX6 7 3 2 [.null, .int 0] := ⟨RX3, TX3, tyX3, rfl, am_in (i := 42) (by decide +kernel) (by decide +kernel), am_in (i := 43) (by decide +kernel) (by decide +kernel), am_in (i := 20) (by decide +kernel) (by decide +kernel), inX3, tyX3_ok, by decide +kernel, by intro v hv b e; subst e; simp at hv⟩
theorem lf_X6_14 : am_Fl RX6 14 6 0 (.object "CaptionLines$Row") true := ⟨RX6, TX6, 7, tyX6, rfl, by decide, am_in (i := 160) (by decide +kernel) (by decide +kernel), inX6, tyX6_ok, nmX6, by decide +kernel, rfl, rfl⟩
theorem ln_X6_18 : am_Nl RX6 18 0 4 [.null, .null, .null, .int 0] := ⟨RX0, TX0, tyX0, rfl, am_in (i := 59) (by decide +kernel) (by decide +kernel), am_in (i := 60) (by decide +kernel) (by decide +kernel), am_in (i := 22) (by decide +kernel) (by decide +kernel), inX0, tyX0_ok, by decide +kernel, by intro v hv b e; subst e; simp at hv⟩
theorem lf_X6_21 : am_Fl RX6 21 6 1 (.object "CaptionLines$Captions") true := ⟨RX6, TX6, 7, tyX6, rfl, by decide, am_in (i := 161) (by decide +kernel) (by decide +kernel), inX6, tyX6_ok, nmX6, by decide +kernel, rfl, rfl⟩
theorem ln_X6_25 : am_Nl RX6 25 4 9 [.null, .null, .int 0, .null, .null, .null, .null, .int 0, .int 0] := ⟨RX4, TX4, tyX4, rfl, am_in (i := 80) (by decide +kernel) (by decide +kernel), am_in (i := 81) (by decide +kernel) (by decide +kernel), am_in (i := 23) (by decide +kernel) (by decide +kernel), inX4, tyX4_ok, by decide +kernel, by intro v hv b e; subst e; simp at hv⟩
theorem lf_X6_28 : am_Fl RX6 28 6 2 (.object "CaptionLines$Setting") true := ⟨RX6, TX6, 7, tyX6, rfl, by decide, am_in (i := 162) (by decide +kernel) (by decide +kernel), inX6, tyX6_ok, nmX6, by decide +kernel, rfl, rfl⟩
theorem ln_X6_32 : am_Nl RX6 32 1 2 [.null, .int 0] := ⟨RX1, TX1, tyX1, rfl, am_in (i := 114) (by decide +kernel) (by decide +kernel), am_in (i := 115) (by decide +kernel) (by decide +kernel), am_in (i := 24) (by decide +kernel) (by decide +kernel), inX1, tyX1_ok, by decide +kernel, by intro v hv b e; subst e; simp at hv⟩
theorem lf_X6_35 : am_Fl RX6 35 6 3 (.object "CaptionLines$Contractions") true := ⟨RX6, TX6, 7, tyX6, rfl, by decide, am_in (i := 163) (by decide +kernel) (by decide +kernel), inX6, tyX6_ok, nmX6, by decide +kernel, rfl, rfl⟩
theorem lf_X6_39 : am_Fl RX6 39 6 4 (.object "CaptionLines$Row") true := ⟨RX6, TX6, 7, tyX6, rfl, by decide, am_in (i := 164) (by decide +kernel) (by decide +kernel), inX6, tyX6_ok, nmX6, by decide +kernel, rfl, rfl⟩
theorem ln_X6_42 : am_Nl RX6 42 5 4 [.null, .null, .null, .int 0] := ⟨RX5, TX5, tyX5, rfl, am_in (i := 128) (by decide +kernel) (by decide +kernel), am_in (i := 129) (by decide +kernel) (by decide +kernel), am_in (i := 25) (by decide +kernel) (by decide +kernel), inX5, tyX5_ok, by decide +kernel, by intro v hv b e; subst e; simp at hv⟩
theorem lf_X6_45 : am_Fl RX6 45 6 5 (.object "CaptionLines$Zones") true := ⟨RX6, TX6, 7, tyX6, rfl, by decide, am_in (i := 165) (by decide +kernel) (by decide +kernel), inX6, tyX6_ok, nmX6, by decide +kernel, rfl, rfl⟩
theorem ln_X6_49 : am_Nl RX6 49 2 2 [.null, .int 0] := ⟨RX2, TX2, tyX2, rfl, am_in (i := 147) (by decide +kernel) (by decide +kernel), am_in (i := 148) (by decide +kernel) (by decide +kernel), am_in (i := 26) (by decide +kernel) (by decide +kernel), inX2, tyX2_ok, by decide +kernel, by intro v hv b e; subst e; simp at hv⟩
theorem lf_X6_52 : am_Fl RX6 52 6 6 (.object "CaptionLines$Rooms") true := ⟨RX6, TX6, 7, tyX6, rfl, by decide, am_in (i := 166) (by decide +kernel) (by decide +kernel), inX6, tyX6_ok, nmX6, by decide +kernel, rfl, rfl⟩
theorem lt_X6_60_62_64 : am_Tl RX6 60 62 64 1 := ⟨"java/lang/IllegalStateException", "the pad is full", ["java/lang/RuntimeException", "java/lang/Exception"], rfl, by decide +kernel, by decide +kernel, am_in (i := 203) (by decide +kernel) (by decide +kernel), am_in (i := 31) (by decide +kernel) (by decide +kernel), by decide +kernel, by decide +kernel, by decide +kernel, by decide⟩
theorem lt_X6_71_73_75 : am_Tl RX6 71 73 75 2 := ⟨"java/lang/IllegalArgumentException", "no such sign", ["java/lang/RuntimeException", "java/lang/Exception"], rfl, by decide +kernel, by decide +kernel, am_in (i := 274) (by decide +kernel) (by decide +kernel), am_in (i := 32) (by decide +kernel) (by decide +kernel), by decide +kernel, by decide +kernel, by decide +kernel, by decide⟩
theorem lt_X6_60_90_64 : am_Tl RX6 60 90 64 1 := ⟨"java/lang/IllegalStateException", "there are four versions", ["java/lang/RuntimeException", "java/lang/Exception"], rfl, by decide +kernel, by decide +kernel, am_in (i := 203) (by decide +kernel) (by decide +kernel), am_in (i := 31) (by decide +kernel) (by decide +kernel), by decide +kernel, by decide +kernel, by decide +kernel, by decide⟩
theorem lt_X6_118_120_122 : am_Tl RX6 118 120 122 0 := ⟨"java/lang/IndexOutOfBoundsException", "no such version", ["java/lang/RuntimeException", "java/lang/Exception"], rfl, by decide +kernel, by decide +kernel, am_in (i := 305) (by decide +kernel) (by decide +kernel), am_in (i := 33) (by decide +kernel) (by decide +kernel), by decide +kernel, by decide +kernel, by decide +kernel, by decide⟩
theorem lt_X6_118_123_122 : am_Tl RX6 118 123 122 0 := ⟨"java/lang/IndexOutOfBoundsException", "no such place", ["java/lang/RuntimeException", "java/lang/Exception"], rfl, by decide +kernel, by decide +kernel, am_in (i := 305) (by decide +kernel) (by decide +kernel), am_in (i := 33) (by decide +kernel) (by decide +kernel), by decide +kernel, by decide +kernel, by decide +kernel, by decide⟩
theorem lt_X6_71_129_75 : am_Tl RX6 71 129 75 2 := ⟨"java/lang/IllegalArgumentException", "no such width", ["java/lang/RuntimeException", "java/lang/Exception"], rfl, by decide +kernel, by decide +kernel, am_in (i := 274) (by decide +kernel) (by decide +kernel), am_in (i := 32) (by decide +kernel) (by decide +kernel), by decide +kernel, by decide +kernel, by decide +kernel, by decide⟩
theorem lt_X6_118_142_122 : am_Tl RX6 118 142 122 0 := ⟨"java/lang/IndexOutOfBoundsException", "what is neither 0 nor 1", ["java/lang/RuntimeException", "java/lang/Exception"], rfl, by decide +kernel, by decide +kernel, am_in (i := 305) (by decide +kernel) (by decide +kernel), am_in (i := 33) (by decide +kernel) (by decide +kernel), by decide +kernel, by decide +kernel, by decide +kernel, by decide⟩
theorem lt_X6_118_144_122 : am_Tl RX6 118 144 122 0 := ⟨"java/lang/IndexOutOfBoundsException", "no such line", ["java/lang/RuntimeException", "java/lang/Exception"], rfl, by decide +kernel, by decide +kernel, am_in (i := 305) (by decide +kernel) (by decide +kernel), am_in (i := 33) (by decide +kernel) (by decide +kernel), by decide +kernel, by decide +kernel, by decide +kernel, by decide⟩
theorem lt_X6_60_162_64 : am_Tl RX6 60 162 64 1 := ⟨"java/lang/IllegalStateException", "the pad is not 2 to 5 letters", ["java/lang/RuntimeException", "java/lang/Exception"], rfl, by decide +kernel, by decide +kernel, am_in (i := 203) (by decide +kernel) (by decide +kernel), am_in (i := 31) (by decide +kernel) (by decide +kernel), by decide +kernel, by decide +kernel, by decide +kernel, by decide⟩
theorem lt_X6_71_164_75 : am_Tl RX6 71 164 75 2 := ⟨"java/lang/IllegalArgumentException", "no cell for a contraction", ["java/lang/RuntimeException", "java/lang/Exception"], rfl, by decide +kernel, by decide +kernel, am_in (i := 274) (by decide +kernel) (by decide +kernel), am_in (i := 32) (by decide +kernel) (by decide +kernel), by decide +kernel, by decide +kernel, by decide +kernel, by decide⟩
theorem lt_X6_118_181_122 : am_Tl RX6 118 181 122 0 := ⟨"java/lang/IndexOutOfBoundsException", "no such cell", ["java/lang/RuntimeException", "java/lang/Exception"], rfl, by decide +kernel, by decide +kernel, am_in (i := 305) (by decide +kernel) (by decide +kernel), am_in (i := 33) (by decide +kernel) (by decide +kernel), by decide +kernel, by decide +kernel, by decide +kernel, by decide⟩
theorem lt_X6_60_183_64 : am_Tl RX6 60 183 64 1 := ⟨"java/lang/IllegalStateException", "there are no cells", ["java/lang/RuntimeException", "java/lang/Exception"], rfl, by decide +kernel, by decide +kernel, am_in (i := 203) (by decide +kernel) (by decide +kernel), am_in (i := 31) (by decide +kernel) (by decide +kernel), by decide +kernel, by decide +kernel, by decide +kernel, by decide⟩
theorem lt_X6_60_191_64 : am_Tl RX6 60 191 64 1 := ⟨"java/lang/IllegalStateException", "there are 16 zones", ["java/lang/RuntimeException", "java/lang/Exception"], rfl, by decide +kernel, by decide +kernel, am_in (i := 203) (by decide +kernel) (by decide +kernel), am_in (i := 31) (by decide +kernel) (by decide +kernel), by decide +kernel, by decide +kernel, by decide +kernel, by decide⟩
theorem lt_X6_71_196_75 : am_Tl RX6 71 196 75 2 := ⟨"java/lang/IllegalArgumentException", "no such radius", ["java/lang/RuntimeException", "java/lang/Exception"], rfl, by decide +kernel, by decide +kernel, am_in (i := 274) (by decide +kernel) (by decide +kernel), am_in (i := 32) (by decide +kernel) (by decide +kernel), by decide +kernel, by decide +kernel, by decide +kernel, by decide⟩
theorem lt_X6_71_210_75 : am_Tl RX6 71 210 75 2 := ⟨"java/lang/IllegalArgumentException", "the rooms are the same", ["java/lang/RuntimeException", "java/lang/Exception"], rfl, by decide +kernel, by decide +kernel, am_in (i := 274) (by decide +kernel) (by decide +kernel), am_in (i := 32) (by decide +kernel) (by decide +kernel), by decide +kernel, by decide +kernel, by decide +kernel, by decide⟩
theorem lt_X6_118_226_122 : am_Tl RX6 118 226 122 0 := ⟨"java/lang/IndexOutOfBoundsException", "nothing to count", ["java/lang/RuntimeException", "java/lang/Exception"], rfl, by decide +kernel, by decide +kernel, am_in (i := 305) (by decide +kernel) (by decide +kernel), am_in (i := 33) (by decide +kernel) (by decide +kernel), by decide +kernel, by decide +kernel, by decide +kernel, by decide⟩
theorem lt_X6_118_228_122 : am_Tl RX6 118 228 122 0 := ⟨"java/lang/IndexOutOfBoundsException", "no such caption", ["java/lang/RuntimeException", "java/lang/Exception"], rfl, by decide +kernel, by decide +kernel, am_in (i := 305) (by decide +kernel) (by decide +kernel), am_in (i := 33) (by decide +kernel) (by decide +kernel), by decide +kernel, by decide +kernel, by decide +kernel, by decide⟩
theorem lt_X6_118_230_122 : am_Tl RX6 118 230 122 0 := ⟨"java/lang/IndexOutOfBoundsException", "no such language", ["java/lang/RuntimeException", "java/lang/Exception"], rfl, by decide +kernel, by decide +kernel, am_in (i := 305) (by decide +kernel) (by decide +kernel), am_in (i := 33) (by decide +kernel) (by decide +kernel), by decide +kernel, by decide +kernel, by decide +kernel, by decide⟩
theorem lt_X6_118_232_122 : am_Tl RX6 118 232 122 0 := ⟨"java/lang/IndexOutOfBoundsException", "no such room", ["java/lang/RuntimeException", "java/lang/Exception"], rfl, by decide +kernel, by decide +kernel, am_in (i := 305) (by decide +kernel) (by decide +kernel), am_in (i := 33) (by decide +kernel) (by decide +kernel), by decide +kernel, by decide +kernel, by decide +kernel, by decide⟩
theorem lt_X6_71_234_75 : am_Tl RX6 71 234 75 2 := ⟨"java/lang/IllegalArgumentException", "no such point", ["java/lang/RuntimeException", "java/lang/Exception"], rfl, by decide +kernel, by decide +kernel, am_in (i := 274) (by decide +kernel) (by decide +kernel), am_in (i := 32) (by decide +kernel) (by decide +kernel), by decide +kernel, by decide +kernel, by decide +kernel, by decide⟩
theorem lf_X7_7 : am_Fl RX7 7 7 2 (.array .int) true := ⟨RX7, TX7, 29, tyX7, rfl, by decide, am_in (i := 652) (by decide +kernel) (by decide +kernel), inX7, tyX7_ok, nmX7, by decide +kernel, rfl, rfl⟩
theorem lf_X7_13 : am_Fl RX7 13 7 3 (.array .int) true := ⟨RX7, TX7, 29, tyX7, rfl, by decide, am_in (i := 653) (by decide +kernel) (by decide +kernel), inX7, tyX7_ok, nmX7, by decide +kernel, rfl, rfl⟩
theorem lf_X7_16 : am_Fl RX7 16 7 4 (.array .int) true := ⟨RX7, TX7, 29, tyX7, rfl, by decide, am_in (i := 654) (by decide +kernel) (by decide +kernel), inX7, tyX7_ok, nmX7, by decide +kernel, rfl, rfl⟩
theorem lf_X7_19 : am_Fl RX7 19 7 5 (.array .int) true := ⟨RX7, TX7, 29, tyX7, rfl, by decide, am_in (i := 655) (by decide +kernel) (by decide +kernel), inX7, tyX7_ok, nmX7, by decide +kernel, rfl, rfl⟩
theorem lf_X7_22 : am_Fl RX7 22 7 6 (.array .int) true := ⟨RX7, TX7, 29, tyX7, rfl, by decide, am_in (i := 656) (by decide +kernel) (by decide +kernel), inX7, tyX7_ok, nmX7, by decide +kernel, rfl, rfl⟩
theorem lf_X7_25 : am_Fl RX7 25 7 8 (.array .int) true := ⟨RX7, TX7, 29, tyX7, rfl, by decide, am_in (i := 658) (by decide +kernel) (by decide +kernel), inX7, tyX7_ok, nmX7, by decide +kernel, rfl, rfl⟩
theorem lf_X7_28 : am_Fl RX7 28 7 9 (.array .int) true := ⟨RX7, TX7, 29, tyX7, rfl, by decide, am_in (i := 659) (by decide +kernel) (by decide +kernel), inX7, tyX7_ok, nmX7, by decide +kernel, rfl, rfl⟩
theorem lf_X7_31 : am_Fl RX7 31 7 10 (.array .int) true := ⟨RX7, TX7, 29, tyX7, rfl, by decide, am_in (i := 660) (by decide +kernel) (by decide +kernel), inX7, tyX7_ok, nmX7, by decide +kernel, rfl, rfl⟩
theorem lf_X7_34 : am_Fl RX7 34 7 11 (.array .int) true := ⟨RX7, TX7, 29, tyX7, rfl, by decide, am_in (i := 661) (by decide +kernel) (by decide +kernel), inX7, tyX7_ok, nmX7, by decide +kernel, rfl, rfl⟩
theorem lf_X7_37 : am_Fl RX7 37 7 15 (.array .int) true := ⟨RX7, TX7, 29, tyX7, rfl, by decide, am_in (i := 665) (by decide +kernel) (by decide +kernel), inX7, tyX7_ok, nmX7, by decide +kernel, rfl, rfl⟩
theorem lf_X7_40 : am_Fl RX7 40 7 16 (.array .int) true := ⟨RX7, TX7, 29, tyX7, rfl, by decide, am_in (i := 666) (by decide +kernel) (by decide +kernel), inX7, tyX7_ok, nmX7, by decide +kernel, rfl, rfl⟩
theorem lf_X7_43 : am_Fl RX7 43 7 17 (.array .int) true := ⟨RX7, TX7, 29, tyX7, rfl, by decide, am_in (i := 667) (by decide +kernel) (by decide +kernel), inX7, tyX7_ok, nmX7, by decide +kernel, rfl, rfl⟩
theorem lf_X7_46 : am_Fl RX7 46 7 18 (.array .int) true := ⟨RX7, TX7, 29, tyX7, rfl, by decide, am_in (i := 668) (by decide +kernel) (by decide +kernel), inX7, tyX7_ok, nmX7, by decide +kernel, rfl, rfl⟩
theorem lf_X7_49 : am_Fl RX7 49 7 22 (.array .int) true := ⟨RX7, TX7, 29, tyX7, rfl, by decide, am_in (i := 672) (by decide +kernel) (by decide +kernel), inX7, tyX7_ok, nmX7, by decide +kernel, rfl, rfl⟩
theorem lf_X7_52 : am_Fl RX7 52 7 24 (.array .int) true := ⟨RX7, TX7, 29, tyX7, rfl, by decide, am_in (i := 674) (by decide +kernel) (by decide +kernel), inX7, tyX7_ok, nmX7, by decide +kernel, rfl, rfl⟩
theorem lf_X7_55 : am_Fl RX7 55 7 25 (.array .int) true := ⟨RX7, TX7, 29, tyX7, rfl, by decide, am_in (i := 675) (by decide +kernel) (by decide +kernel), inX7, tyX7_ok, nmX7, by decide +kernel, rfl, rfl⟩
theorem lf_X7_58 : am_Fl RX7 58 7 26 (.array .int) true := ⟨RX7, TX7, 29, tyX7, rfl, by decide, am_in (i := 676) (by decide +kernel) (by decide +kernel), inX7, tyX7_ok, nmX7, by decide +kernel, rfl, rfl⟩
theorem lf_X7_61 : am_Fl RX7 61 7 27 (.array .boolean) true := ⟨RX7, TX7, 29, tyX7, rfl, by decide, am_in (i := 677) (by decide +kernel) (by decide +kernel), inX7, tyX7_ok, nmX7, by decide +kernel, rfl, rfl⟩
theorem lf_X7_65 : am_Fl RX7 65 7 28 (.array .int) true := ⟨RX7, TX7, 29, tyX7, rfl, by decide, am_in (i := 678) (by decide +kernel) (by decide +kernel), inX7, tyX7_ok, nmX7, by decide +kernel, rfl, rfl⟩
theorem lf_X7_68 : am_Fl RX7 68 7 0 .int false := ⟨RX7, TX7, 29, tyX7, rfl, by decide, am_in (i := 650) (by decide +kernel) (by decide +kernel), inX7, tyX7_ok, nmX7, by decide +kernel, rfl, rfl⟩
theorem lf_X7_72 : am_Fl RX7 72 7 1 .int false := ⟨RX7, TX7, 29, tyX7, rfl, by decide, am_in (i := 651) (by decide +kernel) (by decide +kernel), inX7, tyX7_ok, nmX7, by decide +kernel, rfl, rfl⟩
theorem lf_X7_98 : am_Fl RX7 98 7 7 .int false := ⟨RX7, TX7, 29, tyX7, rfl, by decide, am_in (i := 657) (by decide +kernel) (by decide +kernel), inX7, tyX7_ok, nmX7, by decide +kernel, rfl, rfl⟩
theorem lf_X7_112 : am_Fl RX7 112 7 12 .int false := ⟨RX7, TX7, 29, tyX7, rfl, by decide, am_in (i := 662) (by decide +kernel) (by decide +kernel), inX7, tyX7_ok, nmX7, by decide +kernel, rfl, rfl⟩
theorem lf_X7_115 : am_Fl RX7 115 7 13 .int false := ⟨RX7, TX7, 29, tyX7, rfl, by decide, am_in (i := 663) (by decide +kernel) (by decide +kernel), inX7, tyX7_ok, nmX7, by decide +kernel, rfl, rfl⟩
theorem lf_X7_118 : am_Fl RX7 118 7 14 .boolean false := ⟨RX7, TX7, 29, tyX7, rfl, by decide, am_in (i := 664) (by decide +kernel) (by decide +kernel), inX7, tyX7_ok, nmX7, by decide +kernel, rfl, rfl⟩
theorem lf_X7_125 : am_Fl RX7 125 7 19 .int false := ⟨RX7, TX7, 29, tyX7, rfl, by decide, am_in (i := 669) (by decide +kernel) (by decide +kernel), inX7, tyX7_ok, nmX7, by decide +kernel, rfl, rfl⟩
theorem lf_X7_128 : am_Fl RX7 128 7 20 .int false := ⟨RX7, TX7, 29, tyX7, rfl, by decide, am_in (i := 670) (by decide +kernel) (by decide +kernel), inX7, tyX7_ok, nmX7, by decide +kernel, rfl, rfl⟩
theorem lf_X7_131 : am_Fl RX7 131 7 21 .boolean false := ⟨RX7, TX7, 29, tyX7, rfl, by decide, am_in (i := 671) (by decide +kernel) (by decide +kernel), inX7, tyX7_ok, nmX7, by decide +kernel, rfl, rfl⟩
theorem lf_X7_138 : am_Fl RX7 138 7 23 .int false := ⟨RX7, TX7, 29, tyX7, rfl, by decide, am_in (i := 673) (by decide +kernel) (by decide +kernel), inX7, tyX7_ok, nmX7, by decide +kernel, rfl, rfl⟩
theorem lf_X0_11 : am_Fl RX0 11 0 0 (.array (.object "CaptionLines$Row")) true := ⟨RX0, TX0, 4, tyX0, rfl, by decide, am_in (i := 67) (by decide +kernel) (by decide +kernel), inX0, tyX0_ok, nmX0, by decide +kernel, rfl, rfl⟩
theorem lf_X0_17 : am_Fl RX0 17 0 1 (.array .int) true := ⟨RX0, TX0, 4, tyX0, rfl, by decide, am_in (i := 68) (by decide +kernel) (by decide +kernel), inX0, tyX0_ok, nmX0, by decide +kernel, rfl, rfl⟩
theorem lf_X0_21 : am_Fl RX0 21 0 2 (.array .int) true := ⟨RX0, TX0, 4, tyX0, rfl, by decide, am_in (i := 69) (by decide +kernel) (by decide +kernel), inX0, tyX0_ok, nmX0, by decide +kernel, rfl, rfl⟩
theorem lf_X0_24 : am_Fl RX0 24 0 3 .int false := ⟨RX0, TX0, 4, tyX0, rfl, by decide, am_in (i := 70) (by decide +kernel) (by decide +kernel), inX0, tyX0_ok, nmX0, by decide +kernel, rfl, rfl⟩
theorem lf_X1_11 : am_Fl RX1 11 1 0 (.array (.object "CaptionLines$Row")) true := ⟨RX1, TX1, 2, tyX1, rfl, by decide, am_in (i := 121) (by decide +kernel) (by decide +kernel), inX1, tyX1_ok, nmX1, by decide +kernel, rfl, rfl⟩
theorem lf_X1_17 : am_Fl RX1 17 1 1 .int false := ⟨RX1, TX1, 2, tyX1, rfl, by decide, am_in (i := 122) (by decide +kernel) (by decide +kernel), inX1, tyX1_ok, nmX1, by decide +kernel, rfl, rfl⟩
theorem lf_X2_9 : am_Fl RX2 9 2 0 (.array .int) true := ⟨RX2, TX2, 2, tyX2, rfl, by decide, am_in (i := 153) (by decide +kernel) (by decide +kernel), inX2, tyX2_ok, nmX2, by decide +kernel, rfl, rfl⟩
theorem lf_X2_15 : am_Fl RX2 15 2 1 .int false := ⟨RX2, TX2, 2, tyX2, rfl, by decide, am_in (i := 154) (by decide +kernel) (by decide +kernel), inX2, tyX2_ok, nmX2, by decide +kernel, rfl, rfl⟩
theorem lf_X3_15 : am_Fl RX3 15 3 0 (.array .int) true := ⟨RX3, TX3, 2, tyX3, rfl, by decide, am_in (i := 51) (by decide +kernel) (by decide +kernel), inX3, tyX3_ok, nmX3, by decide +kernel, rfl, rfl⟩
theorem lf_X3_21 : am_Fl RX3 21 3 1 .int false := ⟨RX3, TX3, 2, tyX3, rfl, by decide, am_in (i := 52) (by decide +kernel) (by decide +kernel), inX3, tyX3_ok, nmX3, by decide +kernel, rfl, rfl⟩
theorem ln_X3_16 : am_Nl RX3 16 3 2 [.null, .int 0] := ⟨RX3, TX3, tyX3, rfl, am_in (i := 344) (by decide +kernel) (by decide +kernel), am_in (i := 43) (by decide +kernel) (by decide +kernel), am_in (i := 20) (by decide +kernel) (by decide +kernel), inX3, tyX3_ok, by decide +kernel, by intro v hv b e; subst e; simp at hv⟩
theorem lf_X4_9 : am_Fl RX4 9 4 0 (.array .int) true := ⟨RX4, TX4, 9, tyX4, rfl, by decide, am_in (i := 86) (by decide +kernel) (by decide +kernel), inX4, tyX4_ok, nmX4, by decide +kernel, rfl, rfl⟩
theorem lf_X4_15 : am_Fl RX4 15 4 1 (.array .int) true := ⟨RX4, TX4, 9, tyX4, rfl, by decide, am_in (i := 87) (by decide +kernel) (by decide +kernel), inX4, tyX4_ok, nmX4, by decide +kernel, rfl, rfl⟩
theorem lf_X4_18 : am_Fl RX4 18 4 2 .int false := ⟨RX4, TX4, 9, tyX4, rfl, by decide, am_in (i := 88) (by decide +kernel) (by decide +kernel), inX4, tyX4_ok, nmX4, by decide +kernel, rfl, rfl⟩
theorem lf_X4_22 : am_Fl RX4 22 4 3 (.array .int) true := ⟨RX4, TX4, 9, tyX4, rfl, by decide, am_in (i := 89) (by decide +kernel) (by decide +kernel), inX4, tyX4_ok, nmX4, by decide +kernel, rfl, rfl⟩
theorem lf_X4_25 : am_Fl RX4 25 4 4 (.array .int) true := ⟨RX4, TX4, 9, tyX4, rfl, by decide, am_in (i := 90) (by decide +kernel) (by decide +kernel), inX4, tyX4_ok, nmX4, by decide +kernel, rfl, rfl⟩
theorem lf_X4_28 : am_Fl RX4 28 4 5 (.array .int) true := ⟨RX4, TX4, 9, tyX4, rfl, by decide, am_in (i := 91) (by decide +kernel) (by decide +kernel), inX4, tyX4_ok, nmX4, by decide +kernel, rfl, rfl⟩
theorem lf_X4_31 : am_Fl RX4 31 4 6 (.array .int) true := ⟨RX4, TX4, 9, tyX4, rfl, by decide, am_in (i := 92) (by decide +kernel) (by decide +kernel), inX4, tyX4_ok, nmX4, by decide +kernel, rfl, rfl⟩
theorem lf_X4_34 : am_Fl RX4 34 4 7 .int false := ⟨RX4, TX4, 9, tyX4, rfl, by decide, am_in (i := 93) (by decide +kernel) (by decide +kernel), inX4, tyX4_ok, nmX4, by decide +kernel, rfl, rfl⟩
theorem lf_X4_37 : am_Fl RX4 37 4 8 .int false := ⟨RX4, TX4, 9, tyX4, rfl, by decide, am_in (i := 94) (by decide +kernel) (by decide +kernel), inX4, tyX4_ok, nmX4, by decide +kernel, rfl, rfl⟩
theorem lf_X5_9 : am_Fl RX5 9 5 0 (.array .int) true := ⟨RX5, TX5, 4, tyX5, rfl, by decide, am_in (i := 134) (by decide +kernel) (by decide +kernel), inX5, tyX5_ok, nmX5, by decide +kernel, rfl, rfl⟩
theorem lf_X5_15 : am_Fl RX5 15 5 1 (.array .int) true := ⟨RX5, TX5, 4, tyX5, rfl, by decide, am_in (i := 135) (by decide +kernel) (by decide +kernel), inX5, tyX5_ok, nmX5, by decide +kernel, rfl, rfl⟩
theorem lf_X5_18 : am_Fl RX5 18 5 2 (.array .int) true := ⟨RX5, TX5, 4, tyX5, rfl, by decide, am_in (i := 136) (by decide +kernel) (by decide +kernel), inX5, tyX5_ok, nmX5, by decide +kernel, rfl, rfl⟩
theorem lf_X5_21 : am_Fl RX5 21 5 3 .int false := ⟨RX5, TX5, 4, tyX5, rfl, by decide, am_in (i := 137) (by decide +kernel) (by decide +kernel), inX5, tyX5_ok, nmX5, by decide +kernel, rfl, rfl⟩
theorem ln_L_8 : am_Nl RL 8 6 7 [.null, .null, .null, .null, .null, .null, .null] := ⟨RX6, TX6, tyX6, rfl, am_in (i := 34) (by decide +kernel) (by decide +kernel), am_in (i := 35) (by decide +kernel) (by decide +kernel), am_in (i := 19) (by decide +kernel) (by decide +kernel), inX6, tyX6_ok, by decide +kernel, by intro v hv b e; subst e; simp at hv⟩
theorem ln_L_75 : am_Nl RL 75 7 29 [.int 0, .int 0, .null, .null, .null, .null, .null, .int 0, .null, .null, .null, .null, .int 0, .int 0, .int 0, .null, .null, .null, .null, .int 0, .int 0, .int 0, .null, .int 0, .null, .null, .null, .null, .null] := ⟨RX7, TX7, tyX7, rfl, am_in (i := 644) (by decide +kernel) (by decide +kernel), am_in (i := 645) (by decide +kernel) (by decide +kernel), am_in (i := 27) (by decide +kernel) (by decide +kernel), inX7, tyX7_ok, by decide +kernel, by intro v hv b e; subst e; simp at hv⟩
set_option maxRecDepth 100000 in
theorem lc_L_arrow : am_cd iL_arrow ∈ am_big := am_in (i := 608) rfl rfl
set_option maxRecDepth 100000 in
theorem lc_L_back : am_cd iL_back ∈ am_big := am_in (i := 531) rfl rfl
set_option maxRecDepth 100000 in
theorem lc_L_cell : am_cd iL_cell ∈ am_big := am_in (i := 523) rfl rfl
set_option maxRecDepth 100000 in
theorem lc_L_contract : am_cd iL_contract ∈ am_big := am_in (i := 472) rfl rfl
set_option maxRecDepth 100000 in
theorem lc_L_count : am_cd iL_count ∈ am_big := am_in (i := 626) rfl rfl
set_option maxRecDepth 100000 in
theorem lc_L_falls : am_cd iL_falls ∈ am_big := am_in (i := 359) rfl rfl
set_option maxRecDepth 100000 in
theorem lc_L_fingers : am_cd iL_fingers ∈ am_big := am_in (i := 506) rfl rfl
set_option maxRecDepth 100000 in
theorem lc_L_heard : am_cd iL_heard ∈ am_big := am_in (i := 576) rfl rfl
set_option maxRecDepth 100000 in
theorem lc_L_level : am_cd iL_level ∈ am_big := am_in (i := 462) rfl rfl
set_option maxRecDepth 100000 in
theorem lc_L_line : am_cd iL_line ∈ am_big := am_in (i := 441) rfl rfl
set_option maxRecDepth 100000 in
theorem lc_L_lines : am_cd iL_lines ∈ am_big := am_in (i := 395) rfl rfl
set_option maxRecDepth 100000 in
theorem lc_L_shown : am_cd iL_shown ∈ am_big := am_in (i := 370) rfl rfl
set_option maxRecDepth 100000 in
theorem lc_L_sign : am_cd iL_sign ∈ am_big := am_in (i := 382) rfl rfl
set_option maxRecDepth 100000 in
theorem lc_L_text : am_cd iL_text ∈ am_big := am_in (i := 296) rfl rfl
set_option maxRecDepth 100000 in
theorem lc_L_unit : am_cd iL_unit ∈ am_big := am_in (i := 196) rfl rfl
set_option maxRecDepth 100000 in
theorem lc_L_way : am_cd iL_way ∈ am_big := am_in (i := 587) rfl rfl
set_option maxRecDepth 100000 in
theorem lc_L_zone : am_cd iL_zone ∈ am_big := am_in (i := 547) rfl rfl
set_option maxRecDepth 100000 in
theorem lc_X0_addVersion : am_cd iX0_addVersion ∈ am_big := am_in (i := 356) rfl rfl
set_option maxRecDepth 100000 in
theorem lc_X0_fallBack : am_cd iX0_fallBack ∈ am_big := am_in (i := 367) rfl rfl
set_option maxRecDepth 100000 in
theorem lc_X0_init : am_cd iX0_init ∈ am_big := am_in (i := 63) rfl rfl
set_option maxRecDepth 100000 in
theorem lc_X0_languageShown : am_cd iX0_languageShown ∈ am_big := am_in (i := 378) rfl rfl
set_option maxRecDepth 100000 in
theorem lc_X0_latestShown : am_cd iX0_latestShown ∈ am_big := am_in (i := 404) rfl rfl
set_option maxRecDepth 100000 in
theorem lc_X0_total : am_cd iX0_total ∈ am_big := am_in (i := 634) rfl rfl
set_option maxRecDepth 100000 in
theorem lc_X0_version : am_cd iX0_version ∈ am_big := am_in (i := 390) rfl rfl
set_option maxRecDepth 100000 in
theorem lc_X0_versionsOf : am_cd iX0_versionsOf ∈ am_big := am_in (i := 328) rfl rfl
set_option maxRecDepth 100000 in
theorem lc_X1_has : am_cd iX1_has ∈ am_big := am_in (i := 489) rfl rfl
set_option maxRecDepth 100000 in
theorem lc_X1_init : am_cd iX1_init ∈ am_big := am_in (i := 118) rfl rfl
set_option maxRecDepth 100000 in
theorem lc_X1_longestAt : am_cd iX1_longestAt ∈ am_big := am_in (i := 493) rfl rfl
set_option maxRecDepth 100000 in
theorem lc_X1_put : am_cd iX1_put ∈ am_big := am_in (i := 503) rfl rfl
set_option maxRecDepth 100000 in
theorem lc_X1_read : am_cd iX1_read ∈ am_big := am_in (i := 540) rfl rfl
set_option maxRecDepth 100000 in
theorem lc_X1_rowOf : am_cd iX1_rowOf ∈ am_big := am_in (i := 485) rfl rfl
set_option maxRecDepth 100000 in
theorem lc_X1_total : am_cd iX1_total ∈ am_big := am_in (i := 638) rfl rfl
set_option maxRecDepth 100000 in
theorem lc_X1_write : am_cd iX1_write ∈ am_big := am_in (i := 514) rfl rfl
set_option maxRecDepth 100000 in
theorem lc_X2_areJoined : am_cd iX2_areJoined ∈ am_big := am_in (i := 600) rfl rfl
end
section
set_option maxRecDepth 100000 in
theorem lc_X2_besideAny : am_cd iX2_besideAny ∈ am_big := am_in (i := 623) rfl rfl
set_option maxRecDepth 100000 in
theorem lc_X2_init : am_cd iX2_init ∈ am_big := am_in (i := 151) rfl rfl
set_option maxRecDepth 100000 in
theorem lc_X2_lowestIn : am_cd iX2_lowestIn ∈ am_big := am_in (i := 619) rfl rfl
set_option maxRecDepth 100000 in
theorem lc_X2_nextRoom : am_cd iX2_nextRoom ∈ am_big := am_in (i := 616) rfl rfl
set_option maxRecDepth 100000 in
theorem lc_X2_turn : am_cd iX2_turn ∈ am_big := am_in (i := 604) rfl rfl
set_option maxRecDepth 100000 in
theorem lc_X2_wayCount : am_cd iX2_wayCount ∈ am_big := am_in (i := 642) rfl rfl
set_option maxRecDepth 100000 in
theorem lc_X3_add : am_cd iX3_add ∈ am_big := am_in (i := 293) rfl rfl
set_option maxRecDepth 100000 in
theorem lc_X3_addAll : am_cd iX3_addAll ∈ am_big := am_in (i := 349) rfl rfl
set_option maxRecDepth 100000 in
theorem lc_X3_at : am_cd iX3_at ∈ am_big := am_in (i := 336) rfl rfl
set_option maxRecDepth 100000 in
theorem lc_X3_copy : am_cd iX3_copy ∈ am_big := am_in (i := 343) rfl rfl
set_option maxRecDepth 100000 in
theorem lc_X3_empty : am_cd iX3_empty ∈ am_big := am_in (i := 193) rfl rfl
set_option maxRecDepth 100000 in
theorem lc_X3_init : am_cd iX3_init ∈ am_big := am_in (i := 46) rfl rfl
set_option maxRecDepth 100000 in
theorem lc_X3_length : am_cd iX3_length ∈ am_big := am_in (i := 189) rfl rfl
set_option maxRecDepth 100000 in
theorem lc_X3_standsIn : am_cd iX3_standsIn ∈ am_big := am_in (i := 499) rfl rfl
set_option maxRecDepth 100000 in
theorem lc_X4_addWord : am_cd iX4_addWord ∈ am_big := am_in (i := 420) rfl rfl
set_option maxRecDepth 100000 in
theorem lc_X4_beginOf : am_cd iX4_beginOf ∈ am_big := am_in (i := 455) rfl rfl
set_option maxRecDepth 100000 in
theorem lc_X4_findLeast : am_cd iX4_findLeast ∈ am_big := am_in (i := 429) rfl rfl
set_option maxRecDepth 100000 in
theorem lc_X4_findWords : am_cd iX4_findWords ∈ am_big := am_in (i := 414) rfl rfl
set_option maxRecDepth 100000 in
theorem lc_X4_init : am_cd iX4_init ∈ am_big := am_in (i := 84) rfl rfl
set_option maxRecDepth 100000 in
theorem lc_X4_lineCount : am_cd iX4_lineCount ∈ am_big := am_in (i := 438) rfl rfl
set_option maxRecDepth 100000 in
theorem lc_X4_longestWord : am_cd iX4_longestWord ∈ am_big := am_in (i := 424) rfl rfl
set_option maxRecDepth 100000 in
theorem lc_X4_set : am_cd iX4_set ∈ am_big := am_in (i := 410) rfl rfl
set_option maxRecDepth 100000 in
theorem lc_X4_signsOf : am_cd iX4_signsOf ∈ am_big := am_in (i := 459) rfl rfl
set_option maxRecDepth 100000 in
theorem lc_X4_sumOfSquares : am_cd iX4_sumOfSquares ∈ am_big := am_in (i := 451) rfl rfl
set_option maxRecDepth 100000 in
theorem lc_X4_takeLines : am_cd iX4_takeLines ∈ am_big := am_in (i := 434) rfl rfl
set_option maxRecDepth 100000 in
theorem lc_X5_add : am_cd iX5_add ∈ am_big := am_in (i := 573) rfl rfl
set_option maxRecDepth 100000 in
theorem lc_X5_init : am_cd iX5_init ∈ am_big := am_in (i := 132) rfl rfl
set_option maxRecDepth 100000 in
theorem lc_X5_lowestAround : am_cd iX5_lowestAround ∈ am_big := am_in (i := 584) rfl rfl
set_option maxRecDepth 100000 in
theorem lc_X5_lowestOverlapped : am_cd iX5_lowestOverlapped ∈ am_big := am_in (i := 565) rfl rfl
set_option maxRecDepth 100000 in
theorem lc_X5_squareOfDistance : am_cd iX5_squareOfDistance ∈ am_big := am_in (i := 569) rfl rfl
set_option maxRecDepth 100000 in
theorem lc_X5_total : am_cd iX5_total ∈ am_big := am_in (i := 555) rfl rfl
set_option maxRecDepth 100000 in
theorem lc_X6_arrow : am_cd iX6_arrow ∈ am_big := am_in (i := 612) rfl rfl
set_option maxRecDepth 100000 in
theorem lc_X6_back : am_cd iX6_back ∈ am_big := am_in (i := 535) rfl rfl
set_option maxRecDepth 100000 in
theorem lc_X6_canBeContracted : am_cd iX6_canBeContracted ∈ am_big := am_in (i := 479) rfl rfl
set_option maxRecDepth 100000 in
theorem lc_X6_cell : am_cd iX6_cell ∈ am_big := am_in (i := 527) rfl rfl
set_option maxRecDepth 100000 in
theorem lc_X6_clear : am_cd iX6_clear ∈ am_big := am_in (i := 185) rfl rfl
set_option maxRecDepth 100000 in
theorem lc_X6_contract : am_cd iX6_contract ∈ am_big := am_in (i := 476) rfl rfl
set_option maxRecDepth 100000 in
theorem lc_X6_count : am_cd iX6_count ∈ am_big := am_in (i := 630) rfl rfl
set_option maxRecDepth 100000 in
theorem lc_X6_falls : am_cd iX6_falls ∈ am_big := am_in (i := 363) rfl rfl
set_option maxRecDepth 100000 in
theorem lc_X6_fingers : am_cd iX6_fingers ∈ am_big := am_in (i := 510) rfl rfl
set_option maxRecDepth 100000 in
theorem lc_X6_firstWrongPlace : am_cd iX6_firstWrongPlace ∈ am_big := am_in (i := 332) rfl rfl
set_option maxRecDepth 100000 in
theorem lc_X6_heard : am_cd iX6_heard ∈ am_big := am_in (i := 580) rfl rfl
set_option maxRecDepth 100000 in
theorem lc_X6_init : am_cd iX6_init ∈ am_big := am_in (i := 38) rfl rfl
set_option maxRecDepth 100000 in
theorem lc_X6_isLetter : am_cd iX6_isLetter ∈ am_big := am_in (i := 273) rfl rfl
set_option maxRecDepth 100000 in
theorem lc_X6_level : am_cd iX6_level ∈ am_big := am_in (i := 466) rfl rfl
set_option maxRecDepth 100000 in
theorem lc_X6_levelOf : am_cd iX6_levelOf ∈ am_big := am_in (i := 469) rfl rfl
set_option maxRecDepth 100000 in
theorem lc_X6_line : am_cd iX6_line ∈ am_big := am_in (i := 445) rfl rfl
set_option maxRecDepth 100000 in
theorem lc_X6_lines : am_cd iX6_lines ∈ am_big := am_in (i := 399) rfl rfl
set_option maxRecDepth 100000 in
theorem lc_X6_mayFollow : am_cd iX6_mayFollow ∈ am_big := am_in (i := 339) rfl rfl
set_option maxRecDepth 100000 in
theorem lc_X6_needCaptionAndLanguage : am_cd iX6_needCaptionAndLanguage ∈ am_big := am_in (i := 304) rfl rfl
set_option maxRecDepth 100000 in
theorem lc_X6_needLanguage : am_cd iX6_needLanguage ∈ am_big := am_in (i := 323) rfl rfl
set_option maxRecDepth 100000 in
theorem lc_X6_needPoint : am_cd iX6_needPoint ∈ am_big := am_in (i := 559) rfl rfl
set_option maxRecDepth 100000 in
theorem lc_X6_needRoom : am_cd iX6_needRoom ∈ am_big := am_in (i := 594) rfl rfl
set_option maxRecDepth 100000 in
theorem lc_X6_ownCell : am_cd iX6_ownCell ∈ am_big := am_in (i := 519) rfl rfl
set_option maxRecDepth 100000 in
theorem lc_X6_ownSign : am_cd iX6_ownSign ∈ am_big := am_in (i := 543) rfl rfl
set_option maxRecDepth 100000 in
theorem lc_X6_shown : am_cd iX6_shown ∈ am_big := am_in (i := 374) rfl rfl
set_option maxRecDepth 100000 in
theorem lc_X6_sign : am_cd iX6_sign ∈ am_big := am_in (i := 386) rfl rfl
set_option maxRecDepth 100000 in
theorem lc_X6_text : am_cd iX6_text ∈ am_big := am_in (i := 301) rfl rfl
set_option maxRecDepth 100000 in
theorem lc_X6_unit : am_cd iX6_unit ∈ am_big := am_in (i := 202) rfl rfl
set_option maxRecDepth 100000 in
theorem lc_X6_way : am_cd iX6_way ∈ am_big := am_in (i := 591) rfl rfl
set_option maxRecDepth 100000 in
theorem lc_X6_zone : am_cd iX6_zone ∈ am_big := am_in (i := 551) rfl rfl
set_option maxRecDepth 100000 in
theorem lc_X7_arrow : am_cd iX7_arrow ∈ am_big := am_in (i := 857) rfl rfl
set_option maxRecDepth 100000 in
theorem lc_X7_back : am_cd iX7_back ∈ am_big := am_in (i := 835) rfl rfl
set_option maxRecDepth 100000 in
theorem lc_X7_below : am_cd iX7_below ∈ am_big := am_in (i := 767) rfl rfl
set_option maxRecDepth 100000 in
theorem lc_X7_cell : am_cd iX7_cell ∈ am_big := am_in (i := 831) rfl rfl
set_option maxRecDepth 100000 in
theorem lc_X7_clear : am_cd iX7_clear ∈ am_big := am_in (i := 757) rfl rfl
set_option maxRecDepth 100000 in
theorem lc_X7_contract : am_cd iX7_contract ∈ am_big := am_in (i := 815) rfl rfl
set_option maxRecDepth 100000 in
theorem lc_X7_count : am_cd iX7_count ∈ am_big := am_in (i := 865) rfl rfl
set_option maxRecDepth 100000 in
theorem lc_X7_falls : am_cd iX7_falls ∈ am_big := am_in (i := 775) rfl rfl
set_option maxRecDepth 100000 in
theorem lc_X7_fault : am_cd iX7_fault ∈ am_big := am_in (i := 771) rfl rfl
set_option maxRecDepth 100000 in
theorem lc_X7_fingers : am_cd iX7_fingers ∈ am_big := am_in (i := 823) rfl rfl
set_option maxRecDepth 100000 in
theorem lc_X7_goes : am_cd iX7_goes ∈ am_big := am_in (i := 753) rfl rfl
set_option maxRecDepth 100000 in
theorem lc_X7_heard : am_cd iX7_heard ∈ am_big := am_in (i := 849) rfl rfl
set_option maxRecDepth 100000 in
theorem lc_X7_init : am_cd iX7_init ∈ am_big := am_in (i := 648) rfl rfl
set_option maxRecDepth 100000 in
theorem lc_X7_isLetter : am_cd iX7_isLetter ∈ am_big := am_in (i := 749) rfl rfl
set_option maxRecDepth 100000 in
theorem lc_X7_isNearer : am_cd iX7_isNearer ∈ am_big := am_in (i := 845) rfl rfl
set_option maxRecDepth 100000 in
theorem lc_X7_isPad : am_cd iX7_isPad ∈ am_big := am_in (i := 819) rfl rfl
set_option maxRecDepth 100000 in
theorem lc_X7_isPair : am_cd iX7_isPair ∈ am_big := am_in (i := 764) rfl rfl
set_option maxRecDepth 100000 in
theorem lc_X7_isPoint : am_cd iX7_isPoint ∈ am_big := am_in (i := 842) rfl rfl
set_option maxRecDepth 100000 in
theorem lc_X7_latest : am_cd iX7_latest ∈ am_big := am_in (i := 795) rfl rfl
set_option maxRecDepth 100000 in
theorem lc_X7_level : am_cd iX7_level ∈ am_big := am_in (i := 811) rfl rfl
set_option maxRecDepth 100000 in
theorem lc_X7_line : am_cd iX7_line ∈ am_big := am_in (i := 807) rfl rfl
set_option maxRecDepth 100000 in
theorem lc_X7_lines : am_cd iX7_lines ∈ am_big := am_in (i := 791) rfl rfl
set_option maxRecDepth 100000 in
theorem lc_X7_measure : am_cd iX7_measure ∈ am_big := am_in (i := 861) rfl rfl
set_option maxRecDepth 100000 in
theorem lc_X7_part : am_cd iX7_part ∈ am_big := am_in (i := 799) rfl rfl
set_option maxRecDepth 100000 in
theorem lc_X7_shown : am_cd iX7_shown ∈ am_big := am_in (i := 779) rfl rfl
set_option maxRecDepth 100000 in
theorem lc_X7_shownIn : am_cd iX7_shownIn ∈ am_big := am_in (i := 783) rfl rfl
set_option maxRecDepth 100000 in
theorem lc_X7_sign : am_cd iX7_sign ∈ am_big := am_in (i := 787) rfl rfl
set_option maxRecDepth 100000 in
theorem lc_X7_solve : am_cd iX7_solve ∈ am_big := am_in (i := 803) rfl rfl
set_option maxRecDepth 100000 in
theorem lc_X7_stands : am_cd iX7_stands ∈ am_big := am_in (i := 827) rfl rfl
set_option maxRecDepth 100000 in
theorem lc_X7_text : am_cd iX7_text ∈ am_big := am_in (i := 761) rfl rfl
set_option maxRecDepth 100000 in
theorem lc_X7_thrown : am_cd iX7_thrown ∈ am_big := am_in (i := 742) rfl rfl
set_option maxRecDepth 100000 in
theorem lc_X7_unit : am_cd iX7_unit ∈ am_big := am_in (i := 746) rfl rfl
set_option maxRecDepth 100000 in
theorem lc_X7_way : am_cd iX7_way ∈ am_big := am_in (i := 853) rfl rfl
set_option maxRecDepth 100000 in
theorem lc_X7_zone : am_cd iX7_zone ∈ am_big := am_in (i := 839) rfl rfl
theorem lv_X6_11 : am_CI RX6 11 1 iX3_init := ⟨List.forall_mem_cons.mpr ⟨am_in (i := 44) (by decide +kernel) (by decide +kernel), List.forall_mem_cons.mpr ⟨am_in (i := 45) (by decide +kernel) (by decide +kernel), List.forall_mem_cons.mpr ⟨am_in (i := 20) (by decide +kernel) (by decide +kernel), fun _ h => absurd h List.not_mem_nil⟩⟩⟩, lc_X3_init, rfl, rfl, rfl, by decide +kernel, by decide +kernel, by decide +kernel⟩
theorem lv_X6_20 : am_CI RX6 20 0 iX0_init := ⟨List.forall_mem_cons.mpr ⟨am_in (i := 61) (by decide +kernel) (by decide +kernel), List.forall_mem_cons.mpr ⟨am_in (i := 62) (by decide +kernel) (by decide +kernel), List.forall_mem_cons.mpr ⟨am_in (i := 22) (by decide +kernel) (by decide +kernel), fun _ h => absurd h List.not_mem_nil⟩⟩⟩, lc_X0_init, rfl, rfl, rfl, by decide +kernel, by decide +kernel, by decide +kernel⟩
theorem lv_X6_27 : am_CI RX6 27 0 iX4_init := ⟨List.forall_mem_cons.mpr ⟨am_in (i := 82) (by decide +kernel) (by decide +kernel), List.forall_mem_cons.mpr ⟨am_in (i := 83) (by decide +kernel) (by decide +kernel), List.forall_mem_cons.mpr ⟨am_in (i := 23) (by decide +kernel) (by decide +kernel), fun _ h => absurd h List.not_mem_nil⟩⟩⟩, lc_X4_init, rfl, rfl, rfl, by decide +kernel, by decide +kernel, by decide +kernel⟩
theorem lv_X6_34 : am_CI RX6 34 0 iX1_init := ⟨List.forall_mem_cons.mpr ⟨am_in (i := 116) (by decide +kernel) (by decide +kernel), List.forall_mem_cons.mpr ⟨am_in (i := 117) (by decide +kernel) (by decide +kernel), List.forall_mem_cons.mpr ⟨am_in (i := 24) (by decide +kernel) (by decide +kernel), fun _ h => absurd h List.not_mem_nil⟩⟩⟩, lc_X1_init, rfl, rfl, rfl, by decide +kernel, by decide +kernel, by decide +kernel⟩
theorem lv_X6_44 : am_CI RX6 44 0 iX5_init := ⟨List.forall_mem_cons.mpr ⟨am_in (i := 130) (by decide +kernel) (by decide +kernel), List.forall_mem_cons.mpr ⟨am_in (i := 131) (by decide +kernel) (by decide +kernel), List.forall_mem_cons.mpr ⟨am_in (i := 25) (by decide +kernel) (by decide +kernel), fun _ h => absurd h List.not_mem_nil⟩⟩⟩, lc_X5_init, rfl, rfl, rfl, by decide +kernel, by decide +kernel, by decide +kernel⟩
theorem lv_X6_51 : am_CI RX6 51 0 iX2_init := ⟨List.forall_mem_cons.mpr ⟨am_in (i := 149) (by decide +kernel) (by decide +kernel), List.forall_mem_cons.mpr ⟨am_in (i := 150) (by decide +kernel) (by decide +kernel), List.forall_mem_cons.mpr ⟨am_in (i := 26) (by decide +kernel) (by decide +kernel), fun _ h => absurd h List.not_mem_nil⟩⟩⟩, lc_X2_init, rfl, rfl, rfl, by decide +kernel, by decide +kernel, by decide +kernel⟩
theorem lv_X6_56 : am_CV RX6 56 3 0 iX3_length := ⟨TX3, 2, rfl, List.forall_mem_cons.mpr ⟨am_in (i := 186) (by decide +kernel) (by decide +kernel), List.forall_mem_cons.mpr ⟨am_in (i := 187) (by decide +kernel) (by decide +kernel), List.forall_mem_cons.mpr ⟨am_in (i := 188) (by decide +kernel) (by decide +kernel), List.forall_mem_cons.mpr ⟨am_in (i := 20) (by decide +kernel) (by decide +kernel), fun _ h => absurd h List.not_mem_nil⟩⟩⟩⟩, lc_X3_length, rfl, by decide +kernel, by decide +kernel, by decide +kernel⟩
theorem lv_X6_67 : am_CS RX6 67 1 iX6_isLetter := ⟨List.forall_mem_cons.mpr ⟨am_in (i := 271) (by decide +kernel) (by decide +kernel), List.forall_mem_cons.mpr ⟨am_in (i := 272) (by decide +kernel) (by decide +kernel), List.forall_mem_cons.mpr ⟨am_in (i := 19) (by decide +kernel) (by decide +kernel), fun _ h => absurd h List.not_mem_nil⟩⟩⟩, lc_X6_isLetter, by decide +kernel, by decide +kernel, by decide +kernel⟩
theorem lv_X6_76 : am_CV RX6 76 3 1 iX3_add := ⟨TX3, 2, rfl, List.forall_mem_cons.mpr ⟨am_in (i := 290) (by decide +kernel) (by decide +kernel), List.forall_mem_cons.mpr ⟨am_in (i := 291) (by decide +kernel) (by decide +kernel), List.forall_mem_cons.mpr ⟨am_in (i := 292) (by decide +kernel) (by decide +kernel), List.forall_mem_cons.mpr ⟨am_in (i := 20) (by decide +kernel) (by decide +kernel), fun _ h => absurd h List.not_mem_nil⟩⟩⟩⟩, lc_X3_add, rfl, by decide +kernel, by decide +kernel, by decide +kernel⟩
theorem lv_X6_79 : am_CV RX6 79 3 0 iX3_empty := ⟨TX3, 2, rfl, List.forall_mem_cons.mpr ⟨am_in (i := 190) (by decide +kernel) (by decide +kernel), List.forall_mem_cons.mpr ⟨am_in (i := 191) (by decide +kernel) (by decide +kernel), List.forall_mem_cons.mpr ⟨am_in (i := 192) (by decide +kernel) (by decide +kernel), List.forall_mem_cons.mpr ⟨am_in (i := 20) (by decide +kernel) (by decide +kernel), fun _ h => absurd h List.not_mem_nil⟩⟩⟩⟩, lc_X3_empty, rfl, by decide +kernel, by decide +kernel, by decide +kernel⟩
theorem lv_X6_82 : am_CS RX6 82 2 iX6_needCaptionAndLanguage := ⟨List.forall_mem_cons.mpr ⟨am_in (i := 302) (by decide +kernel) (by decide +kernel), List.forall_mem_cons.mpr ⟨am_in (i := 303) (by decide +kernel) (by decide +kernel), List.forall_mem_cons.mpr ⟨am_in (i := 19) (by decide +kernel) (by decide +kernel), fun _ h => absurd h List.not_mem_nil⟩⟩⟩, lc_X6_needCaptionAndLanguage, by decide +kernel, by decide +kernel, by decide +kernel⟩
theorem lv_X6_86 : am_CV RX6 86 0 2 iX0_versionsOf := ⟨TX0, 4, rfl, List.forall_mem_cons.mpr ⟨am_in (i := 325) (by decide +kernel) (by decide +kernel), List.forall_mem_cons.mpr ⟨am_in (i := 326) (by decide +kernel) (by decide +kernel), List.forall_mem_cons.mpr ⟨am_in (i := 327) (by decide +kernel) (by decide +kernel), List.forall_mem_cons.mpr ⟨am_in (i := 22) (by decide +kernel) (by decide +kernel), fun _ h => absurd h List.not_mem_nil⟩⟩⟩⟩, lc_X0_versionsOf, rfl, by decide +kernel, by decide +kernel, by decide +kernel⟩
theorem lv_X6_92 : am_CS RX6 92 1 iX6_firstWrongPlace := ⟨List.forall_mem_cons.mpr ⟨am_in (i := 330) (by decide +kernel) (by decide +kernel), List.forall_mem_cons.mpr ⟨am_in (i := 331) (by decide +kernel) (by decide +kernel), List.forall_mem_cons.mpr ⟨am_in (i := 19) (by decide +kernel) (by decide +kernel), fun _ h => absurd h List.not_mem_nil⟩⟩⟩, lc_X6_firstWrongPlace, by decide +kernel, by decide +kernel, by decide +kernel⟩
theorem lv_X6_96 : am_CV RX6 96 3 0 iX3_copy := ⟨TX3, 2, rfl, List.forall_mem_cons.mpr ⟨am_in (i := 340) (by decide +kernel) (by decide +kernel), List.forall_mem_cons.mpr ⟨am_in (i := 341) (by decide +kernel) (by decide +kernel), List.forall_mem_cons.mpr ⟨am_in (i := 342) (by decide +kernel) (by decide +kernel), List.forall_mem_cons.mpr ⟨am_in (i := 20) (by decide +kernel) (by decide +kernel), fun _ h => absurd h List.not_mem_nil⟩⟩⟩⟩, lc_X3_copy, rfl, by decide +kernel, by decide +kernel, by decide +kernel⟩
theorem lv_X6_100 : am_CV RX6 100 0 3 iX0_addVersion := ⟨TX0, 4, rfl, List.forall_mem_cons.mpr ⟨am_in (i := 353) (by decide +kernel) (by decide +kernel), List.forall_mem_cons.mpr ⟨am_in (i := 354) (by decide +kernel) (by decide +kernel), List.forall_mem_cons.mpr ⟨am_in (i := 355) (by decide +kernel) (by decide +kernel), List.forall_mem_cons.mpr ⟨am_in (i := 22) (by decide +kernel) (by decide +kernel), fun _ h => absurd h List.not_mem_nil⟩⟩⟩⟩, lc_X0_addVersion, rfl, by decide +kernel, by decide +kernel, by decide +kernel⟩
theorem lv_X6_104 : am_CS RX6 104 1 iX6_needLanguage := ⟨List.forall_mem_cons.mpr ⟨am_in (i := 321) (by decide +kernel) (by decide +kernel), List.forall_mem_cons.mpr ⟨am_in (i := 322) (by decide +kernel) (by decide +kernel), List.forall_mem_cons.mpr ⟨am_in (i := 19) (by decide +kernel) (by decide +kernel), fun _ h => absurd h List.not_mem_nil⟩⟩⟩, lc_X6_needLanguage, by decide +kernel, by decide +kernel, by decide +kernel⟩
theorem lv_X6_107 : am_CV RX6 107 0 2 iX0_fallBack := ⟨TX0, 4, rfl, List.forall_mem_cons.mpr ⟨am_in (i := 364) (by decide +kernel) (by decide +kernel), List.forall_mem_cons.mpr ⟨am_in (i := 365) (by decide +kernel) (by decide +kernel), List.forall_mem_cons.mpr ⟨am_in (i := 366) (by decide +kernel) (by decide +kernel), List.forall_mem_cons.mpr ⟨am_in (i := 22) (by decide +kernel) (by decide +kernel), fun _ h => absurd h List.not_mem_nil⟩⟩⟩⟩, lc_X0_fallBack, rfl, by decide +kernel, by decide +kernel, by decide +kernel⟩
theorem lv_X6_111 : am_CV RX6 111 0 2 iX0_languageShown := ⟨TX0, 4, rfl, List.forall_mem_cons.mpr ⟨am_in (i := 375) (by decide +kernel) (by decide +kernel), List.forall_mem_cons.mpr ⟨am_in (i := 376) (by decide +kernel) (by decide +kernel), List.forall_mem_cons.mpr ⟨am_in (i := 377) (by decide +kernel) (by decide +kernel), List.forall_mem_cons.mpr ⟨am_in (i := 22) (by decide +kernel) (by decide +kernel), fun _ h => absurd h List.not_mem_nil⟩⟩⟩⟩, lc_X0_languageShown, rfl, by decide +kernel, by decide +kernel, by decide +kernel⟩
theorem lv_X6_114 : am_CV RX6 114 0 3 iX0_version := ⟨TX0, 4, rfl, List.forall_mem_cons.mpr ⟨am_in (i := 387) (by decide +kernel) (by decide +kernel), List.forall_mem_cons.mpr ⟨am_in (i := 388) (by decide +kernel) (by decide +kernel), List.forall_mem_cons.mpr ⟨am_in (i := 389) (by decide +kernel) (by decide +kernel), List.forall_mem_cons.mpr ⟨am_in (i := 22) (by decide +kernel) (by decide +kernel), fun _ h => absurd h List.not_mem_nil⟩⟩⟩⟩, lc_X0_version, rfl, by decide +kernel, by decide +kernel, by decide +kernel⟩
theorem lv_X6_125 : am_CV RX6 125 3 1 iX3_at := ⟨TX3, 2, rfl, List.forall_mem_cons.mpr ⟨am_in (i := 333) (by decide +kernel) (by decide +kernel), List.forall_mem_cons.mpr ⟨am_in (i := 334) (by decide +kernel) (by decide +kernel), List.forall_mem_cons.mpr ⟨am_in (i := 335) (by decide +kernel) (by decide +kernel), List.forall_mem_cons.mpr ⟨am_in (i := 20) (by decide +kernel) (by decide +kernel), fun _ h => absurd h List.not_mem_nil⟩⟩⟩⟩, lc_X3_at, rfl, by decide +kernel, by decide +kernel, by decide +kernel⟩
theorem lv_X6_131 : am_CV RX6 131 0 2 iX0_latestShown := ⟨TX0, 4, rfl, List.forall_mem_cons.mpr ⟨am_in (i := 401) (by decide +kernel) (by decide +kernel), List.forall_mem_cons.mpr ⟨am_in (i := 402) (by decide +kernel) (by decide +kernel), List.forall_mem_cons.mpr ⟨am_in (i := 403) (by decide +kernel) (by decide +kernel), List.forall_mem_cons.mpr ⟨am_in (i := 22) (by decide +kernel) (by decide +kernel), fun _ h => absurd h List.not_mem_nil⟩⟩⟩⟩, lc_X0_latestShown, rfl, by decide +kernel, by decide +kernel, by decide +kernel⟩
theorem lv_X6_135 : am_CV RX6 135 4 2 iX4_set := ⟨TX4, 9, rfl, List.forall_mem_cons.mpr ⟨am_in (i := 407) (by decide +kernel) (by decide +kernel), List.forall_mem_cons.mpr ⟨am_in (i := 408) (by decide +kernel) (by decide +kernel), List.forall_mem_cons.mpr ⟨am_in (i := 409) (by decide +kernel) (by decide +kernel), List.forall_mem_cons.mpr ⟨am_in (i := 23) (by decide +kernel) (by decide +kernel), fun _ h => absurd h List.not_mem_nil⟩⟩⟩⟩, lc_X4_set, rfl, by decide +kernel, by decide +kernel, by decide +kernel⟩
theorem lv_X6_139 : am_CV RX6 139 4 0 iX4_lineCount := ⟨TX4, 9, rfl, List.forall_mem_cons.mpr ⟨am_in (i := 435) (by decide +kernel) (by decide +kernel), List.forall_mem_cons.mpr ⟨am_in (i := 436) (by decide +kernel) (by decide +kernel), List.forall_mem_cons.mpr ⟨am_in (i := 437) (by decide +kernel) (by decide +kernel), List.forall_mem_cons.mpr ⟨am_in (i := 23) (by decide +kernel) (by decide +kernel), fun _ h => absurd h List.not_mem_nil⟩⟩⟩⟩, lc_X4_lineCount, rfl, by decide +kernel, by decide +kernel, by decide +kernel⟩
theorem lv_X6_146 : am_CV RX6 146 4 0 iX4_sumOfSquares := ⟨TX4, 9, rfl, List.forall_mem_cons.mpr ⟨am_in (i := 448) (by decide +kernel) (by decide +kernel), List.forall_mem_cons.mpr ⟨am_in (i := 449) (by decide +kernel) (by decide +kernel), List.forall_mem_cons.mpr ⟨am_in (i := 450) (by decide +kernel) (by decide +kernel), List.forall_mem_cons.mpr ⟨am_in (i := 23) (by decide +kernel) (by decide +kernel), fun _ h => absurd h List.not_mem_nil⟩⟩⟩⟩, lc_X4_sumOfSquares, rfl, by decide +kernel, by decide +kernel, by decide +kernel⟩
theorem lv_X6_149 : am_CV RX6 149 4 1 iX4_beginOf := ⟨TX4, 9, rfl, List.forall_mem_cons.mpr ⟨am_in (i := 452) (by decide +kernel) (by decide +kernel), List.forall_mem_cons.mpr ⟨am_in (i := 453) (by decide +kernel) (by decide +kernel), List.forall_mem_cons.mpr ⟨am_in (i := 454) (by decide +kernel) (by decide +kernel), List.forall_mem_cons.mpr ⟨am_in (i := 23) (by decide +kernel) (by decide +kernel), fun _ h => absurd h List.not_mem_nil⟩⟩⟩⟩, lc_X4_beginOf, rfl, by decide +kernel, by decide +kernel, by decide +kernel⟩
theorem lv_X6_152 : am_CV RX6 152 4 1 iX4_signsOf := ⟨TX4, 9, rfl, List.forall_mem_cons.mpr ⟨am_in (i := 456) (by decide +kernel) (by decide +kernel), List.forall_mem_cons.mpr ⟨am_in (i := 457) (by decide +kernel) (by decide +kernel), List.forall_mem_cons.mpr ⟨am_in (i := 458) (by decide +kernel) (by decide +kernel), List.forall_mem_cons.mpr ⟨am_in (i := 23) (by decide +kernel) (by decide +kernel), fun _ h => absurd h List.not_mem_nil⟩⟩⟩⟩, lc_X4_signsOf, rfl, by decide +kernel, by decide +kernel, by decide +kernel⟩
theorem lv_X6_155 : am_CS RX6 155 1 iX6_levelOf := ⟨List.forall_mem_cons.mpr ⟨am_in (i := 467) (by decide +kernel) (by decide +kernel), List.forall_mem_cons.mpr ⟨am_in (i := 468) (by decide +kernel) (by decide +kernel), List.forall_mem_cons.mpr ⟨am_in (i := 19) (by decide +kernel) (by decide +kernel), fun _ h => absurd h List.not_mem_nil⟩⟩⟩, lc_X6_levelOf, by decide +kernel, by decide +kernel, by decide +kernel⟩
theorem lv_X6_158 : am_CS RX6 158 1 iX6_canBeContracted := ⟨List.forall_mem_cons.mpr ⟨am_in (i := 477) (by decide +kernel) (by decide +kernel), List.forall_mem_cons.mpr ⟨am_in (i := 478) (by decide +kernel) (by decide +kernel), List.forall_mem_cons.mpr ⟨am_in (i := 19) (by decide +kernel) (by decide +kernel), fun _ h => absurd h List.not_mem_nil⟩⟩⟩, lc_X6_canBeContracted, by decide +kernel, by decide +kernel, by decide +kernel⟩
theorem lv_X6_166 : am_CV RX6 166 1 1 iX1_rowOf := ⟨TX1, 2, rfl, List.forall_mem_cons.mpr ⟨am_in (i := 482) (by decide +kernel) (by decide +kernel), List.forall_mem_cons.mpr ⟨am_in (i := 483) (by decide +kernel) (by decide +kernel), List.forall_mem_cons.mpr ⟨am_in (i := 484) (by decide +kernel) (by decide +kernel), List.forall_mem_cons.mpr ⟨am_in (i := 24) (by decide +kernel) (by decide +kernel), fun _ h => absurd h List.not_mem_nil⟩⟩⟩⟩, lc_X1_rowOf, rfl, by decide +kernel, by decide +kernel, by decide +kernel⟩
theorem lv_X6_170 : am_CV RX6 170 1 1 iX1_has := ⟨TX1, 2, rfl, List.forall_mem_cons.mpr ⟨am_in (i := 486) (by decide +kernel) (by decide +kernel), List.forall_mem_cons.mpr ⟨am_in (i := 487) (by decide +kernel) (by decide +kernel), List.forall_mem_cons.mpr ⟨am_in (i := 488) (by decide +kernel) (by decide +kernel), List.forall_mem_cons.mpr ⟨am_in (i := 24) (by decide +kernel) (by decide +kernel), fun _ h => absurd h List.not_mem_nil⟩⟩⟩⟩, lc_X1_has, rfl, by decide +kernel, by decide +kernel, by decide +kernel⟩
theorem lv_X6_173 : am_CV RX6 173 1 2 iX1_put := ⟨TX1, 2, rfl, List.forall_mem_cons.mpr ⟨am_in (i := 500) (by decide +kernel) (by decide +kernel), List.forall_mem_cons.mpr ⟨am_in (i := 501) (by decide +kernel) (by decide +kernel), List.forall_mem_cons.mpr ⟨am_in (i := 502) (by decide +kernel) (by decide +kernel), List.forall_mem_cons.mpr ⟨am_in (i := 24) (by decide +kernel) (by decide +kernel), fun _ h => absurd h List.not_mem_nil⟩⟩⟩⟩, lc_X1_put, rfl, by decide +kernel, by decide +kernel, by decide +kernel⟩
theorem lv_X6_177 : am_CV RX6 177 1 2 iX1_write := ⟨TX1, 2, rfl, List.forall_mem_cons.mpr ⟨am_in (i := 511) (by decide +kernel) (by decide +kernel), List.forall_mem_cons.mpr ⟨am_in (i := 512) (by decide +kernel) (by decide +kernel), List.forall_mem_cons.mpr ⟨am_in (i := 513) (by decide +kernel) (by decide +kernel), List.forall_mem_cons.mpr ⟨am_in (i := 24) (by decide +kernel) (by decide +kernel), fun _ h => absurd h List.not_mem_nil⟩⟩⟩⟩, lc_X1_write, rfl, by decide +kernel, by decide +kernel, by decide +kernel⟩
theorem lv_X6_185 : am_CV RX6 185 1 2 iX1_read := ⟨TX1, 2, rfl, List.forall_mem_cons.mpr ⟨am_in (i := 537) (by decide +kernel) (by decide +kernel), List.forall_mem_cons.mpr ⟨am_in (i := 538) (by decide +kernel) (by decide +kernel), List.forall_mem_cons.mpr ⟨am_in (i := 539) (by decide +kernel) (by decide +kernel), List.forall_mem_cons.mpr ⟨am_in (i := 24) (by decide +kernel) (by decide +kernel), fun _ h => absurd h List.not_mem_nil⟩⟩⟩⟩, lc_X1_read, rfl, by decide +kernel, by decide +kernel, by decide +kernel⟩
theorem lv_X6_188 : am_CV RX6 188 5 0 iX5_total := ⟨TX5, 4, rfl, List.forall_mem_cons.mpr ⟨am_in (i := 552) (by decide +kernel) (by decide +kernel), List.forall_mem_cons.mpr ⟨am_in (i := 553) (by decide +kernel) (by decide +kernel), List.forall_mem_cons.mpr ⟨am_in (i := 554) (by decide +kernel) (by decide +kernel), List.forall_mem_cons.mpr ⟨am_in (i := 25) (by decide +kernel) (by decide +kernel), fun _ h => absurd h List.not_mem_nil⟩⟩⟩⟩, lc_X5_total, rfl, by decide +kernel, by decide +kernel, by decide +kernel⟩
theorem lv_X6_193 : am_CS RX6 193 2 iX6_needPoint := ⟨List.forall_mem_cons.mpr ⟨am_in (i := 557) (by decide +kernel) (by decide +kernel), List.forall_mem_cons.mpr ⟨am_in (i := 558) (by decide +kernel) (by decide +kernel), List.forall_mem_cons.mpr ⟨am_in (i := 19) (by decide +kernel) (by decide +kernel), fun _ h => absurd h List.not_mem_nil⟩⟩⟩, lc_X6_needPoint, by decide +kernel, by decide +kernel, by decide +kernel⟩
end
section
theorem lv_X6_198 : am_CV RX6 198 5 3 iX5_lowestOverlapped := ⟨TX5, 4, rfl, List.forall_mem_cons.mpr ⟨am_in (i := 562) (by decide +kernel) (by decide +kernel), List.forall_mem_cons.mpr ⟨am_in (i := 563) (by decide +kernel) (by decide +kernel), List.forall_mem_cons.mpr ⟨am_in (i := 564) (by decide +kernel) (by decide +kernel), List.forall_mem_cons.mpr ⟨am_in (i := 25) (by decide +kernel) (by decide +kernel), fun _ h => absurd h List.not_mem_nil⟩⟩⟩⟩, lc_X5_lowestOverlapped, rfl, by decide +kernel, by decide +kernel, by decide +kernel⟩
theorem lv_X6_202 : am_CV RX6 202 5 3 iX5_add := ⟨TX5, 4, rfl, List.forall_mem_cons.mpr ⟨am_in (i := 570) (by decide +kernel) (by decide +kernel), List.forall_mem_cons.mpr ⟨am_in (i := 571) (by decide +kernel) (by decide +kernel), List.forall_mem_cons.mpr ⟨am_in (i := 572) (by decide +kernel) (by decide +kernel), List.forall_mem_cons.mpr ⟨am_in (i := 25) (by decide +kernel) (by decide +kernel), fun _ h => absurd h List.not_mem_nil⟩⟩⟩⟩, lc_X5_add, rfl, by decide +kernel, by decide +kernel, by decide +kernel⟩
theorem lv_X6_204 : am_CV RX6 204 5 2 iX5_lowestAround := ⟨TX5, 4, rfl, List.forall_mem_cons.mpr ⟨am_in (i := 581) (by decide +kernel) (by decide +kernel), List.forall_mem_cons.mpr ⟨am_in (i := 582) (by decide +kernel) (by decide +kernel), List.forall_mem_cons.mpr ⟨am_in (i := 583) (by decide +kernel) (by decide +kernel), List.forall_mem_cons.mpr ⟨am_in (i := 25) (by decide +kernel) (by decide +kernel), fun _ h => absurd h List.not_mem_nil⟩⟩⟩⟩, lc_X5_lowestAround, rfl, by decide +kernel, by decide +kernel, by decide +kernel⟩
theorem lv_X6_207 : am_CS RX6 207 1 iX6_needRoom := ⟨List.forall_mem_cons.mpr ⟨am_in (i := 592) (by decide +kernel) (by decide +kernel), List.forall_mem_cons.mpr ⟨am_in (i := 593) (by decide +kernel) (by decide +kernel), List.forall_mem_cons.mpr ⟨am_in (i := 19) (by decide +kernel) (by decide +kernel), fun _ h => absurd h List.not_mem_nil⟩⟩⟩, lc_X6_needRoom, by decide +kernel, by decide +kernel, by decide +kernel⟩
theorem lv_X6_212 : am_CV RX6 212 2 2 iX2_areJoined := ⟨TX2, 2, rfl, List.forall_mem_cons.mpr ⟨am_in (i := 597) (by decide +kernel) (by decide +kernel), List.forall_mem_cons.mpr ⟨am_in (i := 598) (by decide +kernel) (by decide +kernel), List.forall_mem_cons.mpr ⟨am_in (i := 599) (by decide +kernel) (by decide +kernel), List.forall_mem_cons.mpr ⟨am_in (i := 26) (by decide +kernel) (by decide +kernel), fun _ h => absurd h List.not_mem_nil⟩⟩⟩⟩, lc_X2_areJoined, rfl, by decide +kernel, by decide +kernel, by decide +kernel⟩
theorem lv_X6_215 : am_CV RX6 215 2 2 iX2_turn := ⟨TX2, 2, rfl, List.forall_mem_cons.mpr ⟨am_in (i := 601) (by decide +kernel) (by decide +kernel), List.forall_mem_cons.mpr ⟨am_in (i := 602) (by decide +kernel) (by decide +kernel), List.forall_mem_cons.mpr ⟨am_in (i := 603) (by decide +kernel) (by decide +kernel), List.forall_mem_cons.mpr ⟨am_in (i := 26) (by decide +kernel) (by decide +kernel), fun _ h => absurd h List.not_mem_nil⟩⟩⟩⟩, lc_X2_turn, rfl, by decide +kernel, by decide +kernel, by decide +kernel⟩
theorem lv_X6_218 : am_CV RX6 218 2 2 iX2_nextRoom := ⟨TX2, 2, rfl, List.forall_mem_cons.mpr ⟨am_in (i := 613) (by decide +kernel) (by decide +kernel), List.forall_mem_cons.mpr ⟨am_in (i := 614) (by decide +kernel) (by decide +kernel), List.forall_mem_cons.mpr ⟨am_in (i := 615) (by decide +kernel) (by decide +kernel), List.forall_mem_cons.mpr ⟨am_in (i := 26) (by decide +kernel) (by decide +kernel), fun _ h => absurd h List.not_mem_nil⟩⟩⟩⟩, lc_X2_nextRoom, rfl, by decide +kernel, by decide +kernel, by decide +kernel⟩
theorem lv_X6_221 : am_CV RX6 221 0 0 iX0_total := ⟨TX0, 4, rfl, List.forall_mem_cons.mpr ⟨am_in (i := 631) (by decide +kernel) (by decide +kernel), List.forall_mem_cons.mpr ⟨am_in (i := 632) (by decide +kernel) (by decide +kernel), List.forall_mem_cons.mpr ⟨am_in (i := 633) (by decide +kernel) (by decide +kernel), List.forall_mem_cons.mpr ⟨am_in (i := 22) (by decide +kernel) (by decide +kernel), fun _ h => absurd h List.not_mem_nil⟩⟩⟩⟩, lc_X0_total, rfl, by decide +kernel, by decide +kernel, by decide +kernel⟩
theorem lv_X6_222 : am_CV RX6 222 1 0 iX1_total := ⟨TX1, 2, rfl, List.forall_mem_cons.mpr ⟨am_in (i := 635) (by decide +kernel) (by decide +kernel), List.forall_mem_cons.mpr ⟨am_in (i := 636) (by decide +kernel) (by decide +kernel), List.forall_mem_cons.mpr ⟨am_in (i := 637) (by decide +kernel) (by decide +kernel), List.forall_mem_cons.mpr ⟨am_in (i := 24) (by decide +kernel) (by decide +kernel), fun _ h => absurd h List.not_mem_nil⟩⟩⟩⟩, lc_X1_total, rfl, by decide +kernel, by decide +kernel, by decide +kernel⟩
theorem lv_X6_223 : am_CV RX6 223 2 0 iX2_wayCount := ⟨TX2, 2, rfl, List.forall_mem_cons.mpr ⟨am_in (i := 639) (by decide +kernel) (by decide +kernel), List.forall_mem_cons.mpr ⟨am_in (i := 640) (by decide +kernel) (by decide +kernel), List.forall_mem_cons.mpr ⟨am_in (i := 641) (by decide +kernel) (by decide +kernel), List.forall_mem_cons.mpr ⟨am_in (i := 26) (by decide +kernel) (by decide +kernel), fun _ h => absurd h List.not_mem_nil⟩⟩⟩⟩, lc_X2_wayCount, rfl, by decide +kernel, by decide +kernel, by decide +kernel⟩
theorem lv_X6_236 : am_CS RX6 236 2 iX6_mayFollow := ⟨List.forall_mem_cons.mpr ⟨am_in (i := 337) (by decide +kernel) (by decide +kernel), List.forall_mem_cons.mpr ⟨am_in (i := 338) (by decide +kernel) (by decide +kernel), List.forall_mem_cons.mpr ⟨am_in (i := 19) (by decide +kernel) (by decide +kernel), fun _ h => absurd h List.not_mem_nil⟩⟩⟩, lc_X6_mayFollow, by decide +kernel, by decide +kernel, by decide +kernel⟩
theorem lv_X7_75 : am_CS RX7 75 1 iX7_isLetter := ⟨List.forall_mem_cons.mpr ⟨am_in (i := 747) (by decide +kernel) (by decide +kernel), List.forall_mem_cons.mpr ⟨am_in (i := 748) (by decide +kernel) (by decide +kernel), List.forall_mem_cons.mpr ⟨am_in (i := 27) (by decide +kernel) (by decide +kernel), fun _ h => absurd h List.not_mem_nil⟩⟩⟩, lc_X7_isLetter, by decide +kernel, by decide +kernel, by decide +kernel⟩
theorem lv_X7_79 : am_CV RX7 79 7 2 iX7_goes := ⟨TX7, 29, rfl, List.forall_mem_cons.mpr ⟨am_in (i := 750) (by decide +kernel) (by decide +kernel), List.forall_mem_cons.mpr ⟨am_in (i := 752) (by decide +kernel) (by decide +kernel), List.forall_mem_cons.mpr ⟨am_in (i := 9) (by decide +kernel) (by decide +kernel), List.forall_mem_cons.mpr ⟨am_in (i := 27) (by decide +kernel) (by decide +kernel), fun _ h => absurd h List.not_mem_nil⟩⟩⟩⟩, lc_X7_goes, rfl, by decide +kernel, by decide +kernel, by decide +kernel⟩
theorem lv_X7_83 : am_CS RX7 83 2 iX7_below := ⟨List.forall_mem_cons.mpr ⟨am_in (i := 765) (by decide +kernel) (by decide +kernel), List.forall_mem_cons.mpr ⟨am_in (i := 766) (by decide +kernel) (by decide +kernel), List.forall_mem_cons.mpr ⟨am_in (i := 27) (by decide +kernel) (by decide +kernel), fun _ h => absurd h List.not_mem_nil⟩⟩⟩, lc_X7_below, by decide +kernel, by decide +kernel, by decide +kernel⟩
theorem lv_X7_87 : am_CS RX7 87 2 iX7_isPair := ⟨List.forall_mem_cons.mpr ⟨am_in (i := 762) (by decide +kernel) (by decide +kernel), List.forall_mem_cons.mpr ⟨am_in (i := 763) (by decide +kernel) (by decide +kernel), List.forall_mem_cons.mpr ⟨am_in (i := 27) (by decide +kernel) (by decide +kernel), fun _ h => absurd h List.not_mem_nil⟩⟩⟩, lc_X7_isPair, by decide +kernel, by decide +kernel, by decide +kernel⟩
theorem lv_X7_90 : am_CV RX7 90 7 0 iX7_fault := ⟨TX7, 29, rfl, List.forall_mem_cons.mpr ⟨am_in (i := 768) (by decide +kernel) (by decide +kernel), List.forall_mem_cons.mpr ⟨am_in (i := 770) (by decide +kernel) (by decide +kernel), List.forall_mem_cons.mpr ⟨am_in (i := 10) (by decide +kernel) (by decide +kernel), List.forall_mem_cons.mpr ⟨am_in (i := 27) (by decide +kernel) (by decide +kernel), fun _ h => absurd h List.not_mem_nil⟩⟩⟩⟩, lc_X7_fault, rfl, by decide +kernel, by decide +kernel, by decide +kernel⟩
theorem lv_X7_94 : am_CV RX7 94 7 2 iX7_shownIn := ⟨TX7, 29, rfl, List.forall_mem_cons.mpr ⟨am_in (i := 780) (by decide +kernel) (by decide +kernel), List.forall_mem_cons.mpr ⟨am_in (i := 782) (by decide +kernel) (by decide +kernel), List.forall_mem_cons.mpr ⟨am_in (i := 11) (by decide +kernel) (by decide +kernel), List.forall_mem_cons.mpr ⟨am_in (i := 27) (by decide +kernel) (by decide +kernel), fun _ h => absurd h List.not_mem_nil⟩⟩⟩⟩, lc_X7_shownIn, rfl, by decide +kernel, by decide +kernel, by decide +kernel⟩
theorem lv_X7_101 : am_CV RX7 101 7 2 iX7_latest := ⟨TX7, 29, rfl, List.forall_mem_cons.mpr ⟨am_in (i := 792) (by decide +kernel) (by decide +kernel), List.forall_mem_cons.mpr ⟨am_in (i := 794) (by decide +kernel) (by decide +kernel), List.forall_mem_cons.mpr ⟨am_in (i := 12) (by decide +kernel) (by decide +kernel), List.forall_mem_cons.mpr ⟨am_in (i := 27) (by decide +kernel) (by decide +kernel), fun _ h => absurd h List.not_mem_nil⟩⟩⟩⟩, lc_X7_latest, rfl, by decide +kernel, by decide +kernel, by decide +kernel⟩
theorem lv_X7_104 : am_CV RX7 104 7 1 iX7_part := ⟨TX7, 29, rfl, List.forall_mem_cons.mpr ⟨am_in (i := 796) (by decide +kernel) (by decide +kernel), List.forall_mem_cons.mpr ⟨am_in (i := 798) (by decide +kernel) (by decide +kernel), List.forall_mem_cons.mpr ⟨am_in (i := 13) (by decide +kernel) (by decide +kernel), List.forall_mem_cons.mpr ⟨am_in (i := 27) (by decide +kernel) (by decide +kernel), fun _ h => absurd h List.not_mem_nil⟩⟩⟩⟩, lc_X7_part, rfl, by decide +kernel, by decide +kernel, by decide +kernel⟩
theorem lv_X7_108 : am_CV RX7 108 7 2 iX7_solve := ⟨TX7, 29, rfl, List.forall_mem_cons.mpr ⟨am_in (i := 800) (by decide +kernel) (by decide +kernel), List.forall_mem_cons.mpr ⟨am_in (i := 802) (by decide +kernel) (by decide +kernel), List.forall_mem_cons.mpr ⟨am_in (i := 14) (by decide +kernel) (by decide +kernel), List.forall_mem_cons.mpr ⟨am_in (i := 27) (by decide +kernel) (by decide +kernel), fun _ h => absurd h List.not_mem_nil⟩⟩⟩⟩, lc_X7_solve, rfl, by decide +kernel, by decide +kernel, by decide +kernel⟩
theorem lv_X7_122 : am_CV RX7 122 7 1 iX7_isPad := ⟨TX7, 29, rfl, List.forall_mem_cons.mpr ⟨am_in (i := 816) (by decide +kernel) (by decide +kernel), List.forall_mem_cons.mpr ⟨am_in (i := 818) (by decide +kernel) (by decide +kernel), List.forall_mem_cons.mpr ⟨am_in (i := 15) (by decide +kernel) (by decide +kernel), List.forall_mem_cons.mpr ⟨am_in (i := 27) (by decide +kernel) (by decide +kernel), fun _ h => absurd h List.not_mem_nil⟩⟩⟩⟩, lc_X7_isPad, rfl, by decide +kernel, by decide +kernel, by decide +kernel⟩
theorem lv_X7_134 : am_CV RX7 134 7 3 iX7_stands := ⟨TX7, 29, rfl, List.forall_mem_cons.mpr ⟨am_in (i := 824) (by decide +kernel) (by decide +kernel), List.forall_mem_cons.mpr ⟨am_in (i := 826) (by decide +kernel) (by decide +kernel), List.forall_mem_cons.mpr ⟨am_in (i := 16) (by decide +kernel) (by decide +kernel), List.forall_mem_cons.mpr ⟨am_in (i := 27) (by decide +kernel) (by decide +kernel), fun _ h => absurd h List.not_mem_nil⟩⟩⟩⟩, lc_X7_stands, rfl, by decide +kernel, by decide +kernel, by decide +kernel⟩
theorem lv_X7_141 : am_CS RX7 141 2 iX7_isPoint := ⟨List.forall_mem_cons.mpr ⟨am_in (i := 840) (by decide +kernel) (by decide +kernel), List.forall_mem_cons.mpr ⟨am_in (i := 841) (by decide +kernel) (by decide +kernel), List.forall_mem_cons.mpr ⟨am_in (i := 27) (by decide +kernel) (by decide +kernel), fun _ h => absurd h List.not_mem_nil⟩⟩⟩, lc_X7_isPoint, by decide +kernel, by decide +kernel, by decide +kernel⟩
theorem lv_X7_144 : am_CS RX7 144 3 iX7_isNearer := ⟨List.forall_mem_cons.mpr ⟨am_in (i := 843) (by decide +kernel) (by decide +kernel), List.forall_mem_cons.mpr ⟨am_in (i := 844) (by decide +kernel) (by decide +kernel), List.forall_mem_cons.mpr ⟨am_in (i := 27) (by decide +kernel) (by decide +kernel), fun _ h => absurd h List.not_mem_nil⟩⟩⟩, lc_X7_isNearer, by decide +kernel, by decide +kernel, by decide +kernel⟩
theorem lv_X7_147 : am_CV RX7 147 7 1 iX7_measure := ⟨TX7, 29, rfl, List.forall_mem_cons.mpr ⟨am_in (i := 858) (by decide +kernel) (by decide +kernel), List.forall_mem_cons.mpr ⟨am_in (i := 860) (by decide +kernel) (by decide +kernel), List.forall_mem_cons.mpr ⟨am_in (i := 17) (by decide +kernel) (by decide +kernel), List.forall_mem_cons.mpr ⟨am_in (i := 27) (by decide +kernel) (by decide +kernel), fun _ h => absurd h List.not_mem_nil⟩⟩⟩⟩, lc_X7_measure, rfl, by decide +kernel, by decide +kernel, by decide +kernel⟩
theorem lv_X0_28 : am_CV RX0 28 0 2 iX0_versionsOf := ⟨TX0, 4, rfl, List.forall_mem_cons.mpr ⟨am_in (i := 379) (by decide +kernel) (by decide +kernel), List.forall_mem_cons.mpr ⟨am_in (i := 326) (by decide +kernel) (by decide +kernel), List.forall_mem_cons.mpr ⟨am_in (i := 327) (by decide +kernel) (by decide +kernel), List.forall_mem_cons.mpr ⟨am_in (i := 22) (by decide +kernel) (by decide +kernel), fun _ h => absurd h List.not_mem_nil⟩⟩⟩⟩, lc_X0_versionsOf, rfl, by decide +kernel, by decide +kernel, by decide +kernel⟩
theorem lv_X0_32 : am_CV RX0 32 0 2 iX0_languageShown := ⟨TX0, 4, rfl, List.forall_mem_cons.mpr ⟨am_in (i := 405) (by decide +kernel) (by decide +kernel), List.forall_mem_cons.mpr ⟨am_in (i := 376) (by decide +kernel) (by decide +kernel), List.forall_mem_cons.mpr ⟨am_in (i := 377) (by decide +kernel) (by decide +kernel), List.forall_mem_cons.mpr ⟨am_in (i := 22) (by decide +kernel) (by decide +kernel), fun _ h => absurd h List.not_mem_nil⟩⟩⟩⟩, lc_X0_languageShown, rfl, by decide +kernel, by decide +kernel, by decide +kernel⟩
theorem lv_X0_35 : am_CV RX0 35 0 3 iX0_version := ⟨TX0, 4, rfl, List.forall_mem_cons.mpr ⟨am_in (i := 406) (by decide +kernel) (by decide +kernel), List.forall_mem_cons.mpr ⟨am_in (i := 388) (by decide +kernel) (by decide +kernel), List.forall_mem_cons.mpr ⟨am_in (i := 389) (by decide +kernel) (by decide +kernel), List.forall_mem_cons.mpr ⟨am_in (i := 22) (by decide +kernel) (by decide +kernel), fun _ h => absurd h List.not_mem_nil⟩⟩⟩⟩, lc_X0_version, rfl, by decide +kernel, by decide +kernel, by decide +kernel⟩
theorem lv_X1_21 : am_CV RX1 21 1 2 iX1_longestAt := ⟨TX1, 2, rfl, List.forall_mem_cons.mpr ⟨am_in (i := 490) (by decide +kernel) (by decide +kernel), List.forall_mem_cons.mpr ⟨am_in (i := 492) (by decide +kernel) (by decide +kernel), List.forall_mem_cons.mpr ⟨am_in (i := 6) (by decide +kernel) (by decide +kernel), List.forall_mem_cons.mpr ⟨am_in (i := 24) (by decide +kernel) (by decide +kernel), fun _ h => absurd h List.not_mem_nil⟩⟩⟩⟩, lc_X1_longestAt, rfl, by decide +kernel, by decide +kernel, by decide +kernel⟩
theorem lv_X1_25 : am_CV RX1 25 1 1 iX1_rowOf := ⟨TX1, 2, rfl, List.forall_mem_cons.mpr ⟨am_in (i := 494) (by decide +kernel) (by decide +kernel), List.forall_mem_cons.mpr ⟨am_in (i := 483) (by decide +kernel) (by decide +kernel), List.forall_mem_cons.mpr ⟨am_in (i := 484) (by decide +kernel) (by decide +kernel), List.forall_mem_cons.mpr ⟨am_in (i := 24) (by decide +kernel) (by decide +kernel), fun _ h => absurd h List.not_mem_nil⟩⟩⟩⟩, lc_X1_rowOf, rfl, by decide +kernel, by decide +kernel, by decide +kernel⟩
theorem lv_X1_29 : am_CV RX1 29 3 0 iX3_length := ⟨TX3, 2, rfl, List.forall_mem_cons.mpr ⟨am_in (i := 495) (by decide +kernel) (by decide +kernel), List.forall_mem_cons.mpr ⟨am_in (i := 187) (by decide +kernel) (by decide +kernel), List.forall_mem_cons.mpr ⟨am_in (i := 188) (by decide +kernel) (by decide +kernel), List.forall_mem_cons.mpr ⟨am_in (i := 20) (by decide +kernel) (by decide +kernel), fun _ h => absurd h List.not_mem_nil⟩⟩⟩⟩, lc_X3_length, rfl, by decide +kernel, by decide +kernel, by decide +kernel⟩
theorem lv_X1_33 : am_CV RX1 33 3 0 iX3_empty := ⟨TX3, 2, rfl, List.forall_mem_cons.mpr ⟨am_in (i := 515) (by decide +kernel) (by decide +kernel), List.forall_mem_cons.mpr ⟨am_in (i := 191) (by decide +kernel) (by decide +kernel), List.forall_mem_cons.mpr ⟨am_in (i := 192) (by decide +kernel) (by decide +kernel), List.forall_mem_cons.mpr ⟨am_in (i := 20) (by decide +kernel) (by decide +kernel), fun _ h => absurd h List.not_mem_nil⟩⟩⟩⟩, lc_X3_empty, rfl, by decide +kernel, by decide +kernel, by decide +kernel⟩
theorem lv_X1_36 : am_CV RX1 36 3 1 iX3_at := ⟨TX3, 2, rfl, List.forall_mem_cons.mpr ⟨am_in (i := 516) (by decide +kernel) (by decide +kernel), List.forall_mem_cons.mpr ⟨am_in (i := 334) (by decide +kernel) (by decide +kernel), List.forall_mem_cons.mpr ⟨am_in (i := 335) (by decide +kernel) (by decide +kernel), List.forall_mem_cons.mpr ⟨am_in (i := 20) (by decide +kernel) (by decide +kernel), fun _ h => absurd h List.not_mem_nil⟩⟩⟩⟩, lc_X3_at, rfl, by decide +kernel, by decide +kernel, by decide +kernel⟩
theorem lv_X1_40 : am_CN RX1 40 1 "CaptionLines" iX6_ownCell := ⟨by decide +kernel, List.forall_mem_cons.mpr ⟨am_in (i := 518) (by decide +kernel) (by decide +kernel), List.forall_mem_cons.mpr ⟨am_in (i := 19) (by decide +kernel) (by decide +kernel), fun _ h => absurd h List.not_mem_nil⟩⟩, lc_X6_ownCell, by decide +kernel, by decide +kernel, by decide +kernel⟩
theorem lv_X1_43 : am_CV RX1 43 3 1 iX3_add := ⟨TX3, 2, rfl, List.forall_mem_cons.mpr ⟨am_in (i := 520) (by decide +kernel) (by decide +kernel), List.forall_mem_cons.mpr ⟨am_in (i := 291) (by decide +kernel) (by decide +kernel), List.forall_mem_cons.mpr ⟨am_in (i := 292) (by decide +kernel) (by decide +kernel), List.forall_mem_cons.mpr ⟨am_in (i := 20) (by decide +kernel) (by decide +kernel), fun _ h => absurd h List.not_mem_nil⟩⟩⟩⟩, lc_X3_add, rfl, by decide +kernel, by decide +kernel, by decide +kernel⟩
theorem lv_X1_47 : am_CN RX1 47 1 "CaptionLines" iX6_ownSign := ⟨by decide +kernel, List.forall_mem_cons.mpr ⟨am_in (i := 542) (by decide +kernel) (by decide +kernel), List.forall_mem_cons.mpr ⟨am_in (i := 19) (by decide +kernel) (by decide +kernel), fun _ h => absurd h List.not_mem_nil⟩⟩, lc_X6_ownSign, by decide +kernel, by decide +kernel, by decide +kernel⟩
theorem lv_X1_50 : am_CV RX1 50 3 1 iX3_addAll := ⟨TX3, 2, rfl, List.forall_mem_cons.mpr ⟨am_in (i := 544) (by decide +kernel) (by decide +kernel), List.forall_mem_cons.mpr ⟨am_in (i := 347) (by decide +kernel) (by decide +kernel), List.forall_mem_cons.mpr ⟨am_in (i := 348) (by decide +kernel) (by decide +kernel), List.forall_mem_cons.mpr ⟨am_in (i := 20) (by decide +kernel) (by decide +kernel), fun _ h => absurd h List.not_mem_nil⟩⟩⟩⟩, lc_X3_addAll, rfl, by decide +kernel, by decide +kernel, by decide +kernel⟩
theorem lv_X1_54 : am_CV RX1 54 3 2 iX3_standsIn := ⟨TX3, 2, rfl, List.forall_mem_cons.mpr ⟨am_in (i := 496) (by decide +kernel) (by decide +kernel), List.forall_mem_cons.mpr ⟨am_in (i := 497) (by decide +kernel) (by decide +kernel), List.forall_mem_cons.mpr ⟨am_in (i := 498) (by decide +kernel) (by decide +kernel), List.forall_mem_cons.mpr ⟨am_in (i := 20) (by decide +kernel) (by decide +kernel), fun _ h => absurd h List.not_mem_nil⟩⟩⟩⟩, lc_X3_standsIn, rfl, by decide +kernel, by decide +kernel, by decide +kernel⟩
theorem lv_X2_19 : am_CV RX2 19 2 2 iX2_areJoined := ⟨TX2, 2, rfl, List.forall_mem_cons.mpr ⟨am_in (i := 605) (by decide +kernel) (by decide +kernel), List.forall_mem_cons.mpr ⟨am_in (i := 598) (by decide +kernel) (by decide +kernel), List.forall_mem_cons.mpr ⟨am_in (i := 599) (by decide +kernel) (by decide +kernel), List.forall_mem_cons.mpr ⟨am_in (i := 26) (by decide +kernel) (by decide +kernel), fun _ h => absurd h List.not_mem_nil⟩⟩⟩⟩, lc_X2_areJoined, rfl, by decide +kernel, by decide +kernel, by decide +kernel⟩
theorem lv_X2_23 : am_CS RX2 23 1 iX2_lowestIn := ⟨List.forall_mem_cons.mpr ⟨am_in (i := 617) (by decide +kernel) (by decide +kernel), List.forall_mem_cons.mpr ⟨am_in (i := 618) (by decide +kernel) (by decide +kernel), List.forall_mem_cons.mpr ⟨am_in (i := 26) (by decide +kernel) (by decide +kernel), fun _ h => absurd h List.not_mem_nil⟩⟩⟩, lc_X2_lowestIn, by decide +kernel, by decide +kernel, by decide +kernel⟩
theorem lv_X2_27 : am_CV RX2 27 2 1 iX2_besideAny := ⟨TX2, 2, rfl, List.forall_mem_cons.mpr ⟨am_in (i := 620) (by decide +kernel) (by decide +kernel), List.forall_mem_cons.mpr ⟨am_in (i := 622) (by decide +kernel) (by decide +kernel), List.forall_mem_cons.mpr ⟨am_in (i := 8) (by decide +kernel) (by decide +kernel), List.forall_mem_cons.mpr ⟨am_in (i := 26) (by decide +kernel) (by decide +kernel), fun _ h => absurd h List.not_mem_nil⟩⟩⟩⟩, lc_X2_besideAny, rfl, by decide +kernel, by decide +kernel, by decide +kernel⟩
theorem lv_X3_25 : am_CV RX3 25 3 0 iX3_length := ⟨TX3, 2, rfl, List.forall_mem_cons.mpr ⟨am_in (i := 350) (by decide +kernel) (by decide +kernel), List.forall_mem_cons.mpr ⟨am_in (i := 187) (by decide +kernel) (by decide +kernel), List.forall_mem_cons.mpr ⟨am_in (i := 188) (by decide +kernel) (by decide +kernel), List.forall_mem_cons.mpr ⟨am_in (i := 20) (by decide +kernel) (by decide +kernel), fun _ h => absurd h List.not_mem_nil⟩⟩⟩⟩, lc_X3_length, rfl, by decide +kernel, by decide +kernel, by decide +kernel⟩
theorem lv_X3_28 : am_CV RX3 28 3 1 iX3_at := ⟨TX3, 2, rfl, List.forall_mem_cons.mpr ⟨am_in (i := 351) (by decide +kernel) (by decide +kernel), List.forall_mem_cons.mpr ⟨am_in (i := 334) (by decide +kernel) (by decide +kernel), List.forall_mem_cons.mpr ⟨am_in (i := 335) (by decide +kernel) (by decide +kernel), List.forall_mem_cons.mpr ⟨am_in (i := 20) (by decide +kernel) (by decide +kernel), fun _ h => absurd h List.not_mem_nil⟩⟩⟩⟩, lc_X3_at, rfl, by decide +kernel, by decide +kernel, by decide +kernel⟩
theorem lv_X3_32 : am_CV RX3 32 3 1 iX3_add := ⟨TX3, 2, rfl, List.forall_mem_cons.mpr ⟨am_in (i := 352) (by decide +kernel) (by decide +kernel), List.forall_mem_cons.mpr ⟨am_in (i := 291) (by decide +kernel) (by decide +kernel), List.forall_mem_cons.mpr ⟨am_in (i := 292) (by decide +kernel) (by decide +kernel), List.forall_mem_cons.mpr ⟨am_in (i := 20) (by decide +kernel) (by decide +kernel), fun _ h => absurd h List.not_mem_nil⟩⟩⟩⟩, lc_X3_add, rfl, by decide +kernel, by decide +kernel, by decide +kernel⟩
theorem lv_X3_36 : am_CI RX3 36 1 iX3_init := ⟨List.forall_mem_cons.mpr ⟨am_in (i := 345) (by decide +kernel) (by decide +kernel), List.forall_mem_cons.mpr ⟨am_in (i := 45) (by decide +kernel) (by decide +kernel), List.forall_mem_cons.mpr ⟨am_in (i := 20) (by decide +kernel) (by decide +kernel), fun _ h => absurd h List.not_mem_nil⟩⟩⟩, lc_X3_init, rfl, rfl, rfl, by decide +kernel, by decide +kernel, by decide +kernel⟩
theorem lv_X3_38 : am_CV RX3 38 3 1 iX3_addAll := ⟨TX3, 2, rfl, List.forall_mem_cons.mpr ⟨am_in (i := 346) (by decide +kernel) (by decide +kernel), List.forall_mem_cons.mpr ⟨am_in (i := 347) (by decide +kernel) (by decide +kernel), List.forall_mem_cons.mpr ⟨am_in (i := 348) (by decide +kernel) (by decide +kernel), List.forall_mem_cons.mpr ⟨am_in (i := 20) (by decide +kernel) (by decide +kernel), fun _ h => absurd h List.not_mem_nil⟩⟩⟩⟩, lc_X3_addAll, rfl, by decide +kernel, by decide +kernel, by decide +kernel⟩
theorem lv_X4_40 : am_CV RX4 40 4 1 iX4_findWords := ⟨TX4, 9, rfl, List.forall_mem_cons.mpr ⟨am_in (i := 411) (by decide +kernel) (by decide +kernel), List.forall_mem_cons.mpr ⟨am_in (i := 413) (by decide +kernel) (by decide +kernel), List.forall_mem_cons.mpr ⟨am_in (i := 1) (by decide +kernel) (by decide +kernel), List.forall_mem_cons.mpr ⟨am_in (i := 23) (by decide +kernel) (by decide +kernel), fun _ h => absurd h List.not_mem_nil⟩⟩⟩⟩, lc_X4_findWords, rfl, by decide +kernel, by decide +kernel, by decide +kernel⟩
theorem lv_X4_44 : am_CV RX4 44 4 0 iX4_longestWord := ⟨TX4, 9, rfl, List.forall_mem_cons.mpr ⟨am_in (i := 421) (by decide +kernel) (by decide +kernel), List.forall_mem_cons.mpr ⟨am_in (i := 423) (by decide +kernel) (by decide +kernel), List.forall_mem_cons.mpr ⟨am_in (i := 3) (by decide +kernel) (by decide +kernel), List.forall_mem_cons.mpr ⟨am_in (i := 23) (by decide +kernel) (by decide +kernel), fun _ h => absurd h List.not_mem_nil⟩⟩⟩⟩, lc_X4_longestWord, rfl, by decide +kernel, by decide +kernel, by decide +kernel⟩
theorem lv_X4_48 : am_CV RX4 48 4 1 iX4_findLeast := ⟨TX4, 9, rfl, List.forall_mem_cons.mpr ⟨am_in (i := 426) (by decide +kernel) (by decide +kernel), List.forall_mem_cons.mpr ⟨am_in (i := 428) (by decide +kernel) (by decide +kernel), List.forall_mem_cons.mpr ⟨am_in (i := 4) (by decide +kernel) (by decide +kernel), List.forall_mem_cons.mpr ⟨am_in (i := 23) (by decide +kernel) (by decide +kernel), fun _ h => absurd h List.not_mem_nil⟩⟩⟩⟩, lc_X4_findLeast, rfl, by decide +kernel, by decide +kernel, by decide +kernel⟩
theorem lv_X4_52 : am_CV RX4 52 4 0 iX4_takeLines := ⟨TX4, 9, rfl, List.forall_mem_cons.mpr ⟨am_in (i := 431) (by decide +kernel) (by decide +kernel), List.forall_mem_cons.mpr ⟨am_in (i := 433) (by decide +kernel) (by decide +kernel), List.forall_mem_cons.mpr ⟨am_in (i := 5) (by decide +kernel) (by decide +kernel), List.forall_mem_cons.mpr ⟨am_in (i := 23) (by decide +kernel) (by decide +kernel), fun _ h => absurd h List.not_mem_nil⟩⟩⟩⟩, lc_X4_takeLines, rfl, by decide +kernel, by decide +kernel, by decide +kernel⟩
theorem lv_X4_55 : am_CV RX4 55 3 0 iX3_length := ⟨TX3, 2, rfl, List.forall_mem_cons.mpr ⟨am_in (i := 415) (by decide +kernel) (by decide +kernel), List.forall_mem_cons.mpr ⟨am_in (i := 187) (by decide +kernel) (by decide +kernel), List.forall_mem_cons.mpr ⟨am_in (i := 188) (by decide +kernel) (by decide +kernel), List.forall_mem_cons.mpr ⟨am_in (i := 20) (by decide +kernel) (by decide +kernel), fun _ h => absurd h List.not_mem_nil⟩⟩⟩⟩, lc_X3_length, rfl, by decide +kernel, by decide +kernel, by decide +kernel⟩
theorem lv_X4_60 : am_CV RX4 60 3 1 iX3_at := ⟨TX3, 2, rfl, List.forall_mem_cons.mpr ⟨am_in (i := 416) (by decide +kernel) (by decide +kernel), List.forall_mem_cons.mpr ⟨am_in (i := 334) (by decide +kernel) (by decide +kernel), List.forall_mem_cons.mpr ⟨am_in (i := 335) (by decide +kernel) (by decide +kernel), List.forall_mem_cons.mpr ⟨am_in (i := 20) (by decide +kernel) (by decide +kernel), fun _ h => absurd h List.not_mem_nil⟩⟩⟩⟩, lc_X3_at, rfl, by decide +kernel, by decide +kernel, by decide +kernel⟩
theorem lv_X4_64 : am_CV RX4 64 4 2 iX4_addWord := ⟨TX4, 9, rfl, List.forall_mem_cons.mpr ⟨am_in (i := 417) (by decide +kernel) (by decide +kernel), List.forall_mem_cons.mpr ⟨am_in (i := 419) (by decide +kernel) (by decide +kernel), List.forall_mem_cons.mpr ⟨am_in (i := 2) (by decide +kernel) (by decide +kernel), List.forall_mem_cons.mpr ⟨am_in (i := 23) (by decide +kernel) (by decide +kernel), fun _ h => absurd h List.not_mem_nil⟩⟩⟩⟩, lc_X4_addWord, rfl, by decide +kernel, by decide +kernel, by decide +kernel⟩
theorem lv_X5_25 : am_CV RX5 25 5 3 iX5_squareOfDistance := ⟨TX5, 4, rfl, List.forall_mem_cons.mpr ⟨am_in (i := 566) (by decide +kernel) (by decide +kernel), List.forall_mem_cons.mpr ⟨am_in (i := 568) (by decide +kernel) (by decide +kernel), List.forall_mem_cons.mpr ⟨am_in (i := 7) (by decide +kernel) (by decide +kernel), List.forall_mem_cons.mpr ⟨am_in (i := 25) (by decide +kernel) (by decide +kernel), fun _ h => absurd h List.not_mem_nil⟩⟩⟩⟩, lc_X5_squareOfDistance, rfl, by decide +kernel, by decide +kernel, by decide +kernel⟩
theorem lv_L_7 : am_CV RL 7 6 1 iX6_unit := ⟨TX6, 7, rfl, List.forall_mem_cons.mpr ⟨am_in (i := 199) (by decide +kernel) (by decide +kernel), List.forall_mem_cons.mpr ⟨am_in (i := 200) (by decide +kernel) (by decide +kernel), List.forall_mem_cons.mpr ⟨am_in (i := 201) (by decide +kernel) (by decide +kernel), List.forall_mem_cons.mpr ⟨am_in (i := 19) (by decide +kernel) (by decide +kernel), fun _ h => absurd h List.not_mem_nil⟩⟩⟩⟩, lc_X6_unit, rfl, by decide +kernel, by decide +kernel, by decide +kernel⟩
theorem lv_L_17 : am_CV RL 17 6 2 iX6_text := ⟨TX6, 7, rfl, List.forall_mem_cons.mpr ⟨am_in (i := 298) (by decide +kernel) (by decide +kernel), List.forall_mem_cons.mpr ⟨am_in (i := 299) (by decide +kernel) (by decide +kernel), List.forall_mem_cons.mpr ⟨am_in (i := 300) (by decide +kernel) (by decide +kernel), List.forall_mem_cons.mpr ⟨am_in (i := 19) (by decide +kernel) (by decide +kernel), fun _ h => absurd h List.not_mem_nil⟩⟩⟩⟩, lc_X6_text, rfl, by decide +kernel, by decide +kernel, by decide +kernel⟩
theorem lv_L_23 : am_CV RL 23 6 2 iX6_falls := ⟨TX6, 7, rfl, List.forall_mem_cons.mpr ⟨am_in (i := 360) (by decide +kernel) (by decide +kernel), List.forall_mem_cons.mpr ⟨am_in (i := 361) (by decide +kernel) (by decide +kernel), List.forall_mem_cons.mpr ⟨am_in (i := 362) (by decide +kernel) (by decide +kernel), List.forall_mem_cons.mpr ⟨am_in (i := 19) (by decide +kernel) (by decide +kernel), fun _ h => absurd h List.not_mem_nil⟩⟩⟩⟩, lc_X6_falls, rfl, by decide +kernel, by decide +kernel, by decide +kernel⟩
theorem lv_L_27 : am_CV RL 27 6 2 iX6_shown := ⟨TX6, 7, rfl, List.forall_mem_cons.mpr ⟨am_in (i := 371) (by decide +kernel) (by decide +kernel), List.forall_mem_cons.mpr ⟨am_in (i := 372) (by decide +kernel) (by decide +kernel), List.forall_mem_cons.mpr ⟨am_in (i := 373) (by decide +kernel) (by decide +kernel), List.forall_mem_cons.mpr ⟨am_in (i := 19) (by decide +kernel) (by decide +kernel), fun _ h => absurd h List.not_mem_nil⟩⟩⟩⟩, lc_X6_shown, rfl, by decide +kernel, by decide +kernel, by decide +kernel⟩
theorem lv_L_30 : am_CV RL 30 6 4 iX6_sign := ⟨TX6, 7, rfl, List.forall_mem_cons.mpr ⟨am_in (i := 383) (by decide +kernel) (by decide +kernel), List.forall_mem_cons.mpr ⟨am_in (i := 384) (by decide +kernel) (by decide +kernel), List.forall_mem_cons.mpr ⟨am_in (i := 385) (by decide +kernel) (by decide +kernel), List.forall_mem_cons.mpr ⟨am_in (i := 19) (by decide +kernel) (by decide +kernel), fun _ h => absurd h List.not_mem_nil⟩⟩⟩⟩, lc_X6_sign, rfl, by decide +kernel, by decide +kernel, by decide +kernel⟩
theorem lv_L_34 : am_CV RL 34 6 3 iX6_lines := ⟨TX6, 7, rfl, List.forall_mem_cons.mpr ⟨am_in (i := 396) (by decide +kernel) (by decide +kernel), List.forall_mem_cons.mpr ⟨am_in (i := 397) (by decide +kernel) (by decide +kernel), List.forall_mem_cons.mpr ⟨am_in (i := 398) (by decide +kernel) (by decide +kernel), List.forall_mem_cons.mpr ⟨am_in (i := 19) (by decide +kernel) (by decide +kernel), fun _ h => absurd h List.not_mem_nil⟩⟩⟩⟩, lc_X6_lines, rfl, by decide +kernel, by decide +kernel, by decide +kernel⟩
theorem lv_L_38 : am_CV RL 38 6 2 iX6_line := ⟨TX6, 7, rfl, List.forall_mem_cons.mpr ⟨am_in (i := 442) (by decide +kernel) (by decide +kernel), List.forall_mem_cons.mpr ⟨am_in (i := 443) (by decide +kernel) (by decide +kernel), List.forall_mem_cons.mpr ⟨am_in (i := 444) (by decide +kernel) (by decide +kernel), List.forall_mem_cons.mpr ⟨am_in (i := 19) (by decide +kernel) (by decide +kernel), fun _ h => absurd h List.not_mem_nil⟩⟩⟩⟩, lc_X6_line, rfl, by decide +kernel, by decide +kernel, by decide +kernel⟩
theorem lv_L_41 : am_CV RL 41 6 2 iX6_level := ⟨TX6, 7, rfl, List.forall_mem_cons.mpr ⟨am_in (i := 463) (by decide +kernel) (by decide +kernel), List.forall_mem_cons.mpr ⟨am_in (i := 464) (by decide +kernel) (by decide +kernel), List.forall_mem_cons.mpr ⟨am_in (i := 465) (by decide +kernel) (by decide +kernel), List.forall_mem_cons.mpr ⟨am_in (i := 19) (by decide +kernel) (by decide +kernel), fun _ h => absurd h List.not_mem_nil⟩⟩⟩⟩, lc_X6_level, rfl, by decide +kernel, by decide +kernel, by decide +kernel⟩
theorem lv_L_44 : am_CV RL 44 6 1 iX6_contract := ⟨TX6, 7, rfl, List.forall_mem_cons.mpr ⟨am_in (i := 473) (by decide +kernel) (by decide +kernel), List.forall_mem_cons.mpr ⟨am_in (i := 474) (by decide +kernel) (by decide +kernel), List.forall_mem_cons.mpr ⟨am_in (i := 475) (by decide +kernel) (by decide +kernel), List.forall_mem_cons.mpr ⟨am_in (i := 19) (by decide +kernel) (by decide +kernel), fun _ h => absurd h List.not_mem_nil⟩⟩⟩⟩, lc_X6_contract, rfl, by decide +kernel, by decide +kernel, by decide +kernel⟩
theorem lv_L_48 : am_CV RL 48 6 2 iX6_fingers := ⟨TX6, 7, rfl, List.forall_mem_cons.mpr ⟨am_in (i := 507) (by decide +kernel) (by decide +kernel), List.forall_mem_cons.mpr ⟨am_in (i := 508) (by decide +kernel) (by decide +kernel), List.forall_mem_cons.mpr ⟨am_in (i := 509) (by decide +kernel) (by decide +kernel), List.forall_mem_cons.mpr ⟨am_in (i := 19) (by decide +kernel) (by decide +kernel), fun _ h => absurd h List.not_mem_nil⟩⟩⟩⟩, lc_X6_fingers, rfl, by decide +kernel, by decide +kernel, by decide +kernel⟩
theorem lv_L_51 : am_CV RL 51 6 1 iX6_cell := ⟨TX6, 7, rfl, List.forall_mem_cons.mpr ⟨am_in (i := 524) (by decide +kernel) (by decide +kernel), List.forall_mem_cons.mpr ⟨am_in (i := 525) (by decide +kernel) (by decide +kernel), List.forall_mem_cons.mpr ⟨am_in (i := 526) (by decide +kernel) (by decide +kernel), List.forall_mem_cons.mpr ⟨am_in (i := 19) (by decide +kernel) (by decide +kernel), fun _ h => absurd h List.not_mem_nil⟩⟩⟩⟩, lc_X6_cell, rfl, by decide +kernel, by decide +kernel, by decide +kernel⟩
theorem lv_L_54 : am_CV RL 54 6 0 iX6_back := ⟨TX6, 7, rfl, List.forall_mem_cons.mpr ⟨am_in (i := 532) (by decide +kernel) (by decide +kernel), List.forall_mem_cons.mpr ⟨am_in (i := 533) (by decide +kernel) (by decide +kernel), List.forall_mem_cons.mpr ⟨am_in (i := 534) (by decide +kernel) (by decide +kernel), List.forall_mem_cons.mpr ⟨am_in (i := 19) (by decide +kernel) (by decide +kernel), fun _ h => absurd h List.not_mem_nil⟩⟩⟩⟩, lc_X6_back, rfl, by decide +kernel, by decide +kernel, by decide +kernel⟩
theorem lv_L_58 : am_CV RL 58 6 3 iX6_zone := ⟨TX6, 7, rfl, List.forall_mem_cons.mpr ⟨am_in (i := 548) (by decide +kernel) (by decide +kernel), List.forall_mem_cons.mpr ⟨am_in (i := 549) (by decide +kernel) (by decide +kernel), List.forall_mem_cons.mpr ⟨am_in (i := 550) (by decide +kernel) (by decide +kernel), List.forall_mem_cons.mpr ⟨am_in (i := 19) (by decide +kernel) (by decide +kernel), fun _ h => absurd h List.not_mem_nil⟩⟩⟩⟩, lc_X6_zone, rfl, by decide +kernel, by decide +kernel, by decide +kernel⟩
theorem lv_L_61 : am_CV RL 61 6 2 iX6_heard := ⟨TX6, 7, rfl, List.forall_mem_cons.mpr ⟨am_in (i := 577) (by decide +kernel) (by decide +kernel), List.forall_mem_cons.mpr ⟨am_in (i := 578) (by decide +kernel) (by decide +kernel), List.forall_mem_cons.mpr ⟨am_in (i := 579) (by decide +kernel) (by decide +kernel), List.forall_mem_cons.mpr ⟨am_in (i := 19) (by decide +kernel) (by decide +kernel), fun _ h => absurd h List.not_mem_nil⟩⟩⟩⟩, lc_X6_heard, rfl, by decide +kernel, by decide +kernel, by decide +kernel⟩
theorem lv_L_64 : am_CV RL 64 6 3 iX6_way := ⟨TX6, 7, rfl, List.forall_mem_cons.mpr ⟨am_in (i := 588) (by decide +kernel) (by decide +kernel), List.forall_mem_cons.mpr ⟨am_in (i := 589) (by decide +kernel) (by decide +kernel), List.forall_mem_cons.mpr ⟨am_in (i := 590) (by decide +kernel) (by decide +kernel), List.forall_mem_cons.mpr ⟨am_in (i := 19) (by decide +kernel) (by decide +kernel), fun _ h => absurd h List.not_mem_nil⟩⟩⟩⟩, lc_X6_way, rfl, by decide +kernel, by decide +kernel, by decide +kernel⟩
theorem lv_L_68 : am_CV RL 68 6 2 iX6_arrow := ⟨TX6, 7, rfl, List.forall_mem_cons.mpr ⟨am_in (i := 609) (by decide +kernel) (by decide +kernel), List.forall_mem_cons.mpr ⟨am_in (i := 610) (by decide +kernel) (by decide +kernel), List.forall_mem_cons.mpr ⟨am_in (i := 611) (by decide +kernel) (by decide +kernel), List.forall_mem_cons.mpr ⟨am_in (i := 19) (by decide +kernel) (by decide +kernel), fun _ h => absurd h List.not_mem_nil⟩⟩⟩⟩, lc_X6_arrow, rfl, by decide +kernel, by decide +kernel, by decide +kernel⟩
theorem lv_L_71 : am_CV RL 71 6 1 iX6_count := ⟨TX6, 7, rfl, List.forall_mem_cons.mpr ⟨am_in (i := 627) (by decide +kernel) (by decide +kernel), List.forall_mem_cons.mpr ⟨am_in (i := 628) (by decide +kernel) (by decide +kernel), List.forall_mem_cons.mpr ⟨am_in (i := 629) (by decide +kernel) (by decide +kernel), List.forall_mem_cons.mpr ⟨am_in (i := 19) (by decide +kernel) (by decide +kernel), fun _ h => absurd h List.not_mem_nil⟩⟩⟩⟩, lc_X6_count, rfl, by decide +kernel, by decide +kernel, by decide +kernel⟩
theorem lv_L_74 : am_CI RL 74 0 iX6_init := ⟨List.forall_mem_cons.mpr ⟨am_in (i := 36) (by decide +kernel) (by decide +kernel), List.forall_mem_cons.mpr ⟨am_in (i := 37) (by decide +kernel) (by decide +kernel), List.forall_mem_cons.mpr ⟨am_in (i := 19) (by decide +kernel) (by decide +kernel), fun _ h => absurd h List.not_mem_nil⟩⟩⟩, lc_X6_init, rfl, rfl, rfl, by decide +kernel, by decide +kernel, by decide +kernel⟩
theorem lv_L_77 : am_CI RL 77 0 iX7_init := ⟨List.forall_mem_cons.mpr ⟨am_in (i := 646) (by decide +kernel) (by decide +kernel), List.forall_mem_cons.mpr ⟨am_in (i := 647) (by decide +kernel) (by decide +kernel), List.forall_mem_cons.mpr ⟨am_in (i := 27) (by decide +kernel) (by decide +kernel), fun _ h => absurd h List.not_mem_nil⟩⟩⟩, lc_X7_init, rfl, rfl, rfl, by decide +kernel, by decide +kernel, by decide +kernel⟩
theorem lv_L_78 : am_CS RL 78 3 iL_unit := ⟨List.forall_mem_cons.mpr ⟨am_in (i := 194) (by decide +kernel) (by decide +kernel), List.forall_mem_cons.mpr ⟨am_in (i := 195) (by decide +kernel) (by decide +kernel), List.forall_mem_cons.mpr ⟨am_in (i := 18) (by decide +kernel) (by decide +kernel), fun _ h => absurd h List.not_mem_nil⟩⟩⟩, lc_L_unit, by decide +kernel, by decide +kernel, by decide +kernel⟩
theorem lv_L_83 : am_CV RL 83 7 1 iX7_unit := ⟨TX7, 29, rfl, List.forall_mem_cons.mpr ⟨am_in (i := 743) (by decide +kernel) (by decide +kernel), List.forall_mem_cons.mpr ⟨am_in (i := 744) (by decide +kernel) (by decide +kernel), List.forall_mem_cons.mpr ⟨am_in (i := 745) (by decide +kernel) (by decide +kernel), List.forall_mem_cons.mpr ⟨am_in (i := 27) (by decide +kernel) (by decide +kernel), fun _ h => absurd h List.not_mem_nil⟩⟩⟩⟩, lc_X7_unit, rfl, by decide +kernel, by decide +kernel, by decide +kernel⟩
theorem lv_L_84 : am_CV RL 84 7 0 iX7_thrown := ⟨TX7, 29, rfl, List.forall_mem_cons.mpr ⟨am_in (i := 739) (by decide +kernel) (by decide +kernel), List.forall_mem_cons.mpr ⟨am_in (i := 740) (by decide +kernel) (by decide +kernel), List.forall_mem_cons.mpr ⟨am_in (i := 741) (by decide +kernel) (by decide +kernel), List.forall_mem_cons.mpr ⟨am_in (i := 27) (by decide +kernel) (by decide +kernel), fun _ h => absurd h List.not_mem_nil⟩⟩⟩⟩, lc_X7_thrown, rfl, by decide +kernel, by decide +kernel, by decide +kernel⟩
theorem lv_L_87 : am_CV RL 87 6 0 iX6_clear := ⟨TX6, 7, rfl, List.forall_mem_cons.mpr ⟨am_in (i := 182) (by decide +kernel) (by decide +kernel), List.forall_mem_cons.mpr ⟨am_in (i := 183) (by decide +kernel) (by decide +kernel), List.forall_mem_cons.mpr ⟨am_in (i := 184) (by decide +kernel) (by decide +kernel), List.forall_mem_cons.mpr ⟨am_in (i := 19) (by decide +kernel) (by decide +kernel), fun _ h => absurd h List.not_mem_nil⟩⟩⟩⟩, lc_X6_clear, rfl, by decide +kernel, by decide +kernel, by decide +kernel⟩
theorem lv_L_90 : am_CV RL 90 7 0 iX7_clear := ⟨TX7, 29, rfl, List.forall_mem_cons.mpr ⟨am_in (i := 754) (by decide +kernel) (by decide +kernel), List.forall_mem_cons.mpr ⟨am_in (i := 755) (by decide +kernel) (by decide +kernel), List.forall_mem_cons.mpr ⟨am_in (i := 756) (by decide +kernel) (by decide +kernel), List.forall_mem_cons.mpr ⟨am_in (i := 27) (by decide +kernel) (by decide +kernel), fun _ h => absurd h List.not_mem_nil⟩⟩⟩⟩, lc_X7_clear, rfl, by decide +kernel, by decide +kernel, by decide +kernel⟩
theorem lv_L_91 : am_CS RL 91 4 iL_text := ⟨List.forall_mem_cons.mpr ⟨am_in (i := 294) (by decide +kernel) (by decide +kernel), List.forall_mem_cons.mpr ⟨am_in (i := 295) (by decide +kernel) (by decide +kernel), List.forall_mem_cons.mpr ⟨am_in (i := 18) (by decide +kernel) (by decide +kernel), fun _ h => absurd h List.not_mem_nil⟩⟩⟩, lc_L_text, by decide +kernel, by decide +kernel, by decide +kernel⟩
theorem lv_L_94 : am_CV RL 94 7 2 iX7_text := ⟨TX7, 29, rfl, List.forall_mem_cons.mpr ⟨am_in (i := 758) (by decide +kernel) (by decide +kernel), List.forall_mem_cons.mpr ⟨am_in (i := 759) (by decide +kernel) (by decide +kernel), List.forall_mem_cons.mpr ⟨am_in (i := 760) (by decide +kernel) (by decide +kernel), List.forall_mem_cons.mpr ⟨am_in (i := 27) (by decide +kernel) (by decide +kernel), fun _ h => absurd h List.not_mem_nil⟩⟩⟩⟩, lc_X7_text, rfl, by decide +kernel, by decide +kernel, by decide +kernel⟩
theorem lv_L_95 : am_CS RL 95 4 iL_falls := ⟨List.forall_mem_cons.mpr ⟨am_in (i := 357) (by decide +kernel) (by decide +kernel), List.forall_mem_cons.mpr ⟨am_in (i := 358) (by decide +kernel) (by decide +kernel), List.forall_mem_cons.mpr ⟨am_in (i := 18) (by decide +kernel) (by decide +kernel), fun _ h => absurd h List.not_mem_nil⟩⟩⟩, lc_L_falls, by decide +kernel, by decide +kernel, by decide +kernel⟩
theorem lv_L_97 : am_CV RL 97 7 2 iX7_falls := ⟨TX7, 29, rfl, List.forall_mem_cons.mpr ⟨am_in (i := 772) (by decide +kernel) (by decide +kernel), List.forall_mem_cons.mpr ⟨am_in (i := 773) (by decide +kernel) (by decide +kernel), List.forall_mem_cons.mpr ⟨am_in (i := 774) (by decide +kernel) (by decide +kernel), List.forall_mem_cons.mpr ⟨am_in (i := 27) (by decide +kernel) (by decide +kernel), fun _ h => absurd h List.not_mem_nil⟩⟩⟩⟩, lc_X7_falls, rfl, by decide +kernel, by decide +kernel, by decide +kernel⟩
theorem lv_L_98 : am_CS RL 98 4 iL_shown := ⟨List.forall_mem_cons.mpr ⟨am_in (i := 368) (by decide +kernel) (by decide +kernel), List.forall_mem_cons.mpr ⟨am_in (i := 369) (by decide +kernel) (by decide +kernel), List.forall_mem_cons.mpr ⟨am_in (i := 18) (by decide +kernel) (by decide +kernel), fun _ h => absurd h List.not_mem_nil⟩⟩⟩, lc_L_shown, by decide +kernel, by decide +kernel, by decide +kernel⟩
theorem lv_L_100 : am_CV RL 100 7 2 iX7_shown := ⟨TX7, 29, rfl, List.forall_mem_cons.mpr ⟨am_in (i := 776) (by decide +kernel) (by decide +kernel), List.forall_mem_cons.mpr ⟨am_in (i := 777) (by decide +kernel) (by decide +kernel), List.forall_mem_cons.mpr ⟨am_in (i := 778) (by decide +kernel) (by decide +kernel), List.forall_mem_cons.mpr ⟨am_in (i := 27) (by decide +kernel) (by decide +kernel), fun _ h => absurd h List.not_mem_nil⟩⟩⟩⟩, lc_X7_shown, rfl, by decide +kernel, by decide +kernel, by decide +kernel⟩
theorem lv_L_101 : am_CS RL 101 6 iL_sign := ⟨List.forall_mem_cons.mpr ⟨am_in (i := 380) (by decide +kernel) (by decide +kernel), List.forall_mem_cons.mpr ⟨am_in (i := 381) (by decide +kernel) (by decide +kernel), List.forall_mem_cons.mpr ⟨am_in (i := 18) (by decide +kernel) (by decide +kernel), fun _ h => absurd h List.not_mem_nil⟩⟩⟩, lc_L_sign, by decide +kernel, by decide +kernel, by decide +kernel⟩
theorem lv_L_104 : am_CV RL 104 7 4 iX7_sign := ⟨TX7, 29, rfl, List.forall_mem_cons.mpr ⟨am_in (i := 784) (by decide +kernel) (by decide +kernel), List.forall_mem_cons.mpr ⟨am_in (i := 785) (by decide +kernel) (by decide +kernel), List.forall_mem_cons.mpr ⟨am_in (i := 786) (by decide +kernel) (by decide +kernel), List.forall_mem_cons.mpr ⟨am_in (i := 27) (by decide +kernel) (by decide +kernel), fun _ h => absurd h List.not_mem_nil⟩⟩⟩⟩, lc_X7_sign, rfl, by decide +kernel, by decide +kernel, by decide +kernel⟩
theorem lv_L_105 : am_CS RL 105 5 iL_lines := ⟨List.forall_mem_cons.mpr ⟨am_in (i := 393) (by decide +kernel) (by decide +kernel), List.forall_mem_cons.mpr ⟨am_in (i := 394) (by decide +kernel) (by decide +kernel), List.forall_mem_cons.mpr ⟨am_in (i := 18) (by decide +kernel) (by decide +kernel), fun _ h => absurd h List.not_mem_nil⟩⟩⟩, lc_L_lines, by decide +kernel, by decide +kernel, by decide +kernel⟩
theorem lv_L_108 : am_CV RL 108 7 3 iX7_lines := ⟨TX7, 29, rfl, List.forall_mem_cons.mpr ⟨am_in (i := 788) (by decide +kernel) (by decide +kernel), List.forall_mem_cons.mpr ⟨am_in (i := 789) (by decide +kernel) (by decide +kernel), List.forall_mem_cons.mpr ⟨am_in (i := 790) (by decide +kernel) (by decide +kernel), List.forall_mem_cons.mpr ⟨am_in (i := 27) (by decide +kernel) (by decide +kernel), fun _ h => absurd h List.not_mem_nil⟩⟩⟩⟩, lc_X7_lines, rfl, by decide +kernel, by decide +kernel, by decide +kernel⟩
theorem lv_L_109 : am_CS RL 109 4 iL_line := ⟨List.forall_mem_cons.mpr ⟨am_in (i := 439) (by decide +kernel) (by decide +kernel), List.forall_mem_cons.mpr ⟨am_in (i := 440) (by decide +kernel) (by decide +kernel), List.forall_mem_cons.mpr ⟨am_in (i := 18) (by decide +kernel) (by decide +kernel), fun _ h => absurd h List.not_mem_nil⟩⟩⟩, lc_L_line, by decide +kernel, by decide +kernel, by decide +kernel⟩
theorem lv_L_111 : am_CV RL 111 7 2 iX7_line := ⟨TX7, 29, rfl, List.forall_mem_cons.mpr ⟨am_in (i := 804) (by decide +kernel) (by decide +kernel), List.forall_mem_cons.mpr ⟨am_in (i := 805) (by decide +kernel) (by decide +kernel), List.forall_mem_cons.mpr ⟨am_in (i := 806) (by decide +kernel) (by decide +kernel), List.forall_mem_cons.mpr ⟨am_in (i := 27) (by decide +kernel) (by decide +kernel), fun _ h => absurd h List.not_mem_nil⟩⟩⟩⟩, lc_X7_line, rfl, by decide +kernel, by decide +kernel, by decide +kernel⟩
theorem lv_L_112 : am_CS RL 112 4 iL_level := ⟨List.forall_mem_cons.mpr ⟨am_in (i := 460) (by decide +kernel) (by decide +kernel), List.forall_mem_cons.mpr ⟨am_in (i := 461) (by decide +kernel) (by decide +kernel), List.forall_mem_cons.mpr ⟨am_in (i := 18) (by decide +kernel) (by decide +kernel), fun _ h => absurd h List.not_mem_nil⟩⟩⟩, lc_L_level, by decide +kernel, by decide +kernel, by decide +kernel⟩
theorem lv_L_114 : am_CV RL 114 7 2 iX7_level := ⟨TX7, 29, rfl, List.forall_mem_cons.mpr ⟨am_in (i := 808) (by decide +kernel) (by decide +kernel), List.forall_mem_cons.mpr ⟨am_in (i := 809) (by decide +kernel) (by decide +kernel), List.forall_mem_cons.mpr ⟨am_in (i := 810) (by decide +kernel) (by decide +kernel), List.forall_mem_cons.mpr ⟨am_in (i := 27) (by decide +kernel) (by decide +kernel), fun _ h => absurd h List.not_mem_nil⟩⟩⟩⟩, lc_X7_level, rfl, by decide +kernel, by decide +kernel, by decide +kernel⟩
theorem lv_L_115 : am_CS RL 115 3 iL_contract := ⟨List.forall_mem_cons.mpr ⟨am_in (i := 470) (by decide +kernel) (by decide +kernel), List.forall_mem_cons.mpr ⟨am_in (i := 471) (by decide +kernel) (by decide +kernel), List.forall_mem_cons.mpr ⟨am_in (i := 18) (by decide +kernel) (by decide +kernel), fun _ h => absurd h List.not_mem_nil⟩⟩⟩, lc_L_contract, by decide +kernel, by decide +kernel, by decide +kernel⟩
theorem lv_L_117 : am_CV RL 117 7 1 iX7_contract := ⟨TX7, 29, rfl, List.forall_mem_cons.mpr ⟨am_in (i := 812) (by decide +kernel) (by decide +kernel), List.forall_mem_cons.mpr ⟨am_in (i := 813) (by decide +kernel) (by decide +kernel), List.forall_mem_cons.mpr ⟨am_in (i := 814) (by decide +kernel) (by decide +kernel), List.forall_mem_cons.mpr ⟨am_in (i := 27) (by decide +kernel) (by decide +kernel), fun _ h => absurd h List.not_mem_nil⟩⟩⟩⟩, lc_X7_contract, rfl, by decide +kernel, by decide +kernel, by decide +kernel⟩
theorem lv_L_118 : am_CS RL 118 4 iL_fingers := ⟨List.forall_mem_cons.mpr ⟨am_in (i := 504) (by decide +kernel) (by decide +kernel), List.forall_mem_cons.mpr ⟨am_in (i := 505) (by decide +kernel) (by decide +kernel), List.forall_mem_cons.mpr ⟨am_in (i := 18) (by decide +kernel) (by decide +kernel), fun _ h => absurd h List.not_mem_nil⟩⟩⟩, lc_L_fingers, by decide +kernel, by decide +kernel, by decide +kernel⟩
theorem lv_L_120 : am_CV RL 120 7 2 iX7_fingers := ⟨TX7, 29, rfl, List.forall_mem_cons.mpr ⟨am_in (i := 820) (by decide +kernel) (by decide +kernel), List.forall_mem_cons.mpr ⟨am_in (i := 821) (by decide +kernel) (by decide +kernel), List.forall_mem_cons.mpr ⟨am_in (i := 822) (by decide +kernel) (by decide +kernel), List.forall_mem_cons.mpr ⟨am_in (i := 27) (by decide +kernel) (by decide +kernel), fun _ h => absurd h List.not_mem_nil⟩⟩⟩⟩, lc_X7_fingers, rfl, by decide +kernel, by decide +kernel, by decide +kernel⟩
theorem lv_L_121 : am_CS RL 121 3 iL_cell := ⟨List.forall_mem_cons.mpr ⟨am_in (i := 521) (by decide +kernel) (by decide +kernel), List.forall_mem_cons.mpr ⟨am_in (i := 522) (by decide +kernel) (by decide +kernel), List.forall_mem_cons.mpr ⟨am_in (i := 18) (by decide +kernel) (by decide +kernel), fun _ h => absurd h List.not_mem_nil⟩⟩⟩, lc_L_cell, by decide +kernel, by decide +kernel, by decide +kernel⟩
theorem lv_L_123 : am_CV RL 123 7 1 iX7_cell := ⟨TX7, 29, rfl, List.forall_mem_cons.mpr ⟨am_in (i := 828) (by decide +kernel) (by decide +kernel), List.forall_mem_cons.mpr ⟨am_in (i := 829) (by decide +kernel) (by decide +kernel), List.forall_mem_cons.mpr ⟨am_in (i := 830) (by decide +kernel) (by decide +kernel), List.forall_mem_cons.mpr ⟨am_in (i := 27) (by decide +kernel) (by decide +kernel), fun _ h => absurd h List.not_mem_nil⟩⟩⟩⟩, lc_X7_cell, rfl, by decide +kernel, by decide +kernel, by decide +kernel⟩
theorem lv_L_124 : am_CS RL 124 2 iL_back := ⟨List.forall_mem_cons.mpr ⟨am_in (i := 529) (by decide +kernel) (by decide +kernel), List.forall_mem_cons.mpr ⟨am_in (i := 530) (by decide +kernel) (by decide +kernel), List.forall_mem_cons.mpr ⟨am_in (i := 18) (by decide +kernel) (by decide +kernel), fun _ h => absurd h List.not_mem_nil⟩⟩⟩, lc_L_back, by decide +kernel, by decide +kernel, by decide +kernel⟩
theorem lv_L_127 : am_CV RL 127 7 0 iX7_back := ⟨TX7, 29, rfl, List.forall_mem_cons.mpr ⟨am_in (i := 832) (by decide +kernel) (by decide +kernel), List.forall_mem_cons.mpr ⟨am_in (i := 833) (by decide +kernel) (by decide +kernel), List.forall_mem_cons.mpr ⟨am_in (i := 834) (by decide +kernel) (by decide +kernel), List.forall_mem_cons.mpr ⟨am_in (i := 27) (by decide +kernel) (by decide +kernel), fun _ h => absurd h List.not_mem_nil⟩⟩⟩⟩, lc_X7_back, rfl, by decide +kernel, by decide +kernel, by decide +kernel⟩
theorem lv_L_128 : am_CS RL 128 5 iL_zone := ⟨List.forall_mem_cons.mpr ⟨am_in (i := 545) (by decide +kernel) (by decide +kernel), List.forall_mem_cons.mpr ⟨am_in (i := 546) (by decide +kernel) (by decide +kernel), List.forall_mem_cons.mpr ⟨am_in (i := 18) (by decide +kernel) (by decide +kernel), fun _ h => absurd h List.not_mem_nil⟩⟩⟩, lc_L_zone, by decide +kernel, by decide +kernel, by decide +kernel⟩
theorem lv_L_130 : am_CV RL 130 7 3 iX7_zone := ⟨TX7, 29, rfl, List.forall_mem_cons.mpr ⟨am_in (i := 836) (by decide +kernel) (by decide +kernel), List.forall_mem_cons.mpr ⟨am_in (i := 837) (by decide +kernel) (by decide +kernel), List.forall_mem_cons.mpr ⟨am_in (i := 838) (by decide +kernel) (by decide +kernel), List.forall_mem_cons.mpr ⟨am_in (i := 27) (by decide +kernel) (by decide +kernel), fun _ h => absurd h List.not_mem_nil⟩⟩⟩⟩, lc_X7_zone, rfl, by decide +kernel, by decide +kernel, by decide +kernel⟩
theorem lv_L_131 : am_CS RL 131 4 iL_heard := ⟨List.forall_mem_cons.mpr ⟨am_in (i := 574) (by decide +kernel) (by decide +kernel), List.forall_mem_cons.mpr ⟨am_in (i := 575) (by decide +kernel) (by decide +kernel), List.forall_mem_cons.mpr ⟨am_in (i := 18) (by decide +kernel) (by decide +kernel), fun _ h => absurd h List.not_mem_nil⟩⟩⟩, lc_L_heard, by decide +kernel, by decide +kernel, by decide +kernel⟩
theorem lv_L_133 : am_CV RL 133 7 2 iX7_heard := ⟨TX7, 29, rfl, List.forall_mem_cons.mpr ⟨am_in (i := 846) (by decide +kernel) (by decide +kernel), List.forall_mem_cons.mpr ⟨am_in (i := 847) (by decide +kernel) (by decide +kernel), List.forall_mem_cons.mpr ⟨am_in (i := 848) (by decide +kernel) (by decide +kernel), List.forall_mem_cons.mpr ⟨am_in (i := 27) (by decide +kernel) (by decide +kernel), fun _ h => absurd h List.not_mem_nil⟩⟩⟩⟩, lc_X7_heard, rfl, by decide +kernel, by decide +kernel, by decide +kernel⟩
theorem lv_L_134 : am_CS RL 134 5 iL_way := ⟨List.forall_mem_cons.mpr ⟨am_in (i := 585) (by decide +kernel) (by decide +kernel), List.forall_mem_cons.mpr ⟨am_in (i := 586) (by decide +kernel) (by decide +kernel), List.forall_mem_cons.mpr ⟨am_in (i := 18) (by decide +kernel) (by decide +kernel), fun _ h => absurd h List.not_mem_nil⟩⟩⟩, lc_L_way, by decide +kernel, by decide +kernel, by decide +kernel⟩
theorem lv_L_137 : am_CV RL 137 7 3 iX7_way := ⟨TX7, 29, rfl, List.forall_mem_cons.mpr ⟨am_in (i := 850) (by decide +kernel) (by decide +kernel), List.forall_mem_cons.mpr ⟨am_in (i := 851) (by decide +kernel) (by decide +kernel), List.forall_mem_cons.mpr ⟨am_in (i := 852) (by decide +kernel) (by decide +kernel), List.forall_mem_cons.mpr ⟨am_in (i := 27) (by decide +kernel) (by decide +kernel), fun _ h => absurd h List.not_mem_nil⟩⟩⟩⟩, lc_X7_way, rfl, by decide +kernel, by decide +kernel, by decide +kernel⟩
theorem lv_L_138 : am_CS RL 138 4 iL_arrow := ⟨List.forall_mem_cons.mpr ⟨am_in (i := 606) (by decide +kernel) (by decide +kernel), List.forall_mem_cons.mpr ⟨am_in (i := 607) (by decide +kernel) (by decide +kernel), List.forall_mem_cons.mpr ⟨am_in (i := 18) (by decide +kernel) (by decide +kernel), fun _ h => absurd h List.not_mem_nil⟩⟩⟩, lc_L_arrow, by decide +kernel, by decide +kernel, by decide +kernel⟩
theorem lv_L_140 : am_CV RL 140 7 2 iX7_arrow := ⟨TX7, 29, rfl, List.forall_mem_cons.mpr ⟨am_in (i := 854) (by decide +kernel) (by decide +kernel), List.forall_mem_cons.mpr ⟨am_in (i := 855) (by decide +kernel) (by decide +kernel), List.forall_mem_cons.mpr ⟨am_in (i := 856) (by decide +kernel) (by decide +kernel), List.forall_mem_cons.mpr ⟨am_in (i := 27) (by decide +kernel) (by decide +kernel), fun _ h => absurd h List.not_mem_nil⟩⟩⟩⟩, lc_X7_arrow, rfl, by decide +kernel, by decide +kernel, by decide +kernel⟩
theorem lv_L_141 : am_CS RL 141 3 iL_count := ⟨List.forall_mem_cons.mpr ⟨am_in (i := 624) (by decide +kernel) (by decide +kernel), List.forall_mem_cons.mpr ⟨am_in (i := 625) (by decide +kernel) (by decide +kernel), List.forall_mem_cons.mpr ⟨am_in (i := 18) (by decide +kernel) (by decide +kernel), fun _ h => absurd h List.not_mem_nil⟩⟩⟩, lc_L_count, by decide +kernel, by decide +kernel, by decide +kernel⟩
theorem lv_L_143 : am_CV RL 143 7 1 iX7_count := ⟨TX7, 29, rfl, List.forall_mem_cons.mpr ⟨am_in (i := 862) (by decide +kernel) (by decide +kernel), List.forall_mem_cons.mpr ⟨am_in (i := 863) (by decide +kernel) (by decide +kernel), List.forall_mem_cons.mpr ⟨am_in (i := 864) (by decide +kernel) (by decide +kernel), List.forall_mem_cons.mpr ⟨am_in (i := 27) (by decide +kernel) (by decide +kernel), fun _ h => absurd h List.not_mem_nil⟩⟩⟩⟩, lc_X7_count, rfl, by decide +kernel, by decide +kernel, by decide +kernel⟩
end
section
theorem dtX3_add_0 : ∀ q ∈ ([(0, .aload_n 0, 1), (1, .getfield 21, 3), (4, .aload_n 0, 1), (5, .getfield 15, 3), (8, .arraylength, 1), (9, .if_icmp .ge 23, 3), (12, .aload_n 0, 1), (13, .getfield 15, 3), (16, .aload_n 0, 1), (17, .getfield 21, 3), (20, .iload_n 1, 1), (21, .iastore, 1), (22, .aload_n 0, 1), (23, .dup, 1), (24, .getfield 21, 3), (27, .iconst 1, 1), (28, .iadd, 1), (29, .putfield 21, 3), (32, .return_, 1)] : List (Nat × Instr × Nat)), decode cX3_add q.1 = .ok q.2 := by decide +kernel
theorem dX3_add_0 : decode cX3_add 0 = .ok (.aload_n 0, 1) := dtX3_add_0 (0, .aload_n 0, 1) (List.mem_of_getElem? (i := 0) rfl)
theorem dX3_add_1 : decode cX3_add 1 = .ok (.getfield 21, 3) := dtX3_add_0 (1, .getfield 21, 3) (List.mem_of_getElem? (i := 1) rfl)
theorem dX3_add_4 : decode cX3_add 4 = .ok (.aload_n 0, 1) := dtX3_add_0 (4, .aload_n 0, 1) (List.mem_of_getElem? (i := 2) rfl)
theorem dX3_add_5 : decode cX3_add 5 = .ok (.getfield 15, 3) := dtX3_add_0 (5, .getfield 15, 3) (List.mem_of_getElem? (i := 3) rfl)
theorem dX3_add_8 : decode cX3_add 8 = .ok (.arraylength, 1) := dtX3_add_0 (8, .arraylength, 1) (List.mem_of_getElem? (i := 4) rfl)
theorem dX3_add_9 : decode cX3_add 9 = .ok (.if_icmp .ge 23, 3) := dtX3_add_0 (9, .if_icmp .ge 23, 3) (List.mem_of_getElem? (i := 5) rfl)
theorem dX3_add_12 : decode cX3_add 12 = .ok (.aload_n 0, 1) := dtX3_add_0 (12, .aload_n 0, 1) (List.mem_of_getElem? (i := 6) rfl)
theorem dX3_add_13 : decode cX3_add 13 = .ok (.getfield 15, 3) := dtX3_add_0 (13, .getfield 15, 3) (List.mem_of_getElem? (i := 7) rfl)
theorem dX3_add_16 : decode cX3_add 16 = .ok (.aload_n 0, 1) := dtX3_add_0 (16, .aload_n 0, 1) (List.mem_of_getElem? (i := 8) rfl)
theorem dX3_add_17 : decode cX3_add 17 = .ok (.getfield 21, 3) := dtX3_add_0 (17, .getfield 21, 3) (List.mem_of_getElem? (i := 9) rfl)
theorem dX3_add_20 : decode cX3_add 20 = .ok (.iload_n 1, 1) := dtX3_add_0 (20, .iload_n 1, 1) (List.mem_of_getElem? (i := 10) rfl)
theorem dX3_add_21 : decode cX3_add 21 = .ok (.iastore, 1) := dtX3_add_0 (21, .iastore, 1) (List.mem_of_getElem? (i := 11) rfl)
theorem dX3_add_22 : decode cX3_add 22 = .ok (.aload_n 0, 1) := dtX3_add_0 (22, .aload_n 0, 1) (List.mem_of_getElem? (i := 12) rfl)
theorem dX3_add_23 : decode cX3_add 23 = .ok (.dup, 1) := dtX3_add_0 (23, .dup, 1) (List.mem_of_getElem? (i := 13) rfl)
theorem dX3_add_24 : decode cX3_add 24 = .ok (.getfield 21, 3) := dtX3_add_0 (24, .getfield 21, 3) (List.mem_of_getElem? (i := 14) rfl)
theorem dX3_add_27 : decode cX3_add 27 = .ok (.iconst 1, 1) := dtX3_add_0 (27, .iconst 1, 1) (List.mem_of_getElem? (i := 15) rfl)
theorem dX3_add_28 : decode cX3_add 28 = .ok (.iadd, 1) := dtX3_add_0 (28, .iadd, 1) (List.mem_of_getElem? (i := 16) rfl)
theorem dX3_add_29 : decode cX3_add 29 = .ok (.putfield 21, 3) := dtX3_add_0 (29, .putfield 21, 3) (List.mem_of_getElem? (i := 17) rfl)
theorem dX3_add_32 : decode cX3_add 32 = .ok (.return_, 1) := dtX3_add_0 (32, .return_, 1) (List.mem_of_getElem? (i := 18) rfl)
theorem dtX3_addAll_0 : ∀ q ∈ ([(0, .iconst 0, 1), (1, .istore_n 2, 1), (2, .iload_n 2, 1), (3, .aload_n 1, 1), (4, .invokevirtual 25, 3), (7, .if_icmp .ge 18, 3), (10, .aload_n 0, 1), (11, .aload_n 1, 1), (12, .iload_n 2, 1), (13, .invokevirtual 28, 3), (16, .invokevirtual 32, 3), (19, .iinc 2 1, 3), (22, .goto (-20), 3), (25, .return_, 1)] : List (Nat × Instr × Nat)), decode cX3_addAll q.1 = .ok q.2 := by decide +kernel
theorem dX3_addAll_0 : decode cX3_addAll 0 = .ok (.iconst 0, 1) := dtX3_addAll_0 (0, .iconst 0, 1) (List.mem_of_getElem? (i := 0) rfl)
theorem dX3_addAll_1 : decode cX3_addAll 1 = .ok (.istore_n 2, 1) := dtX3_addAll_0 (1, .istore_n 2, 1) (List.mem_of_getElem? (i := 1) rfl)
theorem dX3_addAll_2 : decode cX3_addAll 2 = .ok (.iload_n 2, 1) := dtX3_addAll_0 (2, .iload_n 2, 1) (List.mem_of_getElem? (i := 2) rfl)
theorem dX3_addAll_3 : decode cX3_addAll 3 = .ok (.aload_n 1, 1) := dtX3_addAll_0 (3, .aload_n 1, 1) (List.mem_of_getElem? (i := 3) rfl)
theorem dX3_addAll_4 : decode cX3_addAll 4 = .ok (.invokevirtual 25, 3) := dtX3_addAll_0 (4, .invokevirtual 25, 3) (List.mem_of_getElem? (i := 4) rfl)
theorem dX3_addAll_7 : decode cX3_addAll 7 = .ok (.if_icmp .ge 18, 3) := dtX3_addAll_0 (7, .if_icmp .ge 18, 3) (List.mem_of_getElem? (i := 5) rfl)
theorem dX3_addAll_10 : decode cX3_addAll 10 = .ok (.aload_n 0, 1) := dtX3_addAll_0 (10, .aload_n 0, 1) (List.mem_of_getElem? (i := 6) rfl)
theorem dX3_addAll_11 : decode cX3_addAll 11 = .ok (.aload_n 1, 1) := dtX3_addAll_0 (11, .aload_n 1, 1) (List.mem_of_getElem? (i := 7) rfl)
theorem dX3_addAll_12 : decode cX3_addAll 12 = .ok (.iload_n 2, 1) := dtX3_addAll_0 (12, .iload_n 2, 1) (List.mem_of_getElem? (i := 8) rfl)
theorem dX3_addAll_13 : decode cX3_addAll 13 = .ok (.invokevirtual 28, 3) := dtX3_addAll_0 (13, .invokevirtual 28, 3) (List.mem_of_getElem? (i := 9) rfl)
theorem dX3_addAll_16 : decode cX3_addAll 16 = .ok (.invokevirtual 32, 3) := dtX3_addAll_0 (16, .invokevirtual 32, 3) (List.mem_of_getElem? (i := 10) rfl)
theorem dX3_addAll_19 : decode cX3_addAll 19 = .ok (.iinc 2 1, 3) := dtX3_addAll_0 (19, .iinc 2 1, 3) (List.mem_of_getElem? (i := 11) rfl)
theorem dX3_addAll_22 : decode cX3_addAll 22 = .ok (.goto (-20), 3) := dtX3_addAll_0 (22, .goto (-20), 3) (List.mem_of_getElem? (i := 12) rfl)
theorem dX3_addAll_25 : decode cX3_addAll 25 = .ok (.return_, 1) := dtX3_addAll_0 (25, .return_, 1) (List.mem_of_getElem? (i := 13) rfl)
theorem dtX3_at_0 : ∀ q ∈ ([(0, .iload_n 1, 1), (1, .ifCond .lt 20, 3), (4, .iload_n 1, 1), (5, .aload_n 0, 1), (6, .getfield 21, 3), (9, .if_icmp .ge 12, 3), (12, .aload_n 0, 1), (13, .getfield 15, 3), (16, .iload_n 1, 1), (17, .iaload, 1), (18, .goto 4, 3), (21, .iconst (-1), 1), (22, .ireturn, 1)] : List (Nat × Instr × Nat)), decode cX3_at q.1 = .ok q.2 := by decide +kernel
theorem dX3_at_0 : decode cX3_at 0 = .ok (.iload_n 1, 1) := dtX3_at_0 (0, .iload_n 1, 1) (List.mem_of_getElem? (i := 0) rfl)
theorem dX3_at_1 : decode cX3_at 1 = .ok (.ifCond .lt 20, 3) := dtX3_at_0 (1, .ifCond .lt 20, 3) (List.mem_of_getElem? (i := 1) rfl)
theorem dX3_at_4 : decode cX3_at 4 = .ok (.iload_n 1, 1) := dtX3_at_0 (4, .iload_n 1, 1) (List.mem_of_getElem? (i := 2) rfl)
theorem dX3_at_5 : decode cX3_at 5 = .ok (.aload_n 0, 1) := dtX3_at_0 (5, .aload_n 0, 1) (List.mem_of_getElem? (i := 3) rfl)
theorem dX3_at_6 : decode cX3_at 6 = .ok (.getfield 21, 3) := dtX3_at_0 (6, .getfield 21, 3) (List.mem_of_getElem? (i := 4) rfl)
theorem dX3_at_9 : decode cX3_at 9 = .ok (.if_icmp .ge 12, 3) := dtX3_at_0 (9, .if_icmp .ge 12, 3) (List.mem_of_getElem? (i := 5) rfl)
theorem dX3_at_12 : decode cX3_at 12 = .ok (.aload_n 0, 1) := dtX3_at_0 (12, .aload_n 0, 1) (List.mem_of_getElem? (i := 6) rfl)
theorem dX3_at_13 : decode cX3_at 13 = .ok (.getfield 15, 3) := dtX3_at_0 (13, .getfield 15, 3) (List.mem_of_getElem? (i := 7) rfl)
theorem dX3_at_16 : decode cX3_at 16 = .ok (.iload_n 1, 1) := dtX3_at_0 (16, .iload_n 1, 1) (List.mem_of_getElem? (i := 8) rfl)
theorem dX3_at_17 : decode cX3_at 17 = .ok (.iaload, 1) := dtX3_at_0 (17, .iaload, 1) (List.mem_of_getElem? (i := 9) rfl)
theorem dX3_at_18 : decode cX3_at 18 = .ok (.goto 4, 3) := dtX3_at_0 (18, .goto 4, 3) (List.mem_of_getElem? (i := 10) rfl)
theorem dX3_at_21 : decode cX3_at 21 = .ok (.iconst (-1), 1) := dtX3_at_0 (21, .iconst (-1), 1) (List.mem_of_getElem? (i := 11) rfl)
theorem dX3_at_22 : decode cX3_at 22 = .ok (.ireturn, 1) := dtX3_at_0 (22, .ireturn, 1) (List.mem_of_getElem? (i := 12) rfl)
theorem dtX3_copy_0 : ∀ q ∈ ([(0, .new 16, 3), (3, .dup, 1), (4, .aload_n 0, 1), (5, .getfield 21, 3), (8, .invokespecial 36, 3), (11, .astore_n 1, 1), (12, .aload_n 1, 1), (13, .aload_n 0, 1), (14, .invokevirtual 38, 3), (17, .aload_n 1, 1), (18, .areturn, 1)] : List (Nat × Instr × Nat)), decode cX3_copy q.1 = .ok q.2 := by decide +kernel
theorem dX3_copy_0 : decode cX3_copy 0 = .ok (.new 16, 3) := dtX3_copy_0 (0, .new 16, 3) (List.mem_of_getElem? (i := 0) rfl)
theorem dX3_copy_3 : decode cX3_copy 3 = .ok (.dup, 1) := dtX3_copy_0 (3, .dup, 1) (List.mem_of_getElem? (i := 1) rfl)
theorem dX3_copy_4 : decode cX3_copy 4 = .ok (.aload_n 0, 1) := dtX3_copy_0 (4, .aload_n 0, 1) (List.mem_of_getElem? (i := 2) rfl)
theorem dX3_copy_5 : decode cX3_copy 5 = .ok (.getfield 21, 3) := dtX3_copy_0 (5, .getfield 21, 3) (List.mem_of_getElem? (i := 3) rfl)
theorem dX3_copy_8 : decode cX3_copy 8 = .ok (.invokespecial 36, 3) := dtX3_copy_0 (8, .invokespecial 36, 3) (List.mem_of_getElem? (i := 4) rfl)
theorem dX3_copy_11 : decode cX3_copy 11 = .ok (.astore_n 1, 1) := dtX3_copy_0 (11, .astore_n 1, 1) (List.mem_of_getElem? (i := 5) rfl)
theorem dX3_copy_12 : decode cX3_copy 12 = .ok (.aload_n 1, 1) := dtX3_copy_0 (12, .aload_n 1, 1) (List.mem_of_getElem? (i := 6) rfl)
theorem dX3_copy_13 : decode cX3_copy 13 = .ok (.aload_n 0, 1) := dtX3_copy_0 (13, .aload_n 0, 1) (List.mem_of_getElem? (i := 7) rfl)
theorem dX3_copy_14 : decode cX3_copy 14 = .ok (.invokevirtual 38, 3) := dtX3_copy_0 (14, .invokevirtual 38, 3) (List.mem_of_getElem? (i := 8) rfl)
theorem dX3_copy_17 : decode cX3_copy 17 = .ok (.aload_n 1, 1) := dtX3_copy_0 (17, .aload_n 1, 1) (List.mem_of_getElem? (i := 9) rfl)
theorem dX3_copy_18 : decode cX3_copy 18 = .ok (.areturn, 1) := dtX3_copy_0 (18, .areturn, 1) (List.mem_of_getElem? (i := 10) rfl)
theorem dtX3_empty_0 : ∀ q ∈ ([(0, .aload_n 0, 1), (1, .iconst 0, 1), (2, .putfield 21, 3), (5, .return_, 1)] : List (Nat × Instr × Nat)), decode cX3_empty q.1 = .ok q.2 := by decide +kernel
theorem dX3_empty_0 : decode cX3_empty 0 = .ok (.aload_n 0, 1) := dtX3_empty_0 (0, .aload_n 0, 1) (List.mem_of_getElem? (i := 0) rfl)
theorem dX3_empty_1 : decode cX3_empty 1 = .ok (.iconst 0, 1) := dtX3_empty_0 (1, .iconst 0, 1) (List.mem_of_getElem? (i := 1) rfl)
theorem dX3_empty_2 : decode cX3_empty 2 = .ok (.putfield 21, 3) := dtX3_empty_0 (2, .putfield 21, 3) (List.mem_of_getElem? (i := 2) rfl)
theorem dX3_empty_5 : decode cX3_empty 5 = .ok (.return_, 1) := dtX3_empty_0 (5, .return_, 1) (List.mem_of_getElem? (i := 3) rfl)
theorem dtX3_init_0 : ∀ q ∈ ([(0, .aload_n 0, 1), (1, .invokespecial 3, 3), (4, .aload_n 0, 1), (5, .iload_n 1, 1), (6, .iconst 0, 1), (7, .invokestatic 9, 3), (10, .newarray .int, 2), (12, .putfield 15, 3), (15, .aload_n 0, 1), (16, .iconst 0, 1), (17, .putfield 21, 3), (20, .return_, 1)] : List (Nat × Instr × Nat)), decode cX3_init q.1 = .ok q.2 := by decide +kernel
theorem dX3_init_0 : decode cX3_init 0 = .ok (.aload_n 0, 1) := dtX3_init_0 (0, .aload_n 0, 1) (List.mem_of_getElem? (i := 0) rfl)
theorem dX3_init_1 : decode cX3_init 1 = .ok (.invokespecial 3, 3) := dtX3_init_0 (1, .invokespecial 3, 3) (List.mem_of_getElem? (i := 1) rfl)
theorem dX3_init_4 : decode cX3_init 4 = .ok (.aload_n 0, 1) := dtX3_init_0 (4, .aload_n 0, 1) (List.mem_of_getElem? (i := 2) rfl)
theorem dX3_init_5 : decode cX3_init 5 = .ok (.iload_n 1, 1) := dtX3_init_0 (5, .iload_n 1, 1) (List.mem_of_getElem? (i := 3) rfl)
theorem dX3_init_6 : decode cX3_init 6 = .ok (.iconst 0, 1) := dtX3_init_0 (6, .iconst 0, 1) (List.mem_of_getElem? (i := 4) rfl)
theorem dX3_init_7 : decode cX3_init 7 = .ok (.invokestatic 9, 3) := dtX3_init_0 (7, .invokestatic 9, 3) (List.mem_of_getElem? (i := 5) rfl)
theorem dX3_init_10 : decode cX3_init 10 = .ok (.newarray .int, 2) := dtX3_init_0 (10, .newarray .int, 2) (List.mem_of_getElem? (i := 6) rfl)
theorem dX3_init_12 : decode cX3_init 12 = .ok (.putfield 15, 3) := dtX3_init_0 (12, .putfield 15, 3) (List.mem_of_getElem? (i := 7) rfl)
theorem dX3_init_15 : decode cX3_init 15 = .ok (.aload_n 0, 1) := dtX3_init_0 (15, .aload_n 0, 1) (List.mem_of_getElem? (i := 8) rfl)
theorem dX3_init_16 : decode cX3_init 16 = .ok (.iconst 0, 1) := dtX3_init_0 (16, .iconst 0, 1) (List.mem_of_getElem? (i := 9) rfl)
theorem dX3_init_17 : decode cX3_init 17 = .ok (.putfield 21, 3) := dtX3_init_0 (17, .putfield 21, 3) (List.mem_of_getElem? (i := 10) rfl)
theorem dX3_init_20 : decode cX3_init 20 = .ok (.return_, 1) := dtX3_init_0 (20, .return_, 1) (List.mem_of_getElem? (i := 11) rfl)
theorem dtX3_length_0 : ∀ q ∈ ([(0, .aload_n 0, 1), (1, .getfield 21, 3), (4, .ireturn, 1)] : List (Nat × Instr × Nat)), decode cX3_length q.1 = .ok q.2 := by decide +kernel
theorem dX3_length_0 : decode cX3_length 0 = .ok (.aload_n 0, 1) := dtX3_length_0 (0, .aload_n 0, 1) (List.mem_of_getElem? (i := 0) rfl)
theorem dX3_length_1 : decode cX3_length 1 = .ok (.getfield 21, 3) := dtX3_length_0 (1, .getfield 21, 3) (List.mem_of_getElem? (i := 1) rfl)
theorem dX3_length_4 : decode cX3_length 4 = .ok (.ireturn, 1) := dtX3_length_0 (4, .ireturn, 1) (List.mem_of_getElem? (i := 2) rfl)
theorem dtX3_standsIn_0 : ∀ q ∈ ([(0, .iconst 0, 1), (1, .istore_n 3, 1), (2, .iload_n 3, 1), (3, .aload_n 0, 1), (4, .getfield 21, 3), (7, .if_icmp .ge 26, 3), (10, .aload_n 1, 1), (11, .iload_n 2, 1), (12, .iload_n 3, 1), (13, .iadd, 1), (14, .invokevirtual 28, 3), (17, .aload_n 0, 1), (18, .iload_n 3, 1), (19, .invokevirtual 28, 3), (22, .if_icmp .eq 5, 3), (25, .iconst 0, 1), (26, .ireturn, 1), (27, .iinc 3 1, 3), (30, .goto (-28), 3), (33, .iconst 1, 1), (34, .ireturn, 1)] : List (Nat × Instr × Nat)), decode cX3_standsIn q.1 = .ok q.2 := by decide +kernel
theorem dX3_standsIn_0 : decode cX3_standsIn 0 = .ok (.iconst 0, 1) := dtX3_standsIn_0 (0, .iconst 0, 1) (List.mem_of_getElem? (i := 0) rfl)
theorem dX3_standsIn_1 : decode cX3_standsIn 1 = .ok (.istore_n 3, 1) := dtX3_standsIn_0 (1, .istore_n 3, 1) (List.mem_of_getElem? (i := 1) rfl)
theorem dX3_standsIn_2 : decode cX3_standsIn 2 = .ok (.iload_n 3, 1) := dtX3_standsIn_0 (2, .iload_n 3, 1) (List.mem_of_getElem? (i := 2) rfl)
theorem dX3_standsIn_3 : decode cX3_standsIn 3 = .ok (.aload_n 0, 1) := dtX3_standsIn_0 (3, .aload_n 0, 1) (List.mem_of_getElem? (i := 3) rfl)
theorem dX3_standsIn_4 : decode cX3_standsIn 4 = .ok (.getfield 21, 3) := dtX3_standsIn_0 (4, .getfield 21, 3) (List.mem_of_getElem? (i := 4) rfl)
theorem dX3_standsIn_7 : decode cX3_standsIn 7 = .ok (.if_icmp .ge 26, 3) := dtX3_standsIn_0 (7, .if_icmp .ge 26, 3) (List.mem_of_getElem? (i := 5) rfl)
theorem dX3_standsIn_10 : decode cX3_standsIn 10 = .ok (.aload_n 1, 1) := dtX3_standsIn_0 (10, .aload_n 1, 1) (List.mem_of_getElem? (i := 6) rfl)
theorem dX3_standsIn_11 : decode cX3_standsIn 11 = .ok (.iload_n 2, 1) := dtX3_standsIn_0 (11, .iload_n 2, 1) (List.mem_of_getElem? (i := 7) rfl)
theorem dX3_standsIn_12 : decode cX3_standsIn 12 = .ok (.iload_n 3, 1) := dtX3_standsIn_0 (12, .iload_n 3, 1) (List.mem_of_getElem? (i := 8) rfl)
theorem dX3_standsIn_13 : decode cX3_standsIn 13 = .ok (.iadd, 1) := dtX3_standsIn_0 (13, .iadd, 1) (List.mem_of_getElem? (i := 9) rfl)
theorem dX3_standsIn_14 : decode cX3_standsIn 14 = .ok (.invokevirtual 28, 3) := dtX3_standsIn_0 (14, .invokevirtual 28, 3) (List.mem_of_getElem? (i := 10) rfl)
theorem dX3_standsIn_17 : decode cX3_standsIn 17 = .ok (.aload_n 0, 1) := dtX3_standsIn_0 (17, .aload_n 0, 1) (List.mem_of_getElem? (i := 11) rfl)
theorem dX3_standsIn_18 : decode cX3_standsIn 18 = .ok (.iload_n 3, 1) := dtX3_standsIn_0 (18, .iload_n 3, 1) (List.mem_of_getElem? (i := 12) rfl)
theorem dX3_standsIn_19 : decode cX3_standsIn 19 = .ok (.invokevirtual 28, 3) := dtX3_standsIn_0 (19, .invokevirtual 28, 3) (List.mem_of_getElem? (i := 13) rfl)
theorem dX3_standsIn_22 : decode cX3_standsIn 22 = .ok (.if_icmp .eq 5, 3) := dtX3_standsIn_0 (22, .if_icmp .eq 5, 3) (List.mem_of_getElem? (i := 14) rfl)
theorem dX3_standsIn_25 : decode cX3_standsIn 25 = .ok (.iconst 0, 1) := dtX3_standsIn_0 (25, .iconst 0, 1) (List.mem_of_getElem? (i := 15) rfl)
theorem dX3_standsIn_26 : decode cX3_standsIn 26 = .ok (.ireturn, 1) := dtX3_standsIn_0 (26, .ireturn, 1) (List.mem_of_getElem? (i := 16) rfl)
theorem dX3_standsIn_27 : decode cX3_standsIn 27 = .ok (.iinc 3 1, 3) := dtX3_standsIn_0 (27, .iinc 3 1, 3) (List.mem_of_getElem? (i := 17) rfl)
theorem dX3_standsIn_30 : decode cX3_standsIn 30 = .ok (.goto (-28), 3) := dtX3_standsIn_0 (30, .goto (-28), 3) (List.mem_of_getElem? (i := 18) rfl)
theorem dX3_standsIn_33 : decode cX3_standsIn 33 = .ok (.iconst 1, 1) := dtX3_standsIn_0 (33, .iconst 1, 1) (List.mem_of_getElem? (i := 19) rfl)
theorem dX3_standsIn_34 : decode cX3_standsIn 34 = .ok (.ireturn, 1) := dtX3_standsIn_0 (34, .ireturn, 1) (List.mem_of_getElem? (i := 20) rfl)
end
section
/-! ROW: a cell a of class 3 with its array b; n numbers f 0 .. f (n-1) in room for cap -/
abbrev rw (h : Nat → am_C) (a b cap : Nat) (f : Nat → Int32) (n : Nat) : Prop := h a = .inr (3, [.ref b, .int (nI n)]) ∧ h b = .inl (0, cap, .inl f) ∧ n ≤ cap ∧ cap ≤ 80
/-- what at(i) answers -/
def rv (f : Nat → Int32) (n : Nat) (i : Int32) : Int32 := if i < 0 then -1 else if nI n ≤ i then -1 else f i.toNatClampNeg
theorem rv_nI {f : Nat → Int32} {n j : Nat} (h : j < n) (hn : n < 2 ^ 31) : rv f n (nI j) = f j := by
  unfold rv
  rw [if_neg (nI_pos (by omega)), if_neg (nI_ge h hn), nI_clamp (by omega)]
theorem rv_out {f : Nat → Int32} {n j : Nat} (h : n ≤ j) (hn : j < 2 ^ 31) : rv f n (nI j) = -1 := by
  unfold rv
  rw [if_neg (nI_pos (by omega)), if_pos (nI_le h hn)]
theorem am_inr {i : Int32} {n cap : Nat} (h0 : ¬ i < 0) (h1 : ¬ nI n ≤ i) (hn : n ≤ cap) (hc : cap ≤ 80) : vp_in i cap := by
  rcases pk_ix i (n := n) (by omega) with h | h | ⟨j, hj, rfl⟩
  · exact absurd h h0
  · exact absurd h h1
  · exact vp_in_nI (by omega) (by omega)
set_option maxRecDepth 100000 in
set_option maxHeartbeats 4000000 in
theorem m_Row_length (K : am_K) (l : Launch) (S : am_S) (a b cap : Nat) (f : Nat → Int32) (n : Nat) (hr : rw S.1 a b cap f n) : am_M K l iX3_length 0 0 0 [.ref a] S (fun v S' => v = some (.int (nI n)) ∧ S = S') (fun _ _ => False) := by
  refine am_body (by decide) rfl (by simp [Value.category]) (Nat.le_of_ble_eq_true rfl) (fun xp xe xs xm xa xb xt xc ad0 => ?_)
  show am_W _ _ _ _ _ _ _ _ _ _ _ _ _ _ _ 0 [some (.ref a)] [] S 0 0
  refine am_aload_n (pc := 0) dX3_length_0 rfl rfl ?_
  refine am_getf (pc := 1) lf_X3_21 dX3_length_1 hr.1 rfl ?_
  exact am_iret (pc := 4) dX3_length_4 rfl (Nat.le_refl _) (Nat.le_refl _) (⟨rfl, rfl⟩)
set_option maxRecDepth 100000 in
set_option maxHeartbeats 4000000 in
theorem m_Row_at (K : am_K) (l : Launch) (S : am_S) (a b cap : Nat) (f : Nat → Int32) (n : Nat) (i : Int32) (hr : rw S.1 a b cap f n) : am_M K l iX3_at 0 0 0 [.ref a, .int i] S (fun v S' => v = some (.int (rv f n i)) ∧ S = S') (fun _ _ => False) := by
  refine am_body (by decide) rfl (by simp [Value.category]) (Nat.le_of_ble_eq_true rfl) (fun xp xe xs xm xa xb xt xc ad0 => ?_)
  show am_W _ _ _ _ _ _ _ _ _ _ _ _ _ _ _ 0 [some (.ref a), some (.int i)] [] S 0 0
  refine am_iload_n (pc := 0) dX3_at_0 rfl rfl ?_
  refine am_if_lt (pc := 1) (tgt := 21) dX3_at_1 (by decide) (fun c1 => ?_) (fun c1 => ?_)
  · refine am_iconst (pc := 21) (x := (-1)) dX3_at_21 (by decide) ?_
    exact am_iret (pc := 22) dX3_at_22 rfl (Nat.le_refl _) (Nat.le_refl _) (⟨by rw [rv, if_pos c1], rfl⟩)
  · refine am_iload_n (pc := 4) dX3_at_4 rfl rfl ?_
    refine am_aload_n (pc := 5) dX3_at_5 rfl rfl ?_
    refine am_getf (pc := 6) lf_X3_21 dX3_at_6 hr.1 rfl ?_
    refine am_icmp_ge (pc := 9) (tgt := 21) dX3_at_9 (by decide) (fun c9 => ?_) (fun c9 => ?_)
    · refine am_iconst (pc := 21) (x := (-1)) dX3_at_21 (by decide) ?_
      exact am_iret (pc := 22) dX3_at_22 rfl (Nat.le_refl _) (Nat.le_refl _) (⟨by rw [rv, if_neg c1, if_pos c9], rfl⟩)
    · refine am_aload_n (pc := 12) dX3_at_12 rfl rfl ?_
      refine am_getf (pc := 13) lf_X3_15 dX3_at_13 hr.1 rfl ?_
      refine am_iload_n (pc := 16) dX3_at_16 rfl rfl ?_
      refine am_iaload (pc := 17) dX3_at_17 hr.2.1 rfl (am_inr c1 c9 hr.2.2.1 hr.2.2.2) ?_
      refine am_goto (pc := 18) (tgt := 22) dX3_at_18 (by decide) ?_
      exact am_iret (pc := 22) dX3_at_22 rfl (Nat.le_refl _) (Nat.le_refl _) (⟨by rw [rv, if_neg c1, if_neg c9], rfl⟩)
def rw_add (S : am_S) (a b cap : Nat) (f : Nat → Int32) (n : Nat) (x : Int32) : am_S := if n < cap then (am_up (am_up S.1 b (.inl (0, cap, .inl (upd f n x)))) a (.inr (3, [.ref b, .int (nI (n + 1))])), S.2) else S
set_option maxRecDepth 100000 in
set_option maxHeartbeats 4000000 in
theorem m_Row_add (K : am_K) (l : Launch) (S : am_S) (a b cap : Nat) (f : Nat → Int32) (n : Nat) (x : Int32) (hr : rw S.1 a b cap f n) : am_M K l iX3_add 0 0 0 [.ref a, .int x] S (fun v S' => v = none ∧ rw_add S a b cap f n x = S') (fun _ _ => False) := by
  refine am_body (by decide) rfl (by simp [Value.category]) (Nat.le_of_ble_eq_true rfl) (fun xp xe xs xm xa xb xt xc ad0 => ?_)
  show am_W _ _ _ _ _ _ _ _ _ _ _ _ _ _ _ 0 [some (.ref a), some (.int x)] [] S 0 0
  refine am_aload_n (pc := 0) dX3_add_0 rfl rfl ?_
  refine am_getf (pc := 1) lf_X3_21 dX3_add_1 hr.1 rfl ?_
  refine am_aload_n (pc := 4) dX3_add_4 rfl rfl ?_
  refine am_getf (pc := 5) lf_X3_15 dX3_add_5 hr.1 rfl ?_
  refine am_alen (pc := 8) dX3_add_8 hr.2.1 rfl ?_
  refine am_icmp_ge (pc := 9) (tgt := 32) dX3_add_9 (by decide) (fun c9 => ?_) (fun c9 => ?_)
  · have hlt : ¬ n < cap := fun q => nI_ge q (by have := hr.2.2.2; omega) c9
    exact am_vret (pc := 32) dX3_add_32 rfl (Nat.le_refl _) (Nat.le_refl _) (⟨rfl, by unfold rw_add; rw [if_neg hlt]⟩)
  · have hlt : n < cap := by
      rcases Nat.lt_or_ge n cap with q | q
      · exact q
      · exact absurd (nI_le q (by have := hr.2.2.1; have := hr.2.2.2; omega)) c9
    refine am_aload_n (pc := 12) dX3_add_12 rfl rfl ?_
    refine am_getf (pc := 13) lf_X3_15 dX3_add_13 hr.1 rfl ?_
    refine am_aload_n (pc := 16) dX3_add_16 rfl rfl ?_
    refine am_getf (pc := 17) lf_X3_21 dX3_add_17 hr.1 rfl ?_
    refine am_iload_n (pc := 20) dX3_add_20 rfl rfl ?_
    refine am_iastore (pc := 21) dX3_add_21 hr.2.1 rfl (vp_in_nI hlt (by have := hr.2.2.2; omega)) ?_
    generalize eT1 : ((am_up S.1 b (.inl (0, cap, .inl (upd f (nI n).toNatClampNeg x))), S.2) : am_S) = T1
    have k1 : T1.1 a = (.inr (3, [.ref b, .int (nI n)])) := by rw [← eT1]; exact (am_up_n (am_ne hr.1 hr.2.1 (fun e9 => by cases e9))).trans hr.1
    have k2 : T1.1 b = (.inl (0, cap, .inl (upd f (nI n).toNatClampNeg x))) := by rw [← eT1]; exact am_up_s
    refine am_aload_n (pc := 22) dX3_add_22 rfl rfl ?_
    refine am_dup (pc := 23) dX3_add_23 rfl ?_
    refine am_getf (pc := 24) lf_X3_21 dX3_add_24 k1 rfl ?_
    refine am_iconst (pc := 27) (x := 1) dX3_add_27 (by decide) ?_
    refine am_iadd (pc := 28) dX3_add_28 ?_
    refine am_putf (pc := 29) (fs' := [.ref b, .int ((nI n) + 1)]) lf_X3_21 dX3_add_29 k1 (fun _ => ⟨rfl, rfl⟩) (Nat.le_of_ble_eq_true rfl) rfl ?_
    generalize eT2 : ((am_up T1.1 a (.inr (3, [.ref b, .int ((nI n) + 1)])), T1.2) : am_S) = T2
    have k3 : T2.1 a = (.inr (3, [.ref b, .int ((nI n) + 1)])) := by rw [← eT2]; exact am_up_s
    have k4 : T2.1 b = (.inl (0, cap, .inl (upd f (nI n).toNatClampNeg x))) := by rw [← eT2]; exact (am_up_n (am_ne k2 k1 (fun e9 => by cases e9))).trans k2
    exact am_vret (pc := 32) dX3_add_32 rfl (Nat.le_refl _) (Nat.le_refl _) (⟨rfl, by unfold rw_add; rw [if_pos hlt, ← eT2, ← eT1, nI_clamp (by have := hr.2.2.2; omega), nI_1]⟩)
set_option maxRecDepth 100000 in
set_option maxHeartbeats 4000000 in
theorem m_Row_empty (K : am_K) (l : Launch) (S : am_S) (a b cap : Nat) (f : Nat → Int32) (n : Nat) (hr : rw S.1 a b cap f n) : am_M K l iX3_empty 0 0 0 [.ref a] S (fun v S' => v = none ∧ (am_up S.1 a (.inr (3, [.ref b, .int 0])), S.2) = S') (fun _ _ => False) := by
  refine am_body (by decide) rfl (by simp [Value.category]) (Nat.le_of_ble_eq_true rfl) (fun xp xe xs xm xa xb xt xc ad0 => ?_)
  show am_W _ _ _ _ _ _ _ _ _ _ _ _ _ _ _ 0 [some (.ref a)] [] S 0 0
  refine am_aload_n (pc := 0) dX3_empty_0 rfl rfl ?_
  refine am_iconst (pc := 1) (x := 0) dX3_empty_1 (by decide) ?_
  refine am_putf (pc := 2) (fs' := [.ref b, .int 0]) lf_X3_21 dX3_empty_2 hr.1 (fun _ => ⟨rfl, rfl⟩) (Nat.le_of_ble_eq_true rfl) rfl ?_
  generalize eT1 : ((am_up S.1 a (.inr (3, [.ref b, .int 0])), S.2) : am_S) = T1
  have k1 : T1.1 a = (.inr (3, [.ref b, .int 0])) := by rw [← eT1]; exact am_up_s
  have k2 : T1.1 b = (.inl (0, cap, .inl f)) := by rw [← eT1]; exact (am_up_n (am_ne hr.2.1 hr.1 (fun e9 => by cases e9))).trans hr.2.1
  exact am_vret (pc := 5) dX3_empty_5 rfl (Nat.le_refl _) (Nat.le_refl _) (⟨rfl, rfl⟩)
theorem am_up_id {h : Nat → am_C} {a : Nat} {x : am_C} (e : h a = x) : am_up h a x = h := by
  funext j
  by_cases ej : j = a
  · rw [ej, am_up_s, e]
  · exact am_up_n ej
theorem am_up_up {h : Nat → am_C} {a : Nat} {x y : am_C} : am_up (am_up h a x) a y = am_up h a y := by
  funext j
  by_cases ej : j = a
  · rw [ej, am_up_s, am_up_s]
  · rw [am_up_n ej, am_up_n ej, am_up_n ej]
theorem am_up_sw {h : Nat → am_C} {a b : Nat} {x y : am_C} (hab : a ≠ b) : am_up (am_up h a x) b y = am_up (am_up h b y) a x := by
  funext j
  by_cases ej : j = a
  · rw [ej, am_up_n hab, am_up_s, am_up_s]
  · by_cases ek : j = b
    · rw [ek, am_up_s, am_up_n (Ne.symm hab), am_up_s]
    · rw [am_up_n ek, am_up_n ej, am_up_n ej, am_up_n ek]
/-- the heap with a row set anew -/
def rwS (S : am_S) (a b cap : Nat) (f : Nat → Int32) (n : Nat) : am_S := (am_up (am_up S.1 b (.inl (0, cap, .inl f))) a (.inr (3, [.ref b, .int (nI n)])), S.2)
theorem rw_ne {h : Nat → am_C} {a b cap : Nat} {f : Nat → Int32} {n : Nat} (hr : rw h a b cap f n) : a ≠ b := am_ne hr.1 hr.2.1 (fun e => by cases e)
theorem rwS_rw {S : am_S} {a b cap : Nat} {f : Nat → Int32} {n : Nat} (hab : a ≠ b) (h1 : n ≤ cap) (h2 : cap ≤ 80) : rw (rwS S a b cap f n).1 a b cap f n := ⟨am_up_s, (am_up_n (Ne.symm hab)).trans am_up_s, h1, h2⟩
theorem rwS_rwS {S : am_S} {a b cap cap' : Nat} {f f' : Nat → Int32} {n n' : Nat} (hab : a ≠ b) : rwS (rwS S a b cap f n) a b cap' f' n' = rwS S a b cap' f' n' := by
  unfold rwS
  show (am_up (am_up (am_up (am_up S.1 b _) a _) b _) a _, S.2) = _
  rw [am_up_sw hab, am_up_up, am_up_up]
theorem rwS_id {S : am_S} {a b cap : Nat} {f : Nat → Int32} {n : Nat} (hr : rw S.1 a b cap f n) : rwS S a b cap f n = S := by
  unfold rwS
  rw [am_up_id hr.2.1, am_up_id hr.1]
theorem rwS_at {S : am_S} {a b cap c : Nat} {f : Nat → Int32} {n : Nat} (h1 : c ≠ a) (h2 : c ≠ b) : (rwS S a b cap f n).1 c = S.1 c := (am_up_n h1).trans (am_up_n h2)
theorem rw_add_lt {S : am_S} {a b cap : Nat} {f : Nat → Int32} {n : Nat} {x : Int32} (h : n < cap) : rw_add S a b cap f n x = rwS S a b cap (upd f n x) (n + 1) := if_pos h
theorem rw_eq {h : Nat → am_C} {a b cap : Nat} {f g : Nat → Int32} {n : Nat} (e : f = g) (hr : rw h a b cap f n) : rw h a b cap g n := e ▸ hr
/-- a row's numbers behind another's -/
def rcat (f : Nat → Int32) (n : Nat) (g : Nat → Int32) (k : Nat) : Nat → Int32 := fun j => if n ≤ j ∧ j < n + k then g (j - n) else f j
theorem rcat_0 {f g : Nat → Int32} {n : Nat} : rcat f n g 0 = f := by
  funext j
  exact if_neg (fun h => by omega)
theorem rcat_s {f g : Nat → Int32} {n k : Nat} : upd (rcat f n g k) (n + k) (g k) = rcat f n g (k + 1) := by
  funext j
  unfold upd rcat
  by_cases e : j = n + k
  · rw [if_pos e, if_pos ⟨by omega, by omega⟩, e, Nat.add_sub_cancel_left]
  · rw [if_neg e]
    by_cases h : n ≤ j ∧ j < n + k
    · rw [if_pos h, if_pos ⟨h.1, by omega⟩]
    · rw [if_neg h, if_neg (fun q => h ⟨q.1, by omega⟩)]
theorem rcat_lo {f g : Nat → Int32} {n k j : Nat} (h : j < n) : rcat f n g k j = f j := if_neg (fun q => by omega)
theorem rcat_hi {f g : Nat → Int32} {n k j : Nat} (h : j < k) : rcat f n g k (n + j) = g j := by
  unfold rcat
  rw [if_pos ⟨by omega, by omega⟩, Nat.add_sub_cancel_left]
set_option maxRecDepth 100000 in
set_option maxHeartbeats 4000000 in
theorem m_Row_addAll (K : am_K) (l : Launch) (S : am_S) (a b cap : Nat) (f : Nat → Int32) (n : Nat) (a2 b2 cap2 : Nat) (g : Nat → Int32) (m : Nat) (hr : rw S.1 a b cap f n) (ho : rw S.1 a2 b2 cap2 g m) (hne : a2 ≠ a ∧ a2 ≠ b ∧ b2 ≠ a ∧ b2 ≠ b) (hfit : n + m ≤ cap) : am_M K l iX3_addAll 1 0 0 [.ref a, .ref a2] S (fun v S' => v = none ∧ rwS S a b cap (rcat f n g m) (n + m) = S') (fun _ _ => False) := by
  refine am_body (by decide) rfl (by simp [Value.category]) (Nat.le_of_ble_eq_true rfl) (fun xp xe xs xm xa xb xt xc ad0 => ?_)
  show am_W _ _ _ _ _ _ _ _ _ _ _ _ _ _ _ 0 [some (.ref a), some (.ref a2), none] [] S 0 0
  refine am_iconst (pc := 0) (x := 0) dX3_addAll_0 (by decide) ?_
  refine am_istore_n (pc := 1) (L' := [some (.ref a), some (.ref a2), some (.int 0)]) dX3_addAll_1 rfl (by decide) rfl ?_
  have loop2 : ∀ (k2 : Nat) (i : Nat), m - i < k2 → i ≤ m → am_W K iX3_addAll xp l xe (am_room 1 0 0) xs xm xa xb xt xc S ad0 (am_E K ad0 S (fun v S' => v = none ∧ rwS S a b cap (rcat f n g m) (n + m) = S') (fun _ _ => False) xb xa xs 0 0) 2 [some (.ref a), some (.ref a2), some (.int (nI i))] [] (rwS S a b cap (rcat f n g i) (n + i)) 0 0 := by
    intro k2
    induction k2 with
    | zero => intro i h9; exact absurd h9 (Nat.not_lt_zero _)
    | succ k2 ih2 =>
      intro i hm2 hi
      have hri : rw (rwS S a b cap (rcat f n g i) (n + i)).1 a b cap (rcat f n g i) (n + i) := rwS_rw (rw_ne hr) (by omega) hr.2.2.2
      have hoi : rw (rwS S a b cap (rcat f n g i) (n + i)).1 a2 b2 cap2 g m := ⟨(rwS_at hne.1 hne.2.1).trans ho.1, (rwS_at hne.2.2.1 hne.2.2.2).trans ho.2.1, ho.2.2⟩
      have hm31 : m < 2 ^ 31 := by have := ho.2.2.1; have := ho.2.2.2; omega
      refine am_iload_n (pc := 2) dX3_addAll_2 rfl rfl ?_
      refine am_aload_n (pc := 3) dX3_addAll_3 rfl rfl ?_
      refine am_callV (pc := 4) (st := [.int (nI i)]) lv_X3_25 (m_Row_length K l _ a2 b2 cap2 g m hoi) dX3_addAll_4 hoi.1 rfl (Nat.le_of_ble_eq_true rfl) ⟨Nat.le_of_ble_eq_true rfl, Nat.le_of_ble_eq_true rfl⟩ (Nat.le_of_ble_eq_true rfl) (Nat.le_of_ble_eq_true rfl) rfl (fun v9 T9 z9 _ => ?_) (fun _ _ h9 => h9.elim)
      obtain ⟨rfl, rfl⟩ := z9
      show am_W _ _ _ _ _ _ _ _ _ _ _ _ _ _ _ 7 [some (.ref a), some (.ref a2), some (.int (nI i))] [.int (nI m), .int (nI i)] (rwS S a b cap (rcat f n g i) (n + i)) 0 0
      refine am_icmp_ge (pc := 7) (tgt := 25) dX3_addAll_7 (by decide) (fun c7 => ?_) (fun c7 => ?_)
      · have e7 : i = m := by
          rcases Nat.lt_or_ge i m with q | q
          · exact absurd c7 (nI_ge q hm31)
          · omega
        subst e7
        exact am_vret (pc := 25) dX3_addAll_25 rfl (Nat.le_refl _) (Nat.le_refl _) (⟨rfl, rfl⟩)
      · have l7 : i < m := by
          rcases Nat.lt_or_ge i m with q | q
          · exact q
          · exact absurd (nI_le q (by omega)) c7
        refine am_aload_n (pc := 10) dX3_addAll_10 rfl rfl ?_
        refine am_aload_n (pc := 11) dX3_addAll_11 rfl rfl ?_
        refine am_iload_n (pc := 12) dX3_addAll_12 rfl rfl ?_
        refine am_callV (pc := 13) (st := [.ref a]) lv_X3_28 (m_Row_at K l _ a2 b2 cap2 g m (nI i) hoi) dX3_addAll_13 hoi.1 rfl (Nat.le_of_ble_eq_true rfl) ⟨Nat.le_of_ble_eq_true rfl, Nat.le_of_ble_eq_true rfl⟩ (Nat.le_of_ble_eq_true rfl) (Nat.le_of_ble_eq_true rfl) rfl (fun v9 T9 z9 _ => ?_) (fun _ _ h9 => h9.elim)
        obtain ⟨rfl, rfl⟩ := z9
        show am_W _ _ _ _ _ _ _ _ _ _ _ _ _ _ _ 16 [some (.ref a), some (.ref a2), some (.int (nI i))] [.int (rv g m (nI i)), .ref a] (rwS S a b cap (rcat f n g i) (n + i)) 0 0
        rw [rv_nI l7 hm31]
        refine am_callV (pc := 16) (st := []) lv_X3_32 (m_Row_add K l _ a b cap (rcat f n g i) (n + i) (g i) hri) dX3_addAll_16 hri.1 rfl (Nat.le_of_ble_eq_true rfl) ⟨Nat.le_of_ble_eq_true rfl, Nat.le_of_ble_eq_true rfl⟩ (Nat.le_of_ble_eq_true rfl) (Nat.le_of_ble_eq_true rfl) rfl (fun v9 T9 z9 _ => ?_) (fun _ _ h9 => h9.elim)
        obtain ⟨rfl, rfl⟩ := z9
        show am_W _ _ _ _ _ _ _ _ _ _ _ _ _ _ _ 19 [some (.ref a), some (.ref a2), some (.int (nI i))] [] (rw_add (rwS S a b cap (rcat f n g i) (n + i)) a b cap (rcat f n g i) (n + i) (g i)) 0 0
        refine am_iinc (pc := 19) (y := ((nI i) + 1)) (L' := [some (.ref a), some (.ref a2), some (.int ((nI i) + 1))]) dX3_addAll_19 rfl rfl rfl ?_
        refine am_goto (pc := 22) (tgt := 2) dX3_addAll_22 (by decide) ?_
        exact am_same rfl (by rw [nI_1]) rfl (by rw [rw_add_lt (by omega), rwS_rwS (rw_ne hr), rcat_s]; rfl) rfl rfl (ih2 (i + 1) (by omega) (by omega))
  exact am_same rfl (by rw [nI_0]) rfl (by rw [rcat_0, Nat.add_zero]; exact (rwS_id hr).symm) rfl rfl (loop2 _ 0 (Nat.lt_succ_self _) (Nat.zero_le _))
end
