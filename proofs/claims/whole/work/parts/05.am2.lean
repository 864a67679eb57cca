/-! THE WALK OVER THE ABSTRACT HEAP -/
/-- what the machine's own classes give a throw: two statics, the texts -/
def am_T (K : am_K) (U : State) (H : Heap) : Prop := vx_Zq Bundle.tN "UNASSIGNED_STACK" Bundle.steD (fun q => K.2.2 ≤ q) U H ∧ vx_Zq Bundle.tN "SUPPRESSED_SENTINEL" Bundle.listD (fun q => K.2.2 ≤ q) U H ∧ (∀ w ∈ am_strs, ∃ sa : Nat, vk_R w.1 w.2.1 w.2.2 sa U) ∧ (∀ C : String, Cond.arrayOver (.object C) ∈ am_over → va_AO C U) ∧ (∀ w ∈ am_ncs, va_Nc w.1 w.2 U) ∧ (∀ x ∈ am_dcl, va_Nw (.declares x) U) ∧ (∀ w ∈ am_cst, va_Nw (.castable w.1 w.2) U) ∧ ∀ w ∈ am_nst, va_Nw (.methodLinkNest w.1 w.2.1 w.2.2.1 w.2.2.2) U
theorem am_T.moved {K : am_K} {u U : State} {H : Heap} (hW : u.WarmedH U.vm) (h : am_T K u H) : am_T K U H := by
  obtain ⟨h1, h2, h3, h4, h5, h6, h7, h8⟩ := h
  exact ⟨vx_Zq.moved hW.alike h1, vx_Zq.moved hW.alike h2, fun w hw => by obtain ⟨sa, hs⟩ := h3 w hw; exact ⟨sa, vk_R.warm hW hs⟩, fun C hC => va_AO.moved hW.alike (h4 C hC), fun w hw => va_Nc.moved hW.alike (h5 w hw), fun x hx => va_Nw.warmD hW (h6 x hx), fun w hw => va_Nw.warmC hW (h7 w hw), fun w hw => va_Nw.warmM hW (h8 w hw)⟩
theorem am_T.same {K : am_K} {u U : State} {H : Heap} (hv : U.vm = u.vm) (h : am_T K u H) : am_T K U H := by
  obtain ⟨h1, h2, h3, h4, h5, h6, h7, h8⟩ := h
  have ha : u.vm.Alike U.vm := by rw [hv]; exact Vm.Alike.refl _
  exact ⟨vx_Zq.moved ha h1, vx_Zq.moved ha h2, fun w hw => by obtain ⟨sa, hs⟩ := h3 w hw; exact ⟨sa, vk_R.same hv hs⟩, fun C hC => va_AO.moved ha (h4 C hC), fun w hw => va_Nc.moved ha (h5 w hw), fun x hx => va_Nw.same rfl hv.symm (h6 x hx), fun w hw => va_Nw.same rfl hv.symm (h7 w hw), fun w hw => va_Nw.same rfl hv.symm (h8 w hw)⟩
theorem am_T.kept {K : am_K} {U : State} {H H1 : Heap} (h : am_T K U H) (hq : ∀ a : Nat, a < H.size → ¬ K.2.2 ≤ a → H1[a]? = H[a]?) : am_T K U H1 := ⟨vx_Zq.kept h.1 hq, vx_Zq.kept h.2.1 hq, h.2.2⟩
/-- what holds at a method's body, whatever its state -/
def am_X (K : am_K) (I : am_I) (p : Program) (l : Launch) (s : State) (m : MethodId) (args : Array Value) (meth : Method) (c : Code) : Prop :=
  p.tables.exec = Jvm.exec ∧ c.code = I.2.1 ∧ c.maxLocals = I.2.2.1 ∧ meth.sig.returnType = I.2.2.2.1 ∧ c.exceptionTable.toList = tableOf I.2.2.2.2 ∧ meth.locks = false ∧ s.vm.findClass I.1.cls = some m.cls ∧ (∀ w ∈ am_big, w.before args s = true) ∧ va_K K.1 vwCl K.2.1 s ∧ am_T K s s.heap ∧ l.stackTraces = false ∧ meth.name = I.1.name ∧ K.2.2 ≤ s.heap.size ∧ K.2.1.map (fun q => q.2) = am_tys
def am_W (K : am_K) (I : am_I) (p : Program) (l : Launch) (e : Env) (R : Room) (s : State) (m : MethodId) (args : Array Value) (below : List Frame) (meth : Method) (c : Code) (S0 : am_S) (ad0 : Nat → Nat) (Q : State → Prop) (pc : Nat) (L : List (Option Value)) (st : List Value) (S : am_S) (cells slots : Nat) : Prop :=
  am_X K I p l s m args meth c → ∀ (ad : Nat → Nat) (ls : Array Slot) (H : Heap) (locs : List Loc), (∀ a : Nat, a < S0.2 → ad a = ad0 a) → S0.2 ≤ S.2 → am_R K ad S H → va_S (fun q => K.2.2 ≤ q) s.heap H locs → am_L ad S.2 I.2.2.1 L ls → (∀ v ∈ st, am_ok S.2 v) →
    W p l e R s m args below meth c H locs cells slots Q (F0 m pc ls (st.map (am_v ad)))
section AMB
variable {K : am_K} {I : am_I} {p : Program} {l : Launch} {e : Env} {R : Room} {s : State} {m : MethodId} {args : Array Value} {below : List Frame} {meth : Method} {c : Code} {S0 S : am_S} {ad0 : Nat → Nat} {Q : State → Prop} {pc : Nat} {L : List (Option Value)} {st : List Value} {cells slots : Nat}
theorem am_iconst {n : Int} {x : Int32} (hd : decode I.2.1 pc = .ok (.iconst n, 1)) (hv : Int32.ofInt n = x)
    (kk : am_W K I p l e R s m args below meth c S0 ad0 Q (pc + 1) L (.int x :: st) S cells slots) : am_W K I p l e R s m args below meth c S0 ad0 Q pc L (st) S cells slots := by
  intro C ad ls H locs h0 h1 hR hS hL hst
  exact lv_iconst C.1 C.2.1 hd hv (kk C ad ls H locs h0 h1 hR hS hL (am_c am_okI hst))
theorem am_bipush {n : Int} {x : Int32} (hd : decode I.2.1 pc = .ok (.bipush n, 2)) (hv : (Int8.ofInt n).toInt32 = x)
    (kk : am_W K I p l e R s m args below meth c S0 ad0 Q (pc + 2) L (.int x :: st) S cells slots) : am_W K I p l e R s m args below meth c S0 ad0 Q pc L (st) S cells slots := by
  intro C ad ls H locs h0 h1 hR hS hL hst
  exact lv_bipush C.1 C.2.1 hd hv (kk C ad ls H locs h0 h1 hR hS hL (am_c am_okI hst))
theorem am_sipush {n : Int} {x : Int32} (hd : decode I.2.1 pc = .ok (.sipush n, 3)) (hv : (Int16.ofInt n).toInt32 = x)
    (kk : am_W K I p l e R s m args below meth c S0 ad0 Q (pc + 3) L (.int x :: st) S cells slots) : am_W K I p l e R s m args below meth c S0 ad0 Q pc L (st) S cells slots := by
  intro C ad ls H locs h0 h1 hR hS hL hst
  exact lv_sipush C.1 C.2.1 hd hv (kk C ad ls H locs h0 h1 hR hS hL (am_c am_okI hst))
theorem am_lconst {n : Fin 2} {x : Int64} (hd : decode I.2.1 pc = .ok (.lconst n, 1)) (hv : Int64.ofNat (n : Nat) = x)
    (kk : am_W K I p l e R s m args below meth c S0 ad0 Q (pc + 1) L (.long x :: st) S cells slots) : am_W K I p l e R s m args below meth c S0 ad0 Q pc L (st) S cells slots := by
  intro C ad ls H locs h0 h1 hR hS hL hst
  exact lv_lconst C.1 C.2.1 hd hv (kk C ad ls H locs h0 h1 hR hS hL (am_c am_okJ hst))
theorem am_ldc {i : Nat} {x : Int32} (hd : decode I.2.1 pc = .ok (.ldc i, 2)) (hw : Jvm.Cond.constant I.1.cls i x ∈ am_big)
    (kk : am_W K I p l e R s m args below meth c S0 ad0 Q (pc + 2) L (.int x :: st) S cells slots) : am_W K I p l e R s m args below meth c S0 ad0 Q pc L (st) S cells slots := by
  intro C ad ls H locs h0 h1 hR hS hL hst
  exact lv_ldc C.1 C.2.1 C.2.2.2.2.2.2.1 (C.2.2.2.2.2.2.2.1 _ hw) hd (kk C ad ls H locs h0 h1 hR hS hL (am_c am_okI hst))
theorem am_null  (hd : decode I.2.1 pc = .ok (.aconst_null, 1))
    (kk : am_W K I p l e R s m args below meth c S0 ad0 Q (pc + 1) L (.null :: st) S cells slots) : am_W K I p l e R s m args below meth c S0 ad0 Q pc L (st) S cells slots := by
  intro C ad ls H locs h0 h1 hR hS hL hst
  exact lv_null C.1 C.2.1 hd (kk C ad ls H locs h0 h1 hR hS hL (am_c am_okN hst))
theorem am_iload_n {k : Fin 4} {i : Nat} {x : Int32} (hd : decode I.2.1 pc = .ok (.iload_n k, 1)) (hi : (k : Nat) = i) (hl : L[i]? = some (some (.int x)))
    (kk : am_W K I p l e R s m args below meth c S0 ad0 Q (pc + 1) L (.int x :: st) S cells slots) : am_W K I p l e R s m args below meth c S0 ad0 Q pc L (st) S cells slots := by
  intro C ad ls H locs h0 h1 hR hS hL hst
  exact lv_iload_n C.1 C.2.1 hd hi (hL.2.2.2 i _ hl).2.2 (kk C ad ls H locs h0 h1 hR hS hL (am_c (hL.2.2.2 i _ hl).2.1 hst))
theorem am_iload {i : Nat} {x : Int32} (hd : decode I.2.1 pc = .ok (.iload i, 2)) (hl : L[i]? = some (some (.int x)))
    (kk : am_W K I p l e R s m args below meth c S0 ad0 Q (pc + 2) L (.int x :: st) S cells slots) : am_W K I p l e R s m args below meth c S0 ad0 Q pc L (st) S cells slots := by
  intro C ad ls H locs h0 h1 hR hS hL hst
  exact lv_iload C.1 C.2.1 hd (hL.2.2.2 i _ hl).2.2 (kk C ad ls H locs h0 h1 hR hS hL (am_c (hL.2.2.2 i _ hl).2.1 hst))
theorem am_aload_n {k : Fin 4} {i : Nat} {x : Nat} (hd : decode I.2.1 pc = .ok (.aload_n k, 1)) (hi : (k : Nat) = i) (hl : L[i]? = some (some (.ref x)))
    (kk : am_W K I p l e R s m args below meth c S0 ad0 Q (pc + 1) L (.ref x :: st) S cells slots) : am_W K I p l e R s m args below meth c S0 ad0 Q pc L (st) S cells slots := by
  intro C ad ls H locs h0 h1 hR hS hL hst
  exact lv_aload_n C.1 C.2.1 hd hi (hL.2.2.2 i _ hl).2.2 (kk C ad ls H locs h0 h1 hR hS hL (am_c (hL.2.2.2 i _ hl).2.1 hst))
theorem am_aload {i : Nat} {x : Nat} (hd : decode I.2.1 pc = .ok (.aload i, 2)) (hl : L[i]? = some (some (.ref x)))
    (kk : am_W K I p l e R s m args below meth c S0 ad0 Q (pc + 2) L (.ref x :: st) S cells slots) : am_W K I p l e R s m args below meth c S0 ad0 Q pc L (st) S cells slots := by
  intro C ad ls H locs h0 h1 hR hS hL hst
  exact lv_aload C.1 C.2.1 hd (hL.2.2.2 i _ hl).2.2 (kk C ad ls H locs h0 h1 hR hS hL (am_c (hL.2.2.2 i _ hl).2.1 hst))
theorem am_aload_nN {k : Fin 4} {i : Nat} (hd : decode I.2.1 pc = .ok (.aload_n k, 1)) (hi : (k : Nat) = i) (hl : L[i]? = some (some .null))
    (kk : am_W K I p l e R s m args below meth c S0 ad0 Q (pc + 1) L (.null :: st) S cells slots) : am_W K I p l e R s m args below meth c S0 ad0 Q pc L (st) S cells slots := by
  intro C ad ls H locs h0 h1 hR hS hL hst
  exact lv_aload_nN C.1 C.2.1 hd hi (hL.2.2.2 i _ hl).2.2 (kk C ad ls H locs h0 h1 hR hS hL (am_c am_okN hst))
theorem am_aloadN {i : Nat} (hd : decode I.2.1 pc = .ok (.aload i, 2)) (hl : L[i]? = some (some .null))
    (kk : am_W K I p l e R s m args below meth c S0 ad0 Q (pc + 2) L (.null :: st) S cells slots) : am_W K I p l e R s m args below meth c S0 ad0 Q pc L (st) S cells slots := by
  intro C ad ls H locs h0 h1 hR hS hL hst
  exact lv_aloadN C.1 C.2.1 hd (hL.2.2.2 i _ hl).2.2 (kk C ad ls H locs h0 h1 hR hS hL (am_c am_okN hst))
theorem am_istore_n {k : Fin 4} {i : Nat} {L' : List (Option Value)} {x : Int32} (hd : decode I.2.1 pc = .ok (.istore_n k, 1)) (hi : (k : Nat) = i) (hn : i < I.2.2.1) (hl : L.set i (some (.int x)) = L')
    (kk : am_W K I p l e R s m args below meth c S0 ad0 Q (pc + 1) L' st S cells slots) : am_W K I p l e R s m args below meth c S0 ad0 Q pc L (.int x :: st) S cells slots := by
  intro C ad ls H locs h0 h1 hR hS hL hst
  exact lv_istore_n C.1 C.2.1 hd hi hL.has hn rfl (fun ls' h' => kk C ad ls' H locs h0 h1 hR hS (by rw [← hl]; exact hL.back hn rfl rfl (am_h hst) h') (am_t hst))
theorem am_istore {i : Nat} {L' : List (Option Value)} {x : Int32} (hd : decode I.2.1 pc = .ok (.istore i, 2)) (hn : i < I.2.2.1) (hl : L.set i (some (.int x)) = L')
    (kk : am_W K I p l e R s m args below meth c S0 ad0 Q (pc + 2) L' st S cells slots) : am_W K I p l e R s m args below meth c S0 ad0 Q pc L (.int x :: st) S cells slots := by
  intro C ad ls H locs h0 h1 hR hS hL hst
  exact lv_istore C.1 C.2.1 hd hL.has hn rfl (fun ls' h' => kk C ad ls' H locs h0 h1 hR hS (by rw [← hl]; exact hL.back hn rfl rfl (am_h hst) h') (am_t hst))
theorem am_astore_n {k : Fin 4} {i : Nat} {L' : List (Option Value)} {x : Nat} (hd : decode I.2.1 pc = .ok (.astore_n k, 1)) (hi : (k : Nat) = i) (hn : i < I.2.2.1) (hl : L.set i (some (.ref x)) = L')
    (kk : am_W K I p l e R s m args below meth c S0 ad0 Q (pc + 1) L' st S cells slots) : am_W K I p l e R s m args below meth c S0 ad0 Q pc L (.ref x :: st) S cells slots := by
  intro C ad ls H locs h0 h1 hR hS hL hst
  exact lv_astore_n C.1 C.2.1 hd hi hL.has hn rfl (fun ls' h' => kk C ad ls' H locs h0 h1 hR hS (by rw [← hl]; exact hL.back hn rfl rfl (am_h hst) h') (am_t hst))
theorem am_astore {i : Nat} {L' : List (Option Value)} {x : Nat} (hd : decode I.2.1 pc = .ok (.astore i, 2)) (hn : i < I.2.2.1) (hl : L.set i (some (.ref x)) = L')
    (kk : am_W K I p l e R s m args below meth c S0 ad0 Q (pc + 2) L' st S cells slots) : am_W K I p l e R s m args below meth c S0 ad0 Q pc L (.ref x :: st) S cells slots := by
  intro C ad ls H locs h0 h1 hR hS hL hst
  exact lv_astore C.1 C.2.1 hd hL.has hn rfl (fun ls' h' => kk C ad ls' H locs h0 h1 hR hS (by rw [← hl]; exact hL.back hn rfl rfl (am_h hst) h') (am_t hst))
theorem am_astore_nN {k : Fin 4} {i : Nat} {L' : List (Option Value)}  (hd : decode I.2.1 pc = .ok (.astore_n k, 1)) (hi : (k : Nat) = i) (hn : i < I.2.2.1) (hl : L.set i (some (.null)) = L')
    (kk : am_W K I p l e R s m args below meth c S0 ad0 Q (pc + 1) L' st S cells slots) : am_W K I p l e R s m args below meth c S0 ad0 Q pc L (.null :: st) S cells slots := by
  intro C ad ls H locs h0 h1 hR hS hL hst
  exact lv_astore_nN C.1 C.2.1 hd hi hL.has hn rfl (fun ls' h' => kk C ad ls' H locs h0 h1 hR hS (by rw [← hl]; exact hL.back hn rfl rfl (am_h hst) h') (am_t hst))
theorem am_astoreN {i : Nat} {L' : List (Option Value)}  (hd : decode I.2.1 pc = .ok (.astore i, 2)) (hn : i < I.2.2.1) (hl : L.set i (some (.null)) = L')
    (kk : am_W K I p l e R s m args below meth c S0 ad0 Q (pc + 2) L' st S cells slots) : am_W K I p l e R s m args below meth c S0 ad0 Q pc L (.null :: st) S cells slots := by
  intro C ad ls H locs h0 h1 hR hS hL hst
  exact lv_astoreN C.1 C.2.1 hd hL.has hn rfl (fun ls' h' => kk C ad ls' H locs h0 h1 hR hS (by rw [← hl]; exact hL.back hn rfl rfl (am_h hst) h') (am_t hst))
theorem am_iinc {i : Nat} {n : Int} {x y : Int32} {L' : List (Option Value)} (hd : decode I.2.1 pc = .ok (.iinc i n, 3)) (hx : L[i]? = some (some (.int x))) (hv : x + Int32.ofInt n = y) (hl : L.set i (some (.int y)) = L')
    (kk : am_W K I p l e R s m args below meth c S0 ad0 Q (pc + 3) L' st S cells slots) : am_W K I p l e R s m args below meth c S0 ad0 Q pc L st S cells slots := by
  intro C ad ls H locs h0 h1 hR hS hL hst
  have hn : i < I.2.2.1 := by rw [← hL.2.1]; exact (List.getElem?_eq_some_iff.mp hx).1
  obtain ⟨k, hk⟩ := List.getElem?_of_mem (am_lp_mem (ad := ad) hn hx)
  exact lv_iinc C.1 C.2.1 hd hL.has (k := k) hk hv hn rfl (fun ls' h' => kk C ad ls' H locs h0 h1 hR hS (by rw [← hl]; exact hL.back hn rfl rfl am_okI h') hst)
theorem am_iadd {x y : Int32} (hd : decode I.2.1 pc = .ok (.iadd, 1))
    (kk : am_W K I p l e R s m args below meth c S0 ad0 Q (pc + 1) L (.int (x + y) :: st) S cells slots) : am_W K I p l e R s m args below meth c S0 ad0 Q pc L (.int y :: .int x :: st) S cells slots := by
  intro C ad ls H locs h0 h1 hR hS hL hst
  exact lv_iadd C.1 C.2.1 hd (kk C ad ls H locs h0 h1 hR hS hL (am_c am_okI (am_t (am_t hst))))
theorem am_isub {x y : Int32} (hd : decode I.2.1 pc = .ok (.isub, 1))
    (kk : am_W K I p l e R s m args below meth c S0 ad0 Q (pc + 1) L (.int (x - y) :: st) S cells slots) : am_W K I p l e R s m args below meth c S0 ad0 Q pc L (.int y :: .int x :: st) S cells slots := by
  intro C ad ls H locs h0 h1 hR hS hL hst
  exact lv_isub C.1 C.2.1 hd (kk C ad ls H locs h0 h1 hR hS hL (am_c am_okI (am_t (am_t hst))))
theorem am_imul {x y : Int32} (hd : decode I.2.1 pc = .ok (.imul, 1))
    (kk : am_W K I p l e R s m args below meth c S0 ad0 Q (pc + 1) L (.int (x * y) :: st) S cells slots) : am_W K I p l e R s m args below meth c S0 ad0 Q pc L (.int y :: .int x :: st) S cells slots := by
  intro C ad ls H locs h0 h1 hR hS hL hst
  exact lv_imul C.1 C.2.1 hd (kk C ad ls H locs h0 h1 hR hS hL (am_c am_okI (am_t (am_t hst))))
theorem am_iand {x y : Int32} (hd : decode I.2.1 pc = .ok (.iand, 1))
    (kk : am_W K I p l e R s m args below meth c S0 ad0 Q (pc + 1) L (.int (x &&& y) :: st) S cells slots) : am_W K I p l e R s m args below meth c S0 ad0 Q pc L (.int y :: .int x :: st) S cells slots := by
  intro C ad ls H locs h0 h1 hR hS hL hst
  exact lv_iand C.1 C.2.1 hd (kk C ad ls H locs h0 h1 hR hS hL (am_c am_okI (am_t (am_t hst))))
theorem am_ior {x y : Int32} (hd : decode I.2.1 pc = .ok (.ior, 1))
    (kk : am_W K I p l e R s m args below meth c S0 ad0 Q (pc + 1) L (.int (x ||| y) :: st) S cells slots) : am_W K I p l e R s m args below meth c S0 ad0 Q pc L (.int y :: .int x :: st) S cells slots := by
  intro C ad ls H locs h0 h1 hR hS hL hst
  exact lv_ior C.1 C.2.1 hd (kk C ad ls H locs h0 h1 hR hS hL (am_c am_okI (am_t (am_t hst))))
theorem am_ixor {x y : Int32} (hd : decode I.2.1 pc = .ok (.ixor, 1))
    (kk : am_W K I p l e R s m args below meth c S0 ad0 Q (pc + 1) L (.int (x ^^^ y) :: st) S cells slots) : am_W K I p l e R s m args below meth c S0 ad0 Q pc L (.int y :: .int x :: st) S cells slots := by
  intro C ad ls H locs h0 h1 hR hS hL hst
  exact lv_ixor C.1 C.2.1 hd (kk C ad ls H locs h0 h1 hR hS hL (am_c am_okI (am_t (am_t hst))))
theorem am_ishl {x y : Int32} (hd : decode I.2.1 pc = .ok (.ishl, 1))
    (kk : am_W K I p l e R s m args below meth c S0 ad0 Q (pc + 1) L (.int (x <<< (y &&& 31)) :: st) S cells slots) : am_W K I p l e R s m args below meth c S0 ad0 Q pc L (.int y :: .int x :: st) S cells slots := by
  intro C ad ls H locs h0 h1 hR hS hL hst
  exact lv_ishl C.1 C.2.1 hd (kk C ad ls H locs h0 h1 hR hS hL (am_c am_okI (am_t (am_t hst))))
theorem am_ishr {x y : Int32} (hd : decode I.2.1 pc = .ok (.ishr, 1))
    (kk : am_W K I p l e R s m args below meth c S0 ad0 Q (pc + 1) L (.int (x >>> (y &&& 31)) :: st) S cells slots) : am_W K I p l e R s m args below meth c S0 ad0 Q pc L (.int y :: .int x :: st) S cells slots := by
  intro C ad ls H locs h0 h1 hR hS hL hst
  exact lv_ishr C.1 C.2.1 hd (kk C ad ls H locs h0 h1 hR hS hL (am_c am_okI (am_t (am_t hst))))
theorem am_idiv {x y : Int32} (hd : decode I.2.1 pc = .ok (.idiv, 1)) (hne : ¬ y = 0)
    (kk : am_W K I p l e R s m args below meth c S0 ad0 Q (pc + 1) L (.int (x / y) :: st) S cells slots) : am_W K I p l e R s m args below meth c S0 ad0 Q pc L (.int y :: .int x :: st) S cells slots := by
  intro C ad ls H locs h0 h1 hR hS hL hst
  exact lv_idiv C.1 C.2.1 hd hne (kk C ad ls H locs h0 h1 hR hS hL (am_c am_okI (am_t (am_t hst))))
theorem am_irem {x y : Int32} (hd : decode I.2.1 pc = .ok (.irem, 1)) (hne : ¬ y = 0)
    (kk : am_W K I p l e R s m args below meth c S0 ad0 Q (pc + 1) L (.int (x - x / y * y) :: st) S cells slots) : am_W K I p l e R s m args below meth c S0 ad0 Q pc L (.int y :: .int x :: st) S cells slots := by
  intro C ad ls H locs h0 h1 hR hS hL hst
  exact lv_irem C.1 C.2.1 hd hne (kk C ad ls H locs h0 h1 hR hS hL (am_c am_okI (am_t (am_t hst))))
theorem am_iushr {x y : Int32} (hd : decode I.2.1 pc = .ok (.iushr, 1))
    (kk : am_W K I p l e R s m args below meth c S0 ad0 Q (pc + 1) L (.int ((x.toUInt32 >>> (y.toUInt32 &&& Int32.toUInt32 31)).toInt32) :: st) S cells slots) : am_W K I p l e R s m args below meth c S0 ad0 Q pc L (.int y :: .int x :: st) S cells slots := by
  intro C ad ls H locs h0 h1 hR hS hL hst
  exact lv_iushr C.1 C.2.1 hd rfl (kk C ad ls H locs h0 h1 hR hS hL (am_c am_okI (am_t (am_t hst))))
theorem am_ineg {x : Int32} (hd : decode I.2.1 pc = .ok (.ineg, 1))
    (kk : am_W K I p l e R s m args below meth c S0 ad0 Q (pc + 1) L (.int (-x) :: st) S cells slots) : am_W K I p l e R s m args below meth c S0 ad0 Q pc L (.int x :: st) S cells slots := by
  intro C ad ls H locs h0 h1 hR hS hL hst
  exact lv_ineg C.1 C.2.1 hd (kk C ad ls H locs h0 h1 hR hS hL (am_c am_okI (am_t hst)))
theorem am_i2l {x : Int32} (hd : decode I.2.1 pc = .ok (.i2l, 1))
    (kk : am_W K I p l e R s m args below meth c S0 ad0 Q (pc + 1) L (.long x.toInt64 :: st) S cells slots) : am_W K I p l e R s m args below meth c S0 ad0 Q pc L (.int x :: st) S cells slots := by
  intro C ad ls H locs h0 h1 hR hS hL hst
  exact lv_i2l C.1 C.2.1 hd rfl (kk C ad ls H locs h0 h1 hR hS hL (am_c am_okJ (am_t hst)))
theorem am_dup {v : Value} (hd : decode I.2.1 pc = .ok (.dup, 1)) (hv : v.category = 1)
    (kk : am_W K I p l e R s m args below meth c S0 ad0 Q (pc + 1) L (v :: v :: st) S cells slots) : am_W K I p l e R s m args below meth c S0 ad0 Q pc L (v :: st) S cells slots := by
  intro C ad ls H locs h0 h1 hR hS hL hst
  exact lv_dup C.1 C.2.1 hd ((am_v_cat ad v).trans hv) (kk C ad ls H locs h0 h1 hR hS hL (am_c (am_h hst) hst))
theorem am_pop {v : Value} (hd : decode I.2.1 pc = .ok (.pop, 1)) (hv : v.category = 1)
    (kk : am_W K I p l e R s m args below meth c S0 ad0 Q (pc + 1) L (st) S cells slots) : am_W K I p l e R s m args below meth c S0 ad0 Q pc L (v :: st) S cells slots := by
  intro C ad ls H locs h0 h1 hR hS hL hst
  exact lv_pop C.1 C.2.1 hd ((am_v_cat ad v).trans hv) (kk C ad ls H locs h0 h1 hR hS hL (am_t hst))
theorem am_dup_x1 {v w : Value} (hd : decode I.2.1 pc = .ok (.dup_x1, 1)) (hv : v.category = 1) (hw : w.category = 1)
    (kk : am_W K I p l e R s m args below meth c S0 ad0 Q (pc + 1) L (v :: w :: v :: st) S cells slots) : am_W K I p l e R s m args below meth c S0 ad0 Q pc L (v :: w :: st) S cells slots := by
  intro C ad ls H locs h0 h1 hR hS hL hst
  exact lv_dup_x1 C.1 C.2.1 hd ((am_v_cat ad v).trans hv) ((am_v_cat ad w).trans hw) (kk C ad ls H locs h0 h1 hR hS hL (am_c (am_h hst) (am_c (am_h (am_t hst)) (am_c (am_h hst) (am_t (am_t hst))))))
theorem am_dup_x2 {v w z : Value} (hd : decode I.2.1 pc = .ok (.dup_x2, 1)) (hv : v.category = 1) (hw : w.category = 1) (hz : z.category = 1)
    (kk : am_W K I p l e R s m args below meth c S0 ad0 Q (pc + 1) L (v :: w :: z :: v :: st) S cells slots) : am_W K I p l e R s m args below meth c S0 ad0 Q pc L (v :: w :: z :: st) S cells slots := by
  intro C ad ls H locs h0 h1 hR hS hL hst
  exact lv_dup_x2 C.1 C.2.1 hd ((am_v_cat ad v).trans hv) ((am_v_cat ad w).trans hw) ((am_v_cat ad z).trans hz) (kk C ad ls H locs h0 h1 hR hS hL (am_c (am_h hst) (am_c (am_h (am_t hst)) (am_c (am_h (am_t (am_t hst))) (am_c (am_h hst) (am_t (am_t (am_t hst))))))))
theorem am_dup2 {v w : Value} (hd : decode I.2.1 pc = .ok (.dup2, 1)) (hv : v.category = 1) (hw : w.category = 1)
    (kk : am_W K I p l e R s m args below meth c S0 ad0 Q (pc + 1) L (v :: w :: v :: w :: st) S cells slots) : am_W K I p l e R s m args below meth c S0 ad0 Q pc L (v :: w :: st) S cells slots := by
  intro C ad ls H locs h0 h1 hR hS hL hst
  exact lv_dup2_11 C.1 C.2.1 hd ((am_v_cat ad v).trans hv) ((am_v_cat ad w).trans hw) (kk C ad ls H locs h0 h1 hR hS hL (am_c (am_h hst) (am_c (am_h (am_t hst)) hst)))
theorem am_if_eq {x : Int32} {off : Int} {tgt : Nat} (hd : decode I.2.1 pc = .ok (.ifCond .eq off, 3)) (ht : (pc : Int) + off = (tgt : Int))
    (kt : x = 0 → am_W K I p l e R s m args below meth c S0 ad0 Q tgt L st S cells slots) (kf : ¬ x = 0 → am_W K I p l e R s m args below meth c S0 ad0 Q (pc + 3) L st S cells slots) : am_W K I p l e R s m args below meth c S0 ad0 Q pc L (.int x :: st) S cells slots := by
  intro C ad ls H locs h0 h1 hR hS hL hst
  exact lv_if_eq C.1 C.2.1 hd ht (fun q => kt q C ad ls H locs h0 h1 hR hS hL (am_t hst)) (fun q => kf q C ad ls H locs h0 h1 hR hS hL (am_t hst))
theorem am_icmp_eq {x y : Int32} {off : Int} {tgt : Nat} (hd : decode I.2.1 pc = .ok (.if_icmp .eq off, 3)) (ht : (pc : Int) + off = (tgt : Int))
    (kt : x = y → am_W K I p l e R s m args below meth c S0 ad0 Q tgt L st S cells slots) (kf : ¬ x = y → am_W K I p l e R s m args below meth c S0 ad0 Q (pc + 3) L st S cells slots) : am_W K I p l e R s m args below meth c S0 ad0 Q pc L (.int y :: .int x :: st) S cells slots := by
  intro C ad ls H locs h0 h1 hR hS hL hst
  exact lv_icmp_eq C.1 C.2.1 hd ht (fun q => kt q C ad ls H locs h0 h1 hR hS hL (am_t (am_t hst))) (fun q => kf q C ad ls H locs h0 h1 hR hS hL (am_t (am_t hst)))
theorem am_if_ne {x : Int32} {off : Int} {tgt : Nat} (hd : decode I.2.1 pc = .ok (.ifCond .ne off, 3)) (ht : (pc : Int) + off = (tgt : Int))
    (kt : ¬ x = 0 → am_W K I p l e R s m args below meth c S0 ad0 Q tgt L st S cells slots) (kf : x = 0 → am_W K I p l e R s m args below meth c S0 ad0 Q (pc + 3) L st S cells slots) : am_W K I p l e R s m args below meth c S0 ad0 Q pc L (.int x :: st) S cells slots := by
  intro C ad ls H locs h0 h1 hR hS hL hst
  exact lv_if_ne C.1 C.2.1 hd ht (fun q => kt q C ad ls H locs h0 h1 hR hS hL (am_t hst)) (fun q => kf q C ad ls H locs h0 h1 hR hS hL (am_t hst))
theorem am_icmp_ne {x y : Int32} {off : Int} {tgt : Nat} (hd : decode I.2.1 pc = .ok (.if_icmp .ne off, 3)) (ht : (pc : Int) + off = (tgt : Int))
    (kt : ¬ x = y → am_W K I p l e R s m args below meth c S0 ad0 Q tgt L st S cells slots) (kf : x = y → am_W K I p l e R s m args below meth c S0 ad0 Q (pc + 3) L st S cells slots) : am_W K I p l e R s m args below meth c S0 ad0 Q pc L (.int y :: .int x :: st) S cells slots := by
  intro C ad ls H locs h0 h1 hR hS hL hst
  exact lv_icmp_ne C.1 C.2.1 hd ht (fun q => kt q C ad ls H locs h0 h1 hR hS hL (am_t (am_t hst))) (fun q => kf q C ad ls H locs h0 h1 hR hS hL (am_t (am_t hst)))
theorem am_if_lt {x : Int32} {off : Int} {tgt : Nat} (hd : decode I.2.1 pc = .ok (.ifCond .lt off, 3)) (ht : (pc : Int) + off = (tgt : Int))
    (kt : x < 0 → am_W K I p l e R s m args below meth c S0 ad0 Q tgt L st S cells slots) (kf : ¬ x < 0 → am_W K I p l e R s m args below meth c S0 ad0 Q (pc + 3) L st S cells slots) : am_W K I p l e R s m args below meth c S0 ad0 Q pc L (.int x :: st) S cells slots := by
  intro C ad ls H locs h0 h1 hR hS hL hst
  exact lv_if_lt C.1 C.2.1 hd ht (fun q => kt q C ad ls H locs h0 h1 hR hS hL (am_t hst)) (fun q => kf q C ad ls H locs h0 h1 hR hS hL (am_t hst))
theorem am_icmp_lt {x y : Int32} {off : Int} {tgt : Nat} (hd : decode I.2.1 pc = .ok (.if_icmp .lt off, 3)) (ht : (pc : Int) + off = (tgt : Int))
    (kt : x < y → am_W K I p l e R s m args below meth c S0 ad0 Q tgt L st S cells slots) (kf : ¬ x < y → am_W K I p l e R s m args below meth c S0 ad0 Q (pc + 3) L st S cells slots) : am_W K I p l e R s m args below meth c S0 ad0 Q pc L (.int y :: .int x :: st) S cells slots := by
  intro C ad ls H locs h0 h1 hR hS hL hst
  exact lv_icmp_lt C.1 C.2.1 hd ht (fun q => kt q C ad ls H locs h0 h1 hR hS hL (am_t (am_t hst))) (fun q => kf q C ad ls H locs h0 h1 hR hS hL (am_t (am_t hst)))
theorem am_if_ge {x : Int32} {off : Int} {tgt : Nat} (hd : decode I.2.1 pc = .ok (.ifCond .ge off, 3)) (ht : (pc : Int) + off = (tgt : Int))
    (kt : 0 ≤ x → am_W K I p l e R s m args below meth c S0 ad0 Q tgt L st S cells slots) (kf : ¬ 0 ≤ x → am_W K I p l e R s m args below meth c S0 ad0 Q (pc + 3) L st S cells slots) : am_W K I p l e R s m args below meth c S0 ad0 Q pc L (.int x :: st) S cells slots := by
  intro C ad ls H locs h0 h1 hR hS hL hst
  exact lv_if_ge C.1 C.2.1 hd ht (fun q => kt q C ad ls H locs h0 h1 hR hS hL (am_t hst)) (fun q => kf q C ad ls H locs h0 h1 hR hS hL (am_t hst))
theorem am_icmp_ge {x y : Int32} {off : Int} {tgt : Nat} (hd : decode I.2.1 pc = .ok (.if_icmp .ge off, 3)) (ht : (pc : Int) + off = (tgt : Int))
    (kt : y ≤ x → am_W K I p l e R s m args below meth c S0 ad0 Q tgt L st S cells slots) (kf : ¬ y ≤ x → am_W K I p l e R s m args below meth c S0 ad0 Q (pc + 3) L st S cells slots) : am_W K I p l e R s m args below meth c S0 ad0 Q pc L (.int y :: .int x :: st) S cells slots := by
  intro C ad ls H locs h0 h1 hR hS hL hst
  exact lv_icmp_ge C.1 C.2.1 hd ht (fun q => kt q C ad ls H locs h0 h1 hR hS hL (am_t (am_t hst))) (fun q => kf q C ad ls H locs h0 h1 hR hS hL (am_t (am_t hst)))
theorem am_if_gt {x : Int32} {off : Int} {tgt : Nat} (hd : decode I.2.1 pc = .ok (.ifCond .gt off, 3)) (ht : (pc : Int) + off = (tgt : Int))
    (kt : 0 < x → am_W K I p l e R s m args below meth c S0 ad0 Q tgt L st S cells slots) (kf : ¬ 0 < x → am_W K I p l e R s m args below meth c S0 ad0 Q (pc + 3) L st S cells slots) : am_W K I p l e R s m args below meth c S0 ad0 Q pc L (.int x :: st) S cells slots := by
  intro C ad ls H locs h0 h1 hR hS hL hst
  exact lv_if_gt C.1 C.2.1 hd ht (fun q => kt q C ad ls H locs h0 h1 hR hS hL (am_t hst)) (fun q => kf q C ad ls H locs h0 h1 hR hS hL (am_t hst))
theorem am_icmp_gt {x y : Int32} {off : Int} {tgt : Nat} (hd : decode I.2.1 pc = .ok (.if_icmp .gt off, 3)) (ht : (pc : Int) + off = (tgt : Int))
    (kt : y < x → am_W K I p l e R s m args below meth c S0 ad0 Q tgt L st S cells slots) (kf : ¬ y < x → am_W K I p l e R s m args below meth c S0 ad0 Q (pc + 3) L st S cells slots) : am_W K I p l e R s m args below meth c S0 ad0 Q pc L (.int y :: .int x :: st) S cells slots := by
  intro C ad ls H locs h0 h1 hR hS hL hst
  exact lv_icmp_gt C.1 C.2.1 hd ht (fun q => kt q C ad ls H locs h0 h1 hR hS hL (am_t (am_t hst))) (fun q => kf q C ad ls H locs h0 h1 hR hS hL (am_t (am_t hst)))
theorem am_if_le {x : Int32} {off : Int} {tgt : Nat} (hd : decode I.2.1 pc = .ok (.ifCond .le off, 3)) (ht : (pc : Int) + off = (tgt : Int))
    (kt : x ≤ 0 → am_W K I p l e R s m args below meth c S0 ad0 Q tgt L st S cells slots) (kf : ¬ x ≤ 0 → am_W K I p l e R s m args below meth c S0 ad0 Q (pc + 3) L st S cells slots) : am_W K I p l e R s m args below meth c S0 ad0 Q pc L (.int x :: st) S cells slots := by
  intro C ad ls H locs h0 h1 hR hS hL hst
  exact lv_if_le C.1 C.2.1 hd ht (fun q => kt q C ad ls H locs h0 h1 hR hS hL (am_t hst)) (fun q => kf q C ad ls H locs h0 h1 hR hS hL (am_t hst))
theorem am_icmp_le {x y : Int32} {off : Int} {tgt : Nat} (hd : decode I.2.1 pc = .ok (.if_icmp .le off, 3)) (ht : (pc : Int) + off = (tgt : Int))
    (kt : x ≤ y → am_W K I p l e R s m args below meth c S0 ad0 Q tgt L st S cells slots) (kf : ¬ x ≤ y → am_W K I p l e R s m args below meth c S0 ad0 Q (pc + 3) L st S cells slots) : am_W K I p l e R s m args below meth c S0 ad0 Q pc L (.int y :: .int x :: st) S cells slots := by
  intro C ad ls H locs h0 h1 hR hS hL hst
  exact lv_icmp_le C.1 C.2.1 hd ht (fun q => kt q C ad ls H locs h0 h1 hR hS hL (am_t (am_t hst))) (fun q => kf q C ad ls H locs h0 h1 hR hS hL (am_t (am_t hst)))
theorem am_goto {off : Int} {tgt : Nat} (hd : decode I.2.1 pc = .ok (.goto off, 3)) (ht : (pc : Int) + off = (tgt : Int)) (kk : am_W K I p l e R s m args below meth c S0 ad0 Q tgt L st S cells slots) : am_W K I p l e R s m args below meth c S0 ad0 Q pc L st S cells slots := by
  intro C ad ls H locs h0 h1 hR hS hL hst
  exact lv_goto C.1 C.2.1 hd ht (kk C ad ls H locs h0 h1 hR hS hL hst)
theorem am_ifnonnull {x : Nat} {off : Int} {tgt : Nat} (hd : decode I.2.1 pc = .ok (.ifnonnull off, 3)) (ht : (pc : Int) + off = (tgt : Int)) (kk : am_W K I p l e R s m args below meth c S0 ad0 Q tgt L st S cells slots) : am_W K I p l e R s m args below meth c S0 ad0 Q pc L (.ref x :: st) S cells slots := by
  intro C ad ls H locs h0 h1 hR hS hL hst
  exact lv_ifnonnull C.1 C.2.1 hd ht (kk C ad ls H locs h0 h1 hR hS hL (am_t hst))
theorem am_ifnull {x : Nat} {off : Int} (hd : decode I.2.1 pc = .ok (.ifnull off, 3)) (kk : am_W K I p l e R s m args below meth c S0 ad0 Q (pc + 3) L st S cells slots) : am_W K I p l e R s m args below meth c S0 ad0 Q pc L (.ref x :: st) S cells slots := by
  intro C ad ls H locs h0 h1 hR hS hL hst
  exact lv_ifnull C.1 C.2.1 hd (kk C ad ls H locs h0 h1 hR hS hL (am_t hst))
theorem am_ifnullN {off : Int} {tgt : Nat} (hd : decode I.2.1 pc = .ok (.ifnull off, 3)) (ht : (pc : Int) + off = (tgt : Int)) (kk : am_W K I p l e R s m args below meth c S0 ad0 Q tgt L st S cells slots) : am_W K I p l e R s m args below meth c S0 ad0 Q pc L (.null :: st) S cells slots := by
  intro C ad ls H locs h0 h1 hR hS hL hst
  exact lv_ifnullN C.1 C.2.1 hd ht (kk C ad ls H locs h0 h1 hR hS hL (am_t hst))
theorem am_ifnonnullN {off : Int} (hd : decode I.2.1 pc = .ok (.ifnonnull off, 3)) (kk : am_W K I p l e R s m args below meth c S0 ad0 Q (pc + 3) L st S cells slots) : am_W K I p l e R s m args below meth c S0 ad0 Q pc L (.null :: st) S cells slots := by
  intro C ad ls H locs h0 h1 hR hS hL hst
  exact lv_ifnonnullN C.1 C.2.1 hd (kk C ad ls H locs h0 h1 hR hS hL (am_t hst))
theorem am_tableOut {dflt lo hi : Int} {offs : Array Int} {len : Nat} {x : Int32} {tgt : Nat} (hd : decode I.2.1 pc = .ok (.tableswitch dflt lo hi offs, len)) (h : x.toInt < lo ∨ hi < x.toInt) (ht : (pc : Int) + dflt = (tgt : Int)) (kk : am_W K I p l e R s m args below meth c S0 ad0 Q tgt L st S cells slots) : am_W K I p l e R s m args below meth c S0 ad0 Q pc L (.int x :: st) S cells slots := by
  intro C ad ls H locs h0 h1 hR hS hL hst
  exact lv_tableOut C.1 C.2.1 hd h ht (kk C ad ls H locs h0 h1 hR hS hL (am_t hst))
theorem am_tableIn {dflt lo hi : Int} {offs : Array Int} {len : Nat} {x : Int32} {off : Int} {tgt : Nat} (hd : decode I.2.1 pc = .ok (.tableswitch dflt lo hi offs, len)) (g1 : ¬ x.toInt < lo) (g2 : ¬ hi < x.toInt) (ho : offs[(x.toInt - lo).toNat]? = some off) (ht : (pc : Int) + off = (tgt : Int)) (kk : am_W K I p l e R s m args below meth c S0 ad0 Q tgt L st S cells slots) : am_W K I p l e R s m args below meth c S0 ad0 Q pc L (.int x :: st) S cells slots := by
  intro C ad ls H locs h0 h1 hR hS hL hst
  exact lv_tableIn C.1 C.2.1 hd g1 g2 ho ht (kk C ad ls H locs h0 h1 hR hS hL (am_t hst))
end AMB
