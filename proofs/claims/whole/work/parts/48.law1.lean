/-! THE LAW: the script's rows, the invariant's own facts -/
section LAW
variable {K : am_K} {p : Program} {l : Launch} {e : Env} {s : State} {m : MethodId} {args : Array Value} {below : List Frame} {meth : Method} {c : Code} {S0 S : am_S} {ad0 : Nat → Nat} {Q : State → Prop} {b9 L9 : Nat} {xs9 : Nat → Int32}
def law_sc (K : am_K) (s : State) (S0 : am_S) (ad0 : Nat → Nat) (b9 L9 : Nat) (xs9 : Nat → Int32) : Prop := va_X b9 L9 xs9 s s.heap ∧ b9 < s.heap.size ∧ (¬ K.2.2 ≤ b9) ∧ ad0 0 = b9 ∧ 0 < S0.2 ∧ L9 ≤ 2560
theorem am_slen {I : am_I} {R : Room} {pc : Nat} {L : List (Option Value)} {st : List Value} {cells slots : Nat} (hsc : law_sc K s S0 ad0 b9 L9 xs9) (hd : decode I.2.1 pc = .ok (.arraylength, 1)) (kk : am_W K I p l e R s m args below meth c S0 ad0 Q (pc + 1) L (.int (Int32.ofNat L9) :: st) S cells slots) : am_W K I p l e R s m args below meth c S0 ad0 Q pc L (.ref 0 :: st) S cells slots := by
  intro C ad ls H locs h0 h1 hR hS hL hst
  obtain ⟨hx, hb, hml, hr, htab, hlk, hown, hts, hK, hT, htr, hnm, hbs, hty⟩ := id C
  obtain ⟨hX, hbl, hbA, ha0, hS0, hLn⟩ := hsc
  have ea : ad 0 = b9 := (h0 0 hS0).trans ha0
  show W p l e R s m args below meth c H locs cells slots Q (F0 m pc ls (.ref (ad 0) :: st.map (am_v ad)))
  rw [ea]
  exact va_slen (A := fun q => K.2.2 ≤ q) hx hb hX hbl hbA hS hd (kk C ad ls H locs h0 h1 hR hS hL (am_c am_okI (am_t hst)))
theorem am_sld {I : am_I} {R : Room} {pc : Nat} {L : List (Option Value)} {st : List Value} {cells slots : Nat} (hsc : law_sc K s S0 ad0 b9 L9 xs9) {x : Int32} {j : Nat} (hx9 : x = nI j) (hj : j < L9) (hd : decode I.2.1 pc = .ok (.iaload, 1)) (kk : am_W K I p l e R s m args below meth c S0 ad0 Q (pc + 1) L (.int (xs9 j) :: st) S cells slots) : am_W K I p l e R s m args below meth c S0 ad0 Q pc L (.int x :: .ref 0 :: st) S cells slots := by
  intro C ad ls H locs h0 h1 hR hS hL hst
  obtain ⟨hx, hb, hml, hr, htab, hlk, hown, hts, hK, hT, htr, hnm, hbs, hty⟩ := id C
  obtain ⟨hX, hbl, hbA, ha0, hS0, hLn⟩ := hsc
  have ea : ad 0 = b9 := (h0 0 hS0).trans ha0
  show W p l e R s m args below meth c H locs cells slots Q (F0 m pc ls (.int x :: .ref (ad 0) :: st.map (am_v ad)))
  rw [ea, hx9]
  refine va_sld (A := fun q => K.2.2 ≤ q) hx hb hX hbl hbA hS (vp_in_nI hj (by omega)) hd ?_
  rw [nI_clamp (by omega)]
  exact kk C ad ls H locs h0 h1 hR hS hL (am_c am_okI (am_t (am_t hst)))
theorem Inv_thr {th : Int32} {o : Nat → Int64} (hI : Inv th o S) : am_M K l iX7_thrown 0 0 0 [.ref 25] S (fun v S' => v = some (.int th) ∧ S = S') (fun _ _ => False) := by
  obtain ⟨pd, wd, ln, sq, st, ct, cl, ft, zn, a26, a27, a28, a29, a30, a31, a32, a33, a34, a35, a36, a37, a38, a39, a40, a41, a42, a43, a44, hS, h45, hv⟩ := hI
  have h := q_thrown (K := K) (l := l) (S := S) (th := th) (pd := pd) (wd := wd) (ln := ln) (sq := sq) (st := st) (ct := ct) (cl := cl) (ft := ft) (zn := zn) (a26 := a26) (a27 := a27) (a28 := a28) (a29 := a29) (a30 := a30) (a31 := a31) (a32 := a32) (a33 := a33) (a34 := a34) (a35 := a35) (a36 := a36) (a37 := a37) (a38 := a38) (a39 := a39) (a40 := a40) (a41 := a41) (a42 := a42) (a43 := a43) (a44 := a44)
  rw [← hS] at h
  exact h
theorem Inv_25 {th : Int32} {o : Nat → Int64} (hI : Inv th o S) : ∃ fs, S.1 25 = .inr (7, fs) := by
  obtain ⟨pd, wd, ln, sq, st, ct, cl, ft, zn, a26, a27, a28, a29, a30, a31, a32, a33, a34, a35, a36, a37, a38, a39, a40, a41, a42, a43, a44, hS, h45, hv⟩ := hI
  exact ⟨_, (congrArg (fun z : am_S => z.1 25) hS).trans md_25⟩
theorem Inv_45 {th : Int32} {o : Nat → Int64} (hI : Inv th o S) : S.1 45 = lo1 o := by
  obtain ⟨pd, wd, ln, sq, st, ct, cl, ft, zn, a26, a27, a28, a29, a30, a31, a32, a33, a34, a35, a36, a37, a38, a39, a40, a41, a42, a43, a44, hS, h45, hv⟩ := hI
  exact h45
theorem Inv_1 {th : Int32} {o : Nat → Int64} (hI : Inv th o S) : S.1 1 = clx := by
  obtain ⟨pd, wd, ln, sq, st, ct, cl, ft, zn, a26, a27, a28, a29, a30, a31, a32, a33, a34, a35, a36, a37, a38, a39, a40, a41, a42, a43, a44, hS, h45, hv⟩ := hI
  exact hv.1
theorem cmp_self (x : Int64) : lg_cmp x x = 0 := by
  unfold lg_cmp
  rw [if_neg (show ¬ x > x from Int64.lt_irrefl), if_pos rfl]
set_option maxRecDepth 100000 in
set_option maxHeartbeats 4000000 in
theorem law_c0 {i9 cells slots : Nat} {th : Int32} {o : Nat → Int64} (hsc : law_sc K s S0 ad0 b9 L9 xs9) (hI : Inv th o S) (hi9 : i9 + 5 ≤ L9) (hce : cells + 2 ≤ room_1.cells) (hsl : slots + 82 ≤ room_1.slots) (kk9 : ∀ (S' : am_S) (th' : Int32) (o' : Nat → Int64), Inv th' o' S' → am_W K iL_law p l e room_1 s m args below meth c S0 ad0 Q 1318 [some (.ref 0), some (.ref 1), some (.ref 25), some (.ref 45), some (.int (nI i9)), none, none] [] S' (cells + 2) (slots + 82)) : am_W K iL_law p l e room_1 s m args below meth c S0 ad0 Q 124 [some (.ref 0), some (.ref 1), some (.ref 25), some (.ref 45), some (.int (nI i9)), none, none] [] S cells slots := by
  refine am_aload_n (I := iL_law) (pc := 124) dL_law_124 rfl rfl ?_
  refine am_aload_n (I := iL_law) (pc := 125) dL_law_125 rfl rfl ?_
  refine am_iload (I := iL_law) (pc := 126) dL_law_126 rfl ?_
  refine am_iconst (I := iL_law) (pc := 128) (x := 1) dL_law_128 (by decide) ?_
  refine am_iadd (I := iL_law) (pc := 129) dL_law_129 ?_
  refine am_sld (I := iL_law) (pc := 130) (j := i9 + 1) hsc (nI_add i9 1) (by omega) dL_law_130 ?_
  refine am_aload_n (I := iL_law) (pc := 131) dL_law_131 rfl rfl ?_
  refine am_free (fun hf9 => ?_)
  obtain ⟨k9, r9, o9, P9, hW9, hM9, hZ9⟩ := st_unit (K := K) (l := l) hI (xs9 (i9 + 1))
  refine am_callSH (I := iL_law) (pc := 132) (st := []) lv_L_78 rfl hW9 dL_law_132 rfl (Nat.le_of_ble_eq_true rfl) ⟨Nat.le_of_ble_eq_true rfl, Nat.le_of_ble_eq_true rfl⟩ hce hsl rfl (fun v9 S1 z9 _ => ?_) (fun _ _ h9 => h9.elim)
  obtain ⟨rfl, hP9⟩ := z9
  obtain ⟨S2, hC9, hI2, fs9, h25⟩ := hM9 S1 hP9
  show am_W _ _ _ _ _ _ _ _ _ _ _ _ _ _ _ 135 [some (.ref 0), some (.ref 1), some (.ref 25), some (.ref 45), some (.int (nI i9)), none, none] [.int k9] S1 (cells + 2) (slots + 82)
  refine am_istore (I := iL_law) (pc := 135) (L' := [some (.ref 0), some (.ref 1), some (.ref 25), some (.ref 45), some (.int (nI i9)), some (.int k9), none]) dL_law_135 (by decide) rfl ?_
  refine am_aload_n (I := iL_law) (pc := 137) dL_law_137 rfl rfl ?_
  refine am_aload_n (I := iL_law) (pc := 138) dL_law_138 rfl rfl ?_
  refine am_iload (I := iL_law) (pc := 139) dL_law_139 rfl ?_
  refine am_iconst (I := iL_law) (pc := 141) (x := 1) dL_law_141 (by decide) ?_
  refine am_iadd (I := iL_law) (pc := 142) dL_law_142 ?_
  refine am_sld (I := iL_law) (pc := 143) (j := i9 + 1) hsc (nI_add i9 1) (by omega) dL_law_143 ?_
  refine am_callV (I := iL_law) (pc := 144) (st := []) lv_L_83 hC9 dL_law_144 h25 rfl (Nat.le_of_ble_eq_true rfl) ⟨Nat.le_of_ble_eq_true rfl, Nat.le_of_ble_eq_true rfl⟩ hce hsl rfl (fun v9 S3 z9 _ => ?_) (fun _ _ h9 => h9.elim)
  obtain ⟨rfl, rfl⟩ := z9
  obtain ⟨fs2, h252⟩ := Inv_25 hI2
  have h452 := Inv_45 hI2
  show am_W _ _ _ _ _ _ _ _ _ _ _ _ _ _ _ 147 [some (.ref 0), some (.ref 1), some (.ref 25), some (.ref 45), some (.int (nI i9)), some (.int k9), none] [.int r9] S2 (cells + 2) (slots + 82)
  refine am_istore (I := iL_law) (pc := 147) (L' := [some (.ref 0), some (.ref 1), some (.ref 25), some (.ref 45), some (.int (nI i9)), some (.int k9), some (.int r9)]) dL_law_147 (by decide) rfl ?_
  refine am_aload_n (I := iL_law) (pc := 149) dL_law_149 rfl rfl ?_
  refine am_callV (I := iL_law) (pc := 150) (st := []) lv_L_84 (Inv_thr hI2) dL_law_150 h252 rfl (Nat.le_of_ble_eq_true rfl) ⟨Nat.le_of_ble_eq_true rfl, Nat.le_of_ble_eq_true rfl⟩ hce hsl rfl (fun v9 S3 z9 _ => ?_) (fun _ _ h9 => h9.elim)
  obtain ⟨rfl, rfl⟩ := z9
  show am_W _ _ _ _ _ _ _ _ _ _ _ _ _ _ _ 153 [some (.ref 0), some (.ref 1), some (.ref 25), some (.ref 45), some (.int (nI i9)), some (.int k9), some (.int r9)] [.int k9] S2 (cells + 2) (slots + 82)
  refine am_iload (I := iL_law) (pc := 153) dL_law_153 rfl ?_
  refine am_icmp_eq (I := iL_law) (pc := 155) (tgt := 160) dL_law_155 (by decide) (fun c155 => ?_) (fun c155 => ?_)
  · refine am_iload (I := iL_law) (pc := 160) dL_law_160 rfl ?_
    refine am_if_ne (I := iL_law) (pc := 162) (tgt := 177) dL_law_162 (by decide) (fun c162 => ?_) (fun c162 => ?_)
    · refine am_goto (I := iL_law) (pc := 177) (tgt := 1318) dL_law_177 (by decide) ?_
      exact am_forget 5 (am_forget 6 (kk9 _ _ _ hI2))
    · obtain ⟨e9, eb9⟩ := hZ9 c162
      refine am_aload_n (I := iL_law) (pc := 165) dL_law_165 rfl rfl ?_
      refine am_iconst (I := iL_law) (pc := 166) (x := 0) dL_law_166 (by decide) ?_
      refine am_laload (I := iL_law) (pc := 167) dL_law_167 h452 rfl (vp_in_nI (show 0 < 1 by decide) (by decide)) ?_
      refine am_same (st' := [.long r9.toInt64]) rfl rfl (by rw [show (0 : Int32).toNatClampNeg = 0 from rfl, e9]) rfl rfl rfl ?_
      refine am_iload (I := iL_law) (pc := 168) dL_law_168 rfl ?_
      refine am_i2l (I := iL_law) (pc := 170) dL_law_170 ?_
      refine am_lcmp (I := iL_law) (pc := 171) dL_law_171 ?_
      refine am_if_eq (I := iL_law) (pc := 172) (tgt := 177) dL_law_172 (by decide) (fun c172 => ?_) (fun c172 => ?_)
      · refine am_goto (I := iL_law) (pc := 177) (tgt := 1318) dL_law_177 (by decide) ?_
        exact am_forget 5 (am_forget 6 (kk9 _ _ _ hI2))
      · exact absurd (cmp_self _) c172
  · exact absurd rfl c155
set_option maxRecDepth 100000 in
set_option maxHeartbeats 4000000 in
theorem law_c1 {i9 cells slots : Nat} {th : Int32} {o : Nat → Int64} (hsc : law_sc K s S0 ad0 b9 L9 xs9) (hI : Inv th o S) (hi9 : i9 + 5 ≤ L9) (hce : cells + 2 ≤ room_1.cells) (hsl : slots + 82 ≤ room_1.slots) (kk9 : ∀ (S' : am_S) (th' : Int32) (o' : Nat → Int64), Inv th' o' S' → am_W K iL_law p l e room_1 s m args below meth c S0 ad0 Q 1318 [some (.ref 0), some (.ref 1), some (.ref 25), some (.ref 45), some (.int (nI i9)), none, none] [] S' (cells + 2) (slots + 82)) : am_W K iL_law p l e room_1 s m args below meth c S0 ad0 Q 180 [some (.ref 0), some (.ref 1), some (.ref 25), some (.ref 45), some (.int (nI i9)), none, none] [] S cells slots := by
  refine am_aload_n (I := iL_law) (pc := 180) dL_law_180 rfl rfl ?_
  obtain ⟨r9, S1, S2, hC1, hC2, hI2, h11, h25⟩ := st_clear (K := K) (l := l) hI
  obtain ⟨fs9, h259⟩ := Inv_25 hI
  refine am_callV (I := iL_law) (pc := 181) (st := []) lv_L_87 hC1 dL_law_181 (Inv_1 hI) rfl (Nat.le_of_ble_eq_true rfl) ⟨Nat.le_of_ble_eq_true rfl, Nat.le_of_ble_eq_true rfl⟩ hce hsl rfl (fun v9 S3 z9 _ => ?_) (fun _ _ h9 => h9.elim)
  obtain ⟨rfl, rfl⟩ := z9
  show am_W _ _ _ _ _ _ _ _ _ _ _ _ _ _ _ 184 [some (.ref 0), some (.ref 1), some (.ref 25), some (.ref 45), some (.int (nI i9)), none, none] [.int r9] S1 (cells + 2) (slots + 82)
  refine am_aload_n (I := iL_law) (pc := 184) dL_law_184 rfl rfl ?_
  refine am_callV (I := iL_law) (pc := 185) (st := [.int r9]) lv_L_90 hC2 dL_law_185 (h25.trans h259) rfl (Nat.le_of_ble_eq_true rfl) ⟨Nat.le_of_ble_eq_true rfl, Nat.le_of_ble_eq_true rfl⟩ hce hsl rfl (fun v9 S3 z9 _ => ?_) (fun _ _ h9 => h9.elim)
  obtain ⟨rfl, rfl⟩ := z9
  show am_W _ _ _ _ _ _ _ _ _ _ _ _ _ _ _ 188 [some (.ref 0), some (.ref 1), some (.ref 25), some (.ref 45), some (.int (nI i9)), none, none] [.int r9, .int r9] S2 (cells + 2) (slots + 82)
  refine am_icmp_eq (I := iL_law) (pc := 188) (tgt := 1318) dL_law_188 (by decide) (fun c188 => ?_) (fun c188 => ?_)
  · exact kk9 _ _ _ hI2
  · exact absurd rfl c188
set_option maxRecDepth 100000 in
set_option maxHeartbeats 4000000 in
theorem law_c2 {i9 cells slots : Nat} {th : Int32} {o : Nat → Int64} (hsc : law_sc K s S0 ad0 b9 L9 xs9) (hI : Inv th o S) (hi9 : i9 + 5 ≤ L9) (hce : cells + 2 ≤ room_1.cells) (hsl : slots + 82 ≤ room_1.slots) (kk9 : ∀ (S' : am_S) (th' : Int32) (o' : Nat → Int64), Inv th' o' S' → am_W K iL_law p l e room_1 s m args below meth c S0 ad0 Q 1318 [some (.ref 0), some (.ref 1), some (.ref 25), some (.ref 45), some (.int (nI i9)), none, none] [] S' (cells + 2) (slots + 82)) : am_W K iL_law p l e room_1 s m args below meth c S0 ad0 Q 193 [some (.ref 0), some (.ref 1), some (.ref 25), some (.ref 45), some (.int (nI i9)), none, none] [] S cells slots := by
  refine am_aload_n (I := iL_law) (pc := 193) dL_law_193 rfl rfl ?_
  refine am_aload_n (I := iL_law) (pc := 194) dL_law_194 rfl rfl ?_
  refine am_iload (I := iL_law) (pc := 195) dL_law_195 rfl ?_
  refine am_iconst (I := iL_law) (pc := 197) (x := 1) dL_law_197 (by decide) ?_
  refine am_iadd (I := iL_law) (pc := 198) dL_law_198 ?_
  refine am_sld (I := iL_law) (pc := 199) (j := i9 + 1) hsc (nI_add i9 1) (by omega) dL_law_199 ?_
  refine am_aload_n (I := iL_law) (pc := 200) dL_law_200 rfl rfl ?_
  refine am_iload (I := iL_law) (pc := 201) dL_law_201 rfl ?_
  refine am_iconst (I := iL_law) (pc := 203) (x := 2) dL_law_203 (by decide) ?_
  refine am_iadd (I := iL_law) (pc := 204) dL_law_204 ?_
  refine am_sld (I := iL_law) (pc := 205) (j := i9 + 2) hsc (nI_add i9 2) (by omega) dL_law_205 ?_
  refine am_aload_n (I := iL_law) (pc := 206) dL_law_206 rfl rfl ?_
  refine am_free (fun hf9 => ?_)
  obtain ⟨k9, r9, o9, P9, hW9, hM9, hZ9⟩ := st_text (K := K) (l := l) hI hf9 (xs9 (i9 + 1)) (xs9 (i9 + 2))
  refine am_callSH (I := iL_law) (pc := 207) (st := []) lv_L_91 rfl hW9 dL_law_207 rfl (Nat.le_of_ble_eq_true rfl) ⟨Nat.le_of_ble_eq_true rfl, Nat.le_of_ble_eq_true rfl⟩ hce hsl rfl (fun v9 S1 z9 _ => ?_) (fun _ _ h9 => h9.elim)
  obtain ⟨rfl, hP9⟩ := z9
  obtain ⟨S2, hC9, hI2, fs9, h25⟩ := hM9 S1 hP9
  show am_W _ _ _ _ _ _ _ _ _ _ _ _ _ _ _ 210 [some (.ref 0), some (.ref 1), some (.ref 25), some (.ref 45), some (.int (nI i9)), none, none] [.int k9] S1 (cells + 2) (slots + 82)
  refine am_istore (I := iL_law) (pc := 210) (L' := [some (.ref 0), some (.ref 1), some (.ref 25), some (.ref 45), some (.int (nI i9)), some (.int k9), none]) dL_law_210 (by decide) rfl ?_
  refine am_aload_n (I := iL_law) (pc := 212) dL_law_212 rfl rfl ?_
  refine am_aload_n (I := iL_law) (pc := 213) dL_law_213 rfl rfl ?_
  refine am_iload (I := iL_law) (pc := 214) dL_law_214 rfl ?_
  refine am_iconst (I := iL_law) (pc := 216) (x := 1) dL_law_216 (by decide) ?_
  refine am_iadd (I := iL_law) (pc := 217) dL_law_217 ?_
  refine am_sld (I := iL_law) (pc := 218) (j := i9 + 1) hsc (nI_add i9 1) (by omega) dL_law_218 ?_
  refine am_aload_n (I := iL_law) (pc := 219) dL_law_219 rfl rfl ?_
  refine am_iload (I := iL_law) (pc := 220) dL_law_220 rfl ?_
  refine am_iconst (I := iL_law) (pc := 222) (x := 2) dL_law_222 (by decide) ?_
  refine am_iadd (I := iL_law) (pc := 223) dL_law_223 ?_
  refine am_sld (I := iL_law) (pc := 224) (j := i9 + 2) hsc (nI_add i9 2) (by omega) dL_law_224 ?_
  refine am_callV (I := iL_law) (pc := 225) (st := []) lv_L_94 hC9 dL_law_225 h25 rfl (Nat.le_of_ble_eq_true rfl) ⟨Nat.le_of_ble_eq_true rfl, Nat.le_of_ble_eq_true rfl⟩ hce hsl rfl (fun v9 S3 z9 _ => ?_) (fun _ _ h9 => h9.elim)
  obtain ⟨rfl, rfl⟩ := z9
  obtain ⟨fs2, h252⟩ := Inv_25 hI2
  have h452 := Inv_45 hI2
  show am_W _ _ _ _ _ _ _ _ _ _ _ _ _ _ _ 228 [some (.ref 0), some (.ref 1), some (.ref 25), some (.ref 45), some (.int (nI i9)), some (.int k9), none] [.int r9] S2 (cells + 2) (slots + 82)
  refine am_istore (I := iL_law) (pc := 228) (L' := [some (.ref 0), some (.ref 1), some (.ref 25), some (.ref 45), some (.int (nI i9)), some (.int k9), some (.int r9)]) dL_law_228 (by decide) rfl ?_
  refine am_aload_n (I := iL_law) (pc := 230) dL_law_230 rfl rfl ?_
  refine am_callV (I := iL_law) (pc := 231) (st := []) lv_L_84 (Inv_thr hI2) dL_law_231 h252 rfl (Nat.le_of_ble_eq_true rfl) ⟨Nat.le_of_ble_eq_true rfl, Nat.le_of_ble_eq_true rfl⟩ hce hsl rfl (fun v9 S3 z9 _ => ?_) (fun _ _ h9 => h9.elim)
  obtain ⟨rfl, rfl⟩ := z9
  show am_W _ _ _ _ _ _ _ _ _ _ _ _ _ _ _ 234 [some (.ref 0), some (.ref 1), some (.ref 25), some (.ref 45), some (.int (nI i9)), some (.int k9), some (.int r9)] [.int k9] S2 (cells + 2) (slots + 82)
  refine am_iload (I := iL_law) (pc := 234) dL_law_234 rfl ?_
  refine am_icmp_eq (I := iL_law) (pc := 236) (tgt := 241) dL_law_236 (by decide) (fun c236 => ?_) (fun c236 => ?_)
  · refine am_iload (I := iL_law) (pc := 241) dL_law_241 rfl ?_
    refine am_if_ne (I := iL_law) (pc := 243) (tgt := 258) dL_law_243 (by decide) (fun c243 => ?_) (fun c243 => ?_)
    · refine am_goto (I := iL_law) (pc := 258) (tgt := 1318) dL_law_258 (by decide) ?_
      exact am_forget 5 (am_forget 6 (kk9 _ _ _ hI2))
    · obtain ⟨e9, eb9⟩ := hZ9 c243
      refine am_aload_n (I := iL_law) (pc := 246) dL_law_246 rfl rfl ?_
      refine am_iconst (I := iL_law) (pc := 247) (x := 0) dL_law_247 (by decide) ?_
      refine am_laload (I := iL_law) (pc := 248) dL_law_248 h452 rfl (vp_in_nI (show 0 < 1 by decide) (by decide)) ?_
      refine am_same (st' := [.long r9.toInt64]) rfl rfl (by rw [show (0 : Int32).toNatClampNeg = 0 from rfl, e9]) rfl rfl rfl ?_
      refine am_iload (I := iL_law) (pc := 249) dL_law_249 rfl ?_
      refine am_i2l (I := iL_law) (pc := 251) dL_law_251 ?_
      refine am_lcmp (I := iL_law) (pc := 252) dL_law_252 ?_
      refine am_if_eq (I := iL_law) (pc := 253) (tgt := 258) dL_law_253 (by decide) (fun c253 => ?_) (fun c253 => ?_)
      · refine am_goto (I := iL_law) (pc := 258) (tgt := 1318) dL_law_258 (by decide) ?_
        exact am_forget 5 (am_forget 6 (kk9 _ _ _ hI2))
      · exact absurd (cmp_self _) c253
  · exact absurd rfl c236
set_option maxRecDepth 100000 in
set_option maxHeartbeats 4000000 in
theorem law_c3 {i9 cells slots : Nat} {th : Int32} {o : Nat → Int64} (hsc : law_sc K s S0 ad0 b9 L9 xs9) (hI : Inv th o S) (hi9 : i9 + 5 ≤ L9) (hce : cells + 2 ≤ room_1.cells) (hsl : slots + 82 ≤ room_1.slots) (kk9 : ∀ (S' : am_S) (th' : Int32) (o' : Nat → Int64), Inv th' o' S' → am_W K iL_law p l e room_1 s m args below meth c S0 ad0 Q 1318 [some (.ref 0), some (.ref 1), some (.ref 25), some (.ref 45), some (.int (nI i9)), none, none] [] S' (cells + 2) (slots + 82)) : am_W K iL_law p l e room_1 s m args below meth c S0 ad0 Q 261 [some (.ref 0), some (.ref 1), some (.ref 25), some (.ref 45), some (.int (nI i9)), none, none] [] S cells slots := by
  refine am_aload_n (I := iL_law) (pc := 261) dL_law_261 rfl rfl ?_
  refine am_aload_n (I := iL_law) (pc := 262) dL_law_262 rfl rfl ?_
  refine am_iload (I := iL_law) (pc := 263) dL_law_263 rfl ?_
  refine am_iconst (I := iL_law) (pc := 265) (x := 1) dL_law_265 (by decide) ?_
  refine am_iadd (I := iL_law) (pc := 266) dL_law_266 ?_
  refine am_sld (I := iL_law) (pc := 267) (j := i9 + 1) hsc (nI_add i9 1) (by omega) dL_law_267 ?_
  refine am_aload_n (I := iL_law) (pc := 268) dL_law_268 rfl rfl ?_
  refine am_iload (I := iL_law) (pc := 269) dL_law_269 rfl ?_
  refine am_iconst (I := iL_law) (pc := 271) (x := 2) dL_law_271 (by decide) ?_
  refine am_iadd (I := iL_law) (pc := 272) dL_law_272 ?_
  refine am_sld (I := iL_law) (pc := 273) (j := i9 + 2) hsc (nI_add i9 2) (by omega) dL_law_273 ?_
  refine am_aload_n (I := iL_law) (pc := 274) dL_law_274 rfl rfl ?_
  refine am_free (fun hf9 => ?_)
  obtain ⟨k9, r9, o9, P9, hW9, hM9, hZ9⟩ := st_falls (K := K) (l := l) hI (xs9 (i9 + 1)) (xs9 (i9 + 2))
  refine am_callSH (I := iL_law) (pc := 275) (st := []) lv_L_95 rfl hW9 dL_law_275 rfl (Nat.le_of_ble_eq_true rfl) ⟨Nat.le_of_ble_eq_true rfl, Nat.le_of_ble_eq_true rfl⟩ hce hsl rfl (fun v9 S1 z9 _ => ?_) (fun _ _ h9 => h9.elim)
  obtain ⟨rfl, hP9⟩ := z9
  obtain ⟨S2, hC9, hI2, fs9, h25⟩ := hM9 S1 hP9
  show am_W _ _ _ _ _ _ _ _ _ _ _ _ _ _ _ 278 [some (.ref 0), some (.ref 1), some (.ref 25), some (.ref 45), some (.int (nI i9)), none, none] [.int k9] S1 (cells + 2) (slots + 82)
  refine am_istore (I := iL_law) (pc := 278) (L' := [some (.ref 0), some (.ref 1), some (.ref 25), some (.ref 45), some (.int (nI i9)), some (.int k9), none]) dL_law_278 (by decide) rfl ?_
  refine am_aload_n (I := iL_law) (pc := 280) dL_law_280 rfl rfl ?_
  refine am_aload_n (I := iL_law) (pc := 281) dL_law_281 rfl rfl ?_
  refine am_iload (I := iL_law) (pc := 282) dL_law_282 rfl ?_
  refine am_iconst (I := iL_law) (pc := 284) (x := 1) dL_law_284 (by decide) ?_
  refine am_iadd (I := iL_law) (pc := 285) dL_law_285 ?_
  refine am_sld (I := iL_law) (pc := 286) (j := i9 + 1) hsc (nI_add i9 1) (by omega) dL_law_286 ?_
  refine am_aload_n (I := iL_law) (pc := 287) dL_law_287 rfl rfl ?_
  refine am_iload (I := iL_law) (pc := 288) dL_law_288 rfl ?_
  refine am_iconst (I := iL_law) (pc := 290) (x := 2) dL_law_290 (by decide) ?_
  refine am_iadd (I := iL_law) (pc := 291) dL_law_291 ?_
  refine am_sld (I := iL_law) (pc := 292) (j := i9 + 2) hsc (nI_add i9 2) (by omega) dL_law_292 ?_
  refine am_callV (I := iL_law) (pc := 293) (st := []) lv_L_97 hC9 dL_law_293 h25 rfl (Nat.le_of_ble_eq_true rfl) ⟨Nat.le_of_ble_eq_true rfl, Nat.le_of_ble_eq_true rfl⟩ hce hsl rfl (fun v9 S3 z9 _ => ?_) (fun _ _ h9 => h9.elim)
  obtain ⟨rfl, rfl⟩ := z9
  obtain ⟨fs2, h252⟩ := Inv_25 hI2
  have h452 := Inv_45 hI2
  show am_W _ _ _ _ _ _ _ _ _ _ _ _ _ _ _ 296 [some (.ref 0), some (.ref 1), some (.ref 25), some (.ref 45), some (.int (nI i9)), some (.int k9), none] [.int r9] S2 (cells + 2) (slots + 82)
  refine am_istore (I := iL_law) (pc := 296) (L' := [some (.ref 0), some (.ref 1), some (.ref 25), some (.ref 45), some (.int (nI i9)), some (.int k9), some (.int r9)]) dL_law_296 (by decide) rfl ?_
  refine am_aload_n (I := iL_law) (pc := 298) dL_law_298 rfl rfl ?_
  refine am_callV (I := iL_law) (pc := 299) (st := []) lv_L_84 (Inv_thr hI2) dL_law_299 h252 rfl (Nat.le_of_ble_eq_true rfl) ⟨Nat.le_of_ble_eq_true rfl, Nat.le_of_ble_eq_true rfl⟩ hce hsl rfl (fun v9 S3 z9 _ => ?_) (fun _ _ h9 => h9.elim)
  obtain ⟨rfl, rfl⟩ := z9
  show am_W _ _ _ _ _ _ _ _ _ _ _ _ _ _ _ 302 [some (.ref 0), some (.ref 1), some (.ref 25), some (.ref 45), some (.int (nI i9)), some (.int k9), some (.int r9)] [.int k9] S2 (cells + 2) (slots + 82)
  refine am_iload (I := iL_law) (pc := 302) dL_law_302 rfl ?_
  refine am_icmp_eq (I := iL_law) (pc := 304) (tgt := 309) dL_law_304 (by decide) (fun c304 => ?_) (fun c304 => ?_)
  · refine am_iload (I := iL_law) (pc := 309) dL_law_309 rfl ?_
    refine am_if_ne (I := iL_law) (pc := 311) (tgt := 333) dL_law_311 (by decide) (fun c311 => ?_) (fun c311 => ?_)
    · refine am_goto (I := iL_law) (pc := 333) (tgt := 1318) dL_law_333 (by decide) ?_
      exact am_forget 5 (am_forget 6 (kk9 _ _ _ hI2))
    · obtain ⟨e9, eb9⟩ := hZ9 c311
      refine am_aload_n (I := iL_law) (pc := 314) dL_law_314 rfl rfl ?_
      refine am_iconst (I := iL_law) (pc := 315) (x := 0) dL_law_315 (by decide) ?_
      refine am_laload (I := iL_law) (pc := 316) dL_law_316 h452 rfl (vp_in_nI (show 0 < 1 by decide) (by decide)) ?_
      refine am_same (st' := [.long r9.toInt64]) rfl rfl (by rw [show (0 : Int32).toNatClampNeg = 0 from rfl, e9]) rfl rfl rfl ?_
      refine am_iload (I := iL_law) (pc := 317) dL_law_317 rfl ?_
      refine am_if_eq (I := iL_law) (pc := 319) (tgt := 326) dL_law_319 (by decide) (fun c319 => ?_) (fun c319 => ?_)
      · refine am_lconst (I := iL_law) (pc := 326) (x := 0) dL_law_326 (by decide) ?_
        refine am_lcmp (I := iL_law) (pc := 327) dL_law_327 ?_
        refine am_if_eq (I := iL_law) (pc := 328) (tgt := 333) dL_law_328 (by decide) (fun c328 => ?_) (fun c328 => ?_)
        · refine am_goto (I := iL_law) (pc := 333) (tgt := 1318) dL_law_333 (by decide) ?_
          exact am_forget 5 (am_forget 6 (kk9 _ _ _ hI2))
        · exact absurd (by rw [c319]; decide) c328
      · refine am_lconst (I := iL_law) (pc := 322) (x := 1) dL_law_322 (by decide) ?_
        refine am_goto (I := iL_law) (pc := 323) (tgt := 327) dL_law_323 (by decide) ?_
        refine am_lcmp (I := iL_law) (pc := 327) dL_law_327 ?_
        refine am_if_eq (I := iL_law) (pc := 328) (tgt := 333) dL_law_328 (by decide) (fun c328 => ?_) (fun c328 => ?_)
        · refine am_goto (I := iL_law) (pc := 333) (tgt := 1318) dL_law_333 (by decide) ?_
          exact am_forget 5 (am_forget 6 (kk9 _ _ _ hI2))
        · exact absurd (by rw [(eb9 rfl).resolve_left c319]; decide) c328
  · exact absurd rfl c304
set_option maxRecDepth 100000 in
set_option maxHeartbeats 4000000 in
theorem law_c4 {i9 cells slots : Nat} {th : Int32} {o : Nat → Int64} (hsc : law_sc K s S0 ad0 b9 L9 xs9) (hI : Inv th o S) (hi9 : i9 + 5 ≤ L9) (hce : cells + 2 ≤ room_1.cells) (hsl : slots + 82 ≤ room_1.slots) (kk9 : ∀ (S' : am_S) (th' : Int32) (o' : Nat → Int64), Inv th' o' S' → am_W K iL_law p l e room_1 s m args below meth c S0 ad0 Q 1318 [some (.ref 0), some (.ref 1), some (.ref 25), some (.ref 45), some (.int (nI i9)), none, none] [] S' (cells + 2) (slots + 82)) : am_W K iL_law p l e room_1 s m args below meth c S0 ad0 Q 336 [some (.ref 0), some (.ref 1), some (.ref 25), some (.ref 45), some (.int (nI i9)), none, none] [] S cells slots := by
  refine am_aload_n (I := iL_law) (pc := 336) dL_law_336 rfl rfl ?_
  refine am_aload_n (I := iL_law) (pc := 337) dL_law_337 rfl rfl ?_
  refine am_iload (I := iL_law) (pc := 338) dL_law_338 rfl ?_
  refine am_iconst (I := iL_law) (pc := 340) (x := 1) dL_law_340 (by decide) ?_
  refine am_iadd (I := iL_law) (pc := 341) dL_law_341 ?_
  refine am_sld (I := iL_law) (pc := 342) (j := i9 + 1) hsc (nI_add i9 1) (by omega) dL_law_342 ?_
  refine am_aload_n (I := iL_law) (pc := 343) dL_law_343 rfl rfl ?_
  refine am_iload (I := iL_law) (pc := 344) dL_law_344 rfl ?_
  refine am_iconst (I := iL_law) (pc := 346) (x := 2) dL_law_346 (by decide) ?_
  refine am_iadd (I := iL_law) (pc := 347) dL_law_347 ?_
  refine am_sld (I := iL_law) (pc := 348) (j := i9 + 2) hsc (nI_add i9 2) (by omega) dL_law_348 ?_
  refine am_aload_n (I := iL_law) (pc := 349) dL_law_349 rfl rfl ?_
  refine am_free (fun hf9 => ?_)
  obtain ⟨k9, r9, o9, P9, hW9, hM9, hZ9⟩ := st_shown (K := K) (l := l) hI (xs9 (i9 + 1)) (xs9 (i9 + 2))
  refine am_callSH (I := iL_law) (pc := 350) (st := []) lv_L_98 rfl hW9 dL_law_350 rfl (Nat.le_of_ble_eq_true rfl) ⟨Nat.le_of_ble_eq_true rfl, Nat.le_of_ble_eq_true rfl⟩ hce hsl rfl (fun v9 S1 z9 _ => ?_) (fun _ _ h9 => h9.elim)
  obtain ⟨rfl, hP9⟩ := z9
  obtain ⟨S2, hC9, hI2, fs9, h25⟩ := hM9 S1 hP9
  show am_W _ _ _ _ _ _ _ _ _ _ _ _ _ _ _ 353 [some (.ref 0), some (.ref 1), some (.ref 25), some (.ref 45), some (.int (nI i9)), none, none] [.int k9] S1 (cells + 2) (slots + 82)
  refine am_istore (I := iL_law) (pc := 353) (L' := [some (.ref 0), some (.ref 1), some (.ref 25), some (.ref 45), some (.int (nI i9)), some (.int k9), none]) dL_law_353 (by decide) rfl ?_
  refine am_aload_n (I := iL_law) (pc := 355) dL_law_355 rfl rfl ?_
  refine am_aload_n (I := iL_law) (pc := 356) dL_law_356 rfl rfl ?_
  refine am_iload (I := iL_law) (pc := 357) dL_law_357 rfl ?_
  refine am_iconst (I := iL_law) (pc := 359) (x := 1) dL_law_359 (by decide) ?_
  refine am_iadd (I := iL_law) (pc := 360) dL_law_360 ?_
  refine am_sld (I := iL_law) (pc := 361) (j := i9 + 1) hsc (nI_add i9 1) (by omega) dL_law_361 ?_
  refine am_aload_n (I := iL_law) (pc := 362) dL_law_362 rfl rfl ?_
  refine am_iload (I := iL_law) (pc := 363) dL_law_363 rfl ?_
  refine am_iconst (I := iL_law) (pc := 365) (x := 2) dL_law_365 (by decide) ?_
  refine am_iadd (I := iL_law) (pc := 366) dL_law_366 ?_
  refine am_sld (I := iL_law) (pc := 367) (j := i9 + 2) hsc (nI_add i9 2) (by omega) dL_law_367 ?_
  refine am_callV (I := iL_law) (pc := 368) (st := []) lv_L_100 hC9 dL_law_368 h25 rfl (Nat.le_of_ble_eq_true rfl) ⟨Nat.le_of_ble_eq_true rfl, Nat.le_of_ble_eq_true rfl⟩ hce hsl rfl (fun v9 S3 z9 _ => ?_) (fun _ _ h9 => h9.elim)
  obtain ⟨rfl, rfl⟩ := z9
  obtain ⟨fs2, h252⟩ := Inv_25 hI2
  have h452 := Inv_45 hI2
  show am_W _ _ _ _ _ _ _ _ _ _ _ _ _ _ _ 371 [some (.ref 0), some (.ref 1), some (.ref 25), some (.ref 45), some (.int (nI i9)), some (.int k9), none] [.int r9] S2 (cells + 2) (slots + 82)
  refine am_istore (I := iL_law) (pc := 371) (L' := [some (.ref 0), some (.ref 1), some (.ref 25), some (.ref 45), some (.int (nI i9)), some (.int k9), some (.int r9)]) dL_law_371 (by decide) rfl ?_
  refine am_aload_n (I := iL_law) (pc := 373) dL_law_373 rfl rfl ?_
  refine am_callV (I := iL_law) (pc := 374) (st := []) lv_L_84 (Inv_thr hI2) dL_law_374 h252 rfl (Nat.le_of_ble_eq_true rfl) ⟨Nat.le_of_ble_eq_true rfl, Nat.le_of_ble_eq_true rfl⟩ hce hsl rfl (fun v9 S3 z9 _ => ?_) (fun _ _ h9 => h9.elim)
  obtain ⟨rfl, rfl⟩ := z9
  show am_W _ _ _ _ _ _ _ _ _ _ _ _ _ _ _ 377 [some (.ref 0), some (.ref 1), some (.ref 25), some (.ref 45), some (.int (nI i9)), some (.int k9), some (.int r9)] [.int k9] S2 (cells + 2) (slots + 82)
  refine am_iload (I := iL_law) (pc := 377) dL_law_377 rfl ?_
  refine am_icmp_eq (I := iL_law) (pc := 379) (tgt := 384) dL_law_379 (by decide) (fun c379 => ?_) (fun c379 => ?_)
  · refine am_iload (I := iL_law) (pc := 384) dL_law_384 rfl ?_
    refine am_if_ne (I := iL_law) (pc := 386) (tgt := 401) dL_law_386 (by decide) (fun c386 => ?_) (fun c386 => ?_)
    · refine am_goto (I := iL_law) (pc := 401) (tgt := 1318) dL_law_401 (by decide) ?_
      exact am_forget 5 (am_forget 6 (kk9 _ _ _ hI2))
    · obtain ⟨e9, eb9⟩ := hZ9 c386
      refine am_aload_n (I := iL_law) (pc := 389) dL_law_389 rfl rfl ?_
      refine am_iconst (I := iL_law) (pc := 390) (x := 0) dL_law_390 (by decide) ?_
      refine am_laload (I := iL_law) (pc := 391) dL_law_391 h452 rfl (vp_in_nI (show 0 < 1 by decide) (by decide)) ?_
      refine am_same (st' := [.long r9.toInt64]) rfl rfl (by rw [show (0 : Int32).toNatClampNeg = 0 from rfl, e9]) rfl rfl rfl ?_
      refine am_iload (I := iL_law) (pc := 392) dL_law_392 rfl ?_
      refine am_i2l (I := iL_law) (pc := 394) dL_law_394 ?_
      refine am_lcmp (I := iL_law) (pc := 395) dL_law_395 ?_
      refine am_if_eq (I := iL_law) (pc := 396) (tgt := 401) dL_law_396 (by decide) (fun c396 => ?_) (fun c396 => ?_)
      · refine am_goto (I := iL_law) (pc := 401) (tgt := 1318) dL_law_401 (by decide) ?_
        exact am_forget 5 (am_forget 6 (kk9 _ _ _ hI2))
      · exact absurd (cmp_self _) c396
  · exact absurd rfl c379
set_option maxRecDepth 100000 in
set_option maxHeartbeats 4000000 in
theorem law_c5 {i9 cells slots : Nat} {th : Int32} {o : Nat → Int64} (hsc : law_sc K s S0 ad0 b9 L9 xs9) (hI : Inv th o S) (hi9 : i9 + 5 ≤ L9) (hce : cells + 2 ≤ room_1.cells) (hsl : slots + 82 ≤ room_1.slots) (kk9 : ∀ (S' : am_S) (th' : Int32) (o' : Nat → Int64), Inv th' o' S' → am_W K iL_law p l e room_1 s m args below meth c S0 ad0 Q 1318 [some (.ref 0), some (.ref 1), some (.ref 25), some (.ref 45), some (.int (nI i9)), none, none] [] S' (cells + 2) (slots + 82)) : am_W K iL_law p l e room_1 s m args below meth c S0 ad0 Q 404 [some (.ref 0), some (.ref 1), some (.ref 25), some (.ref 45), some (.int (nI i9)), none, none] [] S cells slots := by
  refine am_aload_n (I := iL_law) (pc := 404) dL_law_404 rfl rfl ?_
  refine am_aload_n (I := iL_law) (pc := 405) dL_law_405 rfl rfl ?_
  refine am_iload (I := iL_law) (pc := 406) dL_law_406 rfl ?_
  refine am_iconst (I := iL_law) (pc := 408) (x := 1) dL_law_408 (by decide) ?_
  refine am_iadd (I := iL_law) (pc := 409) dL_law_409 ?_
  refine am_sld (I := iL_law) (pc := 410) (j := i9 + 1) hsc (nI_add i9 1) (by omega) dL_law_410 ?_
  refine am_aload_n (I := iL_law) (pc := 411) dL_law_411 rfl rfl ?_
  refine am_iload (I := iL_law) (pc := 412) dL_law_412 rfl ?_
  refine am_iconst (I := iL_law) (pc := 414) (x := 2) dL_law_414 (by decide) ?_
  refine am_iadd (I := iL_law) (pc := 415) dL_law_415 ?_
  refine am_sld (I := iL_law) (pc := 416) (j := i9 + 2) hsc (nI_add i9 2) (by omega) dL_law_416 ?_
  refine am_aload_n (I := iL_law) (pc := 417) dL_law_417 rfl rfl ?_
  refine am_iload (I := iL_law) (pc := 418) dL_law_418 rfl ?_
  refine am_iconst (I := iL_law) (pc := 420) (x := 3) dL_law_420 (by decide) ?_
  refine am_iadd (I := iL_law) (pc := 421) dL_law_421 ?_
  refine am_sld (I := iL_law) (pc := 422) (j := i9 + 3) hsc (nI_add i9 3) (by omega) dL_law_422 ?_
  refine am_aload_n (I := iL_law) (pc := 423) dL_law_423 rfl rfl ?_
  refine am_iload (I := iL_law) (pc := 424) dL_law_424 rfl ?_
  refine am_iconst (I := iL_law) (pc := 426) (x := 4) dL_law_426 (by decide) ?_
  refine am_iadd (I := iL_law) (pc := 427) dL_law_427 ?_
  refine am_sld (I := iL_law) (pc := 428) (j := i9 + 4) hsc (nI_add i9 4) (by omega) dL_law_428 ?_
  refine am_aload_n (I := iL_law) (pc := 429) dL_law_429 rfl rfl ?_
  refine am_free (fun hf9 => ?_)
  obtain ⟨k9, r9, o9, P9, hW9, hM9, hZ9⟩ := st_sign (K := K) (l := l) hI (xs9 (i9 + 1)) (xs9 (i9 + 2)) (xs9 (i9 + 3)) (xs9 (i9 + 4))
  refine am_callSH (I := iL_law) (pc := 430) (st := []) lv_L_101 rfl hW9 dL_law_430 rfl (Nat.le_of_ble_eq_true rfl) ⟨Nat.le_of_ble_eq_true rfl, Nat.le_of_ble_eq_true rfl⟩ hce hsl rfl (fun v9 S1 z9 _ => ?_) (fun _ _ h9 => h9.elim)
  obtain ⟨rfl, hP9⟩ := z9
  obtain ⟨S2, hC9, hI2, fs9, h25⟩ := hM9 S1 hP9
  show am_W _ _ _ _ _ _ _ _ _ _ _ _ _ _ _ 433 [some (.ref 0), some (.ref 1), some (.ref 25), some (.ref 45), some (.int (nI i9)), none, none] [.int k9] S1 (cells + 2) (slots + 82)
  refine am_istore (I := iL_law) (pc := 433) (L' := [some (.ref 0), some (.ref 1), some (.ref 25), some (.ref 45), some (.int (nI i9)), some (.int k9), none]) dL_law_433 (by decide) rfl ?_
  refine am_aload_n (I := iL_law) (pc := 435) dL_law_435 rfl rfl ?_
  refine am_aload_n (I := iL_law) (pc := 436) dL_law_436 rfl rfl ?_
  refine am_iload (I := iL_law) (pc := 437) dL_law_437 rfl ?_
  refine am_iconst (I := iL_law) (pc := 439) (x := 1) dL_law_439 (by decide) ?_
  refine am_iadd (I := iL_law) (pc := 440) dL_law_440 ?_
  refine am_sld (I := iL_law) (pc := 441) (j := i9 + 1) hsc (nI_add i9 1) (by omega) dL_law_441 ?_
  refine am_aload_n (I := iL_law) (pc := 442) dL_law_442 rfl rfl ?_
  refine am_iload (I := iL_law) (pc := 443) dL_law_443 rfl ?_
  refine am_iconst (I := iL_law) (pc := 445) (x := 2) dL_law_445 (by decide) ?_
  refine am_iadd (I := iL_law) (pc := 446) dL_law_446 ?_
  refine am_sld (I := iL_law) (pc := 447) (j := i9 + 2) hsc (nI_add i9 2) (by omega) dL_law_447 ?_
  refine am_aload_n (I := iL_law) (pc := 448) dL_law_448 rfl rfl ?_
  refine am_iload (I := iL_law) (pc := 449) dL_law_449 rfl ?_
  refine am_iconst (I := iL_law) (pc := 451) (x := 3) dL_law_451 (by decide) ?_
  refine am_iadd (I := iL_law) (pc := 452) dL_law_452 ?_
  refine am_sld (I := iL_law) (pc := 453) (j := i9 + 3) hsc (nI_add i9 3) (by omega) dL_law_453 ?_
  refine am_aload_n (I := iL_law) (pc := 454) dL_law_454 rfl rfl ?_
  refine am_iload (I := iL_law) (pc := 455) dL_law_455 rfl ?_
  refine am_iconst (I := iL_law) (pc := 457) (x := 4) dL_law_457 (by decide) ?_
  refine am_iadd (I := iL_law) (pc := 458) dL_law_458 ?_
  refine am_sld (I := iL_law) (pc := 459) (j := i9 + 4) hsc (nI_add i9 4) (by omega) dL_law_459 ?_
  refine am_callV (I := iL_law) (pc := 460) (st := []) lv_L_104 hC9 dL_law_460 h25 rfl (Nat.le_of_ble_eq_true rfl) ⟨Nat.le_of_ble_eq_true rfl, Nat.le_of_ble_eq_true rfl⟩ hce hsl rfl (fun v9 S3 z9 _ => ?_) (fun _ _ h9 => h9.elim)
  obtain ⟨rfl, rfl⟩ := z9
  obtain ⟨fs2, h252⟩ := Inv_25 hI2
  have h452 := Inv_45 hI2
  show am_W _ _ _ _ _ _ _ _ _ _ _ _ _ _ _ 463 [some (.ref 0), some (.ref 1), some (.ref 25), some (.ref 45), some (.int (nI i9)), some (.int k9), none] [.int r9] S2 (cells + 2) (slots + 82)
  refine am_istore (I := iL_law) (pc := 463) (L' := [some (.ref 0), some (.ref 1), some (.ref 25), some (.ref 45), some (.int (nI i9)), some (.int k9), some (.int r9)]) dL_law_463 (by decide) rfl ?_
  refine am_aload_n (I := iL_law) (pc := 465) dL_law_465 rfl rfl ?_
  refine am_callV (I := iL_law) (pc := 466) (st := []) lv_L_84 (Inv_thr hI2) dL_law_466 h252 rfl (Nat.le_of_ble_eq_true rfl) ⟨Nat.le_of_ble_eq_true rfl, Nat.le_of_ble_eq_true rfl⟩ hce hsl rfl (fun v9 S3 z9 _ => ?_) (fun _ _ h9 => h9.elim)
  obtain ⟨rfl, rfl⟩ := z9
  show am_W _ _ _ _ _ _ _ _ _ _ _ _ _ _ _ 469 [some (.ref 0), some (.ref 1), some (.ref 25), some (.ref 45), some (.int (nI i9)), some (.int k9), some (.int r9)] [.int k9] S2 (cells + 2) (slots + 82)
  refine am_iload (I := iL_law) (pc := 469) dL_law_469 rfl ?_
  refine am_icmp_eq (I := iL_law) (pc := 471) (tgt := 476) dL_law_471 (by decide) (fun c471 => ?_) (fun c471 => ?_)
  · refine am_iload (I := iL_law) (pc := 476) dL_law_476 rfl ?_
    refine am_if_ne (I := iL_law) (pc := 478) (tgt := 493) dL_law_478 (by decide) (fun c478 => ?_) (fun c478 => ?_)
    · refine am_goto (I := iL_law) (pc := 493) (tgt := 1318) dL_law_493 (by decide) ?_
      exact am_forget 5 (am_forget 6 (kk9 _ _ _ hI2))
    · obtain ⟨e9, eb9⟩ := hZ9 c478
      refine am_aload_n (I := iL_law) (pc := 481) dL_law_481 rfl rfl ?_
      refine am_iconst (I := iL_law) (pc := 482) (x := 0) dL_law_482 (by decide) ?_
      refine am_laload (I := iL_law) (pc := 483) dL_law_483 h452 rfl (vp_in_nI (show 0 < 1 by decide) (by decide)) ?_
      refine am_same (st' := [.long r9.toInt64]) rfl rfl (by rw [show (0 : Int32).toNatClampNeg = 0 from rfl, e9]) rfl rfl rfl ?_
      refine am_iload (I := iL_law) (pc := 484) dL_law_484 rfl ?_
      refine am_i2l (I := iL_law) (pc := 486) dL_law_486 ?_
      refine am_lcmp (I := iL_law) (pc := 487) dL_law_487 ?_
      refine am_if_eq (I := iL_law) (pc := 488) (tgt := 493) dL_law_488 (by decide) (fun c488 => ?_) (fun c488 => ?_)
      · refine am_goto (I := iL_law) (pc := 493) (tgt := 1318) dL_law_493 (by decide) ?_
        exact am_forget 5 (am_forget 6 (kk9 _ _ _ hI2))
      · exact absurd (cmp_self _) c488
  · exact absurd rfl c471
set_option maxRecDepth 100000 in
set_option maxHeartbeats 4000000 in
theorem law_c6 {i9 cells slots : Nat} {th : Int32} {o : Nat → Int64} (hsc : law_sc K s S0 ad0 b9 L9 xs9) (hI : Inv th o S) (hi9 : i9 + 5 ≤ L9) (hce : cells + 2 ≤ room_1.cells) (hsl : slots + 82 ≤ room_1.slots) (kk9 : ∀ (S' : am_S) (th' : Int32) (o' : Nat → Int64), Inv th' o' S' → am_W K iL_law p l e room_1 s m args below meth c S0 ad0 Q 1318 [some (.ref 0), some (.ref 1), some (.ref 25), some (.ref 45), some (.int (nI i9)), none, none] [] S' (cells + 2) (slots + 82)) : am_W K iL_law p l e room_1 s m args below meth c S0 ad0 Q 496 [some (.ref 0), some (.ref 1), some (.ref 25), some (.ref 45), some (.int (nI i9)), none, none] [] S cells slots := by
  refine am_aload_n (I := iL_law) (pc := 496) dL_law_496 rfl rfl ?_
  refine am_aload_n (I := iL_law) (pc := 497) dL_law_497 rfl rfl ?_
  refine am_iload (I := iL_law) (pc := 498) dL_law_498 rfl ?_
  refine am_iconst (I := iL_law) (pc := 500) (x := 1) dL_law_500 (by decide) ?_
  refine am_iadd (I := iL_law) (pc := 501) dL_law_501 ?_
  refine am_sld (I := iL_law) (pc := 502) (j := i9 + 1) hsc (nI_add i9 1) (by omega) dL_law_502 ?_
  refine am_aload_n (I := iL_law) (pc := 503) dL_law_503 rfl rfl ?_
  refine am_iload (I := iL_law) (pc := 504) dL_law_504 rfl ?_
  refine am_iconst (I := iL_law) (pc := 506) (x := 2) dL_law_506 (by decide) ?_
  refine am_iadd (I := iL_law) (pc := 507) dL_law_507 ?_
  refine am_sld (I := iL_law) (pc := 508) (j := i9 + 2) hsc (nI_add i9 2) (by omega) dL_law_508 ?_
  refine am_aload_n (I := iL_law) (pc := 509) dL_law_509 rfl rfl ?_
  refine am_iload (I := iL_law) (pc := 510) dL_law_510 rfl ?_
  refine am_iconst (I := iL_law) (pc := 512) (x := 3) dL_law_512 (by decide) ?_
  refine am_iadd (I := iL_law) (pc := 513) dL_law_513 ?_
  refine am_sld (I := iL_law) (pc := 514) (j := i9 + 3) hsc (nI_add i9 3) (by omega) dL_law_514 ?_
  refine am_aload_n (I := iL_law) (pc := 515) dL_law_515 rfl rfl ?_
  refine am_free (fun hf9 => ?_)
  obtain ⟨k9, r9, o9, P9, hW9, hM9, hZ9⟩ := st_lines (K := K) (l := l) hI (xs9 (i9 + 1)) (xs9 (i9 + 2)) (xs9 (i9 + 3))
  refine am_callSH (I := iL_law) (pc := 516) (st := []) lv_L_105 rfl hW9 dL_law_516 rfl (Nat.le_of_ble_eq_true rfl) ⟨Nat.le_of_ble_eq_true rfl, Nat.le_of_ble_eq_true rfl⟩ hce hsl rfl (fun v9 S1 z9 _ => ?_) (fun _ _ h9 => h9.elim)
  obtain ⟨rfl, hP9⟩ := z9
  obtain ⟨S2, hC9, hI2, fs9, h25⟩ := hM9 S1 hP9
  show am_W _ _ _ _ _ _ _ _ _ _ _ _ _ _ _ 519 [some (.ref 0), some (.ref 1), some (.ref 25), some (.ref 45), some (.int (nI i9)), none, none] [.int k9] S1 (cells + 2) (slots + 82)
  refine am_istore (I := iL_law) (pc := 519) (L' := [some (.ref 0), some (.ref 1), some (.ref 25), some (.ref 45), some (.int (nI i9)), some (.int k9), none]) dL_law_519 (by decide) rfl ?_
  refine am_aload_n (I := iL_law) (pc := 521) dL_law_521 rfl rfl ?_
  refine am_aload_n (I := iL_law) (pc := 522) dL_law_522 rfl rfl ?_
  refine am_iload (I := iL_law) (pc := 523) dL_law_523 rfl ?_
  refine am_iconst (I := iL_law) (pc := 525) (x := 1) dL_law_525 (by decide) ?_
  refine am_iadd (I := iL_law) (pc := 526) dL_law_526 ?_
  refine am_sld (I := iL_law) (pc := 527) (j := i9 + 1) hsc (nI_add i9 1) (by omega) dL_law_527 ?_
  refine am_aload_n (I := iL_law) (pc := 528) dL_law_528 rfl rfl ?_
  refine am_iload (I := iL_law) (pc := 529) dL_law_529 rfl ?_
  refine am_iconst (I := iL_law) (pc := 531) (x := 2) dL_law_531 (by decide) ?_
  refine am_iadd (I := iL_law) (pc := 532) dL_law_532 ?_
  refine am_sld (I := iL_law) (pc := 533) (j := i9 + 2) hsc (nI_add i9 2) (by omega) dL_law_533 ?_
  refine am_aload_n (I := iL_law) (pc := 534) dL_law_534 rfl rfl ?_
  refine am_iload (I := iL_law) (pc := 535) dL_law_535 rfl ?_
  refine am_iconst (I := iL_law) (pc := 537) (x := 3) dL_law_537 (by decide) ?_
  refine am_iadd (I := iL_law) (pc := 538) dL_law_538 ?_
  refine am_sld (I := iL_law) (pc := 539) (j := i9 + 3) hsc (nI_add i9 3) (by omega) dL_law_539 ?_
  refine am_callV (I := iL_law) (pc := 540) (st := []) lv_L_108 hC9 dL_law_540 h25 rfl (Nat.le_of_ble_eq_true rfl) ⟨Nat.le_of_ble_eq_true rfl, Nat.le_of_ble_eq_true rfl⟩ hce hsl rfl (fun v9 S3 z9 _ => ?_) (fun _ _ h9 => h9.elim)
  obtain ⟨rfl, rfl⟩ := z9
  obtain ⟨fs2, h252⟩ := Inv_25 hI2
  have h452 := Inv_45 hI2
  show am_W _ _ _ _ _ _ _ _ _ _ _ _ _ _ _ 543 [some (.ref 0), some (.ref 1), some (.ref 25), some (.ref 45), some (.int (nI i9)), some (.int k9), none] [.int r9] S2 (cells + 2) (slots + 82)
  refine am_istore (I := iL_law) (pc := 543) (L' := [some (.ref 0), some (.ref 1), some (.ref 25), some (.ref 45), some (.int (nI i9)), some (.int k9), some (.int r9)]) dL_law_543 (by decide) rfl ?_
  refine am_aload_n (I := iL_law) (pc := 545) dL_law_545 rfl rfl ?_
  refine am_callV (I := iL_law) (pc := 546) (st := []) lv_L_84 (Inv_thr hI2) dL_law_546 h252 rfl (Nat.le_of_ble_eq_true rfl) ⟨Nat.le_of_ble_eq_true rfl, Nat.le_of_ble_eq_true rfl⟩ hce hsl rfl (fun v9 S3 z9 _ => ?_) (fun _ _ h9 => h9.elim)
  obtain ⟨rfl, rfl⟩ := z9
  show am_W _ _ _ _ _ _ _ _ _ _ _ _ _ _ _ 549 [some (.ref 0), some (.ref 1), some (.ref 25), some (.ref 45), some (.int (nI i9)), some (.int k9), some (.int r9)] [.int k9] S2 (cells + 2) (slots + 82)
  refine am_iload (I := iL_law) (pc := 549) dL_law_549 rfl ?_
  refine am_icmp_eq (I := iL_law) (pc := 551) (tgt := 556) dL_law_551 (by decide) (fun c551 => ?_) (fun c551 => ?_)
  · refine am_iload (I := iL_law) (pc := 556) dL_law_556 rfl ?_
    refine am_if_ne (I := iL_law) (pc := 558) (tgt := 573) dL_law_558 (by decide) (fun c558 => ?_) (fun c558 => ?_)
    · refine am_goto (I := iL_law) (pc := 573) (tgt := 1318) dL_law_573 (by decide) ?_
      exact am_forget 5 (am_forget 6 (kk9 _ _ _ hI2))
    · obtain ⟨e9, eb9⟩ := hZ9 c558
      refine am_aload_n (I := iL_law) (pc := 561) dL_law_561 rfl rfl ?_
      refine am_iconst (I := iL_law) (pc := 562) (x := 0) dL_law_562 (by decide) ?_
      refine am_laload (I := iL_law) (pc := 563) dL_law_563 h452 rfl (vp_in_nI (show 0 < 1 by decide) (by decide)) ?_
      refine am_same (st' := [.long r9.toInt64]) rfl rfl (by rw [show (0 : Int32).toNatClampNeg = 0 from rfl, e9]) rfl rfl rfl ?_
      refine am_iload (I := iL_law) (pc := 564) dL_law_564 rfl ?_
      refine am_i2l (I := iL_law) (pc := 566) dL_law_566 ?_
      refine am_lcmp (I := iL_law) (pc := 567) dL_law_567 ?_
      refine am_if_eq (I := iL_law) (pc := 568) (tgt := 573) dL_law_568 (by decide) (fun c568 => ?_) (fun c568 => ?_)
      · refine am_goto (I := iL_law) (pc := 573) (tgt := 1318) dL_law_573 (by decide) ?_
        exact am_forget 5 (am_forget 6 (kk9 _ _ _ hI2))
      · exact absurd (cmp_self _) c568
  · exact absurd rfl c551
set_option maxRecDepth 100000 in
set_option maxHeartbeats 4000000 in
theorem law_c7 {i9 cells slots : Nat} {th : Int32} {o : Nat → Int64} (hsc : law_sc K s S0 ad0 b9 L9 xs9) (hI : Inv th o S) (hi9 : i9 + 5 ≤ L9) (hce : cells + 2 ≤ room_1.cells) (hsl : slots + 82 ≤ room_1.slots) (kk9 : ∀ (S' : am_S) (th' : Int32) (o' : Nat → Int64), Inv th' o' S' → am_W K iL_law p l e room_1 s m args below meth c S0 ad0 Q 1318 [some (.ref 0), some (.ref 1), some (.ref 25), some (.ref 45), some (.int (nI i9)), none, none] [] S' (cells + 2) (slots + 82)) : am_W K iL_law p l e room_1 s m args below meth c S0 ad0 Q 576 [some (.ref 0), some (.ref 1), some (.ref 25), some (.ref 45), some (.int (nI i9)), none, none] [] S cells slots := by
  refine am_aload_n (I := iL_law) (pc := 576) dL_law_576 rfl rfl ?_
  refine am_aload_n (I := iL_law) (pc := 577) dL_law_577 rfl rfl ?_
  refine am_iload (I := iL_law) (pc := 578) dL_law_578 rfl ?_
  refine am_iconst (I := iL_law) (pc := 580) (x := 1) dL_law_580 (by decide) ?_
  refine am_iadd (I := iL_law) (pc := 581) dL_law_581 ?_
  refine am_sld (I := iL_law) (pc := 582) (j := i9 + 1) hsc (nI_add i9 1) (by omega) dL_law_582 ?_
  refine am_aload_n (I := iL_law) (pc := 583) dL_law_583 rfl rfl ?_
  refine am_iload (I := iL_law) (pc := 584) dL_law_584 rfl ?_
  refine am_iconst (I := iL_law) (pc := 586) (x := 2) dL_law_586 (by decide) ?_
  refine am_iadd (I := iL_law) (pc := 587) dL_law_587 ?_
  refine am_sld (I := iL_law) (pc := 588) (j := i9 + 2) hsc (nI_add i9 2) (by omega) dL_law_588 ?_
  refine am_aload_n (I := iL_law) (pc := 589) dL_law_589 rfl rfl ?_
  refine am_free (fun hf9 => ?_)
  obtain ⟨k9, r9, o9, P9, hW9, hM9, hZ9⟩ := st_line (K := K) (l := l) hI (xs9 (i9 + 1)) (xs9 (i9 + 2))
  refine am_callSH (I := iL_law) (pc := 590) (st := []) lv_L_109 rfl hW9 dL_law_590 rfl (Nat.le_of_ble_eq_true rfl) ⟨Nat.le_of_ble_eq_true rfl, Nat.le_of_ble_eq_true rfl⟩ hce hsl rfl (fun v9 S1 z9 _ => ?_) (fun _ _ h9 => h9.elim)
  obtain ⟨rfl, hP9⟩ := z9
  obtain ⟨S2, hC9, hI2, fs9, h25⟩ := hM9 S1 hP9
  show am_W _ _ _ _ _ _ _ _ _ _ _ _ _ _ _ 593 [some (.ref 0), some (.ref 1), some (.ref 25), some (.ref 45), some (.int (nI i9)), none, none] [.int k9] S1 (cells + 2) (slots + 82)
  refine am_istore (I := iL_law) (pc := 593) (L' := [some (.ref 0), some (.ref 1), some (.ref 25), some (.ref 45), some (.int (nI i9)), some (.int k9), none]) dL_law_593 (by decide) rfl ?_
  refine am_aload_n (I := iL_law) (pc := 595) dL_law_595 rfl rfl ?_
  refine am_aload_n (I := iL_law) (pc := 596) dL_law_596 rfl rfl ?_
  refine am_iload (I := iL_law) (pc := 597) dL_law_597 rfl ?_
  refine am_iconst (I := iL_law) (pc := 599) (x := 1) dL_law_599 (by decide) ?_
  refine am_iadd (I := iL_law) (pc := 600) dL_law_600 ?_
  refine am_sld (I := iL_law) (pc := 601) (j := i9 + 1) hsc (nI_add i9 1) (by omega) dL_law_601 ?_
  refine am_aload_n (I := iL_law) (pc := 602) dL_law_602 rfl rfl ?_
  refine am_iload (I := iL_law) (pc := 603) dL_law_603 rfl ?_
  refine am_iconst (I := iL_law) (pc := 605) (x := 2) dL_law_605 (by decide) ?_
  refine am_iadd (I := iL_law) (pc := 606) dL_law_606 ?_
  refine am_sld (I := iL_law) (pc := 607) (j := i9 + 2) hsc (nI_add i9 2) (by omega) dL_law_607 ?_
  refine am_callV (I := iL_law) (pc := 608) (st := []) lv_L_111 hC9 dL_law_608 h25 rfl (Nat.le_of_ble_eq_true rfl) ⟨Nat.le_of_ble_eq_true rfl, Nat.le_of_ble_eq_true rfl⟩ hce hsl rfl (fun v9 S3 z9 _ => ?_) (fun _ _ h9 => h9.elim)
  obtain ⟨rfl, rfl⟩ := z9
  obtain ⟨fs2, h252⟩ := Inv_25 hI2
  have h452 := Inv_45 hI2
  show am_W _ _ _ _ _ _ _ _ _ _ _ _ _ _ _ 611 [some (.ref 0), some (.ref 1), some (.ref 25), some (.ref 45), some (.int (nI i9)), some (.int k9), none] [.int r9] S2 (cells + 2) (slots + 82)
  refine am_istore (I := iL_law) (pc := 611) (L' := [some (.ref 0), some (.ref 1), some (.ref 25), some (.ref 45), some (.int (nI i9)), some (.int k9), some (.int r9)]) dL_law_611 (by decide) rfl ?_
  refine am_aload_n (I := iL_law) (pc := 613) dL_law_613 rfl rfl ?_
  refine am_callV (I := iL_law) (pc := 614) (st := []) lv_L_84 (Inv_thr hI2) dL_law_614 h252 rfl (Nat.le_of_ble_eq_true rfl) ⟨Nat.le_of_ble_eq_true rfl, Nat.le_of_ble_eq_true rfl⟩ hce hsl rfl (fun v9 S3 z9 _ => ?_) (fun _ _ h9 => h9.elim)
  obtain ⟨rfl, rfl⟩ := z9
  show am_W _ _ _ _ _ _ _ _ _ _ _ _ _ _ _ 617 [some (.ref 0), some (.ref 1), some (.ref 25), some (.ref 45), some (.int (nI i9)), some (.int k9), some (.int r9)] [.int k9] S2 (cells + 2) (slots + 82)
  refine am_iload (I := iL_law) (pc := 617) dL_law_617 rfl ?_
  refine am_icmp_eq (I := iL_law) (pc := 619) (tgt := 624) dL_law_619 (by decide) (fun c619 => ?_) (fun c619 => ?_)
  · refine am_iload (I := iL_law) (pc := 624) dL_law_624 rfl ?_
    refine am_if_ne (I := iL_law) (pc := 626) (tgt := 641) dL_law_626 (by decide) (fun c626 => ?_) (fun c626 => ?_)
    · refine am_goto (I := iL_law) (pc := 641) (tgt := 1318) dL_law_641 (by decide) ?_
      exact am_forget 5 (am_forget 6 (kk9 _ _ _ hI2))
    · obtain ⟨e9, eb9⟩ := hZ9 c626
      refine am_aload_n (I := iL_law) (pc := 629) dL_law_629 rfl rfl ?_
      refine am_iconst (I := iL_law) (pc := 630) (x := 0) dL_law_630 (by decide) ?_
      refine am_laload (I := iL_law) (pc := 631) dL_law_631 h452 rfl (vp_in_nI (show 0 < 1 by decide) (by decide)) ?_
      refine am_same (st' := [.long r9.toInt64]) rfl rfl (by rw [show (0 : Int32).toNatClampNeg = 0 from rfl, e9]) rfl rfl rfl ?_
      refine am_iload (I := iL_law) (pc := 632) dL_law_632 rfl ?_
      refine am_i2l (I := iL_law) (pc := 634) dL_law_634 ?_
      refine am_lcmp (I := iL_law) (pc := 635) dL_law_635 ?_
      refine am_if_eq (I := iL_law) (pc := 636) (tgt := 641) dL_law_636 (by decide) (fun c636 => ?_) (fun c636 => ?_)
      · refine am_goto (I := iL_law) (pc := 641) (tgt := 1318) dL_law_641 (by decide) ?_
        exact am_forget 5 (am_forget 6 (kk9 _ _ _ hI2))
      · exact absurd (cmp_self _) c636
  · exact absurd rfl c619
set_option maxRecDepth 100000 in
set_option maxHeartbeats 4000000 in
theorem law_c8 {i9 cells slots : Nat} {th : Int32} {o : Nat → Int64} (hsc : law_sc K s S0 ad0 b9 L9 xs9) (hI : Inv th o S) (hi9 : i9 + 5 ≤ L9) (hce : cells + 2 ≤ room_1.cells) (hsl : slots + 82 ≤ room_1.slots) (kk9 : ∀ (S' : am_S) (th' : Int32) (o' : Nat → Int64), Inv th' o' S' → am_W K iL_law p l e room_1 s m args below meth c S0 ad0 Q 1318 [some (.ref 0), some (.ref 1), some (.ref 25), some (.ref 45), some (.int (nI i9)), none, none] [] S' (cells + 2) (slots + 82)) : am_W K iL_law p l e room_1 s m args below meth c S0 ad0 Q 644 [some (.ref 0), some (.ref 1), some (.ref 25), some (.ref 45), some (.int (nI i9)), none, none] [] S cells slots := by
  refine am_aload_n (I := iL_law) (pc := 644) dL_law_644 rfl rfl ?_
  refine am_aload_n (I := iL_law) (pc := 645) dL_law_645 rfl rfl ?_
  refine am_iload (I := iL_law) (pc := 646) dL_law_646 rfl ?_
  refine am_iconst (I := iL_law) (pc := 648) (x := 1) dL_law_648 (by decide) ?_
  refine am_iadd (I := iL_law) (pc := 649) dL_law_649 ?_
  refine am_sld (I := iL_law) (pc := 650) (j := i9 + 1) hsc (nI_add i9 1) (by omega) dL_law_650 ?_
  refine am_aload_n (I := iL_law) (pc := 651) dL_law_651 rfl rfl ?_
  refine am_iload (I := iL_law) (pc := 652) dL_law_652 rfl ?_
  refine am_iconst (I := iL_law) (pc := 654) (x := 2) dL_law_654 (by decide) ?_
  refine am_iadd (I := iL_law) (pc := 655) dL_law_655 ?_
  refine am_sld (I := iL_law) (pc := 656) (j := i9 + 2) hsc (nI_add i9 2) (by omega) dL_law_656 ?_
  refine am_aload_n (I := iL_law) (pc := 657) dL_law_657 rfl rfl ?_
  refine am_free (fun hf9 => ?_)
  obtain ⟨k9, r9, o9, P9, hW9, hM9, hZ9⟩ := st_level (K := K) (l := l) hI (xs9 (i9 + 1)) (xs9 (i9 + 2))
  refine am_callSH (I := iL_law) (pc := 658) (st := []) lv_L_112 rfl hW9 dL_law_658 rfl (Nat.le_of_ble_eq_true rfl) ⟨Nat.le_of_ble_eq_true rfl, Nat.le_of_ble_eq_true rfl⟩ hce hsl rfl (fun v9 S1 z9 _ => ?_) (fun _ _ h9 => h9.elim)
  obtain ⟨rfl, hP9⟩ := z9
  obtain ⟨S2, hC9, hI2, fs9, h25⟩ := hM9 S1 hP9
  show am_W _ _ _ _ _ _ _ _ _ _ _ _ _ _ _ 661 [some (.ref 0), some (.ref 1), some (.ref 25), some (.ref 45), some (.int (nI i9)), none, none] [.int k9] S1 (cells + 2) (slots + 82)
  refine am_istore (I := iL_law) (pc := 661) (L' := [some (.ref 0), some (.ref 1), some (.ref 25), some (.ref 45), some (.int (nI i9)), some (.int k9), none]) dL_law_661 (by decide) rfl ?_
  refine am_aload_n (I := iL_law) (pc := 663) dL_law_663 rfl rfl ?_
  refine am_aload_n (I := iL_law) (pc := 664) dL_law_664 rfl rfl ?_
  refine am_iload (I := iL_law) (pc := 665) dL_law_665 rfl ?_
  refine am_iconst (I := iL_law) (pc := 667) (x := 1) dL_law_667 (by decide) ?_
  refine am_iadd (I := iL_law) (pc := 668) dL_law_668 ?_
  refine am_sld (I := iL_law) (pc := 669) (j := i9 + 1) hsc (nI_add i9 1) (by omega) dL_law_669 ?_
  refine am_aload_n (I := iL_law) (pc := 670) dL_law_670 rfl rfl ?_
  refine am_iload (I := iL_law) (pc := 671) dL_law_671 rfl ?_
  refine am_iconst (I := iL_law) (pc := 673) (x := 2) dL_law_673 (by decide) ?_
  refine am_iadd (I := iL_law) (pc := 674) dL_law_674 ?_
  refine am_sld (I := iL_law) (pc := 675) (j := i9 + 2) hsc (nI_add i9 2) (by omega) dL_law_675 ?_
  refine am_callV (I := iL_law) (pc := 676) (st := []) lv_L_114 hC9 dL_law_676 h25 rfl (Nat.le_of_ble_eq_true rfl) ⟨Nat.le_of_ble_eq_true rfl, Nat.le_of_ble_eq_true rfl⟩ hce hsl rfl (fun v9 S3 z9 _ => ?_) (fun _ _ h9 => h9.elim)
  obtain ⟨rfl, rfl⟩ := z9
  obtain ⟨fs2, h252⟩ := Inv_25 hI2
  have h452 := Inv_45 hI2
  show am_W _ _ _ _ _ _ _ _ _ _ _ _ _ _ _ 679 [some (.ref 0), some (.ref 1), some (.ref 25), some (.ref 45), some (.int (nI i9)), some (.int k9), none] [.int r9] S2 (cells + 2) (slots + 82)
  refine am_istore (I := iL_law) (pc := 679) (L' := [some (.ref 0), some (.ref 1), some (.ref 25), some (.ref 45), some (.int (nI i9)), some (.int k9), some (.int r9)]) dL_law_679 (by decide) rfl ?_
  refine am_aload_n (I := iL_law) (pc := 681) dL_law_681 rfl rfl ?_
  refine am_callV (I := iL_law) (pc := 682) (st := []) lv_L_84 (Inv_thr hI2) dL_law_682 h252 rfl (Nat.le_of_ble_eq_true rfl) ⟨Nat.le_of_ble_eq_true rfl, Nat.le_of_ble_eq_true rfl⟩ hce hsl rfl (fun v9 S3 z9 _ => ?_) (fun _ _ h9 => h9.elim)
  obtain ⟨rfl, rfl⟩ := z9
  show am_W _ _ _ _ _ _ _ _ _ _ _ _ _ _ _ 685 [some (.ref 0), some (.ref 1), some (.ref 25), some (.ref 45), some (.int (nI i9)), some (.int k9), some (.int r9)] [.int k9] S2 (cells + 2) (slots + 82)
  refine am_iload (I := iL_law) (pc := 685) dL_law_685 rfl ?_
  refine am_icmp_eq (I := iL_law) (pc := 687) (tgt := 692) dL_law_687 (by decide) (fun c687 => ?_) (fun c687 => ?_)
  · refine am_iload (I := iL_law) (pc := 692) dL_law_692 rfl ?_
    refine am_if_ne (I := iL_law) (pc := 694) (tgt := 709) dL_law_694 (by decide) (fun c694 => ?_) (fun c694 => ?_)
    · refine am_goto (I := iL_law) (pc := 709) (tgt := 1318) dL_law_709 (by decide) ?_
      exact am_forget 5 (am_forget 6 (kk9 _ _ _ hI2))
    · obtain ⟨e9, eb9⟩ := hZ9 c694
      refine am_aload_n (I := iL_law) (pc := 697) dL_law_697 rfl rfl ?_
      refine am_iconst (I := iL_law) (pc := 698) (x := 0) dL_law_698 (by decide) ?_
      refine am_laload (I := iL_law) (pc := 699) dL_law_699 h452 rfl (vp_in_nI (show 0 < 1 by decide) (by decide)) ?_
      refine am_same (st' := [.long r9.toInt64]) rfl rfl (by rw [show (0 : Int32).toNatClampNeg = 0 from rfl, e9]) rfl rfl rfl ?_
      refine am_iload (I := iL_law) (pc := 700) dL_law_700 rfl ?_
      refine am_i2l (I := iL_law) (pc := 702) dL_law_702 ?_
      refine am_lcmp (I := iL_law) (pc := 703) dL_law_703 ?_
      refine am_if_eq (I := iL_law) (pc := 704) (tgt := 709) dL_law_704 (by decide) (fun c704 => ?_) (fun c704 => ?_)
      · refine am_goto (I := iL_law) (pc := 709) (tgt := 1318) dL_law_709 (by decide) ?_
        exact am_forget 5 (am_forget 6 (kk9 _ _ _ hI2))
      · exact absurd (cmp_self _) c704
  · exact absurd rfl c687
set_option maxRecDepth 100000 in
set_option maxHeartbeats 4000000 in
theorem law_c9 {i9 cells slots : Nat} {th : Int32} {o : Nat → Int64} (hsc : law_sc K s S0 ad0 b9 L9 xs9) (hI : Inv th o S) (hi9 : i9 + 5 ≤ L9) (hce : cells + 2 ≤ room_1.cells) (hsl : slots + 82 ≤ room_1.slots) (kk9 : ∀ (S' : am_S) (th' : Int32) (o' : Nat → Int64), Inv th' o' S' → am_W K iL_law p l e room_1 s m args below meth c S0 ad0 Q 1318 [some (.ref 0), some (.ref 1), some (.ref 25), some (.ref 45), some (.int (nI i9)), none, none] [] S' (cells + 2) (slots + 82)) : am_W K iL_law p l e room_1 s m args below meth c S0 ad0 Q 712 [some (.ref 0), some (.ref 1), some (.ref 25), some (.ref 45), some (.int (nI i9)), none, none] [] S cells slots := by
  refine am_aload_n (I := iL_law) (pc := 712) dL_law_712 rfl rfl ?_
  refine am_aload_n (I := iL_law) (pc := 713) dL_law_713 rfl rfl ?_
  refine am_iload (I := iL_law) (pc := 714) dL_law_714 rfl ?_
  refine am_iconst (I := iL_law) (pc := 716) (x := 1) dL_law_716 (by decide) ?_
  refine am_iadd (I := iL_law) (pc := 717) dL_law_717 ?_
  refine am_sld (I := iL_law) (pc := 718) (j := i9 + 1) hsc (nI_add i9 1) (by omega) dL_law_718 ?_
  refine am_aload_n (I := iL_law) (pc := 719) dL_law_719 rfl rfl ?_
  refine am_free (fun hf9 => ?_)
  obtain ⟨k9, r9, o9, P9, hW9, hM9, hZ9⟩ := st_contract (K := K) (l := l) hI hf9 (xs9 (i9 + 1))
  refine am_callSH (I := iL_law) (pc := 720) (st := []) lv_L_115 rfl hW9 dL_law_720 rfl (Nat.le_of_ble_eq_true rfl) ⟨Nat.le_of_ble_eq_true rfl, Nat.le_of_ble_eq_true rfl⟩ hce hsl rfl (fun v9 S1 z9 _ => ?_) (fun _ _ h9 => h9.elim)
  obtain ⟨rfl, hP9⟩ := z9
  obtain ⟨S2, hC9, hI2, fs9, h25⟩ := hM9 S1 hP9
  show am_W _ _ _ _ _ _ _ _ _ _ _ _ _ _ _ 723 [some (.ref 0), some (.ref 1), some (.ref 25), some (.ref 45), some (.int (nI i9)), none, none] [.int k9] S1 (cells + 2) (slots + 82)
  refine am_istore (I := iL_law) (pc := 723) (L' := [some (.ref 0), some (.ref 1), some (.ref 25), some (.ref 45), some (.int (nI i9)), some (.int k9), none]) dL_law_723 (by decide) rfl ?_
  refine am_aload_n (I := iL_law) (pc := 725) dL_law_725 rfl rfl ?_
  refine am_aload_n (I := iL_law) (pc := 726) dL_law_726 rfl rfl ?_
  refine am_iload (I := iL_law) (pc := 727) dL_law_727 rfl ?_
  refine am_iconst (I := iL_law) (pc := 729) (x := 1) dL_law_729 (by decide) ?_
  refine am_iadd (I := iL_law) (pc := 730) dL_law_730 ?_
  refine am_sld (I := iL_law) (pc := 731) (j := i9 + 1) hsc (nI_add i9 1) (by omega) dL_law_731 ?_
  refine am_callV (I := iL_law) (pc := 732) (st := []) lv_L_117 hC9 dL_law_732 h25 rfl (Nat.le_of_ble_eq_true rfl) ⟨Nat.le_of_ble_eq_true rfl, Nat.le_of_ble_eq_true rfl⟩ hce hsl rfl (fun v9 S3 z9 _ => ?_) (fun _ _ h9 => h9.elim)
  obtain ⟨rfl, rfl⟩ := z9
  obtain ⟨fs2, h252⟩ := Inv_25 hI2
  have h452 := Inv_45 hI2
  show am_W _ _ _ _ _ _ _ _ _ _ _ _ _ _ _ 735 [some (.ref 0), some (.ref 1), some (.ref 25), some (.ref 45), some (.int (nI i9)), some (.int k9), none] [.int r9] S2 (cells + 2) (slots + 82)
  refine am_istore (I := iL_law) (pc := 735) (L' := [some (.ref 0), some (.ref 1), some (.ref 25), some (.ref 45), some (.int (nI i9)), some (.int k9), some (.int r9)]) dL_law_735 (by decide) rfl ?_
  refine am_aload_n (I := iL_law) (pc := 737) dL_law_737 rfl rfl ?_
  refine am_callV (I := iL_law) (pc := 738) (st := []) lv_L_84 (Inv_thr hI2) dL_law_738 h252 rfl (Nat.le_of_ble_eq_true rfl) ⟨Nat.le_of_ble_eq_true rfl, Nat.le_of_ble_eq_true rfl⟩ hce hsl rfl (fun v9 S3 z9 _ => ?_) (fun _ _ h9 => h9.elim)
  obtain ⟨rfl, rfl⟩ := z9
  show am_W _ _ _ _ _ _ _ _ _ _ _ _ _ _ _ 741 [some (.ref 0), some (.ref 1), some (.ref 25), some (.ref 45), some (.int (nI i9)), some (.int k9), some (.int r9)] [.int k9] S2 (cells + 2) (slots + 82)
  refine am_iload (I := iL_law) (pc := 741) dL_law_741 rfl ?_
  refine am_icmp_eq (I := iL_law) (pc := 743) (tgt := 748) dL_law_743 (by decide) (fun c743 => ?_) (fun c743 => ?_)
  · refine am_iload (I := iL_law) (pc := 748) dL_law_748 rfl ?_
    refine am_if_ne (I := iL_law) (pc := 750) (tgt := 772) dL_law_750 (by decide) (fun c750 => ?_) (fun c750 => ?_)
    · refine am_goto (I := iL_law) (pc := 772) (tgt := 1318) dL_law_772 (by decide) ?_
      exact am_forget 5 (am_forget 6 (kk9 _ _ _ hI2))
    · obtain ⟨e9, eb9⟩ := hZ9 c750
      refine am_aload_n (I := iL_law) (pc := 753) dL_law_753 rfl rfl ?_
      refine am_iconst (I := iL_law) (pc := 754) (x := 0) dL_law_754 (by decide) ?_
      refine am_laload (I := iL_law) (pc := 755) dL_law_755 h452 rfl (vp_in_nI (show 0 < 1 by decide) (by decide)) ?_
      refine am_same (st' := [.long r9.toInt64]) rfl rfl (by rw [show (0 : Int32).toNatClampNeg = 0 from rfl, e9]) rfl rfl rfl ?_
      refine am_iload (I := iL_law) (pc := 756) dL_law_756 rfl ?_
      refine am_if_eq (I := iL_law) (pc := 758) (tgt := 765) dL_law_758 (by decide) (fun c758 => ?_) (fun c758 => ?_)
      · refine am_lconst (I := iL_law) (pc := 765) (x := 0) dL_law_765 (by decide) ?_
        refine am_lcmp (I := iL_law) (pc := 766) dL_law_766 ?_
        refine am_if_eq (I := iL_law) (pc := 767) (tgt := 772) dL_law_767 (by decide) (fun c767 => ?_) (fun c767 => ?_)
        · refine am_goto (I := iL_law) (pc := 772) (tgt := 1318) dL_law_772 (by decide) ?_
          exact am_forget 5 (am_forget 6 (kk9 _ _ _ hI2))
        · exact absurd (by rw [c758]; decide) c767
      · refine am_lconst (I := iL_law) (pc := 761) (x := 1) dL_law_761 (by decide) ?_
        refine am_goto (I := iL_law) (pc := 762) (tgt := 766) dL_law_762 (by decide) ?_
        refine am_lcmp (I := iL_law) (pc := 766) dL_law_766 ?_
        refine am_if_eq (I := iL_law) (pc := 767) (tgt := 772) dL_law_767 (by decide) (fun c767 => ?_) (fun c767 => ?_)
        · refine am_goto (I := iL_law) (pc := 772) (tgt := 1318) dL_law_772 (by decide) ?_
          exact am_forget 5 (am_forget 6 (kk9 _ _ _ hI2))
        · exact absurd (by rw [(eb9 rfl).resolve_left c758]; decide) c767
  · exact absurd rfl c743
set_option maxRecDepth 100000 in
set_option maxHeartbeats 4000000 in
theorem law_c10 {i9 cells slots : Nat} {th : Int32} {o : Nat → Int64} (hsc : law_sc K s S0 ad0 b9 L9 xs9) (hI : Inv th o S) (hi9 : i9 + 5 ≤ L9) (hce : cells + 2 ≤ room_1.cells) (hsl : slots + 82 ≤ room_1.slots) (kk9 : ∀ (S' : am_S) (th' : Int32) (o' : Nat → Int64), Inv th' o' S' → am_W K iL_law p l e room_1 s m args below meth c S0 ad0 Q 1318 [some (.ref 0), some (.ref 1), some (.ref 25), some (.ref 45), some (.int (nI i9)), none, none] [] S' (cells + 2) (slots + 82)) : am_W K iL_law p l e room_1 s m args below meth c S0 ad0 Q 775 [some (.ref 0), some (.ref 1), some (.ref 25), some (.ref 45), some (.int (nI i9)), none, none] [] S cells slots := by
  refine am_aload_n (I := iL_law) (pc := 775) dL_law_775 rfl rfl ?_
  refine am_aload_n (I := iL_law) (pc := 776) dL_law_776 rfl rfl ?_
  refine am_iload (I := iL_law) (pc := 777) dL_law_777 rfl ?_
  refine am_iconst (I := iL_law) (pc := 779) (x := 1) dL_law_779 (by decide) ?_
  refine am_iadd (I := iL_law) (pc := 780) dL_law_780 ?_
  refine am_sld (I := iL_law) (pc := 781) (j := i9 + 1) hsc (nI_add i9 1) (by omega) dL_law_781 ?_
  refine am_aload_n (I := iL_law) (pc := 782) dL_law_782 rfl rfl ?_
  refine am_iload (I := iL_law) (pc := 783) dL_law_783 rfl ?_
  refine am_iconst (I := iL_law) (pc := 785) (x := 2) dL_law_785 (by decide) ?_
  refine am_iadd (I := iL_law) (pc := 786) dL_law_786 ?_
  refine am_sld (I := iL_law) (pc := 787) (j := i9 + 2) hsc (nI_add i9 2) (by omega) dL_law_787 ?_
  refine am_aload_n (I := iL_law) (pc := 788) dL_law_788 rfl rfl ?_
  refine am_free (fun hf9 => ?_)
  obtain ⟨k9, r9, o9, P9, hW9, hM9, hZ9⟩ := st_fingers (K := K) (l := l) hI (xs9 (i9 + 1)) (xs9 (i9 + 2))
  refine am_callSH (I := iL_law) (pc := 789) (st := []) lv_L_118 rfl hW9 dL_law_789 rfl (Nat.le_of_ble_eq_true rfl) ⟨Nat.le_of_ble_eq_true rfl, Nat.le_of_ble_eq_true rfl⟩ hce hsl rfl (fun v9 S1 z9 _ => ?_) (fun _ _ h9 => h9.elim)
  obtain ⟨rfl, hP9⟩ := z9
  obtain ⟨S2, hC9, hI2, fs9, h25⟩ := hM9 S1 hP9
  show am_W _ _ _ _ _ _ _ _ _ _ _ _ _ _ _ 792 [some (.ref 0), some (.ref 1), some (.ref 25), some (.ref 45), some (.int (nI i9)), none, none] [.int k9] S1 (cells + 2) (slots + 82)
  refine am_istore (I := iL_law) (pc := 792) (L' := [some (.ref 0), some (.ref 1), some (.ref 25), some (.ref 45), some (.int (nI i9)), some (.int k9), none]) dL_law_792 (by decide) rfl ?_
  refine am_aload_n (I := iL_law) (pc := 794) dL_law_794 rfl rfl ?_
  refine am_aload_n (I := iL_law) (pc := 795) dL_law_795 rfl rfl ?_
  refine am_iload (I := iL_law) (pc := 796) dL_law_796 rfl ?_
  refine am_iconst (I := iL_law) (pc := 798) (x := 1) dL_law_798 (by decide) ?_
  refine am_iadd (I := iL_law) (pc := 799) dL_law_799 ?_
  refine am_sld (I := iL_law) (pc := 800) (j := i9 + 1) hsc (nI_add i9 1) (by omega) dL_law_800 ?_
  refine am_aload_n (I := iL_law) (pc := 801) dL_law_801 rfl rfl ?_
  refine am_iload (I := iL_law) (pc := 802) dL_law_802 rfl ?_
  refine am_iconst (I := iL_law) (pc := 804) (x := 2) dL_law_804 (by decide) ?_
  refine am_iadd (I := iL_law) (pc := 805) dL_law_805 ?_
  refine am_sld (I := iL_law) (pc := 806) (j := i9 + 2) hsc (nI_add i9 2) (by omega) dL_law_806 ?_
  refine am_callV (I := iL_law) (pc := 807) (st := []) lv_L_120 hC9 dL_law_807 h25 rfl (Nat.le_of_ble_eq_true rfl) ⟨Nat.le_of_ble_eq_true rfl, Nat.le_of_ble_eq_true rfl⟩ hce hsl rfl (fun v9 S3 z9 _ => ?_) (fun _ _ h9 => h9.elim)
  obtain ⟨rfl, rfl⟩ := z9
  obtain ⟨fs2, h252⟩ := Inv_25 hI2
  have h452 := Inv_45 hI2
  show am_W _ _ _ _ _ _ _ _ _ _ _ _ _ _ _ 810 [some (.ref 0), some (.ref 1), some (.ref 25), some (.ref 45), some (.int (nI i9)), some (.int k9), none] [.int r9] S2 (cells + 2) (slots + 82)
  refine am_istore (I := iL_law) (pc := 810) (L' := [some (.ref 0), some (.ref 1), some (.ref 25), some (.ref 45), some (.int (nI i9)), some (.int k9), some (.int r9)]) dL_law_810 (by decide) rfl ?_
  refine am_aload_n (I := iL_law) (pc := 812) dL_law_812 rfl rfl ?_
  refine am_callV (I := iL_law) (pc := 813) (st := []) lv_L_84 (Inv_thr hI2) dL_law_813 h252 rfl (Nat.le_of_ble_eq_true rfl) ⟨Nat.le_of_ble_eq_true rfl, Nat.le_of_ble_eq_true rfl⟩ hce hsl rfl (fun v9 S3 z9 _ => ?_) (fun _ _ h9 => h9.elim)
  obtain ⟨rfl, rfl⟩ := z9
  show am_W _ _ _ _ _ _ _ _ _ _ _ _ _ _ _ 816 [some (.ref 0), some (.ref 1), some (.ref 25), some (.ref 45), some (.int (nI i9)), some (.int k9), some (.int r9)] [.int k9] S2 (cells + 2) (slots + 82)
  refine am_iload (I := iL_law) (pc := 816) dL_law_816 rfl ?_
  refine am_icmp_eq (I := iL_law) (pc := 818) (tgt := 823) dL_law_818 (by decide) (fun c818 => ?_) (fun c818 => ?_)
  · refine am_iload (I := iL_law) (pc := 823) dL_law_823 rfl ?_
    refine am_if_ne (I := iL_law) (pc := 825) (tgt := 840) dL_law_825 (by decide) (fun c825 => ?_) (fun c825 => ?_)
    · refine am_goto (I := iL_law) (pc := 840) (tgt := 1318) dL_law_840 (by decide) ?_
      exact am_forget 5 (am_forget 6 (kk9 _ _ _ hI2))
    · obtain ⟨e9, eb9⟩ := hZ9 c825
      refine am_aload_n (I := iL_law) (pc := 828) dL_law_828 rfl rfl ?_
      refine am_iconst (I := iL_law) (pc := 829) (x := 0) dL_law_829 (by decide) ?_
      refine am_laload (I := iL_law) (pc := 830) dL_law_830 h452 rfl (vp_in_nI (show 0 < 1 by decide) (by decide)) ?_
      refine am_same (st' := [.long r9.toInt64]) rfl rfl (by rw [show (0 : Int32).toNatClampNeg = 0 from rfl, e9]) rfl rfl rfl ?_
      refine am_iload (I := iL_law) (pc := 831) dL_law_831 rfl ?_
      refine am_i2l (I := iL_law) (pc := 833) dL_law_833 ?_
      refine am_lcmp (I := iL_law) (pc := 834) dL_law_834 ?_
      refine am_if_eq (I := iL_law) (pc := 835) (tgt := 840) dL_law_835 (by decide) (fun c835 => ?_) (fun c835 => ?_)
      · refine am_goto (I := iL_law) (pc := 840) (tgt := 1318) dL_law_840 (by decide) ?_
        exact am_forget 5 (am_forget 6 (kk9 _ _ _ hI2))
      · exact absurd (cmp_self _) c835
  · exact absurd rfl c818
set_option maxRecDepth 100000 in
set_option maxHeartbeats 4000000 in
theorem law_c11 {i9 cells slots : Nat} {th : Int32} {o : Nat → Int64} (hsc : law_sc K s S0 ad0 b9 L9 xs9) (hI : Inv th o S) (hi9 : i9 + 5 ≤ L9) (hce : cells + 2 ≤ room_1.cells) (hsl : slots + 82 ≤ room_1.slots) (kk9 : ∀ (S' : am_S) (th' : Int32) (o' : Nat → Int64), Inv th' o' S' → am_W K iL_law p l e room_1 s m args below meth c S0 ad0 Q 1318 [some (.ref 0), some (.ref 1), some (.ref 25), some (.ref 45), some (.int (nI i9)), none, none] [] S' (cells + 2) (slots + 82)) : am_W K iL_law p l e room_1 s m args below meth c S0 ad0 Q 843 [some (.ref 0), some (.ref 1), some (.ref 25), some (.ref 45), some (.int (nI i9)), none, none] [] S cells slots := by
  refine am_aload_n (I := iL_law) (pc := 843) dL_law_843 rfl rfl ?_
  refine am_aload_n (I := iL_law) (pc := 844) dL_law_844 rfl rfl ?_
  refine am_iload (I := iL_law) (pc := 845) dL_law_845 rfl ?_
  refine am_iconst (I := iL_law) (pc := 847) (x := 1) dL_law_847 (by decide) ?_
  refine am_iadd (I := iL_law) (pc := 848) dL_law_848 ?_
  refine am_sld (I := iL_law) (pc := 849) (j := i9 + 1) hsc (nI_add i9 1) (by omega) dL_law_849 ?_
  refine am_aload_n (I := iL_law) (pc := 850) dL_law_850 rfl rfl ?_
  refine am_free (fun hf9 => ?_)
  obtain ⟨k9, r9, o9, P9, hW9, hM9, hZ9⟩ := st_cell (K := K) (l := l) hI (xs9 (i9 + 1))
  refine am_callSH (I := iL_law) (pc := 851) (st := []) lv_L_121 rfl hW9 dL_law_851 rfl (Nat.le_of_ble_eq_true rfl) ⟨Nat.le_of_ble_eq_true rfl, Nat.le_of_ble_eq_true rfl⟩ hce hsl rfl (fun v9 S1 z9 _ => ?_) (fun _ _ h9 => h9.elim)
  obtain ⟨rfl, hP9⟩ := z9
  obtain ⟨S2, hC9, hI2, fs9, h25⟩ := hM9 S1 hP9
  show am_W _ _ _ _ _ _ _ _ _ _ _ _ _ _ _ 854 [some (.ref 0), some (.ref 1), some (.ref 25), some (.ref 45), some (.int (nI i9)), none, none] [.int k9] S1 (cells + 2) (slots + 82)
  refine am_istore (I := iL_law) (pc := 854) (L' := [some (.ref 0), some (.ref 1), some (.ref 25), some (.ref 45), some (.int (nI i9)), some (.int k9), none]) dL_law_854 (by decide) rfl ?_
  refine am_aload_n (I := iL_law) (pc := 856) dL_law_856 rfl rfl ?_
  refine am_aload_n (I := iL_law) (pc := 857) dL_law_857 rfl rfl ?_
  refine am_iload (I := iL_law) (pc := 858) dL_law_858 rfl ?_
  refine am_iconst (I := iL_law) (pc := 860) (x := 1) dL_law_860 (by decide) ?_
  refine am_iadd (I := iL_law) (pc := 861) dL_law_861 ?_
  refine am_sld (I := iL_law) (pc := 862) (j := i9 + 1) hsc (nI_add i9 1) (by omega) dL_law_862 ?_
  refine am_callV (I := iL_law) (pc := 863) (st := []) lv_L_123 hC9 dL_law_863 h25 rfl (Nat.le_of_ble_eq_true rfl) ⟨Nat.le_of_ble_eq_true rfl, Nat.le_of_ble_eq_true rfl⟩ hce hsl rfl (fun v9 S3 z9 _ => ?_) (fun _ _ h9 => h9.elim)
  obtain ⟨rfl, rfl⟩ := z9
  obtain ⟨fs2, h252⟩ := Inv_25 hI2
  have h452 := Inv_45 hI2
  show am_W _ _ _ _ _ _ _ _ _ _ _ _ _ _ _ 866 [some (.ref 0), some (.ref 1), some (.ref 25), some (.ref 45), some (.int (nI i9)), some (.int k9), none] [.int r9] S2 (cells + 2) (slots + 82)
  refine am_istore (I := iL_law) (pc := 866) (L' := [some (.ref 0), some (.ref 1), some (.ref 25), some (.ref 45), some (.int (nI i9)), some (.int k9), some (.int r9)]) dL_law_866 (by decide) rfl ?_
  refine am_aload_n (I := iL_law) (pc := 868) dL_law_868 rfl rfl ?_
  refine am_callV (I := iL_law) (pc := 869) (st := []) lv_L_84 (Inv_thr hI2) dL_law_869 h252 rfl (Nat.le_of_ble_eq_true rfl) ⟨Nat.le_of_ble_eq_true rfl, Nat.le_of_ble_eq_true rfl⟩ hce hsl rfl (fun v9 S3 z9 _ => ?_) (fun _ _ h9 => h9.elim)
  obtain ⟨rfl, rfl⟩ := z9
  show am_W _ _ _ _ _ _ _ _ _ _ _ _ _ _ _ 872 [some (.ref 0), some (.ref 1), some (.ref 25), some (.ref 45), some (.int (nI i9)), some (.int k9), some (.int r9)] [.int k9] S2 (cells + 2) (slots + 82)
  refine am_iload (I := iL_law) (pc := 872) dL_law_872 rfl ?_
  refine am_icmp_eq (I := iL_law) (pc := 874) (tgt := 879) dL_law_874 (by decide) (fun c874 => ?_) (fun c874 => ?_)
  · refine am_iload (I := iL_law) (pc := 879) dL_law_879 rfl ?_
    refine am_if_ne (I := iL_law) (pc := 881) (tgt := 896) dL_law_881 (by decide) (fun c881 => ?_) (fun c881 => ?_)
    · refine am_goto (I := iL_law) (pc := 896) (tgt := 1318) dL_law_896 (by decide) ?_
      exact am_forget 5 (am_forget 6 (kk9 _ _ _ hI2))
    · obtain ⟨e9, eb9⟩ := hZ9 c881
      refine am_aload_n (I := iL_law) (pc := 884) dL_law_884 rfl rfl ?_
      refine am_iconst (I := iL_law) (pc := 885) (x := 0) dL_law_885 (by decide) ?_
      refine am_laload (I := iL_law) (pc := 886) dL_law_886 h452 rfl (vp_in_nI (show 0 < 1 by decide) (by decide)) ?_
      refine am_same (st' := [.long r9.toInt64]) rfl rfl (by rw [show (0 : Int32).toNatClampNeg = 0 from rfl, e9]) rfl rfl rfl ?_
      refine am_iload (I := iL_law) (pc := 887) dL_law_887 rfl ?_
      refine am_i2l (I := iL_law) (pc := 889) dL_law_889 ?_
      refine am_lcmp (I := iL_law) (pc := 890) dL_law_890 ?_
      refine am_if_eq (I := iL_law) (pc := 891) (tgt := 896) dL_law_891 (by decide) (fun c891 => ?_) (fun c891 => ?_)
      · refine am_goto (I := iL_law) (pc := 896) (tgt := 1318) dL_law_896 (by decide) ?_
        exact am_forget 5 (am_forget 6 (kk9 _ _ _ hI2))
      · exact absurd (cmp_self _) c891
  · exact absurd rfl c874
set_option maxRecDepth 100000 in
set_option maxHeartbeats 4000000 in
theorem law_c12 {i9 cells slots : Nat} {th : Int32} {o : Nat → Int64} (hsc : law_sc K s S0 ad0 b9 L9 xs9) (hI : Inv th o S) (hi9 : i9 + 5 ≤ L9) (hce : cells + 2 ≤ room_1.cells) (hsl : slots + 82 ≤ room_1.slots) (kk9 : ∀ (S' : am_S) (th' : Int32) (o' : Nat → Int64), Inv th' o' S' → am_W K iL_law p l e room_1 s m args below meth c S0 ad0 Q 1318 [some (.ref 0), some (.ref 1), some (.ref 25), some (.ref 45), some (.int (nI i9)), none, none] [] S' (cells + 2) (slots + 82)) : am_W K iL_law p l e room_1 s m args below meth c S0 ad0 Q 899 [some (.ref 0), some (.ref 1), some (.ref 25), some (.ref 45), some (.int (nI i9)), none, none] [] S cells slots := by
  refine am_aload_n (I := iL_law) (pc := 899) dL_law_899 rfl rfl ?_
  refine am_aload_n (I := iL_law) (pc := 900) dL_law_900 rfl rfl ?_
  refine am_free (fun hf9 => ?_)
  obtain ⟨k9, r9, o9, P9, hW9, hM9, hZ9⟩ := st_back (K := K) (l := l) hI 
  refine am_callSH (I := iL_law) (pc := 901) (st := []) lv_L_124 rfl hW9 dL_law_901 rfl (Nat.le_of_ble_eq_true rfl) ⟨Nat.le_of_ble_eq_true rfl, Nat.le_of_ble_eq_true rfl⟩ hce hsl rfl (fun v9 S1 z9 _ => ?_) (fun _ _ h9 => h9.elim)
  obtain ⟨rfl, hP9⟩ := z9
  obtain ⟨S2, hC9, hI2, fs9, h25⟩ := hM9 S1 hP9
  show am_W _ _ _ _ _ _ _ _ _ _ _ _ _ _ _ 904 [some (.ref 0), some (.ref 1), some (.ref 25), some (.ref 45), some (.int (nI i9)), none, none] [.int k9] S1 (cells + 2) (slots + 82)
  refine am_istore (I := iL_law) (pc := 904) (L' := [some (.ref 0), some (.ref 1), some (.ref 25), some (.ref 45), some (.int (nI i9)), some (.int k9), none]) dL_law_904 (by decide) rfl ?_
  refine am_aload_n (I := iL_law) (pc := 906) dL_law_906 rfl rfl ?_
  refine am_callV (I := iL_law) (pc := 907) (st := []) lv_L_127 hC9 dL_law_907 h25 rfl (Nat.le_of_ble_eq_true rfl) ⟨Nat.le_of_ble_eq_true rfl, Nat.le_of_ble_eq_true rfl⟩ hce hsl rfl (fun v9 S3 z9 _ => ?_) (fun _ _ h9 => h9.elim)
  obtain ⟨rfl, rfl⟩ := z9
  obtain ⟨fs2, h252⟩ := Inv_25 hI2
  have h452 := Inv_45 hI2
  show am_W _ _ _ _ _ _ _ _ _ _ _ _ _ _ _ 910 [some (.ref 0), some (.ref 1), some (.ref 25), some (.ref 45), some (.int (nI i9)), some (.int k9), none] [.int r9] S2 (cells + 2) (slots + 82)
  refine am_istore (I := iL_law) (pc := 910) (L' := [some (.ref 0), some (.ref 1), some (.ref 25), some (.ref 45), some (.int (nI i9)), some (.int k9), some (.int r9)]) dL_law_910 (by decide) rfl ?_
  refine am_aload_n (I := iL_law) (pc := 912) dL_law_912 rfl rfl ?_
  refine am_callV (I := iL_law) (pc := 913) (st := []) lv_L_84 (Inv_thr hI2) dL_law_913 h252 rfl (Nat.le_of_ble_eq_true rfl) ⟨Nat.le_of_ble_eq_true rfl, Nat.le_of_ble_eq_true rfl⟩ hce hsl rfl (fun v9 S3 z9 _ => ?_) (fun _ _ h9 => h9.elim)
  obtain ⟨rfl, rfl⟩ := z9
  show am_W _ _ _ _ _ _ _ _ _ _ _ _ _ _ _ 916 [some (.ref 0), some (.ref 1), some (.ref 25), some (.ref 45), some (.int (nI i9)), some (.int k9), some (.int r9)] [.int k9] S2 (cells + 2) (slots + 82)
  refine am_iload (I := iL_law) (pc := 916) dL_law_916 rfl ?_
  refine am_icmp_eq (I := iL_law) (pc := 918) (tgt := 923) dL_law_918 (by decide) (fun c918 => ?_) (fun c918 => ?_)
  · refine am_iload (I := iL_law) (pc := 923) dL_law_923 rfl ?_
    refine am_if_ne (I := iL_law) (pc := 925) (tgt := 940) dL_law_925 (by decide) (fun c925 => ?_) (fun c925 => ?_)
    · refine am_goto (I := iL_law) (pc := 940) (tgt := 1318) dL_law_940 (by decide) ?_
      exact am_forget 5 (am_forget 6 (kk9 _ _ _ hI2))
    · obtain ⟨e9, eb9⟩ := hZ9 c925
      refine am_aload_n (I := iL_law) (pc := 928) dL_law_928 rfl rfl ?_
      refine am_iconst (I := iL_law) (pc := 929) (x := 0) dL_law_929 (by decide) ?_
      refine am_laload (I := iL_law) (pc := 930) dL_law_930 h452 rfl (vp_in_nI (show 0 < 1 by decide) (by decide)) ?_
      refine am_same (st' := [.long r9.toInt64]) rfl rfl (by rw [show (0 : Int32).toNatClampNeg = 0 from rfl, e9]) rfl rfl rfl ?_
      refine am_iload (I := iL_law) (pc := 931) dL_law_931 rfl ?_
      refine am_i2l (I := iL_law) (pc := 933) dL_law_933 ?_
      refine am_lcmp (I := iL_law) (pc := 934) dL_law_934 ?_
      refine am_if_eq (I := iL_law) (pc := 935) (tgt := 940) dL_law_935 (by decide) (fun c935 => ?_) (fun c935 => ?_)
      · refine am_goto (I := iL_law) (pc := 940) (tgt := 1318) dL_law_940 (by decide) ?_
        exact am_forget 5 (am_forget 6 (kk9 _ _ _ hI2))
      · exact absurd (cmp_self _) c935
  · exact absurd rfl c918
set_option maxRecDepth 100000 in
set_option maxHeartbeats 4000000 in
theorem law_c13 {i9 cells slots : Nat} {th : Int32} {o : Nat → Int64} (hsc : law_sc K s S0 ad0 b9 L9 xs9) (hI : Inv th o S) (hi9 : i9 + 5 ≤ L9) (hce : cells + 2 ≤ room_1.cells) (hsl : slots + 82 ≤ room_1.slots) (kk9 : ∀ (S' : am_S) (th' : Int32) (o' : Nat → Int64), Inv th' o' S' → am_W K iL_law p l e room_1 s m args below meth c S0 ad0 Q 1318 [some (.ref 0), some (.ref 1), some (.ref 25), some (.ref 45), some (.int (nI i9)), none, none] [] S' (cells + 2) (slots + 82)) : am_W K iL_law p l e room_1 s m args below meth c S0 ad0 Q 943 [some (.ref 0), some (.ref 1), some (.ref 25), some (.ref 45), some (.int (nI i9)), none, none] [] S cells slots := by
  refine am_aload_n (I := iL_law) (pc := 943) dL_law_943 rfl rfl ?_
  refine am_aload_n (I := iL_law) (pc := 944) dL_law_944 rfl rfl ?_
  refine am_iload (I := iL_law) (pc := 945) dL_law_945 rfl ?_
  refine am_iconst (I := iL_law) (pc := 947) (x := 1) dL_law_947 (by decide) ?_
  refine am_iadd (I := iL_law) (pc := 948) dL_law_948 ?_
  refine am_sld (I := iL_law) (pc := 949) (j := i9 + 1) hsc (nI_add i9 1) (by omega) dL_law_949 ?_
  refine am_aload_n (I := iL_law) (pc := 950) dL_law_950 rfl rfl ?_
  refine am_iload (I := iL_law) (pc := 951) dL_law_951 rfl ?_
  refine am_iconst (I := iL_law) (pc := 953) (x := 2) dL_law_953 (by decide) ?_
  refine am_iadd (I := iL_law) (pc := 954) dL_law_954 ?_
  refine am_sld (I := iL_law) (pc := 955) (j := i9 + 2) hsc (nI_add i9 2) (by omega) dL_law_955 ?_
  refine am_aload_n (I := iL_law) (pc := 956) dL_law_956 rfl rfl ?_
  refine am_iload (I := iL_law) (pc := 957) dL_law_957 rfl ?_
  refine am_iconst (I := iL_law) (pc := 959) (x := 3) dL_law_959 (by decide) ?_
  refine am_iadd (I := iL_law) (pc := 960) dL_law_960 ?_
  refine am_sld (I := iL_law) (pc := 961) (j := i9 + 3) hsc (nI_add i9 3) (by omega) dL_law_961 ?_
  refine am_aload_n (I := iL_law) (pc := 962) dL_law_962 rfl rfl ?_
  refine am_free (fun hf9 => ?_)
  obtain ⟨k9, r9, o9, P9, hW9, hM9, hZ9⟩ := st_zone (K := K) (l := l) hI (xs9 (i9 + 1)) (xs9 (i9 + 2)) (xs9 (i9 + 3))
  refine am_callSH (I := iL_law) (pc := 963) (st := []) lv_L_128 rfl hW9 dL_law_963 rfl (Nat.le_of_ble_eq_true rfl) ⟨Nat.le_of_ble_eq_true rfl, Nat.le_of_ble_eq_true rfl⟩ hce hsl rfl (fun v9 S1 z9 _ => ?_) (fun _ _ h9 => h9.elim)
  obtain ⟨rfl, hP9⟩ := z9
  obtain ⟨S2, hC9, hI2, fs9, h25⟩ := hM9 S1 hP9
  show am_W _ _ _ _ _ _ _ _ _ _ _ _ _ _ _ 966 [some (.ref 0), some (.ref 1), some (.ref 25), some (.ref 45), some (.int (nI i9)), none, none] [.int k9] S1 (cells + 2) (slots + 82)
  refine am_istore (I := iL_law) (pc := 966) (L' := [some (.ref 0), some (.ref 1), some (.ref 25), some (.ref 45), some (.int (nI i9)), some (.int k9), none]) dL_law_966 (by decide) rfl ?_
  refine am_aload_n (I := iL_law) (pc := 968) dL_law_968 rfl rfl ?_
  refine am_aload_n (I := iL_law) (pc := 969) dL_law_969 rfl rfl ?_
  refine am_iload (I := iL_law) (pc := 970) dL_law_970 rfl ?_
  refine am_iconst (I := iL_law) (pc := 972) (x := 1) dL_law_972 (by decide) ?_
  refine am_iadd (I := iL_law) (pc := 973) dL_law_973 ?_
  refine am_sld (I := iL_law) (pc := 974) (j := i9 + 1) hsc (nI_add i9 1) (by omega) dL_law_974 ?_
  refine am_aload_n (I := iL_law) (pc := 975) dL_law_975 rfl rfl ?_
  refine am_iload (I := iL_law) (pc := 976) dL_law_976 rfl ?_
  refine am_iconst (I := iL_law) (pc := 978) (x := 2) dL_law_978 (by decide) ?_
  refine am_iadd (I := iL_law) (pc := 979) dL_law_979 ?_
  refine am_sld (I := iL_law) (pc := 980) (j := i9 + 2) hsc (nI_add i9 2) (by omega) dL_law_980 ?_
  refine am_aload_n (I := iL_law) (pc := 981) dL_law_981 rfl rfl ?_
  refine am_iload (I := iL_law) (pc := 982) dL_law_982 rfl ?_
  refine am_iconst (I := iL_law) (pc := 984) (x := 3) dL_law_984 (by decide) ?_
  refine am_iadd (I := iL_law) (pc := 985) dL_law_985 ?_
  refine am_sld (I := iL_law) (pc := 986) (j := i9 + 3) hsc (nI_add i9 3) (by omega) dL_law_986 ?_
  refine am_callV (I := iL_law) (pc := 987) (st := []) lv_L_130 hC9 dL_law_987 h25 rfl (Nat.le_of_ble_eq_true rfl) ⟨Nat.le_of_ble_eq_true rfl, Nat.le_of_ble_eq_true rfl⟩ hce hsl rfl (fun v9 S3 z9 _ => ?_) (fun _ _ h9 => h9.elim)
  obtain ⟨rfl, rfl⟩ := z9
  obtain ⟨fs2, h252⟩ := Inv_25 hI2
  have h452 := Inv_45 hI2
  show am_W _ _ _ _ _ _ _ _ _ _ _ _ _ _ _ 990 [some (.ref 0), some (.ref 1), some (.ref 25), some (.ref 45), some (.int (nI i9)), some (.int k9), none] [.int r9] S2 (cells + 2) (slots + 82)
  refine am_istore (I := iL_law) (pc := 990) (L' := [some (.ref 0), some (.ref 1), some (.ref 25), some (.ref 45), some (.int (nI i9)), some (.int k9), some (.int r9)]) dL_law_990 (by decide) rfl ?_
  refine am_aload_n (I := iL_law) (pc := 992) dL_law_992 rfl rfl ?_
  refine am_callV (I := iL_law) (pc := 993) (st := []) lv_L_84 (Inv_thr hI2) dL_law_993 h252 rfl (Nat.le_of_ble_eq_true rfl) ⟨Nat.le_of_ble_eq_true rfl, Nat.le_of_ble_eq_true rfl⟩ hce hsl rfl (fun v9 S3 z9 _ => ?_) (fun _ _ h9 => h9.elim)
  obtain ⟨rfl, rfl⟩ := z9
  show am_W _ _ _ _ _ _ _ _ _ _ _ _ _ _ _ 996 [some (.ref 0), some (.ref 1), some (.ref 25), some (.ref 45), some (.int (nI i9)), some (.int k9), some (.int r9)] [.int k9] S2 (cells + 2) (slots + 82)
  refine am_iload (I := iL_law) (pc := 996) dL_law_996 rfl ?_
  refine am_icmp_eq (I := iL_law) (pc := 998) (tgt := 1003) dL_law_998 (by decide) (fun c998 => ?_) (fun c998 => ?_)
  · refine am_iload (I := iL_law) (pc := 1003) dL_law_1003 rfl ?_
    refine am_if_ne (I := iL_law) (pc := 1005) (tgt := 1020) dL_law_1005 (by decide) (fun c1005 => ?_) (fun c1005 => ?_)
    · refine am_goto (I := iL_law) (pc := 1020) (tgt := 1318) dL_law_1020 (by decide) ?_
      exact am_forget 5 (am_forget 6 (kk9 _ _ _ hI2))
    · obtain ⟨e9, eb9⟩ := hZ9 c1005
      refine am_aload_n (I := iL_law) (pc := 1008) dL_law_1008 rfl rfl ?_
      refine am_iconst (I := iL_law) (pc := 1009) (x := 0) dL_law_1009 (by decide) ?_
      refine am_laload (I := iL_law) (pc := 1010) dL_law_1010 h452 rfl (vp_in_nI (show 0 < 1 by decide) (by decide)) ?_
      refine am_same (st' := [.long r9.toInt64]) rfl rfl (by rw [show (0 : Int32).toNatClampNeg = 0 from rfl, e9]) rfl rfl rfl ?_
      refine am_iload (I := iL_law) (pc := 1011) dL_law_1011 rfl ?_
      refine am_i2l (I := iL_law) (pc := 1013) dL_law_1013 ?_
      refine am_lcmp (I := iL_law) (pc := 1014) dL_law_1014 ?_
      refine am_if_eq (I := iL_law) (pc := 1015) (tgt := 1020) dL_law_1015 (by decide) (fun c1015 => ?_) (fun c1015 => ?_)
      · refine am_goto (I := iL_law) (pc := 1020) (tgt := 1318) dL_law_1020 (by decide) ?_
        exact am_forget 5 (am_forget 6 (kk9 _ _ _ hI2))
      · exact absurd (cmp_self _) c1015
  · exact absurd rfl c998
set_option maxRecDepth 100000 in
set_option maxHeartbeats 4000000 in
theorem law_c14 {i9 cells slots : Nat} {th : Int32} {o : Nat → Int64} (hsc : law_sc K s S0 ad0 b9 L9 xs9) (hI : Inv th o S) (hi9 : i9 + 5 ≤ L9) (hce : cells + 2 ≤ room_1.cells) (hsl : slots + 82 ≤ room_1.slots) (kk9 : ∀ (S' : am_S) (th' : Int32) (o' : Nat → Int64), Inv th' o' S' → am_W K iL_law p l e room_1 s m args below meth c S0 ad0 Q 1318 [some (.ref 0), some (.ref 1), some (.ref 25), some (.ref 45), some (.int (nI i9)), none, none] [] S' (cells + 2) (slots + 82)) : am_W K iL_law p l e room_1 s m args below meth c S0 ad0 Q 1023 [some (.ref 0), some (.ref 1), some (.ref 25), some (.ref 45), some (.int (nI i9)), none, none] [] S cells slots := by
  refine am_aload_n (I := iL_law) (pc := 1023) dL_law_1023 rfl rfl ?_
  refine am_aload_n (I := iL_law) (pc := 1024) dL_law_1024 rfl rfl ?_
  refine am_iload (I := iL_law) (pc := 1025) dL_law_1025 rfl ?_
  refine am_iconst (I := iL_law) (pc := 1027) (x := 1) dL_law_1027 (by decide) ?_
  refine am_iadd (I := iL_law) (pc := 1028) dL_law_1028 ?_
  refine am_sld (I := iL_law) (pc := 1029) (j := i9 + 1) hsc (nI_add i9 1) (by omega) dL_law_1029 ?_
  refine am_aload_n (I := iL_law) (pc := 1030) dL_law_1030 rfl rfl ?_
  refine am_iload (I := iL_law) (pc := 1031) dL_law_1031 rfl ?_
  refine am_iconst (I := iL_law) (pc := 1033) (x := 2) dL_law_1033 (by decide) ?_
  refine am_iadd (I := iL_law) (pc := 1034) dL_law_1034 ?_
  refine am_sld (I := iL_law) (pc := 1035) (j := i9 + 2) hsc (nI_add i9 2) (by omega) dL_law_1035 ?_
  refine am_aload_n (I := iL_law) (pc := 1036) dL_law_1036 rfl rfl ?_
  refine am_free (fun hf9 => ?_)
  obtain ⟨k9, r9, o9, P9, hW9, hM9, hZ9⟩ := st_heard (K := K) (l := l) hI (xs9 (i9 + 1)) (xs9 (i9 + 2))
  refine am_callSH (I := iL_law) (pc := 1037) (st := []) lv_L_131 rfl hW9 dL_law_1037 rfl (Nat.le_of_ble_eq_true rfl) ⟨Nat.le_of_ble_eq_true rfl, Nat.le_of_ble_eq_true rfl⟩ hce hsl rfl (fun v9 S1 z9 _ => ?_) (fun _ _ h9 => h9.elim)
  obtain ⟨rfl, hP9⟩ := z9
  obtain ⟨S2, hC9, hI2, fs9, h25⟩ := hM9 S1 hP9
  show am_W _ _ _ _ _ _ _ _ _ _ _ _ _ _ _ 1040 [some (.ref 0), some (.ref 1), some (.ref 25), some (.ref 45), some (.int (nI i9)), none, none] [.int k9] S1 (cells + 2) (slots + 82)
  refine am_istore (I := iL_law) (pc := 1040) (L' := [some (.ref 0), some (.ref 1), some (.ref 25), some (.ref 45), some (.int (nI i9)), some (.int k9), none]) dL_law_1040 (by decide) rfl ?_
  refine am_aload_n (I := iL_law) (pc := 1042) dL_law_1042 rfl rfl ?_
  refine am_aload_n (I := iL_law) (pc := 1043) dL_law_1043 rfl rfl ?_
  refine am_iload (I := iL_law) (pc := 1044) dL_law_1044 rfl ?_
  refine am_iconst (I := iL_law) (pc := 1046) (x := 1) dL_law_1046 (by decide) ?_
  refine am_iadd (I := iL_law) (pc := 1047) dL_law_1047 ?_
  refine am_sld (I := iL_law) (pc := 1048) (j := i9 + 1) hsc (nI_add i9 1) (by omega) dL_law_1048 ?_
  refine am_aload_n (I := iL_law) (pc := 1049) dL_law_1049 rfl rfl ?_
  refine am_iload (I := iL_law) (pc := 1050) dL_law_1050 rfl ?_
  refine am_iconst (I := iL_law) (pc := 1052) (x := 2) dL_law_1052 (by decide) ?_
  refine am_iadd (I := iL_law) (pc := 1053) dL_law_1053 ?_
  refine am_sld (I := iL_law) (pc := 1054) (j := i9 + 2) hsc (nI_add i9 2) (by omega) dL_law_1054 ?_
  refine am_callV (I := iL_law) (pc := 1055) (st := []) lv_L_133 hC9 dL_law_1055 h25 rfl (Nat.le_of_ble_eq_true rfl) ⟨Nat.le_of_ble_eq_true rfl, Nat.le_of_ble_eq_true rfl⟩ hce hsl rfl (fun v9 S3 z9 _ => ?_) (fun _ _ h9 => h9.elim)
  obtain ⟨rfl, rfl⟩ := z9
  obtain ⟨fs2, h252⟩ := Inv_25 hI2
  have h452 := Inv_45 hI2
  show am_W _ _ _ _ _ _ _ _ _ _ _ _ _ _ _ 1058 [some (.ref 0), some (.ref 1), some (.ref 25), some (.ref 45), some (.int (nI i9)), some (.int k9), none] [.int r9] S2 (cells + 2) (slots + 82)
  refine am_istore (I := iL_law) (pc := 1058) (L' := [some (.ref 0), some (.ref 1), some (.ref 25), some (.ref 45), some (.int (nI i9)), some (.int k9), some (.int r9)]) dL_law_1058 (by decide) rfl ?_
  refine am_aload_n (I := iL_law) (pc := 1060) dL_law_1060 rfl rfl ?_
  refine am_callV (I := iL_law) (pc := 1061) (st := []) lv_L_84 (Inv_thr hI2) dL_law_1061 h252 rfl (Nat.le_of_ble_eq_true rfl) ⟨Nat.le_of_ble_eq_true rfl, Nat.le_of_ble_eq_true rfl⟩ hce hsl rfl (fun v9 S3 z9 _ => ?_) (fun _ _ h9 => h9.elim)
  obtain ⟨rfl, rfl⟩ := z9
  show am_W _ _ _ _ _ _ _ _ _ _ _ _ _ _ _ 1064 [some (.ref 0), some (.ref 1), some (.ref 25), some (.ref 45), some (.int (nI i9)), some (.int k9), some (.int r9)] [.int k9] S2 (cells + 2) (slots + 82)
  refine am_iload (I := iL_law) (pc := 1064) dL_law_1064 rfl ?_
  refine am_icmp_eq (I := iL_law) (pc := 1066) (tgt := 1071) dL_law_1066 (by decide) (fun c1066 => ?_) (fun c1066 => ?_)
  · refine am_iload (I := iL_law) (pc := 1071) dL_law_1071 rfl ?_
    refine am_if_ne (I := iL_law) (pc := 1073) (tgt := 1088) dL_law_1073 (by decide) (fun c1073 => ?_) (fun c1073 => ?_)
    · refine am_goto (I := iL_law) (pc := 1088) (tgt := 1318) dL_law_1088 (by decide) ?_
      exact am_forget 5 (am_forget 6 (kk9 _ _ _ hI2))
    · obtain ⟨e9, eb9⟩ := hZ9 c1073
      refine am_aload_n (I := iL_law) (pc := 1076) dL_law_1076 rfl rfl ?_
      refine am_iconst (I := iL_law) (pc := 1077) (x := 0) dL_law_1077 (by decide) ?_
      refine am_laload (I := iL_law) (pc := 1078) dL_law_1078 h452 rfl (vp_in_nI (show 0 < 1 by decide) (by decide)) ?_
      refine am_same (st' := [.long r9.toInt64]) rfl rfl (by rw [show (0 : Int32).toNatClampNeg = 0 from rfl, e9]) rfl rfl rfl ?_
      refine am_iload (I := iL_law) (pc := 1079) dL_law_1079 rfl ?_
      refine am_i2l (I := iL_law) (pc := 1081) dL_law_1081 ?_
      refine am_lcmp (I := iL_law) (pc := 1082) dL_law_1082 ?_
      refine am_if_eq (I := iL_law) (pc := 1083) (tgt := 1088) dL_law_1083 (by decide) (fun c1083 => ?_) (fun c1083 => ?_)
      · refine am_goto (I := iL_law) (pc := 1088) (tgt := 1318) dL_law_1088 (by decide) ?_
        exact am_forget 5 (am_forget 6 (kk9 _ _ _ hI2))
      · exact absurd (cmp_self _) c1083
  · exact absurd rfl c1066
set_option maxRecDepth 100000 in
set_option maxHeartbeats 4000000 in
theorem law_c15 {i9 cells slots : Nat} {th : Int32} {o : Nat → Int64} (hsc : law_sc K s S0 ad0 b9 L9 xs9) (hI : Inv th o S) (hi9 : i9 + 5 ≤ L9) (hce : cells + 2 ≤ room_1.cells) (hsl : slots + 82 ≤ room_1.slots) (kk9 : ∀ (S' : am_S) (th' : Int32) (o' : Nat → Int64), Inv th' o' S' → am_W K iL_law p l e room_1 s m args below meth c S0 ad0 Q 1318 [some (.ref 0), some (.ref 1), some (.ref 25), some (.ref 45), some (.int (nI i9)), none, none] [] S' (cells + 2) (slots + 82)) : am_W K iL_law p l e room_1 s m args below meth c S0 ad0 Q 1091 [some (.ref 0), some (.ref 1), some (.ref 25), some (.ref 45), some (.int (nI i9)), none, none] [] S cells slots := by
  refine am_aload_n (I := iL_law) (pc := 1091) dL_law_1091 rfl rfl ?_
  refine am_aload_n (I := iL_law) (pc := 1092) dL_law_1092 rfl rfl ?_
  refine am_iload (I := iL_law) (pc := 1093) dL_law_1093 rfl ?_
  refine am_iconst (I := iL_law) (pc := 1095) (x := 1) dL_law_1095 (by decide) ?_
  refine am_iadd (I := iL_law) (pc := 1096) dL_law_1096 ?_
  refine am_sld (I := iL_law) (pc := 1097) (j := i9 + 1) hsc (nI_add i9 1) (by omega) dL_law_1097 ?_
  refine am_aload_n (I := iL_law) (pc := 1098) dL_law_1098 rfl rfl ?_
  refine am_iload (I := iL_law) (pc := 1099) dL_law_1099 rfl ?_
  refine am_iconst (I := iL_law) (pc := 1101) (x := 2) dL_law_1101 (by decide) ?_
  refine am_iadd (I := iL_law) (pc := 1102) dL_law_1102 ?_
  refine am_sld (I := iL_law) (pc := 1103) (j := i9 + 2) hsc (nI_add i9 2) (by omega) dL_law_1103 ?_
  refine am_aload_n (I := iL_law) (pc := 1104) dL_law_1104 rfl rfl ?_
  refine am_iload (I := iL_law) (pc := 1105) dL_law_1105 rfl ?_
  refine am_iconst (I := iL_law) (pc := 1107) (x := 3) dL_law_1107 (by decide) ?_
  refine am_iadd (I := iL_law) (pc := 1108) dL_law_1108 ?_
  refine am_sld (I := iL_law) (pc := 1109) (j := i9 + 3) hsc (nI_add i9 3) (by omega) dL_law_1109 ?_
  refine am_if_eq (I := iL_law) (pc := 1110) (tgt := 1117) dL_law_1110 (by decide) (fun c1110 => ?_) (fun c1110 => ?_)
  · refine am_iconst (I := iL_law) (pc := 1117) (x := 0) dL_law_1117 (by decide) ?_
    refine am_aload_n (I := iL_law) (pc := 1118) dL_law_1118 rfl rfl ?_
    refine am_free (fun hf9 => ?_)
    obtain ⟨k9, r9, o9, P9, hW9, hM9, hZ9⟩ := st_way (K := K) (l := l) hI (xs9 (i9 + 1)) (xs9 (i9 + 2)) false
    refine am_callSH (I := iL_law) (pc := 1119) (st := []) lv_L_134 rfl hW9 dL_law_1119 rfl (Nat.le_of_ble_eq_true rfl) ⟨Nat.le_of_ble_eq_true rfl, Nat.le_of_ble_eq_true rfl⟩ hce hsl rfl (fun v9 S1 z9 _ => ?_) (fun _ _ h9 => h9.elim)
    obtain ⟨rfl, hP9⟩ := z9
    obtain ⟨S2, hC9, hI2, fs9, h25⟩ := hM9 S1 hP9
    show am_W _ _ _ _ _ _ _ _ _ _ _ _ _ _ _ 1122 [some (.ref 0), some (.ref 1), some (.ref 25), some (.ref 45), some (.int (nI i9)), none, none] [.int k9] S1 (cells + 2) (slots + 82)
    refine am_istore (I := iL_law) (pc := 1122) (L' := [some (.ref 0), some (.ref 1), some (.ref 25), some (.ref 45), some (.int (nI i9)), some (.int k9), none]) dL_law_1122 (by decide) rfl ?_
    refine am_aload_n (I := iL_law) (pc := 1124) dL_law_1124 rfl rfl ?_
    refine am_aload_n (I := iL_law) (pc := 1125) dL_law_1125 rfl rfl ?_
    refine am_iload (I := iL_law) (pc := 1126) dL_law_1126 rfl ?_
    refine am_iconst (I := iL_law) (pc := 1128) (x := 1) dL_law_1128 (by decide) ?_
    refine am_iadd (I := iL_law) (pc := 1129) dL_law_1129 ?_
    refine am_sld (I := iL_law) (pc := 1130) (j := i9 + 1) hsc (nI_add i9 1) (by omega) dL_law_1130 ?_
    refine am_aload_n (I := iL_law) (pc := 1131) dL_law_1131 rfl rfl ?_
    refine am_iload (I := iL_law) (pc := 1132) dL_law_1132 rfl ?_
    refine am_iconst (I := iL_law) (pc := 1134) (x := 2) dL_law_1134 (by decide) ?_
    refine am_iadd (I := iL_law) (pc := 1135) dL_law_1135 ?_
    refine am_sld (I := iL_law) (pc := 1136) (j := i9 + 2) hsc (nI_add i9 2) (by omega) dL_law_1136 ?_
    refine am_aload_n (I := iL_law) (pc := 1137) dL_law_1137 rfl rfl ?_
    refine am_iload (I := iL_law) (pc := 1138) dL_law_1138 rfl ?_
    refine am_iconst (I := iL_law) (pc := 1140) (x := 3) dL_law_1140 (by decide) ?_
    refine am_iadd (I := iL_law) (pc := 1141) dL_law_1141 ?_
    refine am_sld (I := iL_law) (pc := 1142) (j := i9 + 3) hsc (nI_add i9 3) (by omega) dL_law_1142 ?_
    refine am_if_eq (I := iL_law) (pc := 1143) (tgt := 1150) dL_law_1143 (by decide) (fun c1143 => ?_) (fun c1143 => ?_)
    · refine am_iconst (I := iL_law) (pc := 1150) (x := 0) dL_law_1150 (by decide) ?_
      refine am_callV (I := iL_law) (pc := 1151) (st := []) lv_L_137 hC9 dL_law_1151 h25 rfl (Nat.le_of_ble_eq_true rfl) ⟨Nat.le_of_ble_eq_true rfl, Nat.le_of_ble_eq_true rfl⟩ hce hsl rfl (fun v9 S3 z9 _ => ?_) (fun _ _ h9 => h9.elim)
      obtain ⟨rfl, rfl⟩ := z9
      obtain ⟨fs2, h252⟩ := Inv_25 hI2
      have h452 := Inv_45 hI2
      show am_W _ _ _ _ _ _ _ _ _ _ _ _ _ _ _ 1154 [some (.ref 0), some (.ref 1), some (.ref 25), some (.ref 45), some (.int (nI i9)), some (.int k9), none] [.int r9] S2 (cells + 2) (slots + 82)
      refine am_istore (I := iL_law) (pc := 1154) (L' := [some (.ref 0), some (.ref 1), some (.ref 25), some (.ref 45), some (.int (nI i9)), some (.int k9), some (.int r9)]) dL_law_1154 (by decide) rfl ?_
      refine am_aload_n (I := iL_law) (pc := 1156) dL_law_1156 rfl rfl ?_
      refine am_callV (I := iL_law) (pc := 1157) (st := []) lv_L_84 (Inv_thr hI2) dL_law_1157 h252 rfl (Nat.le_of_ble_eq_true rfl) ⟨Nat.le_of_ble_eq_true rfl, Nat.le_of_ble_eq_true rfl⟩ hce hsl rfl (fun v9 S3 z9 _ => ?_) (fun _ _ h9 => h9.elim)
      obtain ⟨rfl, rfl⟩ := z9
      show am_W _ _ _ _ _ _ _ _ _ _ _ _ _ _ _ 1160 [some (.ref 0), some (.ref 1), some (.ref 25), some (.ref 45), some (.int (nI i9)), some (.int k9), some (.int r9)] [.int k9] S2 (cells + 2) (slots + 82)
      refine am_iload (I := iL_law) (pc := 1160) dL_law_1160 rfl ?_
      refine am_icmp_eq (I := iL_law) (pc := 1162) (tgt := 1167) dL_law_1162 (by decide) (fun c1162 => ?_) (fun c1162 => ?_)
      · refine am_iload (I := iL_law) (pc := 1167) dL_law_1167 rfl ?_
        refine am_if_ne (I := iL_law) (pc := 1169) (tgt := 1191) dL_law_1169 (by decide) (fun c1169 => ?_) (fun c1169 => ?_)
        · refine am_goto (I := iL_law) (pc := 1191) (tgt := 1318) dL_law_1191 (by decide) ?_
          exact am_forget 5 (am_forget 6 (kk9 _ _ _ hI2))
        · obtain ⟨e9, eb9⟩ := hZ9 c1169
          refine am_aload_n (I := iL_law) (pc := 1172) dL_law_1172 rfl rfl ?_
          refine am_iconst (I := iL_law) (pc := 1173) (x := 0) dL_law_1173 (by decide) ?_
          refine am_laload (I := iL_law) (pc := 1174) dL_law_1174 h452 rfl (vp_in_nI (show 0 < 1 by decide) (by decide)) ?_
          refine am_same (st' := [.long r9.toInt64]) rfl rfl (by rw [show (0 : Int32).toNatClampNeg = 0 from rfl, e9]) rfl rfl rfl ?_
          refine am_iload (I := iL_law) (pc := 1175) dL_law_1175 rfl ?_
          refine am_if_eq (I := iL_law) (pc := 1177) (tgt := 1184) dL_law_1177 (by decide) (fun c1177 => ?_) (fun c1177 => ?_)
          · refine am_lconst (I := iL_law) (pc := 1184) (x := 0) dL_law_1184 (by decide) ?_
            refine am_lcmp (I := iL_law) (pc := 1185) dL_law_1185 ?_
            refine am_if_eq (I := iL_law) (pc := 1186) (tgt := 1191) dL_law_1186 (by decide) (fun c1186 => ?_) (fun c1186 => ?_)
            · refine am_goto (I := iL_law) (pc := 1191) (tgt := 1318) dL_law_1191 (by decide) ?_
              exact am_forget 5 (am_forget 6 (kk9 _ _ _ hI2))
            · exact absurd (by rw [c1177]; decide) c1186
          · refine am_lconst (I := iL_law) (pc := 1180) (x := 1) dL_law_1180 (by decide) ?_
            refine am_goto (I := iL_law) (pc := 1181) (tgt := 1185) dL_law_1181 (by decide) ?_
            refine am_lcmp (I := iL_law) (pc := 1185) dL_law_1185 ?_
            refine am_if_eq (I := iL_law) (pc := 1186) (tgt := 1191) dL_law_1186 (by decide) (fun c1186 => ?_) (fun c1186 => ?_)
            · refine am_goto (I := iL_law) (pc := 1191) (tgt := 1318) dL_law_1191 (by decide) ?_
              exact am_forget 5 (am_forget 6 (kk9 _ _ _ hI2))
            · exact absurd (by rw [(eb9 rfl).resolve_left c1177]; decide) c1186
      · exact absurd rfl c1162
    · exact absurd c1110 c1143
  · refine am_iconst (I := iL_law) (pc := 1113) (x := 1) dL_law_1113 (by decide) ?_
    refine am_goto (I := iL_law) (pc := 1114) (tgt := 1118) dL_law_1114 (by decide) ?_
    refine am_aload_n (I := iL_law) (pc := 1118) dL_law_1118 rfl rfl ?_
    refine am_free (fun hf9 => ?_)
    obtain ⟨k9, r9, o9, P9, hW9, hM9, hZ9⟩ := st_way (K := K) (l := l) hI (xs9 (i9 + 1)) (xs9 (i9 + 2)) true
    refine am_callSH (I := iL_law) (pc := 1119) (st := []) lv_L_134 rfl hW9 dL_law_1119 rfl (Nat.le_of_ble_eq_true rfl) ⟨Nat.le_of_ble_eq_true rfl, Nat.le_of_ble_eq_true rfl⟩ hce hsl rfl (fun v9 S1 z9 _ => ?_) (fun _ _ h9 => h9.elim)
    obtain ⟨rfl, hP9⟩ := z9
    obtain ⟨S2, hC9, hI2, fs9, h25⟩ := hM9 S1 hP9
    show am_W _ _ _ _ _ _ _ _ _ _ _ _ _ _ _ 1122 [some (.ref 0), some (.ref 1), some (.ref 25), some (.ref 45), some (.int (nI i9)), none, none] [.int k9] S1 (cells + 2) (slots + 82)
    refine am_istore (I := iL_law) (pc := 1122) (L' := [some (.ref 0), some (.ref 1), some (.ref 25), some (.ref 45), some (.int (nI i9)), some (.int k9), none]) dL_law_1122 (by decide) rfl ?_
    refine am_aload_n (I := iL_law) (pc := 1124) dL_law_1124 rfl rfl ?_
    refine am_aload_n (I := iL_law) (pc := 1125) dL_law_1125 rfl rfl ?_
    refine am_iload (I := iL_law) (pc := 1126) dL_law_1126 rfl ?_
    refine am_iconst (I := iL_law) (pc := 1128) (x := 1) dL_law_1128 (by decide) ?_
    refine am_iadd (I := iL_law) (pc := 1129) dL_law_1129 ?_
    refine am_sld (I := iL_law) (pc := 1130) (j := i9 + 1) hsc (nI_add i9 1) (by omega) dL_law_1130 ?_
    refine am_aload_n (I := iL_law) (pc := 1131) dL_law_1131 rfl rfl ?_
    refine am_iload (I := iL_law) (pc := 1132) dL_law_1132 rfl ?_
    refine am_iconst (I := iL_law) (pc := 1134) (x := 2) dL_law_1134 (by decide) ?_
    refine am_iadd (I := iL_law) (pc := 1135) dL_law_1135 ?_
    refine am_sld (I := iL_law) (pc := 1136) (j := i9 + 2) hsc (nI_add i9 2) (by omega) dL_law_1136 ?_
    refine am_aload_n (I := iL_law) (pc := 1137) dL_law_1137 rfl rfl ?_
    refine am_iload (I := iL_law) (pc := 1138) dL_law_1138 rfl ?_
    refine am_iconst (I := iL_law) (pc := 1140) (x := 3) dL_law_1140 (by decide) ?_
    refine am_iadd (I := iL_law) (pc := 1141) dL_law_1141 ?_
    refine am_sld (I := iL_law) (pc := 1142) (j := i9 + 3) hsc (nI_add i9 3) (by omega) dL_law_1142 ?_
    refine am_if_eq (I := iL_law) (pc := 1143) (tgt := 1150) dL_law_1143 (by decide) (fun c1143 => ?_) (fun c1143 => ?_)
    · exact absurd c1143 c1110
    · refine am_iconst (I := iL_law) (pc := 1146) (x := 1) dL_law_1146 (by decide) ?_
      refine am_goto (I := iL_law) (pc := 1147) (tgt := 1151) dL_law_1147 (by decide) ?_
      refine am_callV (I := iL_law) (pc := 1151) (st := []) lv_L_137 hC9 dL_law_1151 h25 rfl (Nat.le_of_ble_eq_true rfl) ⟨Nat.le_of_ble_eq_true rfl, Nat.le_of_ble_eq_true rfl⟩ hce hsl rfl (fun v9 S3 z9 _ => ?_) (fun _ _ h9 => h9.elim)
      obtain ⟨rfl, rfl⟩ := z9
      obtain ⟨fs2, h252⟩ := Inv_25 hI2
      have h452 := Inv_45 hI2
      show am_W _ _ _ _ _ _ _ _ _ _ _ _ _ _ _ 1154 [some (.ref 0), some (.ref 1), some (.ref 25), some (.ref 45), some (.int (nI i9)), some (.int k9), none] [.int r9] S2 (cells + 2) (slots + 82)
      refine am_istore (I := iL_law) (pc := 1154) (L' := [some (.ref 0), some (.ref 1), some (.ref 25), some (.ref 45), some (.int (nI i9)), some (.int k9), some (.int r9)]) dL_law_1154 (by decide) rfl ?_
      refine am_aload_n (I := iL_law) (pc := 1156) dL_law_1156 rfl rfl ?_
      refine am_callV (I := iL_law) (pc := 1157) (st := []) lv_L_84 (Inv_thr hI2) dL_law_1157 h252 rfl (Nat.le_of_ble_eq_true rfl) ⟨Nat.le_of_ble_eq_true rfl, Nat.le_of_ble_eq_true rfl⟩ hce hsl rfl (fun v9 S3 z9 _ => ?_) (fun _ _ h9 => h9.elim)
      obtain ⟨rfl, rfl⟩ := z9
      show am_W _ _ _ _ _ _ _ _ _ _ _ _ _ _ _ 1160 [some (.ref 0), some (.ref 1), some (.ref 25), some (.ref 45), some (.int (nI i9)), some (.int k9), some (.int r9)] [.int k9] S2 (cells + 2) (slots + 82)
      refine am_iload (I := iL_law) (pc := 1160) dL_law_1160 rfl ?_
      refine am_icmp_eq (I := iL_law) (pc := 1162) (tgt := 1167) dL_law_1162 (by decide) (fun c1162 => ?_) (fun c1162 => ?_)
      · refine am_iload (I := iL_law) (pc := 1167) dL_law_1167 rfl ?_
        refine am_if_ne (I := iL_law) (pc := 1169) (tgt := 1191) dL_law_1169 (by decide) (fun c1169 => ?_) (fun c1169 => ?_)
        · refine am_goto (I := iL_law) (pc := 1191) (tgt := 1318) dL_law_1191 (by decide) ?_
          exact am_forget 5 (am_forget 6 (kk9 _ _ _ hI2))
        · obtain ⟨e9, eb9⟩ := hZ9 c1169
          refine am_aload_n (I := iL_law) (pc := 1172) dL_law_1172 rfl rfl ?_
          refine am_iconst (I := iL_law) (pc := 1173) (x := 0) dL_law_1173 (by decide) ?_
          refine am_laload (I := iL_law) (pc := 1174) dL_law_1174 h452 rfl (vp_in_nI (show 0 < 1 by decide) (by decide)) ?_
          refine am_same (st' := [.long r9.toInt64]) rfl rfl (by rw [show (0 : Int32).toNatClampNeg = 0 from rfl, e9]) rfl rfl rfl ?_
          refine am_iload (I := iL_law) (pc := 1175) dL_law_1175 rfl ?_
          refine am_if_eq (I := iL_law) (pc := 1177) (tgt := 1184) dL_law_1177 (by decide) (fun c1177 => ?_) (fun c1177 => ?_)
          · refine am_lconst (I := iL_law) (pc := 1184) (x := 0) dL_law_1184 (by decide) ?_
            refine am_lcmp (I := iL_law) (pc := 1185) dL_law_1185 ?_
            refine am_if_eq (I := iL_law) (pc := 1186) (tgt := 1191) dL_law_1186 (by decide) (fun c1186 => ?_) (fun c1186 => ?_)
            · refine am_goto (I := iL_law) (pc := 1191) (tgt := 1318) dL_law_1191 (by decide) ?_
              exact am_forget 5 (am_forget 6 (kk9 _ _ _ hI2))
            · exact absurd (by rw [c1177]; decide) c1186
          · refine am_lconst (I := iL_law) (pc := 1180) (x := 1) dL_law_1180 (by decide) ?_
            refine am_goto (I := iL_law) (pc := 1181) (tgt := 1185) dL_law_1181 (by decide) ?_
            refine am_lcmp (I := iL_law) (pc := 1185) dL_law_1185 ?_
            refine am_if_eq (I := iL_law) (pc := 1186) (tgt := 1191) dL_law_1186 (by decide) (fun c1186 => ?_) (fun c1186 => ?_)
            · refine am_goto (I := iL_law) (pc := 1191) (tgt := 1318) dL_law_1191 (by decide) ?_
              exact am_forget 5 (am_forget 6 (kk9 _ _ _ hI2))
            · exact absurd (by rw [(eb9 rfl).resolve_left c1177]; decide) c1186
      · exact absurd rfl c1162
set_option maxRecDepth 100000 in
set_option maxHeartbeats 4000000 in
theorem law_c16 {i9 cells slots : Nat} {th : Int32} {o : Nat → Int64} (hsc : law_sc K s S0 ad0 b9 L9 xs9) (hI : Inv th o S) (hi9 : i9 + 5 ≤ L9) (hce : cells + 2 ≤ room_1.cells) (hsl : slots + 82 ≤ room_1.slots) (kk9 : ∀ (S' : am_S) (th' : Int32) (o' : Nat → Int64), Inv th' o' S' → am_W K iL_law p l e room_1 s m args below meth c S0 ad0 Q 1318 [some (.ref 0), some (.ref 1), some (.ref 25), some (.ref 45), some (.int (nI i9)), none, none] [] S' (cells + 2) (slots + 82)) : am_W K iL_law p l e room_1 s m args below meth c S0 ad0 Q 1194 [some (.ref 0), some (.ref 1), some (.ref 25), some (.ref 45), some (.int (nI i9)), none, none] [] S cells slots := by
  refine am_aload_n (I := iL_law) (pc := 1194) dL_law_1194 rfl rfl ?_
  refine am_aload_n (I := iL_law) (pc := 1195) dL_law_1195 rfl rfl ?_
  refine am_iload (I := iL_law) (pc := 1196) dL_law_1196 rfl ?_
  refine am_iconst (I := iL_law) (pc := 1198) (x := 1) dL_law_1198 (by decide) ?_
  refine am_iadd (I := iL_law) (pc := 1199) dL_law_1199 ?_
  refine am_sld (I := iL_law) (pc := 1200) (j := i9 + 1) hsc (nI_add i9 1) (by omega) dL_law_1200 ?_
  refine am_aload_n (I := iL_law) (pc := 1201) dL_law_1201 rfl rfl ?_
  refine am_iload (I := iL_law) (pc := 1202) dL_law_1202 rfl ?_
  refine am_iconst (I := iL_law) (pc := 1204) (x := 2) dL_law_1204 (by decide) ?_
  refine am_iadd (I := iL_law) (pc := 1205) dL_law_1205 ?_
  refine am_sld (I := iL_law) (pc := 1206) (j := i9 + 2) hsc (nI_add i9 2) (by omega) dL_law_1206 ?_
  refine am_aload_n (I := iL_law) (pc := 1207) dL_law_1207 rfl rfl ?_
  refine am_free (fun hf9 => ?_)
  obtain ⟨k9, r9, o9, P9, hW9, hM9, hZ9⟩ := st_arrow (K := K) (l := l) hI (xs9 (i9 + 1)) (xs9 (i9 + 2))
  refine am_callSH (I := iL_law) (pc := 1208) (st := []) lv_L_138 rfl hW9 dL_law_1208 rfl (Nat.le_of_ble_eq_true rfl) ⟨Nat.le_of_ble_eq_true rfl, Nat.le_of_ble_eq_true rfl⟩ hce hsl rfl (fun v9 S1 z9 _ => ?_) (fun _ _ h9 => h9.elim)
  obtain ⟨rfl, hP9⟩ := z9
  obtain ⟨S2, hC9, hI2, fs9, h25⟩ := hM9 S1 hP9
  show am_W _ _ _ _ _ _ _ _ _ _ _ _ _ _ _ 1211 [some (.ref 0), some (.ref 1), some (.ref 25), some (.ref 45), some (.int (nI i9)), none, none] [.int k9] S1 (cells + 2) (slots + 82)
  refine am_istore (I := iL_law) (pc := 1211) (L' := [some (.ref 0), some (.ref 1), some (.ref 25), some (.ref 45), some (.int (nI i9)), some (.int k9), none]) dL_law_1211 (by decide) rfl ?_
  refine am_aload_n (I := iL_law) (pc := 1213) dL_law_1213 rfl rfl ?_
  refine am_aload_n (I := iL_law) (pc := 1214) dL_law_1214 rfl rfl ?_
  refine am_iload (I := iL_law) (pc := 1215) dL_law_1215 rfl ?_
  refine am_iconst (I := iL_law) (pc := 1217) (x := 1) dL_law_1217 (by decide) ?_
  refine am_iadd (I := iL_law) (pc := 1218) dL_law_1218 ?_
  refine am_sld (I := iL_law) (pc := 1219) (j := i9 + 1) hsc (nI_add i9 1) (by omega) dL_law_1219 ?_
  refine am_aload_n (I := iL_law) (pc := 1220) dL_law_1220 rfl rfl ?_
  refine am_iload (I := iL_law) (pc := 1221) dL_law_1221 rfl ?_
  refine am_iconst (I := iL_law) (pc := 1223) (x := 2) dL_law_1223 (by decide) ?_
  refine am_iadd (I := iL_law) (pc := 1224) dL_law_1224 ?_
  refine am_sld (I := iL_law) (pc := 1225) (j := i9 + 2) hsc (nI_add i9 2) (by omega) dL_law_1225 ?_
  refine am_callV (I := iL_law) (pc := 1226) (st := []) lv_L_140 hC9 dL_law_1226 h25 rfl (Nat.le_of_ble_eq_true rfl) ⟨Nat.le_of_ble_eq_true rfl, Nat.le_of_ble_eq_true rfl⟩ hce hsl rfl (fun v9 S3 z9 _ => ?_) (fun _ _ h9 => h9.elim)
  obtain ⟨rfl, rfl⟩ := z9
  obtain ⟨fs2, h252⟩ := Inv_25 hI2
  have h452 := Inv_45 hI2
  show am_W _ _ _ _ _ _ _ _ _ _ _ _ _ _ _ 1229 [some (.ref 0), some (.ref 1), some (.ref 25), some (.ref 45), some (.int (nI i9)), some (.int k9), none] [.int r9] S2 (cells + 2) (slots + 82)
  refine am_istore (I := iL_law) (pc := 1229) (L' := [some (.ref 0), some (.ref 1), some (.ref 25), some (.ref 45), some (.int (nI i9)), some (.int k9), some (.int r9)]) dL_law_1229 (by decide) rfl ?_
  refine am_aload_n (I := iL_law) (pc := 1231) dL_law_1231 rfl rfl ?_
  refine am_callV (I := iL_law) (pc := 1232) (st := []) lv_L_84 (Inv_thr hI2) dL_law_1232 h252 rfl (Nat.le_of_ble_eq_true rfl) ⟨Nat.le_of_ble_eq_true rfl, Nat.le_of_ble_eq_true rfl⟩ hce hsl rfl (fun v9 S3 z9 _ => ?_) (fun _ _ h9 => h9.elim)
  obtain ⟨rfl, rfl⟩ := z9
  show am_W _ _ _ _ _ _ _ _ _ _ _ _ _ _ _ 1235 [some (.ref 0), some (.ref 1), some (.ref 25), some (.ref 45), some (.int (nI i9)), some (.int k9), some (.int r9)] [.int k9] S2 (cells + 2) (slots + 82)
  refine am_iload (I := iL_law) (pc := 1235) dL_law_1235 rfl ?_
  refine am_icmp_eq (I := iL_law) (pc := 1237) (tgt := 1242) dL_law_1237 (by decide) (fun c1237 => ?_) (fun c1237 => ?_)
  · refine am_iload (I := iL_law) (pc := 1242) dL_law_1242 rfl ?_
    refine am_if_ne (I := iL_law) (pc := 1244) (tgt := 1259) dL_law_1244 (by decide) (fun c1244 => ?_) (fun c1244 => ?_)
    · refine am_goto (I := iL_law) (pc := 1259) (tgt := 1318) dL_law_1259 (by decide) ?_
      exact am_forget 5 (am_forget 6 (kk9 _ _ _ hI2))
    · obtain ⟨e9, eb9⟩ := hZ9 c1244
      refine am_aload_n (I := iL_law) (pc := 1247) dL_law_1247 rfl rfl ?_
      refine am_iconst (I := iL_law) (pc := 1248) (x := 0) dL_law_1248 (by decide) ?_
      refine am_laload (I := iL_law) (pc := 1249) dL_law_1249 h452 rfl (vp_in_nI (show 0 < 1 by decide) (by decide)) ?_
      refine am_same (st' := [.long r9.toInt64]) rfl rfl (by rw [show (0 : Int32).toNatClampNeg = 0 from rfl, e9]) rfl rfl rfl ?_
      refine am_iload (I := iL_law) (pc := 1250) dL_law_1250 rfl ?_
      refine am_i2l (I := iL_law) (pc := 1252) dL_law_1252 ?_
      refine am_lcmp (I := iL_law) (pc := 1253) dL_law_1253 ?_
      refine am_if_eq (I := iL_law) (pc := 1254) (tgt := 1259) dL_law_1254 (by decide) (fun c1254 => ?_) (fun c1254 => ?_)
      · refine am_goto (I := iL_law) (pc := 1259) (tgt := 1318) dL_law_1259 (by decide) ?_
        exact am_forget 5 (am_forget 6 (kk9 _ _ _ hI2))
      · exact absurd (cmp_self _) c1254
  · exact absurd rfl c1237
set_option maxRecDepth 100000 in
set_option maxHeartbeats 4000000 in
theorem law_c17 {i9 cells slots : Nat} {th : Int32} {o : Nat → Int64} (hsc : law_sc K s S0 ad0 b9 L9 xs9) (hI : Inv th o S) (hi9 : i9 + 5 ≤ L9) (hce : cells + 2 ≤ room_1.cells) (hsl : slots + 82 ≤ room_1.slots) (kk9 : ∀ (S' : am_S) (th' : Int32) (o' : Nat → Int64), Inv th' o' S' → am_W K iL_law p l e room_1 s m args below meth c S0 ad0 Q 1318 [some (.ref 0), some (.ref 1), some (.ref 25), some (.ref 45), some (.int (nI i9)), none, none] [] S' (cells + 2) (slots + 82)) : am_W K iL_law p l e room_1 s m args below meth c S0 ad0 Q 1262 [some (.ref 0), some (.ref 1), some (.ref 25), some (.ref 45), some (.int (nI i9)), none, none] [] S cells slots := by
  refine am_aload_n (I := iL_law) (pc := 1262) dL_law_1262 rfl rfl ?_
  refine am_aload_n (I := iL_law) (pc := 1263) dL_law_1263 rfl rfl ?_
  refine am_iload (I := iL_law) (pc := 1264) dL_law_1264 rfl ?_
  refine am_iconst (I := iL_law) (pc := 1266) (x := 1) dL_law_1266 (by decide) ?_
  refine am_iadd (I := iL_law) (pc := 1267) dL_law_1267 ?_
  refine am_sld (I := iL_law) (pc := 1268) (j := i9 + 1) hsc (nI_add i9 1) (by omega) dL_law_1268 ?_
  refine am_aload_n (I := iL_law) (pc := 1269) dL_law_1269 rfl rfl ?_
  refine am_free (fun hf9 => ?_)
  obtain ⟨k9, r9, o9, P9, hW9, hM9, hZ9⟩ := st_count (K := K) (l := l) hI (xs9 (i9 + 1))
  refine am_callSH (I := iL_law) (pc := 1270) (st := []) lv_L_141 rfl hW9 dL_law_1270 rfl (Nat.le_of_ble_eq_true rfl) ⟨Nat.le_of_ble_eq_true rfl, Nat.le_of_ble_eq_true rfl⟩ hce hsl rfl (fun v9 S1 z9 _ => ?_) (fun _ _ h9 => h9.elim)
  obtain ⟨rfl, hP9⟩ := z9
  obtain ⟨S2, hC9, hI2, fs9, h25⟩ := hM9 S1 hP9
  show am_W _ _ _ _ _ _ _ _ _ _ _ _ _ _ _ 1273 [some (.ref 0), some (.ref 1), some (.ref 25), some (.ref 45), some (.int (nI i9)), none, none] [.int k9] S1 (cells + 2) (slots + 82)
  refine am_istore (I := iL_law) (pc := 1273) (L' := [some (.ref 0), some (.ref 1), some (.ref 25), some (.ref 45), some (.int (nI i9)), some (.int k9), none]) dL_law_1273 (by decide) rfl ?_
  refine am_aload_n (I := iL_law) (pc := 1275) dL_law_1275 rfl rfl ?_
  refine am_aload_n (I := iL_law) (pc := 1276) dL_law_1276 rfl rfl ?_
  refine am_iload (I := iL_law) (pc := 1277) dL_law_1277 rfl ?_
  refine am_iconst (I := iL_law) (pc := 1279) (x := 1) dL_law_1279 (by decide) ?_
  refine am_iadd (I := iL_law) (pc := 1280) dL_law_1280 ?_
  refine am_sld (I := iL_law) (pc := 1281) (j := i9 + 1) hsc (nI_add i9 1) (by omega) dL_law_1281 ?_
  refine am_callV (I := iL_law) (pc := 1282) (st := []) lv_L_143 hC9 dL_law_1282 h25 rfl (Nat.le_of_ble_eq_true rfl) ⟨Nat.le_of_ble_eq_true rfl, Nat.le_of_ble_eq_true rfl⟩ hce hsl rfl (fun v9 S3 z9 _ => ?_) (fun _ _ h9 => h9.elim)
  obtain ⟨rfl, rfl⟩ := z9
  obtain ⟨fs2, h252⟩ := Inv_25 hI2
  have h452 := Inv_45 hI2
  show am_W _ _ _ _ _ _ _ _ _ _ _ _ _ _ _ 1285 [some (.ref 0), some (.ref 1), some (.ref 25), some (.ref 45), some (.int (nI i9)), some (.int k9), none] [.int r9] S2 (cells + 2) (slots + 82)
  refine am_istore (I := iL_law) (pc := 1285) (L' := [some (.ref 0), some (.ref 1), some (.ref 25), some (.ref 45), some (.int (nI i9)), some (.int k9), some (.int r9)]) dL_law_1285 (by decide) rfl ?_
  refine am_aload_n (I := iL_law) (pc := 1287) dL_law_1287 rfl rfl ?_
  refine am_callV (I := iL_law) (pc := 1288) (st := []) lv_L_84 (Inv_thr hI2) dL_law_1288 h252 rfl (Nat.le_of_ble_eq_true rfl) ⟨Nat.le_of_ble_eq_true rfl, Nat.le_of_ble_eq_true rfl⟩ hce hsl rfl (fun v9 S3 z9 _ => ?_) (fun _ _ h9 => h9.elim)
  obtain ⟨rfl, rfl⟩ := z9
  show am_W _ _ _ _ _ _ _ _ _ _ _ _ _ _ _ 1291 [some (.ref 0), some (.ref 1), some (.ref 25), some (.ref 45), some (.int (nI i9)), some (.int k9), some (.int r9)] [.int k9] S2 (cells + 2) (slots + 82)
  refine am_iload (I := iL_law) (pc := 1291) dL_law_1291 rfl ?_
  refine am_icmp_eq (I := iL_law) (pc := 1293) (tgt := 1298) dL_law_1293 (by decide) (fun c1293 => ?_) (fun c1293 => ?_)
  · refine am_iload (I := iL_law) (pc := 1298) dL_law_1298 rfl ?_
    refine am_if_ne (I := iL_law) (pc := 1300) (tgt := 1315) dL_law_1300 (by decide) (fun c1300 => ?_) (fun c1300 => ?_)
    · refine am_goto (I := iL_law) (pc := 1315) (tgt := 1318) dL_law_1315 (by decide) ?_
      exact am_forget 5 (am_forget 6 (kk9 _ _ _ hI2))
    · obtain ⟨e9, eb9⟩ := hZ9 c1300
      refine am_aload_n (I := iL_law) (pc := 1303) dL_law_1303 rfl rfl ?_
      refine am_iconst (I := iL_law) (pc := 1304) (x := 0) dL_law_1304 (by decide) ?_
      refine am_laload (I := iL_law) (pc := 1305) dL_law_1305 h452 rfl (vp_in_nI (show 0 < 1 by decide) (by decide)) ?_
      refine am_same (st' := [.long r9.toInt64]) rfl rfl (by rw [show (0 : Int32).toNatClampNeg = 0 from rfl, e9]) rfl rfl rfl ?_
      refine am_iload (I := iL_law) (pc := 1306) dL_law_1306 rfl ?_
      refine am_i2l (I := iL_law) (pc := 1308) dL_law_1308 ?_
      refine am_lcmp (I := iL_law) (pc := 1309) dL_law_1309 ?_
      refine am_if_eq (I := iL_law) (pc := 1310) (tgt := 1315) dL_law_1310 (by decide) (fun c1310 => ?_) (fun c1310 => ?_)
      · refine am_goto (I := iL_law) (pc := 1315) (tgt := 1318) dL_law_1315 (by decide) ?_
        exact am_forget 5 (am_forget 6 (kk9 _ _ _ hI2))
      · exact absurd (cmp_self _) c1310
  · exact absurd rfl c1293
end LAW
