/-! THE LAW: its switch, its loop -/
section LAW2
variable {K : am_K} {p : Program} {l : Launch} {e : Env} {s : State} {m : MethodId} {args : Array Value} {below : List Frame} {meth : Method} {c : Code} {S0 S : am_S} {ad0 : Nat → Nat} {Q : State → Prop} {b9 L9 : Nat} {xs9 : Nat → Int32}
set_option maxRecDepth 100000 in
set_option maxHeartbeats 4000000 in
theorem law_sw {i9 cells slots : Nat} {th : Int32} {o : Nat → Int64} (hsc : law_sc K s S0 ad0 b9 L9 xs9) (hI : Inv th o S) (hi9 : i9 + 5 ≤ L9) (hce : cells + 2 ≤ room_1.cells) (hsl : slots + 82 ≤ room_1.slots) (kk9 : ∀ (S' : am_S) (th' : Int32) (o' : Nat → Int64), Inv th' o' S' → am_W K iL_law p l e room_1 s m args below meth c S0 ad0 Q 1318 [some (.ref 0), some (.ref 1), some (.ref 25), some (.ref 45), some (.int (nI i9)), none, none] [] S' (cells + 2) (slots + 82)) : am_W K iL_law p l e room_1 s m args below meth c S0 ad0 Q 32 [some (.ref 0), some (.ref 1), some (.ref 25), some (.ref 45), some (.int (nI i9)), none, none] [] S cells slots := by
  refine am_aload_n (I := iL_law) (pc := 32) dL_law_32 rfl rfl ?_
  refine am_iload (I := iL_law) (pc := 33) dL_law_33 rfl ?_
  refine am_sld (I := iL_law) (pc := 35) (j := i9) hsc rfl (by omega) dL_law_35 ?_
  refine am_bipush (I := iL_law) (pc := 36) (x := 31) dL_law_36 (by decide) ?_
  refine am_iand (I := iL_law) (pc := 38) dL_law_38 ?_
  generalize xs9 i9 &&& 31 = z9
  rcases pk_ix z9 (n := 18) (by decide) with h9 | h9 | ⟨j9, h9, rfl⟩
  · refine am_tableOut (I := iL_law) (pc := 39) (tgt := 1318) dL_law_39 (Or.inl (Int32.lt_iff_toInt_lt.mp h9)) (by decide) ?_
    exact am_widen (Nat.le_add_right _ _) (Nat.le_add_right _ _) (kk9 _ _ _ hI)
  · refine am_tableOut (I := iL_law) (pc := 39) (tgt := 1318) dL_law_39 (Or.inr ?_) (by decide) ?_
    · have h8 := Int32.le_iff_toInt_le.mp h9
      have h7 : (nI 18).toInt = 18 := by decide
      omega
    · exact am_widen (Nat.le_add_right _ _) (Nat.le_add_right _ _) (kk9 _ _ _ hI)
  · rcases (show j9 = 0 ∨ j9 = 1 ∨ j9 = 2 ∨ j9 = 3 ∨ j9 = 4 ∨ j9 = 5 ∨ j9 = 6 ∨ j9 = 7 ∨ j9 = 8 ∨ j9 = 9 ∨ j9 = 10 ∨ j9 = 11 ∨ j9 = 12 ∨ j9 = 13 ∨ j9 = 14 ∨ j9 = 15 ∨ j9 = 16 ∨ j9 = 17 by omega) with rfl | rfl | rfl | rfl | rfl | rfl | rfl | rfl | rfl | rfl | rfl | rfl | rfl | rfl | rfl | rfl | rfl | rfl
    · exact am_tableIn (I := iL_law) (pc := 39) (tgt := 124) (off := 85) dL_law_39 (by decide) (by decide) (by decide +kernel) (by decide) (law_c0 hsc hI hi9 hce hsl kk9)
    · exact am_tableIn (I := iL_law) (pc := 39) (tgt := 180) (off := 141) dL_law_39 (by decide) (by decide) (by decide +kernel) (by decide) (law_c1 hsc hI hi9 hce hsl kk9)
    · exact am_tableIn (I := iL_law) (pc := 39) (tgt := 193) (off := 154) dL_law_39 (by decide) (by decide) (by decide +kernel) (by decide) (law_c2 hsc hI hi9 hce hsl kk9)
    · exact am_tableIn (I := iL_law) (pc := 39) (tgt := 261) (off := 222) dL_law_39 (by decide) (by decide) (by decide +kernel) (by decide) (law_c3 hsc hI hi9 hce hsl kk9)
    · exact am_tableIn (I := iL_law) (pc := 39) (tgt := 336) (off := 297) dL_law_39 (by decide) (by decide) (by decide +kernel) (by decide) (law_c4 hsc hI hi9 hce hsl kk9)
    · exact am_tableIn (I := iL_law) (pc := 39) (tgt := 404) (off := 365) dL_law_39 (by decide) (by decide) (by decide +kernel) (by decide) (law_c5 hsc hI hi9 hce hsl kk9)
    · exact am_tableIn (I := iL_law) (pc := 39) (tgt := 496) (off := 457) dL_law_39 (by decide) (by decide) (by decide +kernel) (by decide) (law_c6 hsc hI hi9 hce hsl kk9)
    · exact am_tableIn (I := iL_law) (pc := 39) (tgt := 576) (off := 537) dL_law_39 (by decide) (by decide) (by decide +kernel) (by decide) (law_c7 hsc hI hi9 hce hsl kk9)
    · exact am_tableIn (I := iL_law) (pc := 39) (tgt := 644) (off := 605) dL_law_39 (by decide) (by decide) (by decide +kernel) (by decide) (law_c8 hsc hI hi9 hce hsl kk9)
    · exact am_tableIn (I := iL_law) (pc := 39) (tgt := 712) (off := 673) dL_law_39 (by decide) (by decide) (by decide +kernel) (by decide) (law_c9 hsc hI hi9 hce hsl kk9)
    · exact am_tableIn (I := iL_law) (pc := 39) (tgt := 775) (off := 736) dL_law_39 (by decide) (by decide) (by decide +kernel) (by decide) (law_c10 hsc hI hi9 hce hsl kk9)
    · exact am_tableIn (I := iL_law) (pc := 39) (tgt := 843) (off := 804) dL_law_39 (by decide) (by decide) (by decide +kernel) (by decide) (law_c11 hsc hI hi9 hce hsl kk9)
    · exact am_tableIn (I := iL_law) (pc := 39) (tgt := 899) (off := 860) dL_law_39 (by decide) (by decide) (by decide +kernel) (by decide) (law_c12 hsc hI hi9 hce hsl kk9)
    · exact am_tableIn (I := iL_law) (pc := 39) (tgt := 943) (off := 904) dL_law_39 (by decide) (by decide) (by decide +kernel) (by decide) (law_c13 hsc hI hi9 hce hsl kk9)
    · exact am_tableIn (I := iL_law) (pc := 39) (tgt := 1023) (off := 984) dL_law_39 (by decide) (by decide) (by decide +kernel) (by decide) (law_c14 hsc hI hi9 hce hsl kk9)
    · exact am_tableIn (I := iL_law) (pc := 39) (tgt := 1091) (off := 1052) dL_law_39 (by decide) (by decide) (by decide +kernel) (by decide) (law_c15 hsc hI hi9 hce hsl kk9)
    · exact am_tableIn (I := iL_law) (pc := 39) (tgt := 1194) (off := 1155) dL_law_39 (by decide) (by decide) (by decide +kernel) (by decide) (law_c16 hsc hI hi9 hce hsl kk9)
    · exact am_tableIn (I := iL_law) (pc := 39) (tgt := 1262) (off := 1223) dL_law_39 (by decide) (by decide) (by decide +kernel) (by decide) (law_c17 hsc hI hi9 hce hsl kk9)
set_option maxRecDepth 100000 in
set_option maxHeartbeats 4000000 in
theorem law_loop (hsc : law_sc K s S0 ad0 b9 L9 xs9) (hend : ∀ (S' : am_S) (i9 cells slots : Nat), cells ≤ room_1.cells → slots ≤ room_1.slots → am_W K iL_law p l e room_1 s m args below meth c S0 ad0 Q 1324 [some (.ref 0), some (.ref 1), some (.ref 25), some (.ref 45), some (.int (nI i9)), none, none] [] S' cells slots) : ∀ (n t : Nat) (S : am_S) (th : Int32) (o : Nat → Int64), 513 < t + n → t ≤ 512 → Inv th o S → am_W K iL_law p l e room_1 s m args below meth c S0 ad0 Q 23 [some (.ref 0), some (.ref 1), some (.ref 25), some (.ref 45), some (.int (nI (5 * t))), none, none] [] S (45 + 2 * t) (18352 + 82 * t) := by
  intro n
  induction n with
  | zero => intro t S th o h1 h2; exact absurd h1 (by omega)
  | succ n ih =>
    intro t S th o h1 h2 hI
    have hLn := hsc.2.2.2.2.2
    refine am_iload (I := iL_law) (pc := 23) dL_law_23 rfl ?_
    refine am_aload_n (I := iL_law) (pc := 25) dL_law_25 rfl rfl ?_
    refine am_slen (I := iL_law) (pc := 26) hsc dL_law_26 ?_
    refine am_iconst (I := iL_law) (pc := 27) (x := 5) dL_law_27 (by decide) ?_
    refine am_isub (I := iL_law) (pc := 28) dL_law_28 ?_
    refine am_icmp_gt (I := iL_law) (pc := 29) (tgt := 1324) dL_law_29 (by decide) (fun c29 => ?_) (fun c29 => ?_)
    · exact hend S (5 * t) (45 + 2 * t) (18352 + 82 * t) (show 45 + 2 * t ≤ 601024 by omega) (show 18352 + 82 * t ≤ 7293034 by omega)
    · have hi9 : 5 * t + 5 ≤ L9 := by
        rcases Nat.lt_or_ge L9 5 with q | q
        · exact absurd (show nI L9 - nI 5 < nI (5 * t) from Int32.lt_of_lt_of_le (nI_neg q (by decide)) (nI_le (a := 0) (Nat.zero_le _) (by omega))) c29
        · rcases Nat.lt_or_ge (L9 - 5) (5 * t) with r | r
          · exact absurd (show nI L9 - nI 5 < nI (5 * t) by rw [nI_sub q]; exact nI_lt r (by omega)) c29
          · omega
      refine law_sw (i9 := 5 * t) hsc hI hi9 (show 45 + 2 * t + 2 ≤ 601024 by omega) (show 18352 + 82 * t + 82 ≤ 7293034 by omega) (fun S' th' o' hI' => ?_)
      refine am_iinc (I := iL_law) (pc := 1318) (y := nI (5 * (t + 1))) (L' := [some (.ref 0), some (.ref 1), some (.ref 25), some (.ref 45), some (.int (nI (5 * (t + 1)))), none, none]) dL_law_1318 rfl (nI_add (5 * t) 5) rfl ?_
      refine am_goto (I := iL_law) (pc := 1321) (tgt := 23) dL_law_1321 (by decide) ?_
      exact am_same rfl rfl rfl rfl (by omega) (by omega) (ih (t + 1) S' th' o' (by omega) (by omega) hI')
end LAW2
def fb0 (l : Nat) : Option Nat := if l < 5 then none else some 0
theorem fb0_eq : (upd (upd (upd (upd (upd (fun _ => 0) (0 : Int32).toNatClampNeg (-1)) (1 : Int32).toNatClampNeg (-1)) (2 : Int32).toNatClampNeg (-1)) (3 : Int32).toNatClampNeg (-1)) (4 : Int32).toNatClampNeg (-1)) = fun l => fo (fb0 l) := by
  funext l
  show upd (upd (upd (upd (upd (fun _ => (0 : Int32)) 0 (-1)) 1 (-1)) 2 (-1)) 3 (-1)) 4 (-1) l = fo (fb0 l)
  unfold fb0
  by_cases h : l < 5
  · rw [if_pos h]
    rcases (show l = 0 ∨ l = 1 ∨ l = 2 ∨ l = 3 ∨ l = 4 by omega) with rfl | rfl | rfl | rfl | rfl <;> rfl
  · rw [if_neg h, pk_un (by omega), pk_un (by omega), pk_un (by omega), pk_un (by omega), pk_un (by omega)]
    rfl
theorem cnt_none {p : Nat → Bool} (hp : ∀ k, p k = false) : ∀ n, cnt p n = 0
  | 0 => rfl
  | n + 1 => by
    show (if p n then cnt p n + 1 else cnt p n) = 0
    rw [hp n]
    exact cnt_none hp n
theorem jn_zero (a b : Nat) : jn (fun _ => 0) a b = 0 := by
  unfold jn
  rw [if_pos (Int32.zero_and)]

set_option maxRecDepth 100000 in
set_option maxHeartbeats 4000000 in
theorem inv0 {T : Nat → am_C} (k1 : T 1 = (.inr (6, [.ref 2, .ref 4, .ref 8, .ref 15, .ref 17, .ref 19, .ref 23]))) (k2 : T 2 = (.inr (3, [.ref 3, .int 0]))) (k3 : T 3 = (.inl (0, 80, .inl (fun _ => 0)))) (k4 : T 4 = (.inr (0, [.ref 5, .ref 6, .ref 7, .int 0]))) (k5 : T 5 = (.inl (2, 200, .inr (.inr (.inr (.inr (fun _ => none))))))) (k6 : T 6 = (.inl (0, 50, .inl (fun _ => 0)))) (k7 : T 7 = (.inl (0, 5, .inl (upd (upd (upd (upd (upd (fun _ => 0) (0 : Int32).toNatClampNeg (-1)) (1 : Int32).toNatClampNeg (-1)) (2 : Int32).toNatClampNeg (-1)) (3 : Int32).toNatClampNeg (-1)) (4 : Int32).toNatClampNeg (-1))))) (k8 : T 8 = (.inr (4, [.ref 9, .ref 10, .int 0, .ref 11, .ref 12, .ref 13, .ref 14, .int 0, .int 0]))) (k9 : T 9 = (.inl (0, 40, .inl (fun _ => 0)))) (k10 : T 10 = (.inl (0, 40, .inl (fun _ => 0)))) (k11 : T 11 = (.inl (0, 40, .inl (fun _ => 0)))) (k12 : T 12 = (.inl (0, 40, .inl (fun _ => 0)))) (k13 : T 13 = (.inl (0, 40, .inl (fun _ => 0)))) (k14 : T 14 = (.inl (0, 40, .inl (fun _ => 0)))) (k15 : T 15 = (.inr (1, [.ref 16, .int 0]))) (k16 : T 16 = (.inl (2, 36, .inr (.inr (.inr (.inr (fun _ => none))))))) (k17 : T 17 = (.inr (3, [.ref 18, .int 0]))) (k18 : T 18 = (.inl (0, 80, .inl (fun _ => 0)))) (k19 : T 19 = (.inr (5, [.ref 20, .ref 21, .ref 22, .int 0]))) (k20 : T 20 = (.inl (0, 16, .inl (fun _ => 0)))) (k21 : T 21 = (.inl (0, 16, .inl (fun _ => 0)))) (k22 : T 22 = (.inl (0, 16, .inl (fun _ => 0)))) (k23 : T 23 = (.inr (2, [.ref 24, .int 0]))) (k24 : T 24 = (.inl (0, 24, .inl (fun _ => 0)))) (k25 : T 25 = (.inr (7, [.int 0, .int 0, .ref 26, .ref 27, .ref 28, .ref 29, .ref 30, .int 0, .ref 31, .ref 32, .ref 33, .ref 34, .int 0, .int 0, .int 0, .ref 35, .ref 36, .ref 37, .ref 38, .int 0, .int 0, .int 0, .ref 39, .int 0, .ref 40, .ref 41, .ref 42, .ref 43, .ref 44]))) (k26 : T 26 = (.inl (0, 80, .inl (fun _ => 0)))) (k27 : T 27 = (.inl (0, 50, .inl (fun _ => 0)))) (k28 : T 28 = (.inl (0, 200, .inl (fun _ => 0)))) (k29 : T 29 = (.inl (0, 16000, .inl (fun _ => 0)))) (k30 : T 30 = (.inl (0, 5, .inl (upd (upd (upd (upd (upd (fun _ => 0) (0 : Int32).toNatClampNeg (-1)) (1 : Int32).toNatClampNeg (-1)) (2 : Int32).toNatClampNeg (-1)) (3 : Int32).toNatClampNeg (-1)) (4 : Int32).toNatClampNeg (-1))))) (k31 : T 31 = (.inl (0, 41, .inl (fun _ => 0)))) (k32 : T 32 = (.inl (0, 41, .inl (fun _ => 0)))) (k33 : T 33 = (.inl (0, 42, .inl (fun _ => 0)))) (k34 : T 34 = (.inl (0, 42, .inl (fun _ => 0)))) (k35 : T 35 = (.inl (0, 41, .inl (fun _ => 0)))) (k36 : T 36 = (.inl (0, 41, .inl (fun _ => 0)))) (k37 : T 37 = (.inl (0, 36, .inl (fun _ => 0)))) (k38 : T 38 = (.inl (0, 180, .inl (fun _ => 0)))) (k39 : T 39 = (.inl (0, 80, .inl (fun _ => 0)))) (k40 : T 40 = (.inl (0, 16, .inl (fun _ => 0)))) (k41 : T 41 = (.inl (0, 16, .inl (fun _ => 0)))) (k42 : T 42 = (.inl (0, 16, .inl (fun _ => 0)))) (k43 : T 43 = (.inl (3, 576, .inl (fun _ => 0)))) (k44 : T 44 = (.inl (0, 24, .inl (fun _ => 0)))) (k45 : T 45 = .inl (1, 1, .inr (.inl (fun _ => 0)))) : Inv 0 (fun _ => 0) (T, 46) := by
  refine ⟨0, 0, 0, 0, 0, 0, 0, 0, 0, (fun _ => 0), (fun _ => 0), (fun _ => 0), (fun _ => 0), (upd (upd (upd (upd (upd (fun _ => 0) (0 : Int32).toNatClampNeg (-1)) (1 : Int32).toNatClampNeg (-1)) (2 : Int32).toNatClampNeg (-1)) (3 : Int32).toNatClampNeg (-1)) (4 : Int32).toNatClampNeg (-1)), (fun _ => 0), (fun _ => 0), (fun _ => 0), (fun _ => 0), (fun _ => 0), (fun _ => 0), (fun _ => 0), (fun _ => 0), (fun _ => 0), (fun _ => 0), (fun _ => 0), (fun _ => 0), (fun _ => 0), (fun _ => 0), ?_, k45, k1, ?_, ?_, ?_, ?_, ?_, ?_⟩
  · exact mdS_id (S := (T, 46)) k25 k26 k27 k28 k29 k30 k31 k32 k33 k34 k35 k36 k37 k38 k39 k40 k41 k42 k43 k44
  · exact ⟨0, ⟨k2, k3, by decide, by decide⟩, rfl, fun j h => absurd h (Nat.not_lt_zero _)⟩
  · refine ⟨fun _ => none, fun _ => 0, fb0, fun _ => 0, fun _ => 0, fun _ => 0, fun _ _ => 0, ⟨?_, k5, k6, k7.trans ?_, by decide, fun k => Nat.zero_le _, ?_⟩, rfl, fb0_eq, ?_, fun k j _ h => absurd h (Nat.not_lt_zero _)⟩
    · exact k4
    · rw [fb0_eq]
    · intro l k h
      unfold fb0 at h
      by_cases q : l < 5
      · rw [if_pos q] at h; cases h
      · rw [if_neg q] at h; cases h; decide
    · intro l h
      show ends fb0 4 (fb0 l)
      unfold fb0
      rw [if_pos h]
      unfold ends
      trivial
  · exact ⟨(fun _ => 0), (fun _ => 0), (fun _ => 0), (fun _ => 0), (fun _ => 0), (fun _ => 0), 0, 0, ⟨k8, k9, k10, k11, k12, k13, k14⟩, rfl, rfl, by decide, fun k h => absurd h (Nat.not_lt_zero _)⟩
  · exact ⟨fun _ => none, fun _ => 0, fun _ _ => 0, fun _ => 0, fun _ => 0, 0, fun _ => none, ⟨k15, k16, fun k hk => Or.inl ⟨rfl, rfl⟩⟩, fun k _ h => absurd h (Nat.lt_irrefl _), fun _ => Nat.zero_le _, rfl, fun k i _ h => absurd h (Nat.not_lt_zero _), ⟨k17, k18, by decide, by decide⟩, rfl, rfl, fun k h => absurd h (Nat.not_lt_zero _), by decide⟩
  · exact ⟨0, ⟨k19, k20, k21, k22, by decide, by decide, by decide, by decide⟩, rfl⟩
  · refine ⟨(fun _ => 0), ⟨?_, k24⟩, fun a b _ _ => ⟨(jn_zero a b).symm, (jn_zero a b).trans (jn_zero b a).symm⟩, fun a _ => jn_zero a a, fun a b _ _ _ => Int32.zero_and⟩
    rw [cnt_none (p := wyp fun _ => 0) (fun k => by simp [wyp])]
    exact k23
section LAW3
variable {K : am_K} {p : Program} {l : Launch} {e : Env} {s : State} {m : MethodId} {args : Array Value} {below : List Frame} {meth : Method} {c : Code} {S0 S : am_S} {ad0 : Nat → Nat} {Q : State → Prop} {b9 L9 : Nat} {xs9 : Nat → Int32}
set_option maxRecDepth 100000 in
set_option maxHeartbeats 4000000 in
theorem law_0 (h : Nat → am_C) (kk9 : ∀ T : Nat → am_C, T 1 = (.inr (6, [.ref 2, .ref 4, .ref 8, .ref 15, .ref 17, .ref 19, .ref 23])) → T 2 = (.inr (3, [.ref 3, .int 0])) → T 3 = (.inl (0, 80, .inl (fun _ => 0))) → T 4 = (.inr (0, [.ref 5, .ref 6, .ref 7, .int 0])) → T 5 = (.inl (2, 200, .inr (.inr (.inr (.inr (fun _ => none)))))) → T 6 = (.inl (0, 50, .inl (fun _ => 0))) → T 7 = (.inl (0, 5, .inl (upd (upd (upd (upd (upd (fun _ => 0) (0 : Int32).toNatClampNeg (-1)) (1 : Int32).toNatClampNeg (-1)) (2 : Int32).toNatClampNeg (-1)) (3 : Int32).toNatClampNeg (-1)) (4 : Int32).toNatClampNeg (-1)))) → T 8 = (.inr (4, [.ref 9, .ref 10, .int 0, .ref 11, .ref 12, .ref 13, .ref 14, .int 0, .int 0])) → T 9 = (.inl (0, 40, .inl (fun _ => 0))) → T 10 = (.inl (0, 40, .inl (fun _ => 0))) → T 11 = (.inl (0, 40, .inl (fun _ => 0))) → T 12 = (.inl (0, 40, .inl (fun _ => 0))) → T 13 = (.inl (0, 40, .inl (fun _ => 0))) → T 14 = (.inl (0, 40, .inl (fun _ => 0))) → T 15 = (.inr (1, [.ref 16, .int 0])) → T 16 = (.inl (2, 36, .inr (.inr (.inr (.inr (fun _ => none)))))) → T 17 = (.inr (3, [.ref 18, .int 0])) → T 18 = (.inl (0, 80, .inl (fun _ => 0))) → T 19 = (.inr (5, [.ref 20, .ref 21, .ref 22, .int 0])) → T 20 = (.inl (0, 16, .inl (fun _ => 0))) → T 21 = (.inl (0, 16, .inl (fun _ => 0))) → T 22 = (.inl (0, 16, .inl (fun _ => 0))) → T 23 = (.inr (2, [.ref 24, .int 0])) → T 24 = (.inl (0, 24, .inl (fun _ => 0))) → T 25 = (.inr (7, [.int 0, .int 0, .ref 26, .ref 27, .ref 28, .ref 29, .ref 30, .int 0, .ref 31, .ref 32, .ref 33, .ref 34, .int 0, .int 0, .int 0, .ref 35, .ref 36, .ref 37, .ref 38, .int 0, .int 0, .int 0, .ref 39, .int 0, .ref 40, .ref 41, .ref 42, .ref 43, .ref 44])) → T 26 = (.inl (0, 80, .inl (fun _ => 0))) → T 27 = (.inl (0, 50, .inl (fun _ => 0))) → T 28 = (.inl (0, 200, .inl (fun _ => 0))) → T 29 = (.inl (0, 16000, .inl (fun _ => 0))) → T 30 = (.inl (0, 5, .inl (upd (upd (upd (upd (upd (fun _ => 0) (0 : Int32).toNatClampNeg (-1)) (1 : Int32).toNatClampNeg (-1)) (2 : Int32).toNatClampNeg (-1)) (3 : Int32).toNatClampNeg (-1)) (4 : Int32).toNatClampNeg (-1)))) → T 31 = (.inl (0, 41, .inl (fun _ => 0))) → T 32 = (.inl (0, 41, .inl (fun _ => 0))) → T 33 = (.inl (0, 42, .inl (fun _ => 0))) → T 34 = (.inl (0, 42, .inl (fun _ => 0))) → T 35 = (.inl (0, 41, .inl (fun _ => 0))) → T 36 = (.inl (0, 41, .inl (fun _ => 0))) → T 37 = (.inl (0, 36, .inl (fun _ => 0))) → T 38 = (.inl (0, 180, .inl (fun _ => 0))) → T 39 = (.inl (0, 80, .inl (fun _ => 0))) → T 40 = (.inl (0, 16, .inl (fun _ => 0))) → T 41 = (.inl (0, 16, .inl (fun _ => 0))) → T 42 = (.inl (0, 16, .inl (fun _ => 0))) → T 43 = (.inl (3, 576, .inl (fun _ => 0))) → T 44 = (.inl (0, 24, .inl (fun _ => 0))) → T 45 = .inl (1, 1, .inr (.inl (fun _ => 0))) → am_W K iL_law p l e room_1 s m args below meth c S0 ad0 Q 23 [some (.ref 0), some (.ref 1), some (.ref 25), some (.ref 45), some (.int (0)), none, none] [] (T, 46) 45 18352) : am_W K iL_law p l e room_1 s m args below meth c S0 ad0 Q 0 [some (.ref 0), none, none, none, none, none, none] [] (h, 1) 0 0 := by
  refine am_new (I := iL_law) (pc := 0) ln_L_8 dL_law_0 (Nat.le_of_ble_eq_true rfl) (Nat.le_of_ble_eq_true rfl) ?_
  show am_W _ _ _ _ _ _ _ _ _ _ _ _ _ _ _ 3 [some (.ref 0), none, none, none, none, none, none] [.ref 1] (am_up h 1 (.inr (6, [.null, .null, .null, .null, .null, .null, .null])), 2) 1 7
  generalize eT1 : am_up h 1 (.inr (6, [.null, .null, .null, .null, .null, .null, .null])) = T1
  have k1 : T1 1 = (.inr (6, [.null, .null, .null, .null, .null, .null, .null])) := by rw [← eT1]; exact am_up_s
  refine am_dup (I := iL_law) (pc := 3) dL_law_3 rfl ?_
  refine am_callI (I := iL_law) (pc := 4) (st := [.ref 1]) lv_L_74 (m_CL_init K l T1 k1) dL_law_4 rfl (Nat.le_of_ble_eq_true rfl) ⟨Nat.le_of_ble_eq_true rfl, Nat.le_of_ble_eq_true rfl⟩ (Nat.le_of_ble_eq_true rfl) (Nat.le_of_ble_eq_true rfl) rfl (fun v9 U9 z9 _ => ?_)
  obtain ⟨rfl, nU9, k2, k3, k4, k5, k6, k7, k8, k9, k10, k11, k12, k13, k14, k15, k16, k17, k18, k19, k20, k21, k22, k23, k24, k25, k26⟩ := z9
  obtain ⟨T2, n9⟩ := U9
  change n9 = 25 at nU9
  subst nU9
  change T2 1 = (.inr (6, [.ref 2, .ref 4, .ref 8, .ref 15, .ref 17, .ref 19, .ref 23])) at k2
  change T2 2 = (.inr (3, [.ref 3, .int 0])) at k3
  change T2 3 = (.inl (0, 80, .inl (fun _ => 0))) at k4
  change T2 4 = (.inr (0, [.ref 5, .ref 6, .ref 7, .int 0])) at k5
  change T2 5 = (.inl (2, 200, .inr (.inr (.inr (.inr (fun _ => none)))))) at k6
  change T2 6 = (.inl (0, 50, .inl (fun _ => 0))) at k7
  change T2 7 = (.inl (0, 5, .inl (upd (upd (upd (upd (upd (fun _ => 0) (0 : Int32).toNatClampNeg (-1)) (1 : Int32).toNatClampNeg (-1)) (2 : Int32).toNatClampNeg (-1)) (3 : Int32).toNatClampNeg (-1)) (4 : Int32).toNatClampNeg (-1)))) at k8
  change T2 8 = (.inr (4, [.ref 9, .ref 10, .int 0, .ref 11, .ref 12, .ref 13, .ref 14, .int 0, .int 0])) at k9
  change T2 9 = (.inl (0, 40, .inl (fun _ => 0))) at k10
  change T2 10 = (.inl (0, 40, .inl (fun _ => 0))) at k11
  change T2 11 = (.inl (0, 40, .inl (fun _ => 0))) at k12
  change T2 12 = (.inl (0, 40, .inl (fun _ => 0))) at k13
  change T2 13 = (.inl (0, 40, .inl (fun _ => 0))) at k14
  change T2 14 = (.inl (0, 40, .inl (fun _ => 0))) at k15
  change T2 15 = (.inr (1, [.ref 16, .int 0])) at k16
  change T2 16 = (.inl (2, 36, .inr (.inr (.inr (.inr (fun _ => none)))))) at k17
  change T2 17 = (.inr (3, [.ref 18, .int 0])) at k18
  change T2 18 = (.inl (0, 80, .inl (fun _ => 0))) at k19
  change T2 19 = (.inr (5, [.ref 20, .ref 21, .ref 22, .int 0])) at k20
  change T2 20 = (.inl (0, 16, .inl (fun _ => 0))) at k21
  change T2 21 = (.inl (0, 16, .inl (fun _ => 0))) at k22
  change T2 22 = (.inl (0, 16, .inl (fun _ => 0))) at k23
  change T2 23 = (.inr (2, [.ref 24, .int 0])) at k24
  change T2 24 = (.inl (0, 24, .inl (fun _ => 0))) at k25
  show am_W _ _ _ _ _ _ _ _ _ _ _ _ _ _ _ 7 [some (.ref 0), none, none, none, none, none, none] [.ref 1] (T2, 25) 24 795
  refine am_astore_n (I := iL_law) (pc := 7) (L' := [some (.ref 0), some (.ref 1), none, none, none, none, none]) dL_law_7 rfl (by decide) rfl ?_
  refine am_new (I := iL_law) (pc := 8) ln_L_75 dL_law_8 (Nat.le_of_ble_eq_true rfl) (Nat.le_of_ble_eq_true rfl) ?_
  show am_W _ _ _ _ _ _ _ _ _ _ _ _ _ _ _ 11 [some (.ref 0), some (.ref 1), none, none, none, none, none] [.ref 25] (am_up T2 25 (.inr (7, [.int 0, .int 0, .null, .null, .null, .null, .null, .int 0, .null, .null, .null, .null, .int 0, .int 0, .int 0, .null, .null, .null, .null, .int 0, .int 0, .int 0, .null, .int 0, .null, .null, .null, .null, .null])), 26) 25 824
  generalize eT3 : am_up T2 25 (.inr (7, [.int 0, .int 0, .null, .null, .null, .null, .null, .int 0, .null, .null, .null, .null, .int 0, .int 0, .int 0, .null, .null, .null, .null, .int 0, .int 0, .int 0, .null, .int 0, .null, .null, .null, .null, .null])) = T3
  have k27 : T3 1 = (.inr (6, [.ref 2, .ref 4, .ref 8, .ref 15, .ref 17, .ref 19, .ref 23])) := by rw [← eT3]; exact (am_up_n (by decide)).trans k2
  have k28 : T3 2 = (.inr (3, [.ref 3, .int 0])) := by rw [← eT3]; exact (am_up_n (by decide)).trans k3
  have k29 : T3 3 = (.inl (0, 80, .inl (fun _ => 0))) := by rw [← eT3]; exact (am_up_n (by decide)).trans k4
  have k30 : T3 4 = (.inr (0, [.ref 5, .ref 6, .ref 7, .int 0])) := by rw [← eT3]; exact (am_up_n (by decide)).trans k5
  have k31 : T3 5 = (.inl (2, 200, .inr (.inr (.inr (.inr (fun _ => none)))))) := by rw [← eT3]; exact (am_up_n (by decide)).trans k6
  have k32 : T3 6 = (.inl (0, 50, .inl (fun _ => 0))) := by rw [← eT3]; exact (am_up_n (by decide)).trans k7
  have k33 : T3 7 = (.inl (0, 5, .inl (upd (upd (upd (upd (upd (fun _ => 0) (0 : Int32).toNatClampNeg (-1)) (1 : Int32).toNatClampNeg (-1)) (2 : Int32).toNatClampNeg (-1)) (3 : Int32).toNatClampNeg (-1)) (4 : Int32).toNatClampNeg (-1)))) := by rw [← eT3]; exact (am_up_n (by decide)).trans k8
  have k34 : T3 8 = (.inr (4, [.ref 9, .ref 10, .int 0, .ref 11, .ref 12, .ref 13, .ref 14, .int 0, .int 0])) := by rw [← eT3]; exact (am_up_n (by decide)).trans k9
  have k35 : T3 9 = (.inl (0, 40, .inl (fun _ => 0))) := by rw [← eT3]; exact (am_up_n (by decide)).trans k10
  have k36 : T3 10 = (.inl (0, 40, .inl (fun _ => 0))) := by rw [← eT3]; exact (am_up_n (by decide)).trans k11
  have k37 : T3 11 = (.inl (0, 40, .inl (fun _ => 0))) := by rw [← eT3]; exact (am_up_n (by decide)).trans k12
  have k38 : T3 12 = (.inl (0, 40, .inl (fun _ => 0))) := by rw [← eT3]; exact (am_up_n (by decide)).trans k13
  have k39 : T3 13 = (.inl (0, 40, .inl (fun _ => 0))) := by rw [← eT3]; exact (am_up_n (by decide)).trans k14
  have k40 : T3 14 = (.inl (0, 40, .inl (fun _ => 0))) := by rw [← eT3]; exact (am_up_n (by decide)).trans k15
  have k41 : T3 15 = (.inr (1, [.ref 16, .int 0])) := by rw [← eT3]; exact (am_up_n (by decide)).trans k16
  have k42 : T3 16 = (.inl (2, 36, .inr (.inr (.inr (.inr (fun _ => none)))))) := by rw [← eT3]; exact (am_up_n (by decide)).trans k17
  have k43 : T3 17 = (.inr (3, [.ref 18, .int 0])) := by rw [← eT3]; exact (am_up_n (by decide)).trans k18
  have k44 : T3 18 = (.inl (0, 80, .inl (fun _ => 0))) := by rw [← eT3]; exact (am_up_n (by decide)).trans k19
  have k45 : T3 19 = (.inr (5, [.ref 20, .ref 21, .ref 22, .int 0])) := by rw [← eT3]; exact (am_up_n (by decide)).trans k20
  have k46 : T3 20 = (.inl (0, 16, .inl (fun _ => 0))) := by rw [← eT3]; exact (am_up_n (by decide)).trans k21
  have k47 : T3 21 = (.inl (0, 16, .inl (fun _ => 0))) := by rw [← eT3]; exact (am_up_n (by decide)).trans k22
  have k48 : T3 22 = (.inl (0, 16, .inl (fun _ => 0))) := by rw [← eT3]; exact (am_up_n (by decide)).trans k23
  have k49 : T3 23 = (.inr (2, [.ref 24, .int 0])) := by rw [← eT3]; exact (am_up_n (by decide)).trans k24
  have k50 : T3 24 = (.inl (0, 24, .inl (fun _ => 0))) := by rw [← eT3]; exact (am_up_n (by decide)).trans k25
  have k51 : T3 25 = (.inr (7, [.int 0, .int 0, .null, .null, .null, .null, .null, .int 0, .null, .null, .null, .null, .int 0, .int 0, .int 0, .null, .null, .null, .null, .int 0, .int 0, .int 0, .null, .int 0, .null, .null, .null, .null, .null])) := by rw [← eT3]; exact am_up_s
  refine am_dup (I := iL_law) (pc := 11) dL_law_11 rfl ?_
  refine am_callI (I := iL_law) (pc := 12) (st := [.ref 25]) lv_L_77 (m_Md_init K l T3 k51) dL_law_12 rfl (Nat.le_of_ble_eq_true rfl) ⟨Nat.le_of_ble_eq_true rfl, Nat.le_of_ble_eq_true rfl⟩ (Nat.le_of_ble_eq_true rfl) (Nat.le_of_ble_eq_true rfl) rfl (fun v9 U9 z9 _ => ?_)
  obtain ⟨rfl, nU9, k52, k53, k54, k55, k56, k57, k58, k59, k60, k61, k62, k63, k64, k65, k66, k67, k68, k69, k70, k71, k72⟩ := z9
  obtain ⟨T4, n9⟩ := U9
  change n9 = 45 at nU9
  subst nU9
  have k73 : T4 1 = (.inr (6, [.ref 2, .ref 4, .ref 8, .ref 15, .ref 17, .ref 19, .ref 23])) := (k72 1 (by decide)).trans k27
  have k74 : T4 2 = (.inr (3, [.ref 3, .int 0])) := (k72 2 (by decide)).trans k28
  have k75 : T4 3 = (.inl (0, 80, .inl (fun _ => 0))) := (k72 3 (by decide)).trans k29
  have k76 : T4 4 = (.inr (0, [.ref 5, .ref 6, .ref 7, .int 0])) := (k72 4 (by decide)).trans k30
  have k77 : T4 5 = (.inl (2, 200, .inr (.inr (.inr (.inr (fun _ => none)))))) := (k72 5 (by decide)).trans k31
  have k78 : T4 6 = (.inl (0, 50, .inl (fun _ => 0))) := (k72 6 (by decide)).trans k32
  have k79 : T4 7 = (.inl (0, 5, .inl (upd (upd (upd (upd (upd (fun _ => 0) (0 : Int32).toNatClampNeg (-1)) (1 : Int32).toNatClampNeg (-1)) (2 : Int32).toNatClampNeg (-1)) (3 : Int32).toNatClampNeg (-1)) (4 : Int32).toNatClampNeg (-1)))) := (k72 7 (by decide)).trans k33
  have k80 : T4 8 = (.inr (4, [.ref 9, .ref 10, .int 0, .ref 11, .ref 12, .ref 13, .ref 14, .int 0, .int 0])) := (k72 8 (by decide)).trans k34
  have k81 : T4 9 = (.inl (0, 40, .inl (fun _ => 0))) := (k72 9 (by decide)).trans k35
  have k82 : T4 10 = (.inl (0, 40, .inl (fun _ => 0))) := (k72 10 (by decide)).trans k36
  have k83 : T4 11 = (.inl (0, 40, .inl (fun _ => 0))) := (k72 11 (by decide)).trans k37
  have k84 : T4 12 = (.inl (0, 40, .inl (fun _ => 0))) := (k72 12 (by decide)).trans k38
  have k85 : T4 13 = (.inl (0, 40, .inl (fun _ => 0))) := (k72 13 (by decide)).trans k39
  have k86 : T4 14 = (.inl (0, 40, .inl (fun _ => 0))) := (k72 14 (by decide)).trans k40
  have k87 : T4 15 = (.inr (1, [.ref 16, .int 0])) := (k72 15 (by decide)).trans k41
  have k88 : T4 16 = (.inl (2, 36, .inr (.inr (.inr (.inr (fun _ => none)))))) := (k72 16 (by decide)).trans k42
  have k89 : T4 17 = (.inr (3, [.ref 18, .int 0])) := (k72 17 (by decide)).trans k43
  have k90 : T4 18 = (.inl (0, 80, .inl (fun _ => 0))) := (k72 18 (by decide)).trans k44
  have k91 : T4 19 = (.inr (5, [.ref 20, .ref 21, .ref 22, .int 0])) := (k72 19 (by decide)).trans k45
  have k92 : T4 20 = (.inl (0, 16, .inl (fun _ => 0))) := (k72 20 (by decide)).trans k46
  have k93 : T4 21 = (.inl (0, 16, .inl (fun _ => 0))) := (k72 21 (by decide)).trans k47
  have k94 : T4 22 = (.inl (0, 16, .inl (fun _ => 0))) := (k72 22 (by decide)).trans k48
  have k95 : T4 23 = (.inr (2, [.ref 24, .int 0])) := (k72 23 (by decide)).trans k49
  have k96 : T4 24 = (.inl (0, 24, .inl (fun _ => 0))) := (k72 24 (by decide)).trans k50
  change T4 25 = (.inr (7, [.int 0, .int 0, .ref 26, .ref 27, .ref 28, .ref 29, .ref 30, .int 0, .ref 31, .ref 32, .ref 33, .ref 34, .int 0, .int 0, .int 0, .ref 35, .ref 36, .ref 37, .ref 38, .int 0, .int 0, .int 0, .ref 39, .int 0, .ref 40, .ref 41, .ref 42, .ref 43, .ref 44])) at k52
  change T4 26 = (.inl (0, 80, .inl (fun _ => 0))) at k53
  change T4 27 = (.inl (0, 50, .inl (fun _ => 0))) at k54
  change T4 28 = (.inl (0, 200, .inl (fun _ => 0))) at k55
  change T4 29 = (.inl (0, 16000, .inl (fun _ => 0))) at k56
  change T4 30 = (.inl (0, 5, .inl (upd (upd (upd (upd (upd (fun _ => 0) (0 : Int32).toNatClampNeg (-1)) (1 : Int32).toNatClampNeg (-1)) (2 : Int32).toNatClampNeg (-1)) (3 : Int32).toNatClampNeg (-1)) (4 : Int32).toNatClampNeg (-1)))) at k57
  change T4 31 = (.inl (0, 41, .inl (fun _ => 0))) at k58
  change T4 32 = (.inl (0, 41, .inl (fun _ => 0))) at k59
  change T4 33 = (.inl (0, 42, .inl (fun _ => 0))) at k60
  change T4 34 = (.inl (0, 42, .inl (fun _ => 0))) at k61
  change T4 35 = (.inl (0, 41, .inl (fun _ => 0))) at k62
  change T4 36 = (.inl (0, 41, .inl (fun _ => 0))) at k63
  change T4 37 = (.inl (0, 36, .inl (fun _ => 0))) at k64
  change T4 38 = (.inl (0, 180, .inl (fun _ => 0))) at k65
  change T4 39 = (.inl (0, 80, .inl (fun _ => 0))) at k66
  change T4 40 = (.inl (0, 16, .inl (fun _ => 0))) at k67
  change T4 41 = (.inl (0, 16, .inl (fun _ => 0))) at k68
  change T4 42 = (.inl (0, 16, .inl (fun _ => 0))) at k69
  change T4 43 = (.inl (3, 576, .inl (fun _ => 0))) at k70
  change T4 44 = (.inl (0, 24, .inl (fun _ => 0))) at k71
  show am_W _ _ _ _ _ _ _ _ _ _ _ _ _ _ _ 15 [some (.ref 0), some (.ref 1), none, none, none, none, none] [.ref 25] (T4, 45) 44 18351
  refine am_astore_n (I := iL_law) (pc := 15) (L' := [some (.ref 0), some (.ref 1), some (.ref 25), none, none, none, none]) dL_law_15 rfl (by decide) rfl ?_
  refine am_iconst (I := iL_law) (pc := 16) (x := 1) dL_law_16 (by decide) ?_
  refine am_newarray (I := iL_law) (pc := 17) (k := 1) (n := 1) (ty := .long) (q0 := .inr (.inl (fun _ => 0))) dL_law_17 rfl rfl la_long (fun _ => rfl) (fun _ => rfl) (fun _ => trivial) (by decide) (by decide) (by decide) (Nat.le_of_ble_eq_true rfl) (Nat.le_of_ble_eq_true rfl) ?_
  show am_W _ _ _ _ _ _ _ _ _ _ _ _ _ _ _ 19 [some (.ref 0), some (.ref 1), some (.ref 25), none, none, none, none] [.ref 45] (am_up T4 45 (.inl (1, 1, .inr (.inl (fun _ => 0)))), 46) 45 18352
  generalize eT5 : am_up T4 45 (.inl (1, 1, .inr (.inl (fun _ => 0)))) = T5
  have k97 : T5 1 = (.inr (6, [.ref 2, .ref 4, .ref 8, .ref 15, .ref 17, .ref 19, .ref 23])) := by rw [← eT5]; exact (am_up_n (by decide)).trans k73
  have k98 : T5 2 = (.inr (3, [.ref 3, .int 0])) := by rw [← eT5]; exact (am_up_n (by decide)).trans k74
  have k99 : T5 3 = (.inl (0, 80, .inl (fun _ => 0))) := by rw [← eT5]; exact (am_up_n (by decide)).trans k75
  have k100 : T5 4 = (.inr (0, [.ref 5, .ref 6, .ref 7, .int 0])) := by rw [← eT5]; exact (am_up_n (by decide)).trans k76
  have k101 : T5 5 = (.inl (2, 200, .inr (.inr (.inr (.inr (fun _ => none)))))) := by rw [← eT5]; exact (am_up_n (by decide)).trans k77
  have k102 : T5 6 = (.inl (0, 50, .inl (fun _ => 0))) := by rw [← eT5]; exact (am_up_n (by decide)).trans k78
  have k103 : T5 7 = (.inl (0, 5, .inl (upd (upd (upd (upd (upd (fun _ => 0) (0 : Int32).toNatClampNeg (-1)) (1 : Int32).toNatClampNeg (-1)) (2 : Int32).toNatClampNeg (-1)) (3 : Int32).toNatClampNeg (-1)) (4 : Int32).toNatClampNeg (-1)))) := by rw [← eT5]; exact (am_up_n (by decide)).trans k79
  have k104 : T5 8 = (.inr (4, [.ref 9, .ref 10, .int 0, .ref 11, .ref 12, .ref 13, .ref 14, .int 0, .int 0])) := by rw [← eT5]; exact (am_up_n (by decide)).trans k80
  have k105 : T5 9 = (.inl (0, 40, .inl (fun _ => 0))) := by rw [← eT5]; exact (am_up_n (by decide)).trans k81
  have k106 : T5 10 = (.inl (0, 40, .inl (fun _ => 0))) := by rw [← eT5]; exact (am_up_n (by decide)).trans k82
  have k107 : T5 11 = (.inl (0, 40, .inl (fun _ => 0))) := by rw [← eT5]; exact (am_up_n (by decide)).trans k83
  have k108 : T5 12 = (.inl (0, 40, .inl (fun _ => 0))) := by rw [← eT5]; exact (am_up_n (by decide)).trans k84
  have k109 : T5 13 = (.inl (0, 40, .inl (fun _ => 0))) := by rw [← eT5]; exact (am_up_n (by decide)).trans k85
  have k110 : T5 14 = (.inl (0, 40, .inl (fun _ => 0))) := by rw [← eT5]; exact (am_up_n (by decide)).trans k86
  have k111 : T5 15 = (.inr (1, [.ref 16, .int 0])) := by rw [← eT5]; exact (am_up_n (by decide)).trans k87
  have k112 : T5 16 = (.inl (2, 36, .inr (.inr (.inr (.inr (fun _ => none)))))) := by rw [← eT5]; exact (am_up_n (by decide)).trans k88
  have k113 : T5 17 = (.inr (3, [.ref 18, .int 0])) := by rw [← eT5]; exact (am_up_n (by decide)).trans k89
  have k114 : T5 18 = (.inl (0, 80, .inl (fun _ => 0))) := by rw [← eT5]; exact (am_up_n (by decide)).trans k90
  have k115 : T5 19 = (.inr (5, [.ref 20, .ref 21, .ref 22, .int 0])) := by rw [← eT5]; exact (am_up_n (by decide)).trans k91
  have k116 : T5 20 = (.inl (0, 16, .inl (fun _ => 0))) := by rw [← eT5]; exact (am_up_n (by decide)).trans k92
  have k117 : T5 21 = (.inl (0, 16, .inl (fun _ => 0))) := by rw [← eT5]; exact (am_up_n (by decide)).trans k93
  have k118 : T5 22 = (.inl (0, 16, .inl (fun _ => 0))) := by rw [← eT5]; exact (am_up_n (by decide)).trans k94
  have k119 : T5 23 = (.inr (2, [.ref 24, .int 0])) := by rw [← eT5]; exact (am_up_n (by decide)).trans k95
  have k120 : T5 24 = (.inl (0, 24, .inl (fun _ => 0))) := by rw [← eT5]; exact (am_up_n (by decide)).trans k96
  have k121 : T5 25 = (.inr (7, [.int 0, .int 0, .ref 26, .ref 27, .ref 28, .ref 29, .ref 30, .int 0, .ref 31, .ref 32, .ref 33, .ref 34, .int 0, .int 0, .int 0, .ref 35, .ref 36, .ref 37, .ref 38, .int 0, .int 0, .int 0, .ref 39, .int 0, .ref 40, .ref 41, .ref 42, .ref 43, .ref 44])) := by rw [← eT5]; exact (am_up_n (by decide)).trans k52
  have k122 : T5 26 = (.inl (0, 80, .inl (fun _ => 0))) := by rw [← eT5]; exact (am_up_n (by decide)).trans k53
  have k123 : T5 27 = (.inl (0, 50, .inl (fun _ => 0))) := by rw [← eT5]; exact (am_up_n (by decide)).trans k54
  have k124 : T5 28 = (.inl (0, 200, .inl (fun _ => 0))) := by rw [← eT5]; exact (am_up_n (by decide)).trans k55
  have k125 : T5 29 = (.inl (0, 16000, .inl (fun _ => 0))) := by rw [← eT5]; exact (am_up_n (by decide)).trans k56
  have k126 : T5 30 = (.inl (0, 5, .inl (upd (upd (upd (upd (upd (fun _ => 0) (0 : Int32).toNatClampNeg (-1)) (1 : Int32).toNatClampNeg (-1)) (2 : Int32).toNatClampNeg (-1)) (3 : Int32).toNatClampNeg (-1)) (4 : Int32).toNatClampNeg (-1)))) := by rw [← eT5]; exact (am_up_n (by decide)).trans k57
  have k127 : T5 31 = (.inl (0, 41, .inl (fun _ => 0))) := by rw [← eT5]; exact (am_up_n (by decide)).trans k58
  have k128 : T5 32 = (.inl (0, 41, .inl (fun _ => 0))) := by rw [← eT5]; exact (am_up_n (by decide)).trans k59
  have k129 : T5 33 = (.inl (0, 42, .inl (fun _ => 0))) := by rw [← eT5]; exact (am_up_n (by decide)).trans k60
  have k130 : T5 34 = (.inl (0, 42, .inl (fun _ => 0))) := by rw [← eT5]; exact (am_up_n (by decide)).trans k61
  have k131 : T5 35 = (.inl (0, 41, .inl (fun _ => 0))) := by rw [← eT5]; exact (am_up_n (by decide)).trans k62
  have k132 : T5 36 = (.inl (0, 41, .inl (fun _ => 0))) := by rw [← eT5]; exact (am_up_n (by decide)).trans k63
  have k133 : T5 37 = (.inl (0, 36, .inl (fun _ => 0))) := by rw [← eT5]; exact (am_up_n (by decide)).trans k64
  have k134 : T5 38 = (.inl (0, 180, .inl (fun _ => 0))) := by rw [← eT5]; exact (am_up_n (by decide)).trans k65
  have k135 : T5 39 = (.inl (0, 80, .inl (fun _ => 0))) := by rw [← eT5]; exact (am_up_n (by decide)).trans k66
  have k136 : T5 40 = (.inl (0, 16, .inl (fun _ => 0))) := by rw [← eT5]; exact (am_up_n (by decide)).trans k67
  have k137 : T5 41 = (.inl (0, 16, .inl (fun _ => 0))) := by rw [← eT5]; exact (am_up_n (by decide)).trans k68
  have k138 : T5 42 = (.inl (0, 16, .inl (fun _ => 0))) := by rw [← eT5]; exact (am_up_n (by decide)).trans k69
  have k139 : T5 43 = (.inl (3, 576, .inl (fun _ => 0))) := by rw [← eT5]; exact (am_up_n (by decide)).trans k70
  have k140 : T5 44 = (.inl (0, 24, .inl (fun _ => 0))) := by rw [← eT5]; exact (am_up_n (by decide)).trans k71
  have k141 : T5 45 = (.inl (1, 1, .inr (.inl (fun _ => 0)))) := by rw [← eT5]; exact am_up_s
  refine am_astore_n (I := iL_law) (pc := 19) (L' := [some (.ref 0), some (.ref 1), some (.ref 25), some (.ref 45), none, none, none]) dL_law_19 rfl (by decide) rfl ?_
  refine am_iconst (I := iL_law) (pc := 20) (x := 0) dL_law_20 (by decide) ?_
  refine am_istore (I := iL_law) (pc := 21) (L' := [some (.ref 0), some (.ref 1), some (.ref 25), some (.ref 45), some (.int 0), none, none]) dL_law_21 (by decide) rfl ?_
  exact kk9 T5 k97 k98 k99 k100 k101 k102 k103 k104 k105 k106 k107 k108 k109 k110 k111 k112 k113 k114 k115 k116 k117 k118 k119 k120 k121 k122 k123 k124 k125 k126 k127 k128 k129 k130 k131 k132 k133 k134 k135 k136 k137 k138 k139 k140 k141
end LAW3
