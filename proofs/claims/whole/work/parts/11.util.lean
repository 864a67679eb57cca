section AMU
variable {K : am_K} {I : am_I} {p : Program} {l : Launch} {e : Env} {R : Room} {s : State} {m : MethodId} {args : Array Value} {below : List Frame} {meth : Method} {c : Code} {S0 S : am_S} {ad0 : Nat → Nat} {Q : State → Prop} {pc : Nat} {L : List (Option Value)} {st : List Value} {cells slots : Nat}
/-- a local that isn't needed any more -/
theorem am_forget (i : Nat) (kk : am_W K I p l e R s m args below meth c S0 ad0 Q pc (L.set i none) st S cells slots) : am_W K I p l e R s m args below meth c S0 ad0 Q pc L st S cells slots := by
  intro C ad ls H locs h0 h1 hR hS hL hst
  refine kk C ad ls H locs h0 h1 hR hS ⟨hL.1, by rw [List.length_set]; exact hL.2.1, hL.2.2.1, fun j v hj => ?_⟩ hst
  rw [List.getElem?_set] at hj
  by_cases e9 : i = j
  · rw [if_pos e9] at hj
    split at hj <;> cases hj
  · rw [if_neg e9] at hj
    exact hL.2.2.2 j v hj
end AMU
