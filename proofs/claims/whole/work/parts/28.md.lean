/-! THE REFERENCE: the object at 25, its arrays at 26 to 44 -/
def mdS (S : am_S) (th pd wd ln sq st ct cl ft zn : Int32) (a26 a27 a28 a29 a30 a31 a32 a33 a34 a35 a36 a37 a38 a39 a40 a41 a42 a43 a44 : Nat → Int32) : am_S := (fun z => if z = 25 then .inr (7, [.int th, .int pd, .ref 26, .ref 27, .ref 28, .ref 29, .ref 30, .int wd, .ref 31, .ref 32, .ref 33, .ref 34, .int ln, .int sq, .int st, .ref 35, .ref 36, .ref 37, .ref 38, .int ct, .int cl, .int ft, .ref 39, .int zn, .ref 40, .ref 41, .ref 42, .ref 43, .ref 44]) else if z = 26 then .inl (0, 80, .inl a26) else if z = 27 then .inl (0, 50, .inl a27) else if z = 28 then .inl (0, 200, .inl a28) else if z = 29 then .inl (0, 16000, .inl a29) else if z = 30 then .inl (0, 5, .inl a30) else if z = 31 then .inl (0, 41, .inl a31) else if z = 32 then .inl (0, 41, .inl a32) else if z = 33 then .inl (0, 42, .inl a33) else if z = 34 then .inl (0, 42, .inl a34) else if z = 35 then .inl (0, 41, .inl a35) else if z = 36 then .inl (0, 41, .inl a36) else if z = 37 then .inl (0, 36, .inl a37) else if z = 38 then .inl (0, 180, .inl a38) else if z = 39 then .inl (0, 80, .inl a39) else if z = 40 then .inl (0, 16, .inl a40) else if z = 41 then .inl (0, 16, .inl a41) else if z = 42 then .inl (0, 16, .inl a42) else if z = 43 then .inl (3, 576, .inl a43) else if z = 44 then .inl (0, 24, .inl a44) else S.1 z, S.2)
section MDS
variable {S : am_S} {th pd wd ln sq st ct cl ft zn : Int32} {a26 a27 a28 a29 a30 a31 a32 a33 a34 a35 a36 a37 a38 a39 a40 a41 a42 a43 a44 : Nat → Int32}
theorem md_25 : (mdS S th pd wd ln sq st ct cl ft zn a26 a27 a28 a29 a30 a31 a32 a33 a34 a35 a36 a37 a38 a39 a40 a41 a42 a43 a44).1 25 = .inr (7, [.int th, .int pd, .ref 26, .ref 27, .ref 28, .ref 29, .ref 30, .int wd, .ref 31, .ref 32, .ref 33, .ref 34, .int ln, .int sq, .int st, .ref 35, .ref 36, .ref 37, .ref 38, .int ct, .int cl, .int ft, .ref 39, .int zn, .ref 40, .ref 41, .ref 42, .ref 43, .ref 44]) := rfl
theorem md_26 : (mdS S th pd wd ln sq st ct cl ft zn a26 a27 a28 a29 a30 a31 a32 a33 a34 a35 a36 a37 a38 a39 a40 a41 a42 a43 a44).1 26 = .inl (0, 80, .inl a26) := rfl
theorem md_27 : (mdS S th pd wd ln sq st ct cl ft zn a26 a27 a28 a29 a30 a31 a32 a33 a34 a35 a36 a37 a38 a39 a40 a41 a42 a43 a44).1 27 = .inl (0, 50, .inl a27) := rfl
theorem md_28 : (mdS S th pd wd ln sq st ct cl ft zn a26 a27 a28 a29 a30 a31 a32 a33 a34 a35 a36 a37 a38 a39 a40 a41 a42 a43 a44).1 28 = .inl (0, 200, .inl a28) := rfl
theorem md_29 : (mdS S th pd wd ln sq st ct cl ft zn a26 a27 a28 a29 a30 a31 a32 a33 a34 a35 a36 a37 a38 a39 a40 a41 a42 a43 a44).1 29 = .inl (0, 16000, .inl a29) := rfl
theorem md_30 : (mdS S th pd wd ln sq st ct cl ft zn a26 a27 a28 a29 a30 a31 a32 a33 a34 a35 a36 a37 a38 a39 a40 a41 a42 a43 a44).1 30 = .inl (0, 5, .inl a30) := rfl
theorem md_31 : (mdS S th pd wd ln sq st ct cl ft zn a26 a27 a28 a29 a30 a31 a32 a33 a34 a35 a36 a37 a38 a39 a40 a41 a42 a43 a44).1 31 = .inl (0, 41, .inl a31) := rfl
theorem md_32 : (mdS S th pd wd ln sq st ct cl ft zn a26 a27 a28 a29 a30 a31 a32 a33 a34 a35 a36 a37 a38 a39 a40 a41 a42 a43 a44).1 32 = .inl (0, 41, .inl a32) := rfl
theorem md_33 : (mdS S th pd wd ln sq st ct cl ft zn a26 a27 a28 a29 a30 a31 a32 a33 a34 a35 a36 a37 a38 a39 a40 a41 a42 a43 a44).1 33 = .inl (0, 42, .inl a33) := rfl
theorem md_34 : (mdS S th pd wd ln sq st ct cl ft zn a26 a27 a28 a29 a30 a31 a32 a33 a34 a35 a36 a37 a38 a39 a40 a41 a42 a43 a44).1 34 = .inl (0, 42, .inl a34) := rfl
theorem md_35 : (mdS S th pd wd ln sq st ct cl ft zn a26 a27 a28 a29 a30 a31 a32 a33 a34 a35 a36 a37 a38 a39 a40 a41 a42 a43 a44).1 35 = .inl (0, 41, .inl a35) := rfl
theorem md_36 : (mdS S th pd wd ln sq st ct cl ft zn a26 a27 a28 a29 a30 a31 a32 a33 a34 a35 a36 a37 a38 a39 a40 a41 a42 a43 a44).1 36 = .inl (0, 41, .inl a36) := rfl
theorem md_37 : (mdS S th pd wd ln sq st ct cl ft zn a26 a27 a28 a29 a30 a31 a32 a33 a34 a35 a36 a37 a38 a39 a40 a41 a42 a43 a44).1 37 = .inl (0, 36, .inl a37) := rfl
theorem md_38 : (mdS S th pd wd ln sq st ct cl ft zn a26 a27 a28 a29 a30 a31 a32 a33 a34 a35 a36 a37 a38 a39 a40 a41 a42 a43 a44).1 38 = .inl (0, 180, .inl a38) := rfl
theorem md_39 : (mdS S th pd wd ln sq st ct cl ft zn a26 a27 a28 a29 a30 a31 a32 a33 a34 a35 a36 a37 a38 a39 a40 a41 a42 a43 a44).1 39 = .inl (0, 80, .inl a39) := rfl
theorem md_40 : (mdS S th pd wd ln sq st ct cl ft zn a26 a27 a28 a29 a30 a31 a32 a33 a34 a35 a36 a37 a38 a39 a40 a41 a42 a43 a44).1 40 = .inl (0, 16, .inl a40) := rfl
theorem md_41 : (mdS S th pd wd ln sq st ct cl ft zn a26 a27 a28 a29 a30 a31 a32 a33 a34 a35 a36 a37 a38 a39 a40 a41 a42 a43 a44).1 41 = .inl (0, 16, .inl a41) := rfl
theorem md_42 : (mdS S th pd wd ln sq st ct cl ft zn a26 a27 a28 a29 a30 a31 a32 a33 a34 a35 a36 a37 a38 a39 a40 a41 a42 a43 a44).1 42 = .inl (0, 16, .inl a42) := rfl
theorem md_43 : (mdS S th pd wd ln sq st ct cl ft zn a26 a27 a28 a29 a30 a31 a32 a33 a34 a35 a36 a37 a38 a39 a40 a41 a42 a43 a44).1 43 = .inl (3, 576, .inl a43) := rfl
theorem md_44 : (mdS S th pd wd ln sq st ct cl ft zn a26 a27 a28 a29 a30 a31 a32 a33 a34 a35 a36 a37 a38 a39 a40 a41 a42 a43 a44).1 44 = .inl (0, 24, .inl a44) := rfl
theorem md_at {z : Nat} (h : z < 25 ∨ 44 < z) : (mdS S th pd wd ln sq st ct cl ft zn a26 a27 a28 a29 a30 a31 a32 a33 a34 a35 a36 a37 a38 a39 a40 a41 a42 a43 a44).1 z = S.1 z := by
  unfold mdS
  refine (if_neg (by omega)).trans ?_
  refine (if_neg (by omega)).trans ?_
  refine (if_neg (by omega)).trans ?_
  refine (if_neg (by omega)).trans ?_
  refine (if_neg (by omega)).trans ?_
  refine (if_neg (by omega)).trans ?_
  refine (if_neg (by omega)).trans ?_
  refine (if_neg (by omega)).trans ?_
  refine (if_neg (by omega)).trans ?_
  refine (if_neg (by omega)).trans ?_
  refine (if_neg (by omega)).trans ?_
  refine (if_neg (by omega)).trans ?_
  refine (if_neg (by omega)).trans ?_
  refine (if_neg (by omega)).trans ?_
  refine (if_neg (by omega)).trans ?_
  refine (if_neg (by omega)).trans ?_
  refine (if_neg (by omega)).trans ?_
  refine (if_neg (by omega)).trans ?_
  refine (if_neg (by omega)).trans ?_
  refine (if_neg (by omega)).trans ?_
  rfl
theorem md_n : (mdS S th pd wd ln sq st ct cl ft zn a26 a27 a28 a29 a30 a31 a32 a33 a34 a35 a36 a37 a38 a39 a40 a41 a42 a43 a44).2 = S.2 := rfl
theorem mdS_25 {th' pd' wd' ln' sq' st' ct' cl' ft' zn' : Int32} : ((am_up (mdS S th pd wd ln sq st ct cl ft zn a26 a27 a28 a29 a30 a31 a32 a33 a34 a35 a36 a37 a38 a39 a40 a41 a42 a43 a44).1 25 (.inr (7, [.int th', .int pd', .ref 26, .ref 27, .ref 28, .ref 29, .ref 30, .int wd', .ref 31, .ref 32, .ref 33, .ref 34, .int ln', .int sq', .int st', .ref 35, .ref 36, .ref 37, .ref 38, .int ct', .int cl', .int ft', .ref 39, .int zn', .ref 40, .ref 41, .ref 42, .ref 43, .ref 44])), (mdS S th pd wd ln sq st ct cl ft zn a26 a27 a28 a29 a30 a31 a32 a33 a34 a35 a36 a37 a38 a39 a40 a41 a42 a43 a44).2) : am_S) = mdS S th' pd' wd' ln' sq' st' ct' cl' ft' zn' a26 a27 a28 a29 a30 a31 a32 a33 a34 a35 a36 a37 a38 a39 a40 a41 a42 a43 a44 := by
  refine Prod.ext ?_ rfl
  funext z
  by_cases e : z = 25
  · subst e; rfl
  · refine (am_up_n e).trans ?_
    unfold mdS
    simp only [e, if_false]
theorem mdS_26 {G : Nat → Int32} : ((am_up (mdS S th pd wd ln sq st ct cl ft zn a26 a27 a28 a29 a30 a31 a32 a33 a34 a35 a36 a37 a38 a39 a40 a41 a42 a43 a44).1 26 (.inl (0, 80, .inl G)), (mdS S th pd wd ln sq st ct cl ft zn a26 a27 a28 a29 a30 a31 a32 a33 a34 a35 a36 a37 a38 a39 a40 a41 a42 a43 a44).2) : am_S) = mdS S th pd wd ln sq st ct cl ft zn G a27 a28 a29 a30 a31 a32 a33 a34 a35 a36 a37 a38 a39 a40 a41 a42 a43 a44 := by
  refine Prod.ext ?_ rfl
  funext z
  by_cases e : z = 26
  · subst e; rfl
  · refine (am_up_n e).trans ?_
    unfold mdS
    simp only [e, if_false]
theorem mdS_27 {G : Nat → Int32} : ((am_up (mdS S th pd wd ln sq st ct cl ft zn a26 a27 a28 a29 a30 a31 a32 a33 a34 a35 a36 a37 a38 a39 a40 a41 a42 a43 a44).1 27 (.inl (0, 50, .inl G)), (mdS S th pd wd ln sq st ct cl ft zn a26 a27 a28 a29 a30 a31 a32 a33 a34 a35 a36 a37 a38 a39 a40 a41 a42 a43 a44).2) : am_S) = mdS S th pd wd ln sq st ct cl ft zn a26 G a28 a29 a30 a31 a32 a33 a34 a35 a36 a37 a38 a39 a40 a41 a42 a43 a44 := by
  refine Prod.ext ?_ rfl
  funext z
  by_cases e : z = 27
  · subst e; rfl
  · refine (am_up_n e).trans ?_
    unfold mdS
    simp only [e, if_false]
theorem mdS_28 {G : Nat → Int32} : ((am_up (mdS S th pd wd ln sq st ct cl ft zn a26 a27 a28 a29 a30 a31 a32 a33 a34 a35 a36 a37 a38 a39 a40 a41 a42 a43 a44).1 28 (.inl (0, 200, .inl G)), (mdS S th pd wd ln sq st ct cl ft zn a26 a27 a28 a29 a30 a31 a32 a33 a34 a35 a36 a37 a38 a39 a40 a41 a42 a43 a44).2) : am_S) = mdS S th pd wd ln sq st ct cl ft zn a26 a27 G a29 a30 a31 a32 a33 a34 a35 a36 a37 a38 a39 a40 a41 a42 a43 a44 := by
  refine Prod.ext ?_ rfl
  funext z
  by_cases e : z = 28
  · subst e; rfl
  · refine (am_up_n e).trans ?_
    unfold mdS
    simp only [e, if_false]
theorem mdS_29 {G : Nat → Int32} : ((am_up (mdS S th pd wd ln sq st ct cl ft zn a26 a27 a28 a29 a30 a31 a32 a33 a34 a35 a36 a37 a38 a39 a40 a41 a42 a43 a44).1 29 (.inl (0, 16000, .inl G)), (mdS S th pd wd ln sq st ct cl ft zn a26 a27 a28 a29 a30 a31 a32 a33 a34 a35 a36 a37 a38 a39 a40 a41 a42 a43 a44).2) : am_S) = mdS S th pd wd ln sq st ct cl ft zn a26 a27 a28 G a30 a31 a32 a33 a34 a35 a36 a37 a38 a39 a40 a41 a42 a43 a44 := by
  refine Prod.ext ?_ rfl
  funext z
  by_cases e : z = 29
  · subst e; rfl
  · refine (am_up_n e).trans ?_
    unfold mdS
    simp only [e, if_false]
theorem mdS_30 {G : Nat → Int32} : ((am_up (mdS S th pd wd ln sq st ct cl ft zn a26 a27 a28 a29 a30 a31 a32 a33 a34 a35 a36 a37 a38 a39 a40 a41 a42 a43 a44).1 30 (.inl (0, 5, .inl G)), (mdS S th pd wd ln sq st ct cl ft zn a26 a27 a28 a29 a30 a31 a32 a33 a34 a35 a36 a37 a38 a39 a40 a41 a42 a43 a44).2) : am_S) = mdS S th pd wd ln sq st ct cl ft zn a26 a27 a28 a29 G a31 a32 a33 a34 a35 a36 a37 a38 a39 a40 a41 a42 a43 a44 := by
  refine Prod.ext ?_ rfl
  funext z
  by_cases e : z = 30
  · subst e; rfl
  · refine (am_up_n e).trans ?_
    unfold mdS
    simp only [e, if_false]
theorem mdS_31 {G : Nat → Int32} : ((am_up (mdS S th pd wd ln sq st ct cl ft zn a26 a27 a28 a29 a30 a31 a32 a33 a34 a35 a36 a37 a38 a39 a40 a41 a42 a43 a44).1 31 (.inl (0, 41, .inl G)), (mdS S th pd wd ln sq st ct cl ft zn a26 a27 a28 a29 a30 a31 a32 a33 a34 a35 a36 a37 a38 a39 a40 a41 a42 a43 a44).2) : am_S) = mdS S th pd wd ln sq st ct cl ft zn a26 a27 a28 a29 a30 G a32 a33 a34 a35 a36 a37 a38 a39 a40 a41 a42 a43 a44 := by
  refine Prod.ext ?_ rfl
  funext z
  by_cases e : z = 31
  · subst e; rfl
  · refine (am_up_n e).trans ?_
    unfold mdS
    simp only [e, if_false]
theorem mdS_32 {G : Nat → Int32} : ((am_up (mdS S th pd wd ln sq st ct cl ft zn a26 a27 a28 a29 a30 a31 a32 a33 a34 a35 a36 a37 a38 a39 a40 a41 a42 a43 a44).1 32 (.inl (0, 41, .inl G)), (mdS S th pd wd ln sq st ct cl ft zn a26 a27 a28 a29 a30 a31 a32 a33 a34 a35 a36 a37 a38 a39 a40 a41 a42 a43 a44).2) : am_S) = mdS S th pd wd ln sq st ct cl ft zn a26 a27 a28 a29 a30 a31 G a33 a34 a35 a36 a37 a38 a39 a40 a41 a42 a43 a44 := by
  refine Prod.ext ?_ rfl
  funext z
  by_cases e : z = 32
  · subst e; rfl
  · refine (am_up_n e).trans ?_
    unfold mdS
    simp only [e, if_false]
theorem mdS_33 {G : Nat → Int32} : ((am_up (mdS S th pd wd ln sq st ct cl ft zn a26 a27 a28 a29 a30 a31 a32 a33 a34 a35 a36 a37 a38 a39 a40 a41 a42 a43 a44).1 33 (.inl (0, 42, .inl G)), (mdS S th pd wd ln sq st ct cl ft zn a26 a27 a28 a29 a30 a31 a32 a33 a34 a35 a36 a37 a38 a39 a40 a41 a42 a43 a44).2) : am_S) = mdS S th pd wd ln sq st ct cl ft zn a26 a27 a28 a29 a30 a31 a32 G a34 a35 a36 a37 a38 a39 a40 a41 a42 a43 a44 := by
  refine Prod.ext ?_ rfl
  funext z
  by_cases e : z = 33
  · subst e; rfl
  · refine (am_up_n e).trans ?_
    unfold mdS
    simp only [e, if_false]
theorem mdS_34 {G : Nat → Int32} : ((am_up (mdS S th pd wd ln sq st ct cl ft zn a26 a27 a28 a29 a30 a31 a32 a33 a34 a35 a36 a37 a38 a39 a40 a41 a42 a43 a44).1 34 (.inl (0, 42, .inl G)), (mdS S th pd wd ln sq st ct cl ft zn a26 a27 a28 a29 a30 a31 a32 a33 a34 a35 a36 a37 a38 a39 a40 a41 a42 a43 a44).2) : am_S) = mdS S th pd wd ln sq st ct cl ft zn a26 a27 a28 a29 a30 a31 a32 a33 G a35 a36 a37 a38 a39 a40 a41 a42 a43 a44 := by
  refine Prod.ext ?_ rfl
  funext z
  by_cases e : z = 34
  · subst e; rfl
  · refine (am_up_n e).trans ?_
    unfold mdS
    simp only [e, if_false]
theorem mdS_35 {G : Nat → Int32} : ((am_up (mdS S th pd wd ln sq st ct cl ft zn a26 a27 a28 a29 a30 a31 a32 a33 a34 a35 a36 a37 a38 a39 a40 a41 a42 a43 a44).1 35 (.inl (0, 41, .inl G)), (mdS S th pd wd ln sq st ct cl ft zn a26 a27 a28 a29 a30 a31 a32 a33 a34 a35 a36 a37 a38 a39 a40 a41 a42 a43 a44).2) : am_S) = mdS S th pd wd ln sq st ct cl ft zn a26 a27 a28 a29 a30 a31 a32 a33 a34 G a36 a37 a38 a39 a40 a41 a42 a43 a44 := by
  refine Prod.ext ?_ rfl
  funext z
  by_cases e : z = 35
  · subst e; rfl
  · refine (am_up_n e).trans ?_
    unfold mdS
    simp only [e, if_false]
theorem mdS_36 {G : Nat → Int32} : ((am_up (mdS S th pd wd ln sq st ct cl ft zn a26 a27 a28 a29 a30 a31 a32 a33 a34 a35 a36 a37 a38 a39 a40 a41 a42 a43 a44).1 36 (.inl (0, 41, .inl G)), (mdS S th pd wd ln sq st ct cl ft zn a26 a27 a28 a29 a30 a31 a32 a33 a34 a35 a36 a37 a38 a39 a40 a41 a42 a43 a44).2) : am_S) = mdS S th pd wd ln sq st ct cl ft zn a26 a27 a28 a29 a30 a31 a32 a33 a34 a35 G a37 a38 a39 a40 a41 a42 a43 a44 := by
  refine Prod.ext ?_ rfl
  funext z
  by_cases e : z = 36
  · subst e; rfl
  · refine (am_up_n e).trans ?_
    unfold mdS
    simp only [e, if_false]
theorem mdS_37 {G : Nat → Int32} : ((am_up (mdS S th pd wd ln sq st ct cl ft zn a26 a27 a28 a29 a30 a31 a32 a33 a34 a35 a36 a37 a38 a39 a40 a41 a42 a43 a44).1 37 (.inl (0, 36, .inl G)), (mdS S th pd wd ln sq st ct cl ft zn a26 a27 a28 a29 a30 a31 a32 a33 a34 a35 a36 a37 a38 a39 a40 a41 a42 a43 a44).2) : am_S) = mdS S th pd wd ln sq st ct cl ft zn a26 a27 a28 a29 a30 a31 a32 a33 a34 a35 a36 G a38 a39 a40 a41 a42 a43 a44 := by
  refine Prod.ext ?_ rfl
  funext z
  by_cases e : z = 37
  · subst e; rfl
  · refine (am_up_n e).trans ?_
    unfold mdS
    simp only [e, if_false]
theorem mdS_38 {G : Nat → Int32} : ((am_up (mdS S th pd wd ln sq st ct cl ft zn a26 a27 a28 a29 a30 a31 a32 a33 a34 a35 a36 a37 a38 a39 a40 a41 a42 a43 a44).1 38 (.inl (0, 180, .inl G)), (mdS S th pd wd ln sq st ct cl ft zn a26 a27 a28 a29 a30 a31 a32 a33 a34 a35 a36 a37 a38 a39 a40 a41 a42 a43 a44).2) : am_S) = mdS S th pd wd ln sq st ct cl ft zn a26 a27 a28 a29 a30 a31 a32 a33 a34 a35 a36 a37 G a39 a40 a41 a42 a43 a44 := by
  refine Prod.ext ?_ rfl
  funext z
  by_cases e : z = 38
  · subst e; rfl
  · refine (am_up_n e).trans ?_
    unfold mdS
    simp only [e, if_false]
theorem mdS_39 {G : Nat → Int32} : ((am_up (mdS S th pd wd ln sq st ct cl ft zn a26 a27 a28 a29 a30 a31 a32 a33 a34 a35 a36 a37 a38 a39 a40 a41 a42 a43 a44).1 39 (.inl (0, 80, .inl G)), (mdS S th pd wd ln sq st ct cl ft zn a26 a27 a28 a29 a30 a31 a32 a33 a34 a35 a36 a37 a38 a39 a40 a41 a42 a43 a44).2) : am_S) = mdS S th pd wd ln sq st ct cl ft zn a26 a27 a28 a29 a30 a31 a32 a33 a34 a35 a36 a37 a38 G a40 a41 a42 a43 a44 := by
  refine Prod.ext ?_ rfl
  funext z
  by_cases e : z = 39
  · subst e; rfl
  · refine (am_up_n e).trans ?_
    unfold mdS
    simp only [e, if_false]
theorem mdS_40 {G : Nat → Int32} : ((am_up (mdS S th pd wd ln sq st ct cl ft zn a26 a27 a28 a29 a30 a31 a32 a33 a34 a35 a36 a37 a38 a39 a40 a41 a42 a43 a44).1 40 (.inl (0, 16, .inl G)), (mdS S th pd wd ln sq st ct cl ft zn a26 a27 a28 a29 a30 a31 a32 a33 a34 a35 a36 a37 a38 a39 a40 a41 a42 a43 a44).2) : am_S) = mdS S th pd wd ln sq st ct cl ft zn a26 a27 a28 a29 a30 a31 a32 a33 a34 a35 a36 a37 a38 a39 G a41 a42 a43 a44 := by
  refine Prod.ext ?_ rfl
  funext z
  by_cases e : z = 40
  · subst e; rfl
  · refine (am_up_n e).trans ?_
    unfold mdS
    simp only [e, if_false]
theorem mdS_41 {G : Nat → Int32} : ((am_up (mdS S th pd wd ln sq st ct cl ft zn a26 a27 a28 a29 a30 a31 a32 a33 a34 a35 a36 a37 a38 a39 a40 a41 a42 a43 a44).1 41 (.inl (0, 16, .inl G)), (mdS S th pd wd ln sq st ct cl ft zn a26 a27 a28 a29 a30 a31 a32 a33 a34 a35 a36 a37 a38 a39 a40 a41 a42 a43 a44).2) : am_S) = mdS S th pd wd ln sq st ct cl ft zn a26 a27 a28 a29 a30 a31 a32 a33 a34 a35 a36 a37 a38 a39 a40 G a42 a43 a44 := by
  refine Prod.ext ?_ rfl
  funext z
  by_cases e : z = 41
  · subst e; rfl
  · refine (am_up_n e).trans ?_
    unfold mdS
    simp only [e, if_false]
theorem mdS_42 {G : Nat → Int32} : ((am_up (mdS S th pd wd ln sq st ct cl ft zn a26 a27 a28 a29 a30 a31 a32 a33 a34 a35 a36 a37 a38 a39 a40 a41 a42 a43 a44).1 42 (.inl (0, 16, .inl G)), (mdS S th pd wd ln sq st ct cl ft zn a26 a27 a28 a29 a30 a31 a32 a33 a34 a35 a36 a37 a38 a39 a40 a41 a42 a43 a44).2) : am_S) = mdS S th pd wd ln sq st ct cl ft zn a26 a27 a28 a29 a30 a31 a32 a33 a34 a35 a36 a37 a38 a39 a40 a41 G a43 a44 := by
  refine Prod.ext ?_ rfl
  funext z
  by_cases e : z = 42
  · subst e; rfl
  · refine (am_up_n e).trans ?_
    unfold mdS
    simp only [e, if_false]
theorem mdS_43 {G : Nat → Int32} : ((am_up (mdS S th pd wd ln sq st ct cl ft zn a26 a27 a28 a29 a30 a31 a32 a33 a34 a35 a36 a37 a38 a39 a40 a41 a42 a43 a44).1 43 (.inl (3, 576, .inl G)), (mdS S th pd wd ln sq st ct cl ft zn a26 a27 a28 a29 a30 a31 a32 a33 a34 a35 a36 a37 a38 a39 a40 a41 a42 a43 a44).2) : am_S) = mdS S th pd wd ln sq st ct cl ft zn a26 a27 a28 a29 a30 a31 a32 a33 a34 a35 a36 a37 a38 a39 a40 a41 a42 G a44 := by
  refine Prod.ext ?_ rfl
  funext z
  by_cases e : z = 43
  · subst e; rfl
  · refine (am_up_n e).trans ?_
    unfold mdS
    simp only [e, if_false]
theorem mdS_44 {G : Nat → Int32} : ((am_up (mdS S th pd wd ln sq st ct cl ft zn a26 a27 a28 a29 a30 a31 a32 a33 a34 a35 a36 a37 a38 a39 a40 a41 a42 a43 a44).1 44 (.inl (0, 24, .inl G)), (mdS S th pd wd ln sq st ct cl ft zn a26 a27 a28 a29 a30 a31 a32 a33 a34 a35 a36 a37 a38 a39 a40 a41 a42 a43 a44).2) : am_S) = mdS S th pd wd ln sq st ct cl ft zn a26 a27 a28 a29 a30 a31 a32 a33 a34 a35 a36 a37 a38 a39 a40 a41 a42 a43 G := by
  refine Prod.ext ?_ rfl
  funext z
  by_cases e : z = 44
  · subst e; rfl
  · refine (am_up_n e).trans ?_
    unfold mdS
    simp only [e, if_false]
theorem mdS_id (h25 : S.1 25 = .inr (7, [.int th, .int pd, .ref 26, .ref 27, .ref 28, .ref 29, .ref 30, .int wd, .ref 31, .ref 32, .ref 33, .ref 34, .int ln, .int sq, .int st, .ref 35, .ref 36, .ref 37, .ref 38, .int ct, .int cl, .int ft, .ref 39, .int zn, .ref 40, .ref 41, .ref 42, .ref 43, .ref 44])) (h26 : S.1 26 = .inl (0, 80, .inl a26)) (h27 : S.1 27 = .inl (0, 50, .inl a27)) (h28 : S.1 28 = .inl (0, 200, .inl a28)) (h29 : S.1 29 = .inl (0, 16000, .inl a29)) (h30 : S.1 30 = .inl (0, 5, .inl a30)) (h31 : S.1 31 = .inl (0, 41, .inl a31)) (h32 : S.1 32 = .inl (0, 41, .inl a32)) (h33 : S.1 33 = .inl (0, 42, .inl a33)) (h34 : S.1 34 = .inl (0, 42, .inl a34)) (h35 : S.1 35 = .inl (0, 41, .inl a35)) (h36 : S.1 36 = .inl (0, 41, .inl a36)) (h37 : S.1 37 = .inl (0, 36, .inl a37)) (h38 : S.1 38 = .inl (0, 180, .inl a38)) (h39 : S.1 39 = .inl (0, 80, .inl a39)) (h40 : S.1 40 = .inl (0, 16, .inl a40)) (h41 : S.1 41 = .inl (0, 16, .inl a41)) (h42 : S.1 42 = .inl (0, 16, .inl a42)) (h43 : S.1 43 = .inl (3, 576, .inl a43)) (h44 : S.1 44 = .inl (0, 24, .inl a44)) : S = mdS S th pd wd ln sq st ct cl ft zn a26 a27 a28 a29 a30 a31 a32 a33 a34 a35 a36 a37 a38 a39 a40 a41 a42 a43 a44 := by
  refine Prod.ext ?_ rfl
  funext z
  unfold mdS
  by_cases e25 : z = 25
  · subst e25; exact h25
  · refine Eq.trans ?_ (if_neg e25).symm
    by_cases e26 : z = 26
    · subst e26; exact h26
    · refine Eq.trans ?_ (if_neg e26).symm
      by_cases e27 : z = 27
      · subst e27; exact h27
      · refine Eq.trans ?_ (if_neg e27).symm
        by_cases e28 : z = 28
        · subst e28; exact h28
        · refine Eq.trans ?_ (if_neg e28).symm
          by_cases e29 : z = 29
          · subst e29; exact h29
          · refine Eq.trans ?_ (if_neg e29).symm
            by_cases e30 : z = 30
            · subst e30; exact h30
            · refine Eq.trans ?_ (if_neg e30).symm
              by_cases e31 : z = 31
              · subst e31; exact h31
              · refine Eq.trans ?_ (if_neg e31).symm
                by_cases e32 : z = 32
                · subst e32; exact h32
                · refine Eq.trans ?_ (if_neg e32).symm
                  by_cases e33 : z = 33
                  · subst e33; exact h33
                  · refine Eq.trans ?_ (if_neg e33).symm
                    by_cases e34 : z = 34
                    · subst e34; exact h34
                    · refine Eq.trans ?_ (if_neg e34).symm
                      by_cases e35 : z = 35
                      · subst e35; exact h35
                      · refine Eq.trans ?_ (if_neg e35).symm
                        by_cases e36 : z = 36
                        · subst e36; exact h36
                        · refine Eq.trans ?_ (if_neg e36).symm
                          by_cases e37 : z = 37
                          · subst e37; exact h37
                          · refine Eq.trans ?_ (if_neg e37).symm
                            by_cases e38 : z = 38
                            · subst e38; exact h38
                            · refine Eq.trans ?_ (if_neg e38).symm
                              by_cases e39 : z = 39
                              · subst e39; exact h39
                              · refine Eq.trans ?_ (if_neg e39).symm
                                by_cases e40 : z = 40
                                · subst e40; exact h40
                                · refine Eq.trans ?_ (if_neg e40).symm
                                  by_cases e41 : z = 41
                                  · subst e41; exact h41
                                  · refine Eq.trans ?_ (if_neg e41).symm
                                    by_cases e42 : z = 42
                                    · subst e42; exact h42
                                    · refine Eq.trans ?_ (if_neg e42).symm
                                      by_cases e43 : z = 43
                                      · subst e43; exact h43
                                      · refine Eq.trans ?_ (if_neg e43).symm
                                        by_cases e44 : z = 44
                                        · subst e44; exact h44
                                        · refine Eq.trans ?_ (if_neg e44).symm
                                          rfl
theorem mdS_mdS {th' pd' wd' ln' sq' st' ct' cl' ft' zn' : Int32} {a26' a27' a28' a29' a30' a31' a32' a33' a34' a35' a36' a37' a38' a39' a40' a41' a42' a43' a44' : Nat → Int32} : mdS (mdS S th pd wd ln sq st ct cl ft zn a26 a27 a28 a29 a30 a31 a32 a33 a34 a35 a36 a37 a38 a39 a40 a41 a42 a43 a44) th' pd' wd' ln' sq' st' ct' cl' ft' zn' a26' a27' a28' a29' a30' a31' a32' a33' a34' a35' a36' a37' a38' a39' a40' a41' a42' a43' a44' = mdS S th' pd' wd' ln' sq' st' ct' cl' ft' zn' a26' a27' a28' a29' a30' a31' a32' a33' a34' a35' a36' a37' a38' a39' a40' a41' a42' a43' a44' := by
  refine Prod.ext ?_ rfl
  funext z
  unfold mdS
  by_cases e25 : z = 25
  · subst e25; rfl
  · refine (if_neg e25).trans (Eq.trans ?_ (if_neg e25).symm)
    by_cases e26 : z = 26
    · subst e26; rfl
    · refine (if_neg e26).trans (Eq.trans ?_ (if_neg e26).symm)
      by_cases e27 : z = 27
      · subst e27; rfl
      · refine (if_neg e27).trans (Eq.trans ?_ (if_neg e27).symm)
        by_cases e28 : z = 28
        · subst e28; rfl
        · refine (if_neg e28).trans (Eq.trans ?_ (if_neg e28).symm)
          by_cases e29 : z = 29
          · subst e29; rfl
          · refine (if_neg e29).trans (Eq.trans ?_ (if_neg e29).symm)
            by_cases e30 : z = 30
            · subst e30; rfl
            · refine (if_neg e30).trans (Eq.trans ?_ (if_neg e30).symm)
              by_cases e31 : z = 31
              · subst e31; rfl
              · refine (if_neg e31).trans (Eq.trans ?_ (if_neg e31).symm)
                by_cases e32 : z = 32
                · subst e32; rfl
                · refine (if_neg e32).trans (Eq.trans ?_ (if_neg e32).symm)
                  by_cases e33 : z = 33
                  · subst e33; rfl
                  · refine (if_neg e33).trans (Eq.trans ?_ (if_neg e33).symm)
                    by_cases e34 : z = 34
                    · subst e34; rfl
                    · refine (if_neg e34).trans (Eq.trans ?_ (if_neg e34).symm)
                      by_cases e35 : z = 35
                      · subst e35; rfl
                      · refine (if_neg e35).trans (Eq.trans ?_ (if_neg e35).symm)
                        by_cases e36 : z = 36
                        · subst e36; rfl
                        · refine (if_neg e36).trans (Eq.trans ?_ (if_neg e36).symm)
                          by_cases e37 : z = 37
                          · subst e37; rfl
                          · refine (if_neg e37).trans (Eq.trans ?_ (if_neg e37).symm)
                            by_cases e38 : z = 38
                            · subst e38; rfl
                            · refine (if_neg e38).trans (Eq.trans ?_ (if_neg e38).symm)
                              by_cases e39 : z = 39
                              · subst e39; rfl
                              · refine (if_neg e39).trans (Eq.trans ?_ (if_neg e39).symm)
                                by_cases e40 : z = 40
                                · subst e40; rfl
                                · refine (if_neg e40).trans (Eq.trans ?_ (if_neg e40).symm)
                                  by_cases e41 : z = 41
                                  · subst e41; rfl
                                  · refine (if_neg e41).trans (Eq.trans ?_ (if_neg e41).symm)
                                    by_cases e42 : z = 42
                                    · subst e42; rfl
                                    · refine (if_neg e42).trans (Eq.trans ?_ (if_neg e42).symm)
                                      by_cases e43 : z = 43
                                      · subst e43; rfl
                                      · refine (if_neg e43).trans (Eq.trans ?_ (if_neg e43).symm)
                                        by_cases e44 : z = 44
                                        · subst e44; rfl
                                        · refine (if_neg e44).trans (Eq.trans ?_ (if_neg e44).symm)
                                          exact md_at (by omega)
end MDS
