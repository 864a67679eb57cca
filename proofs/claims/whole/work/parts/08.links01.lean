theorem inX0 : ∀ w ∈ u_ws RX0 TX0 4, w ∈ am_big := by decide +kernel
theorem inX1 : ∀ w ∈ u_ws RX1 TX1 2, w ∈ am_big := by decide +kernel
theorem inX2 : ∀ w ∈ u_ws RX2 TX2 2, w ∈ am_big := by decide +kernel
theorem inX3 : ∀ w ∈ u_ws RX3 TX3 2, w ∈ am_big := by decide +kernel
theorem inX4 : ∀ w ∈ u_ws RX4 TX4 9, w ∈ am_big := by decide +kernel
theorem inX5 : ∀ w ∈ u_ws RX5 TX5 4, w ∈ am_big := by decide +kernel
theorem inX6 : ∀ w ∈ u_ws RX6 TX6 7, w ∈ am_big := by decide +kernel
theorem inX7 : ∀ w ∈ u_ws RX7 TX7 29, w ∈ am_big := by decide +kernel
theorem ln_X6_9 : am_Nl RX6 9 3 2 [.null, .int 0] := ⟨RX3, TX3, tyX3, rfl, am_in (i := 42) (by decide +kernel) (by decide +kernel), am_in (i := 43) (by decide +kernel) (by decide +kernel), am_in (i := 20) (by decide +kernel) (by decide +kernel), inX3, tyX3_ok, by decide +kernel, by intro v hv b e; subst e; simp at hv⟩
theorem lf_X6_14 : am_Fl RX6 14 6 0 (.object "CaptionLines$Row") true := ⟨RX6, TX6, 7, tyX6, rfl, by decide, am_in (i := 160) (by decide +kernel) (by decide +kernel), inX6, tyX6_ok, nmX6, by decide +kernel, rfl, rfl⟩
theorem ln_X6_18 : am_Nl RX6 18 0 4 [.null, .null, .null, .int 0] := ⟨RX0, TX0, tyX0, rfl, am_in (i := 59) (by decide +kernel) (by decide +kernel), am_in (i := 60) (by decide +kernel) (by decide +kernel), am_in (i := 22) (by decide +kernel) (by decide +kernel), inX0, tyX0_ok, by decide +kernel, by intro v hv b e; subst e; simp at hv⟩
theorem lf_X6_21 : am_Fl RX6 21 6 1 (.object "CaptionLines$Captions") true := ⟨RX6, TX6, 7, tyX6, rfl, by decide, am_in (i := 161) (by decide +kernel) (by decide +kernel), inX6, tyX6_ok, nmX6, by decide +kernel, rfl, rfl⟩
theorem ln_X6_25 : am_Nl RX6 25 4 9 [.null, .null, .int 0, .null, .null, .null, .null, .int 0, .int 0] := ⟨RX4, TX4, tyX4, rfl, am_in (i := 80) (by decide +kernel) (by decide +kernel), am_in (i := 81) (by decide +kernel) (by decide +kernel), am_in (i := 23) (by decide +kernel) (by decide +kernel), inX4, tyX4_ok, by decide +kernel, by intro v hv b e; subst e; simp at hv⟩
theorem lf_X6_28 : am_Fl RX6 28 6 2 (.object "CaptionLines$Setting") true := ⟨RX6, TX6, 7, tyX6, rfl, by decide, am_in (i := 162) (by decide +kernel) (by decide +kernel), inX6, tyX6_ok, nmX6, by decide +kernel, rfl, rfl⟩
theorem ln_X6_32 : am_Nl RX6 32 1 2 [.null, .int 0] := ⟨RX1, TX1, tyX1, rfl, am_in (i := 114) (by decide +kernel) (by decide +kernel), am_in (i := 115) (by decide +kernel) (by decide +kernel), am_in (i := 24) (by decide +kernel) (by decide +kernel), inX1, tyX1_ok, by decide +kernel, by intro v hv b e; subst e; simp at hv⟩
theorem lf_X6_35 : am_Fl RX6 35 6 3 (.object "CaptionLines$Contractions") true := ⟨RX6, TX6, 7, tyX6, rfl, by decide, am_in (i := 163) (by decide +kernel) (by decide +kernel), inX6, tyX6_ok, nmX6, by decide +kernel, rfl, rfl⟩
theorem lf_X6_39 : am_Fl RX6 39 6 4 (.object "CaptionLines$Row") true := ⟨RX6, TX6, 7, tyX6, rfl, by decide, am_in (i := 164) (by decide +kernel) (by decide +kernel), inX6, tyX6_ok, nmX6, by decide +kernel, rfl, rfl⟩
theorem ln_X6_42 : am_Nl RX6 42 5 4 [.null, .null, .null, .int 0] := ⟨RX5, TX5, tyX5, rfl, am_in (i := 128) (by decide +kernel) (by decide +kernel), am_in (i := 129) (by decide +kernel) (by decide +kernel), am_in (i := 25) (by decide +kernel) (by decide +kernel), inX5, tyX5_ok, by decide +kernel, by intro v hv b e; subst e; simp at hv⟩
theorem lf_X6_45 : am_Fl RX6 45 6 5 (.object "CaptionLines$Zones") true := ⟨RX6, TX6, 7, tyX6, rfl, by decide, am_in (i := 165) (by decide +kernel) (by decide +kernel), inX6, tyX6_ok, nmX6, by decide +kernel, rfl, rfl⟩
theorem ln_X6_49 : am_Nl RX6 49 2 2 [.null, .int 0] := ⟨RX2, TX2, tyX2, rfl, am_in (i := 147) (by decide +kernel) (by decide +kernel), am_in (i := 148) (by decide +kernel) (by decide +kernel), am_in (i := 26) (by decide +kernel) (by decide +kernel), inX2, tyX2_ok, by decide +kernel, by intro v hv b e; subst e; simp at hv⟩
theorem lf_X6_52 : am_Fl RX6 52 6 6 (.object "CaptionLines$Rooms") true := ⟨RX6, TX6, 7, tyX6, rfl, by decide, am_in (i := 166) (by decide +kernel) (by decide +kernel), inX6, tyX6_ok, nmX6, by decide +kernel, rfl, rfl⟩
theorem lt_X6_60_62_64 : am_Tl RX6 60 62 64 1 := ⟨"java/lang/IllegalStateException", "the pad is full", ["java/lang/RuntimeException", "java/lang/Exception"], rfl, by decide +kernel, by decide +kernel, am_in (i := 203) (by decide +kernel) (by decide +kernel), am_in (i := 31) (by decide +kernel) (by decide +kernel), by decide +kernel, by decide +kernel, by decide +kernel, by decide⟩
theorem lt_X6_71_73_75 : am_Tl RX6 71 73 75 2 := ⟨"java/lang/IllegalArgumentException", "no such sign", ["java/lang/RuntimeException", "java/lang/Exception"], rfl, by decide +kernel, by decide +kernel, am_in (i := 274) (by decide +kernel) (by decide +kernel), am_in (i := 32) (by decide +kernel) (by decide +kernel), by decide +kernel, by decide +kernel, by decide +kernel, by decide⟩
theorem lt_X6_60_90_64 : am_Tl RX6 60 90 64 1 := ⟨"java/lang/IllegalStateException", "there are four versions", ["java/lang/RuntimeException", "java/lang/Exception"], rfl, by decide +kernel, by decide +kernel, am_in (i := 203) (by decide +kernel) (by decide +kernel), am_in (i := 31) (by decide +kernel) (by decide +kernel), by decide +kernel, by decide +kernel, by decide +kernel, by decide⟩
theorem lt_X6_118_120_122 : am_Tl RX6 118 120 122 0 := ⟨"java/lang/IndexOutOfBoundsException", "no such version", ["java/lang/RuntimeException", "java/lang/Exception"], rfl, by decide +kernel, by decide +kernel, am_in (i := 305) (by decide +kernel) (by decide +kernel), am_in (i := 33) (by decide +kernel) (by decide +kernel), by decide +kernel, by decide +kernel, by decide +kernel, by decide⟩
theorem lt_X6_118_123_122 : am_Tl RX6 118 123 122 0 := ⟨"java/lang/IndexOutOfBoundsException", "no such place", ["java/lang/RuntimeException", "java/lang/Exception"], rfl, by decide +kernel, by decide +kernel, am_in (i := 305) (by decide +kernel) (by decide +kernel), am_in (i := 33) (by decide +kernel) (by decide +kernel), by decide +kernel, by decide +kernel, by decide +kernel, by decide⟩
theorem lt_X6_71_129_75 : am_Tl RX6 71 129 75 2 := ⟨"java/lang/IllegalArgumentException", "no such width", ["java/lang/RuntimeException", "java/lang/Exception"], rfl, by decide +kernel, by decide +kernel, am_in (i := 274) (by decide +kernel) (by decide +kernel), am_in (i := 32) (by decide +kernel) (by decide +kernel), by decide +kernel, by decide +kernel, by decide +kernel, by decide⟩
theorem lt_X6_118_142_122 : am_Tl RX6 118 142 122 0 := ⟨"java/lang/IndexOutOfBoundsException", "what is neither 0 nor 1", ["java/lang/RuntimeException", "java/lang/Exception"], rfl, by decide +kernel, by decide +kernel, am_in (i := 305) (by decide +kernel) (by decide +kernel), am_in (i := 33) (by decide +kernel) (by decide +kernel), by decide +kernel, by decide +kernel, by decide +kernel, by decide⟩
theorem lt_X6_118_144_122 : am_Tl RX6 118 144 122 0 := ⟨"java/lang/IndexOutOfBoundsException", "no such line", ["java/lang/RuntimeException", "java/lang/Exception"], rfl, by decide +kernel, by decide +kernel, am_in (i := 305) (by decide +kernel) (by decide +kernel), am_in (i := 33) (by decide +kernel) (by decide +kernel), by decide +kernel, by decide +kernel, by decide +kernel, by decide⟩
theorem lt_X6_60_162_64 : am_Tl RX6 60 162 64 1 := ⟨"java/lang/IllegalStateException", "the pad is not 2 to 5 letters", ["java/lang/RuntimeException", "java/lang/Exception"], rfl, by decide +kernel, by decide +kernel, am_in (i := 203) (by decide +kernel) (by decide +kernel), am_in (i := 31) (by decide +kernel) (by decide +kernel), by decide +kernel, by decide +kernel, by decide +kernel, by decide⟩
theorem lt_X6_71_164_75 : am_Tl RX6 71 164 75 2 := ⟨"java/lang/IllegalArgumentException", "no cell for a contraction", ["java/lang/RuntimeException", "java/lang/Exception"], rfl, by decide +kernel, by decide +kernel, am_in (i := 274) (by decide +kernel) (by decide +kernel), am_in (i := 32) (by decide +kernel) (by decide +kernel), by decide +kernel, by decide +kernel, by decide +kernel, by decide⟩
theorem lt_X6_118_181_122 : am_Tl RX6 118 181 122 0 := ⟨"java/lang/IndexOutOfBoundsException", "no such cell", ["java/lang/RuntimeException", "java/lang/Exception"], rfl, by decide +kernel, by decide +kernel, am_in (i := 305) (by decide +kernel) (by decide +kernel), am_in (i := 33) (by decide +kernel) (by decide +kernel), by decide +kernel, by decide +kernel, by decide +kernel, by decide⟩
theorem lt_X6_60_183_64 : am_Tl RX6 60 183 64 1 := ⟨"java/lang/IllegalStateException", "there are no cells", ["java/lang/RuntimeException", "java/lang/Exception"], rfl, by decide +kernel, by decide +kernel, am_in (i := 203) (by decide +kernel) (by decide +kernel), am_in (i := 31) (by decide +kernel) (by decide +kernel), by decide +kernel, by decide +kernel, by decide +kernel, by decide⟩
theorem lt_X6_60_191_64 : am_Tl RX6 60 191 64 1 := ⟨"java/lang/IllegalStateException", "there are 16 zones", ["java/lang/RuntimeException", "java/lang/Exception"], rfl, by decide +kernel, by decide +kernel, am_in (i := 203) (by decide +kernel) (by decide +kernel), am_in (i := 31) (by decide +kernel) (by decide +kernel), by decide +kernel, by decide +kernel, by decide +kernel, by decide⟩
theorem lt_X6_71_196_75 : am_Tl RX6 71 196 75 2 := ⟨"java/lang/IllegalArgumentException", "no such radius", ["java/lang/RuntimeException", "java/lang/Exception"], rfl, by decide +kernel, by decide +kernel, am_in (i := 274) (by decide +kernel) (by decide +kernel), am_in (i := 32) (by decide +kernel) (by decide +kernel), by decide +kernel, by decide +kernel, by decide +kernel, by decide⟩
theorem lt_X6_71_210_75 : am_Tl RX6 71 210 75 2 := ⟨"java/lang/IllegalArgumentException", "the rooms are the same", ["java/lang/RuntimeException", "java/lang/Exception"], rfl, by decide +kernel, by decide +kernel, am_in (i := 274) (by decide +kernel) (by decide +kernel), am_in (i := 32) (by decide +kernel) (by decide +kernel), by decide +kernel, by decide +kernel, by decide +kernel, by decide⟩
theorem lt_X6_118_226_122 : am_Tl RX6 118 226 122 0 := ⟨"java/lang/IndexOutOfBoundsException", "nothing to count", ["java/lang/RuntimeException", "java/lang/Exception"], rfl, by decide +kernel, by decide +kernel, am_in (i := 305) (by decide +kernel) (by decide +kernel), am_in (i := 33) (by decide +kernel) (by decide +kernel), by decide +kernel, by decide +kernel, by decide +kernel, by decide⟩
theorem lt_X6_118_228_122 : am_Tl RX6 118 228 122 0 := ⟨"java/lang/IndexOutOfBoundsException", "no such caption", ["java/lang/RuntimeException", "java/lang/Exception"], rfl, by decide +kernel, by decide +kernel, am_in (i := 305) (by decide +kernel) (by decide +kernel), am_in (i := 33) (by decide +kernel) (by decide +kernel), by decide +kernel, by decide +kernel, by decide +kernel, by decide⟩
theorem lt_X6_118_230_122 : am_Tl RX6 118 230 122 0 := ⟨"java/lang/IndexOutOfBoundsException", "no such language", ["java/lang/RuntimeException", "java/lang/Exception"], rfl, by decide +kernel, by decide +kernel, am_in (i := 305) (by decide +kernel) (by decide +kernel), am_in (i := 33) (by decide +kernel) (by decide +kernel), by decide +kernel, by decide +kernel, by decide +kernel, by decide⟩
theorem lt_X6_118_232_122 : am_Tl RX6 118 232 122 0 := ⟨"java/lang/IndexOutOfBoundsException", "no such room", ["java/lang/RuntimeException", "java/lang/Exception"], rfl, by decide +kernel, by decide +kernel, am_in (i := 305) (by decide +kernel) (by decide +kernel), am_in (i := 33) (by decide +kernel) (by decide +kernel), by decide +kernel, by decide +kernel, by decide +kernel, by decide⟩
theorem lt_X6_71_234_75 : am_Tl RX6 71 234 75 2 := ⟨"java/lang/IllegalArgumentException", "no such point", ["java/lang/RuntimeException", "java/lang/Exception"], rfl, by decide +kernel, by decide +kernel, am_in (i := 274) (by decide +kernel) (by decide +kernel), am_in (i := 32) (by decide +kernel) (by decide +kernel), by decide +kernel, by decide +kernel, by decide +kernel, by decide⟩
theorem lf_X7_7 : am_Fl RX7 7 7 2 (.array .int) true := ⟨RX7, TX7, 29, tyX7, rfl, by decide, am_in (i := 652) (by decide +kernel) (by decide +kernel), inX7, tyX7_ok, nmX7, by decide +kernel, rfl, rfl⟩
theorem lf_X7_13 : am_Fl RX7 13 7 3 (.array .int) true := ⟨RX7, TX7, 29, tyX7, rfl, by decide, am_in (i := 653) (by decide +kernel) (by decide +kernel), inX7, tyX7_ok, nmX7, by decide +kernel, rfl, rfl⟩
theorem lf_X7_16 : am_Fl RX7 16 7 4 (.array .int) true := ⟨RX7, TX7, 29, tyX7, rfl, by decide, am_in (i := 654) (by decide +kernel) (by decide +kernel), inX7, tyX7_ok, nmX7, by decide +kernel, rfl, rfl⟩
theorem lf_X7_19 : am_Fl RX7 19 7 5 (.array .int) true := ⟨RX7, TX7, 29, tyX7, rfl, by decide, am_in (i := 655) (by decide +kernel) (by decide +kernel), inX7, tyX7_ok, nmX7, by decide +kernel, rfl, rfl⟩
theorem lf_X7_22 : am_Fl RX7 22 7 6 (.array .int) true := ⟨RX7, TX7, 29, tyX7, rfl, by decide, am_in (i := 656) (by decide +kernel) (by decide +kernel), inX7, tyX7_ok, nmX7, by decide +kernel, rfl, rfl⟩
theorem lf_X7_25 : am_Fl RX7 25 7 8 (.array .int) true := ⟨RX7, TX7, 29, tyX7, rfl, by decide, am_in (i := 658) (by decide +kernel) (by decide +kernel), inX7, tyX7_ok, nmX7, by decide +kernel, rfl, rfl⟩
theorem lf_X7_28 : am_Fl RX7 28 7 9 (.array .int) true := ⟨RX7, TX7, 29, tyX7, rfl, by decide, am_in (i := 659) (by decide +kernel) (by decide +kernel), inX7, tyX7_ok, nmX7, by decide +kernel, rfl, rfl⟩
theorem lf_X7_31 : am_Fl RX7 31 7 10 (.array .int) true := ⟨RX7, TX7, 29, tyX7, rfl, by decide, am_in (i := 660) (by decide +kernel) (by decide +kernel), inX7, tyX7_ok, nmX7, by decide +kernel, rfl, rfl⟩
theorem lf_X7_34 : am_Fl RX7 34 7 11 (.array .int) true := ⟨RX7, TX7, 29, tyX7, rfl, by decide, am_in (i := 661) (by decide +kernel) (by decide +kernel), inX7, tyX7_ok, nmX7, by decide +kernel, rfl, rfl⟩
theorem lf_X7_37 : am_Fl RX7 37 7 15 (.array .int) true := ⟨RX7, TX7, 29, tyX7, rfl, by decide, am_in (i := 665) (by decide +kernel) (by decide +kernel), inX7, tyX7_ok, nmX7, by decide +kernel, rfl, rfl⟩
theorem lf_X7_40 : am_Fl RX7 40 7 16 (.array .int) true := ⟨RX7, TX7, 29, tyX7, rfl, by decide, am_in (i := 666) (by decide +kernel) (by decide +kernel), inX7, tyX7_ok, nmX7, by decide +kernel, rfl, rfl⟩
theorem lf_X7_43 : am_Fl RX7 43 7 17 (.array .int) true := ⟨RX7, TX7, 29, tyX7, rfl, by decide, am_in (i := 667) (by decide +kernel) (by decide +kernel), inX7, tyX7_ok, nmX7, by decide +kernel, rfl, rfl⟩
theorem lf_X7_46 : am_Fl RX7 46 7 18 (.array .int) true := ⟨RX7, TX7, 29, tyX7, rfl, by decide, am_in (i := 668) (by decide +kernel) (by decide +kernel), inX7, tyX7_ok, nmX7, by decide +kernel, rfl, rfl⟩
theorem lf_X7_49 : am_Fl RX7 49 7 22 (.array .int) true := ⟨RX7, TX7, 29, tyX7, rfl, by decide, am_in (i := 672) (by decide +kernel) (by decide +kernel), inX7, tyX7_ok, nmX7, by decide +kernel, rfl, rfl⟩
theorem lf_X7_52 : am_Fl RX7 52 7 24 (.array .int) true := ⟨RX7, TX7, 29, tyX7, rfl, by decide, am_in (i := 674) (by decide +kernel) (by decide +kernel), inX7, tyX7_ok, nmX7, by decide +kernel, rfl, rfl⟩
theorem lf_X7_55 : am_Fl RX7 55 7 25 (.array .int) true := ⟨RX7, TX7, 29, tyX7, rfl, by decide, am_in (i := 675) (by decide +kernel) (by decide +kernel), inX7, tyX7_ok, nmX7, by decide +kernel, rfl, rfl⟩
theorem lf_X7_58 : am_Fl RX7 58 7 26 (.array .int) true := ⟨RX7, TX7, 29, tyX7, rfl, by decide, am_in (i := 676) (by decide +kernel) (by decide +kernel), inX7, tyX7_ok, nmX7, by decide +kernel, rfl, rfl⟩
theorem lf_X7_61 : am_Fl RX7 61 7 27 (.array .boolean) true := ⟨RX7, TX7, 29, tyX7, rfl, by decide, am_in (i := 677) (by decide +kernel) (by decide +kernel), inX7, tyX7_ok, nmX7, by decide +kernel, rfl, rfl⟩
theorem lf_X7_65 : am_Fl RX7 65 7 28 (.array .int) true := ⟨RX7, TX7, 29, tyX7, rfl, by decide, am_in (i := 678) (by decide +kernel) (by decide +kernel), inX7, tyX7_ok, nmX7, by decide +kernel, rfl, rfl⟩
theorem lf_X7_68 : am_Fl RX7 68 7 0 .int false := ⟨RX7, TX7, 29, tyX7, rfl, by decide, am_in (i := 650) (by decide +kernel) (by decide +kernel), inX7, tyX7_ok, nmX7, by decide +kernel, rfl, rfl⟩
theorem lf_X7_72 : am_Fl RX7 72 7 1 .int false := ⟨RX7, TX7, 29, tyX7, rfl, by decide, am_in (i := 651) (by decide +kernel) (by decide +kernel), inX7, tyX7_ok, nmX7, by decide +kernel, rfl, rfl⟩
theorem lf_X7_98 : am_Fl RX7 98 7 7 .int false := ⟨RX7, TX7, 29, tyX7, rfl, by decide, am_in (i := 657) (by decide +kernel) (by decide +kernel), inX7, tyX7_ok, nmX7, by decide +kernel, rfl, rfl⟩
theorem lf_X7_112 : am_Fl RX7 112 7 12 .int false := ⟨RX7, TX7, 29, tyX7, rfl, by decide, am_in (i := 662) (by decide +kernel) (by decide +kernel), inX7, tyX7_ok, nmX7, by decide +kernel, rfl, rfl⟩
theorem lf_X7_115 : am_Fl RX7 115 7 13 .int false := ⟨RX7, TX7, 29, tyX7, rfl, by decide, am_in (i := 663) (by decide +kernel) (by decide +kernel), inX7, tyX7_ok, nmX7, by decide +kernel, rfl, rfl⟩
theorem lf_X7_118 : am_Fl RX7 118 7 14 .boolean false := ⟨RX7, TX7, 29, tyX7, rfl, by decide, am_in (i := 664) (by decide +kernel) (by decide +kernel), inX7, tyX7_ok, nmX7, by decide +kernel, rfl, rfl⟩
theorem lf_X7_125 : am_Fl RX7 125 7 19 .int false := ⟨RX7, TX7, 29, tyX7, rfl, by decide, am_in (i := 669) (by decide +kernel) (by decide +kernel), inX7, tyX7_ok, nmX7, by decide +kernel, rfl, rfl⟩
theorem lf_X7_128 : am_Fl RX7 128 7 20 .int false := ⟨RX7, TX7, 29, tyX7, rfl, by decide, am_in (i := 670) (by decide +kernel) (by decide +kernel), inX7, tyX7_ok, nmX7, by decide +kernel, rfl, rfl⟩
theorem lf_X7_131 : am_Fl RX7 131 7 21 .boolean false := ⟨RX7, TX7, 29, tyX7, rfl, by decide, am_in (i := 671) (by decide +kernel) (by decide +kernel), inX7, tyX7_ok, nmX7, by decide +kernel, rfl, rfl⟩
theorem lf_X7_138 : am_Fl RX7 138 7 23 .int false := ⟨RX7, TX7, 29, tyX7, rfl, by decide, am_in (i := 673) (by decide +kernel) (by decide +kernel), inX7, tyX7_ok, nmX7, by decide +kernel, rfl, rfl⟩
theorem lf_X0_11 : am_Fl RX0 11 0 0 (.array (.object "CaptionLines$Row")) true := ⟨RX0, TX0, 4, tyX0, rfl, by decide, am_in (i := 67) (by decide +kernel) (by decide +kernel), inX0, tyX0_ok, nmX0, by decide +kernel, rfl, rfl⟩
theorem lf_X0_17 : am_Fl RX0 17 0 1 (.array .int) true := ⟨RX0, TX0, 4, tyX0, rfl, by decide, am_in (i := 68) (by decide +kernel) (by decide +kernel), inX0, tyX0_ok, nmX0, by decide +kernel, rfl, rfl⟩
theorem lf_X0_21 : am_Fl RX0 21 0 2 (.array .int) true := ⟨RX0, TX0, 4, tyX0, rfl, by decide, am_in (i := 69) (by decide +kernel) (by decide +kernel), inX0, tyX0_ok, nmX0, by decide +kernel, rfl, rfl⟩
theorem lf_X0_24 : am_Fl RX0 24 0 3 .int false := ⟨RX0, TX0, 4, tyX0, rfl, by decide, am_in (i := 70) (by decide +kernel) (by decide +kernel), inX0, tyX0_ok, nmX0, by decide +kernel, rfl, rfl⟩
theorem lf_X1_11 : am_Fl RX1 11 1 0 (.array (.object "CaptionLines$Row")) true := ⟨RX1, TX1, 2, tyX1, rfl, by decide, am_in (i := 121) (by decide +kernel) (by decide +kernel), inX1, tyX1_ok, nmX1, by decide +kernel, rfl, rfl⟩
theorem lf_X1_17 : am_Fl RX1 17 1 1 .int false := ⟨RX1, TX1, 2, tyX1, rfl, by decide, am_in (i := 122) (by decide +kernel) (by decide +kernel), inX1, tyX1_ok, nmX1, by decide +kernel, rfl, rfl⟩
theorem lf_X2_9 : am_Fl RX2 9 2 0 (.array .int) true := ⟨RX2, TX2, 2, tyX2, rfl, by decide, am_in (i := 153) (by decide +kernel) (by decide +kernel), inX2, tyX2_ok, nmX2, by decide +kernel, rfl, rfl⟩
theorem lf_X2_15 : am_Fl RX2 15 2 1 .int false := ⟨RX2, TX2, 2, tyX2, rfl, by decide, am_in (i := 154) (by decide +kernel) (by decide +kernel), inX2, tyX2_ok, nmX2, by decide +kernel, rfl, rfl⟩
theorem lf_X3_15 : am_Fl RX3 15 3 0 (.array .int) true := ⟨RX3, TX3, 2, tyX3, rfl, by decide, am_in (i := 51) (by decide +kernel) (by decide +kernel), inX3, tyX3_ok, nmX3, by decide +kernel, rfl, rfl⟩
theorem lf_X3_21 : am_Fl RX3 21 3 1 .int false := ⟨RX3, TX3, 2, tyX3, rfl, by decide, am_in (i := 52) (by decide +kernel) (by decide +kernel), inX3, tyX3_ok, nmX3, by decide +kernel, rfl, rfl⟩
theorem ln_X3_16 : am_Nl RX3 16 3 2 [.null, .int 0] := ⟨RX3, TX3, tyX3, rfl, am_in (i := 344) (by decide +kernel) (by decide +kernel), am_in (i := 43) (by decide +kernel) (by decide +kernel), am_in (i := 20) (by decide +kernel) (by decide +kernel), inX3, tyX3_ok, by decide +kernel, by intro v hv b e; subst e; simp at hv⟩
theorem lf_X4_9 : am_Fl RX4 9 4 0 (.array .int) true := ⟨RX4, TX4, 9, tyX4, rfl, by decide, am_in (i := 86) (by decide +kernel) (by decide +kernel), inX4, tyX4_ok, nmX4, by decide +kernel, rfl, rfl⟩
theorem lf_X4_15 : am_Fl RX4 15 4 1 (.array .int) true := ⟨RX4, TX4, 9, tyX4, rfl, by decide, am_in (i := 87) (by decide +kernel) (by decide +kernel), inX4, tyX4_ok, nmX4, by decide +kernel, rfl, rfl⟩
theorem lf_X4_18 : am_Fl RX4 18 4 2 .int false := ⟨RX4, TX4, 9, tyX4, rfl, by decide, am_in (i := 88) (by decide +kernel) (by decide +kernel), inX4, tyX4_ok, nmX4, by decide +kernel, rfl, rfl⟩
theorem lf_X4_22 : am_Fl RX4 22 4 3 (.array .int) true := ⟨RX4, TX4, 9, tyX4, rfl, by decide, am_in (i := 89) (by decide +kernel) (by decide +kernel), inX4, tyX4_ok, nmX4, by decide +kernel, rfl, rfl⟩
theorem lf_X4_25 : am_Fl RX4 25 4 4 (.array .int) true := ⟨RX4, TX4, 9, tyX4, rfl, by decide, am_in (i := 90) (by decide +kernel) (by decide +kernel), inX4, tyX4_ok, nmX4, by decide +kernel, rfl, rfl⟩
theorem lf_X4_28 : am_Fl RX4 28 4 5 (.array .int) true := ⟨RX4, TX4, 9, tyX4, rfl, by decide, am_in (i := 91) (by decide +kernel) (by decide +kernel), inX4, tyX4_ok, nmX4, by decide +kernel, rfl, rfl⟩
theorem lf_X4_31 : am_Fl RX4 31 4 6 (.array .int) true := ⟨RX4, TX4, 9, tyX4, rfl, by decide, am_in (i := 92) (by decide +kernel) (by decide +kernel), inX4, tyX4_ok, nmX4, by decide +kernel, rfl, rfl⟩
theorem lf_X4_34 : am_Fl RX4 34 4 7 .int false := ⟨RX4, TX4, 9, tyX4, rfl, by decide, am_in (i := 93) (by decide +kernel) (by decide +kernel), inX4, tyX4_ok, nmX4, by decide +kernel, rfl, rfl⟩
theorem lf_X4_37 : am_Fl RX4 37 4 8 .int false := ⟨RX4, TX4, 9, tyX4, rfl, by decide, am_in (i := 94) (by decide +kernel) (by decide +kernel), inX4, tyX4_ok, nmX4, by decide +kernel, rfl, rfl⟩
theorem lf_X5_9 : am_Fl RX5 9 5 0 (.array .int) true := ⟨RX5, TX5, 4, tyX5, rfl, by decide, am_in (i := 134) (by decide +kernel) (by decide +kernel), inX5, tyX5_ok, nmX5, by decide +kernel, rfl, rfl⟩
theorem lf_X5_15 : am_Fl RX5 15 5 1 (.array .int) true := ⟨RX5, TX5, 4, tyX5, rfl, by decide, am_in (i := 135) (by decide +kernel) (by decide +kernel), inX5, tyX5_ok, nmX5, by decide +kernel, rfl, rfl⟩
theorem lf_X5_18 : am_Fl RX5 18 5 2 (.array .int) true := ⟨RX5, TX5, 4, tyX5, rfl, by decide, am_in (i := 136) (by decide +kernel) (by decide +kernel), inX5, tyX5_ok, nmX5, by decide +kernel, rfl, rfl⟩
theorem lf_X5_21 : am_Fl RX5 21 5 3 .int false := ⟨RX5, TX5, 4, tyX5, rfl, by decide, am_in (i := 137) (by decide +kernel) (by decide +kernel), inX5, tyX5_ok, nmX5, by decide +kernel, rfl, rfl⟩
theorem ln_L_8 : am_Nl RL 8 6 7 [.null, .null, .null, .null, .null, .null, .null] := ⟨RX6, TX6, tyX6, rfl, am_in (i := 34) (by decide +kernel) (by decide +kernel), am_in (i := 35) (by decide +kernel) (by decide +kernel), am_in (i := 19) (by decide +kernel) (by decide +kernel), inX6, tyX6_ok, by decide +kernel, by intro v hv b e; subst e; simp at hv⟩
theorem ln_L_75 : am_Nl RL 75 7 29 [.int 0, .int 0, .null, .null, .null, .null, .null, .int 0, .null, .null, .null, .null, .int 0, .int 0, .int 0, .null, .null, .null, .null, .int 0, .int 0, .int 0, .null, .int 0, .null, .null, .null, .null, .null] := ⟨RX7, TX7, tyX7, rfl, am_in (i := 644) (by decide +kernel) (by decide +kernel), am_in (i := 645) (by decide +kernel) (by decide +kernel), am_in (i := 27) (by decide +kernel) (by decide +kernel), inX7, tyX7_ok, by decide +kernel, by intro v hv b e; subst e; simp at hv⟩
set_option maxRecDepth 100000 in
theorem lc_L_arrow : am_cd iL_arrow ∈ am_big := am_in (i := 608) rfl rfl
set_option maxRecDepth 100000 in
theorem lc_L_back : am_cd iL_back ∈ am_big := am_in (i := 531) rfl rfl
set_option maxRecDepth 100000 in
theorem lc_L_cell : am_cd iL_cell ∈ am_big := am_in (i := 523) rfl rfl
set_option maxRecDepth 100000 in
theorem lc_L_contract : am_cd iL_contract ∈ am_big := am_in (i := 472) rfl rfl
set_option maxRecDepth 100000 in
theorem lc_L_count : am_cd iL_count ∈ am_big := am_in (i := 626) rfl rfl
set_option maxRecDepth 100000 in
theorem lc_L_falls : am_cd iL_falls ∈ am_big := am_in (i := 359) rfl rfl
set_option maxRecDepth 100000 in
theorem lc_L_fingers : am_cd iL_fingers ∈ am_big := am_in (i := 506) rfl rfl
set_option maxRecDepth 100000 in
theorem lc_L_heard : am_cd iL_heard ∈ am_big := am_in (i := 576) rfl rfl
set_option maxRecDepth 100000 in
theorem lc_L_level : am_cd iL_level ∈ am_big := am_in (i := 462) rfl rfl
set_option maxRecDepth 100000 in
theorem lc_L_line : am_cd iL_line ∈ am_big := am_in (i := 441) rfl rfl
set_option maxRecDepth 100000 in
theorem lc_L_lines : am_cd iL_lines ∈ am_big := am_in (i := 395) rfl rfl
set_option maxRecDepth 100000 in
theorem lc_L_shown : am_cd iL_shown ∈ am_big := am_in (i := 370) rfl rfl
set_option maxRecDepth 100000 in
theorem lc_L_sign : am_cd iL_sign ∈ am_big := am_in (i := 382) rfl rfl
set_option maxRecDepth 100000 in
theorem lc_L_text : am_cd iL_text ∈ am_big := am_in (i := 296) rfl rfl
set_option maxRecDepth 100000 in
theorem lc_L_unit : am_cd iL_unit ∈ am_big := am_in (i := 196) rfl rfl
set_option maxRecDepth 100000 in
theorem lc_L_way : am_cd iL_way ∈ am_big := am_in (i := 587) rfl rfl
set_option maxRecDepth 100000 in
theorem lc_L_zone : am_cd iL_zone ∈ am_big := am_in (i := 547) rfl rfl
set_option maxRecDepth 100000 in
theorem lc_X0_addVersion : am_cd iX0_addVersion ∈ am_big := am_in (i := 356) rfl rfl
set_option maxRecDepth 100000 in
theorem lc_X0_fallBack : am_cd iX0_fallBack ∈ am_big := am_in (i := 367) rfl rfl
set_option maxRecDepth 100000 in
theorem lc_X0_init : am_cd iX0_init ∈ am_big := am_in (i := 63) rfl rfl
set_option maxRecDepth 100000 in
theorem lc_X0_languageShown : am_cd iX0_languageShown ∈ am_big := am_in (i := 378) rfl rfl
set_option maxRecDepth 100000 in
theorem lc_X0_latestShown : am_cd iX0_latestShown ∈ am_big := am_in (i := 404) rfl rfl
set_option maxRecDepth 100000 in
theorem lc_X0_total : am_cd iX0_total ∈ am_big := am_in (i := 634) rfl rfl
set_option maxRecDepth 100000 in
theorem lc_X0_version : am_cd iX0_version ∈ am_big := am_in (i := 390) rfl rfl
set_option maxRecDepth 100000 in
theorem lc_X0_versionsOf : am_cd iX0_versionsOf ∈ am_big := am_in (i := 328) rfl rfl
set_option maxRecDepth 100000 in
theorem lc_X1_has : am_cd iX1_has ∈ am_big := am_in (i := 489) rfl rfl
set_option maxRecDepth 100000 in
theorem lc_X1_init : am_cd iX1_init ∈ am_big := am_in (i := 118) rfl rfl
set_option maxRecDepth 100000 in
theorem lc_X1_longestAt : am_cd iX1_longestAt ∈ am_big := am_in (i := 493) rfl rfl
set_option maxRecDepth 100000 in
theorem lc_X1_put : am_cd iX1_put ∈ am_big := am_in (i := 503) rfl rfl
set_option maxRecDepth 100000 in
theorem lc_X1_read : am_cd iX1_read ∈ am_big := am_in (i := 540) rfl rfl
set_option maxRecDepth 100000 in
theorem lc_X1_rowOf : am_cd iX1_rowOf ∈ am_big := am_in (i := 485) rfl rfl
set_option maxRecDepth 100000 in
theorem lc_X1_total : am_cd iX1_total ∈ am_big := am_in (i := 638) rfl rfl
set_option maxRecDepth 100000 in
theorem lc_X1_write : am_cd iX1_write ∈ am_big := am_in (i := 514) rfl rfl
set_option maxRecDepth 100000 in
theorem lc_X2_areJoined : am_cd iX2_areJoined ∈ am_big := am_in (i := 600) rfl rfl
