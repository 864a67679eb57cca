theorem lo_X6_3 : Cond.methodLink RX6 3 Lib.objectInit ∈ am_big := am_in (i := 39) (by decide +kernel) (by decide +kernel)
theorem lo_X7_1 : Cond.methodLink RX7 1 Lib.objectInit ∈ am_big := am_in (i := 649) (by decide +kernel) (by decide +kernel)
theorem lo_X0_3 : Cond.methodLink RX0 3 Lib.objectInit ∈ am_big := am_in (i := 64) (by decide +kernel) (by decide +kernel)
theorem lo_X1_3 : Cond.methodLink RX1 3 Lib.objectInit ∈ am_big := am_in (i := 119) (by decide +kernel) (by decide +kernel)
theorem lo_X2_3 : Cond.methodLink RX2 3 Lib.objectInit ∈ am_big := am_in (i := 152) (by decide +kernel) (by decide +kernel)
theorem lo_X3_3 : Cond.methodLink RX3 3 Lib.objectInit ∈ am_big := am_in (i := 47) (by decide +kernel) (by decide +kernel)
theorem lo_X3_9 : Cond.methodLink RX3 9 Lib.Math.max.name ∈ am_big := am_in (i := 48) (by decide +kernel) (by decide +kernel)
theorem lo_X4_3 : Cond.methodLink RX4 3 Lib.objectInit ∈ am_big := am_in (i := 85) (by decide +kernel) (by decide +kernel)
theorem lo_X4_68 : Cond.methodLink RX4 68 Lib.Math.max.name ∈ am_big := am_in (i := 425) (by decide +kernel) (by decide +kernel)
theorem lo_X5_3 : Cond.methodLink RX5 3 Lib.objectInit ∈ am_big := am_in (i := 133) (by decide +kernel) (by decide +kernel)
theorem lo_i : Cond.instanceMethod Lib.objectInit ∈ am_big := am_in (i := 40) (by decide +kernel) (by decide +kernel)
set_option maxRecDepth 100000 in
theorem lo_c : Cond.code Lib.objectInit ⟨#[0xb1]⟩ 1 none ∈ am_big := am_in (i := 41) (by decide +kernel) rfl
theorem lm_s : Cond.static Lib.Math.max.name ∈ am_big := am_in (i := 49) (by decide +kernel) (by decide +kernel)
theorem lm_i : Cond.initialized "java/lang/Math" ∈ am_big := am_in (i := 21) (by decide +kernel) (by decide +kernel)
set_option maxRecDepth 100000 in
theorem lm_c : Cond.code Lib.Math.max.name Lib.Math.max.code 2 (some .int) ∈ am_big := am_in (i := 50) (by decide +kernel) rfl
theorem la_int : Cond.arrayClass (newarray.typeOf .int) ∈ am_big := am_in (i := 58) (by decide +kernel) rfl
theorem la_long : Cond.arrayClass (newarray.typeOf .long) ∈ am_big := am_in (i := 866) (by decide +kernel) rfl
theorem la_boolean : Cond.arrayClass (newarray.typeOf .boolean) ∈ am_big := am_in (i := 738) (by decide +kernel) rfl
theorem lq_X0_9 : Cond.classLink RX0 9 "CaptionLines$Row" ∈ am_big := am_in (i := 65) (by decide +kernel) (by decide +kernel)
theorem lq_X1_9 : Cond.classLink RX1 9 "CaptionLines$Row" ∈ am_big := am_in (i := 120) (by decide +kernel) (by decide +kernel)
