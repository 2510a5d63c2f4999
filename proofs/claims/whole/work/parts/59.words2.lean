/-! more words of the tables -/
theorem ac_char : Cond.arrayClass .char ∈ gw := gw_of (i := 104) (by decide +kernel) (by decide +kernel)
theorem ac_int : Cond.arrayClass .int ∈ gw := gw_of (i := 105) (by decide +kernel) (by decide +kernel)
theorem ac_long : Cond.arrayClass .long ∈ gw := gw_of (i := 324) (by decide +kernel) (by decide +kernel)
theorem oi_co : Cond.code ⟨"java/lang/Object", "<init>", "()V"⟩ ⟨#[0xb1]⟩ 1 none ∈ gw := gw_of (i := 84) (by decide +kernel) (by decide +kernel)
theorem fl_J0_38 : Cond.fieldLink RJ0 38 "java/lang/String" "COMPACT_STRINGS" "Z" ∈ gw := gw_of (i := 369) (by decide +kernel) (by decide +kernel)
theorem fl_J0_9 : Cond.fieldLink RJ0 9 "java/lang/String" "value" "[B" ∈ gw := gw_of (i := 1117) (by decide +kernel) (by decide +kernel)
theorem fl_J0_15 : Cond.fieldLink RJ0 15 "java/lang/String" "coder" "B" ∈ gw := gw_of (i := 1118) (by decide +kernel) (by decide +kernel)
theorem fl_J0_1053 : Cond.fieldLink RJ0 1053 "jdk/internal/util/Preconditions" "SIOOBE_FORMATTER" "Ljava/util/function/BiFunction;" ∈ gw := gw_of (i := 385) (by decide +kernel) (by decide +kernel)
theorem cm_X0_init : CM yX0_init cX0_init 2 none 1 := ⟨co_X0_init, ini_X0, by decide, by decide, by decide +kernel⟩
theorem cm_X1_init : CM yX1_init cX1_init 2 none 0 := ⟨co_X1_init, ini_X1, by decide, by decide, by decide +kernel⟩
theorem cm_X2_init : CM yX2_init cX2_init 1 none 0 := ⟨co_X2_init, ini_X2, by decide, by decide, by decide +kernel⟩
theorem cm_X3_init : CM yX3_init cX3_init 1 none 0 := ⟨co_X3_init, ini_X3, by decide, by decide, by decide +kernel⟩
theorem cm_X4_init : CM yX4_init cX4_init 2 none 1 := ⟨co_X4_init, ini_X4, by decide, by decide, by decide +kernel⟩
theorem cm_X5_init : CM yX5_init cX5_init 2 none 1 := ⟨co_X5_init, ini_X5, by decide, by decide, by decide +kernel⟩
theorem cm_X6_init : CM yX6_init cX6_init 1 none 0 := ⟨co_X6_init, ini_X6, by decide, by decide, by decide +kernel⟩
theorem cm_X7_init : CM yX7_init cX7_init 2 none 0 := ⟨co_X7_init, ini_X7, by decide, by decide, by decide +kernel⟩
theorem cm_X8_init : CM yX8_init cX8_init 1 none 0 := ⟨co_X8_init, ini_X8, by decide, by decide, by decide +kernel⟩
