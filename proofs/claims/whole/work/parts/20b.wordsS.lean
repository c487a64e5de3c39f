theorem kb_m10 : (Int8.ofInt (-10)).toInt32 = (-10 : Int32) := by decide
theorem q_code_J1_canEncode_fc78d : (.code yJ1_canEncode_fc78d cJ1_canEncode_fc78d 1 (some .boolean) : Cond) ∈ xAll := xt5 (i := 176) (by decide +kernel) (by decide +kernel)
theorem q_code_J6_stringSize_0f7a4 : (.code yJ6_stringSize_0f7a4 cJ6_stringSize_0f7a4 4 (some .int) : Cond) ∈ xAll := xt5 (i := 54) (by decide +kernel) (by decide +kernel)
theorem q_code_J8_newLength_cabcc : (.code yJ8_newLength_cabcc cJ8_newLength_cabcc 4 (some .int) : Cond) ∈ xAll := xt4 (i := 186) (by decide +kernel) (by decide +kernel)
theorem q_code_max : (.code Lib.Math.max.name Lib.Math.max.code 2 (some .int) : Cond) ∈ xAll := xt4 (i := 189) (by decide +kernel) (by decide +kernel)
theorem q_initialized_J6 : (.initialized RJ6 : Cond) ∈ xAll := xt1 (i := 31) (by decide +kernel) (by decide +kernel)
theorem q_initialized_J8 : (.initialized RJ8 : Cond) ∈ xAll := xt1 (i := 24) (by decide +kernel) (by decide +kernel)
theorem q_initialized_Math : (.initialized "java/lang/Math" : Cond) ∈ xAll := xt1 (i := 25) (by decide +kernel) (by decide +kernel)
theorem q_k_J8_200 : (.constant RJ8 200 (2147483639 : Int32) : Cond) ∈ xAll := xt4 (i := 190) (by decide +kernel) (by decide +kernel)
theorem q_m_J8_194 : (.methodLink RJ8 194 Lib.Math.max.name : Cond) ∈ xAll := xt4 (i := 187) (by decide +kernel) (by decide +kernel)
theorem q_static_J1_canEncode_fc78d : (.static yJ1_canEncode_fc78d : Cond) ∈ xAll := xt5 (i := 175) (by decide +kernel) (by decide +kernel)
theorem q_static_J6_stringSize_0f7a4 : (.static yJ6_stringSize_0f7a4 : Cond) ∈ xAll := xt5 (i := 53) (by decide +kernel) (by decide +kernel)
theorem q_static_J8_newLength_cabcc : (.static yJ8_newLength_cabcc : Cond) ∈ xAll := xt4 (i := 185) (by decide +kernel) (by decide +kernel)
theorem q_static_max : (.static Lib.Math.max.name : Cond) ∈ xAll := xt4 (i := 188) (by decide +kernel) (by decide +kernel)
theorem fdJ1_canEncode_fc78d : xFs yJ1_canEncode_fc78d cJ1_canEncode_fc78d 1 (some .boolean) 1 := ⟨q_static_J1_canEncode_fc78d, q_initialized_J1, q_code_J1_canEncode_fc78d, by decide +kernel⟩
theorem fdJ6_stringSize_0f7a4 : xFs yJ6_stringSize_0f7a4 cJ6_stringSize_0f7a4 4 (some .int) 1 := ⟨q_static_J6_stringSize_0f7a4, q_initialized_J6, q_code_J6_stringSize_0f7a4, by decide +kernel⟩
theorem fdJ8_newLength_cabcc : xFs yJ8_newLength_cabcc cJ8_newLength_cabcc 4 (some .int) 3 := ⟨q_static_J8_newLength_cabcc, q_initialized_J8, q_code_J8_newLength_cabcc, by decide +kernel⟩
