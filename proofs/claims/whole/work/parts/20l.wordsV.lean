theorem kb_35 : (Int8.ofInt (35)).toInt32 = (35 : Int32) := by decide
theorem kb_43 : (Int8.ofInt (43)).toInt32 = (43 : Int32) := by decide
theorem tn_18 : (18 : Int32).toNatClampNeg = 18 := by decide
theorem vl_18 {N : Nat} (h : 18 < N) : vp_in (18 : Int32) N := xlitin tn_18 (by decide) h
theorem q_code_X5_writeTo : (.code yX5_writeTo cX5_writeTo 2 none : Cond) ∈ xAll := xt5 (i := 193) (by decide +kernel) (by decide +kernel)
theorem q_code_X8_line : (.code yX8_line cX8_line 2 (some .int) : Cond) ∈ xAll := xt7 (i := 134) (by decide +kernel) (by decide +kernel)
theorem q_f_X7_64 : (.fieldLink RX7 64 "CoatPledges" "written" "Ljava/lang/StringBuilder;" : Cond) ∈ xAll := xt2 (i := 63) (by decide +kernel) (by decide +kernel)
theorem q_instanceMethod_X5_writeTo : (.instanceMethod yX5_writeTo : Cond) ∈ xAll := xt5 (i := 191) (by decide +kernel) (by decide +kernel)
theorem q_instanceMethod_X8_line : (.instanceMethod yX8_line : Cond) ∈ xAll := xt7 (i := 132) (by decide +kernel) (by decide +kernel)
theorem q_m_X5_74 : (.methodLink RX5 74 yJ4_append_cf468 : Cond) ∈ xAll := xt5 (i := 194) (by decide +kernel) (by decide +kernel)
theorem q_m_X5_80 : (.methodLink RX5 80 yJ4_append_bf812 : Cond) ∈ xAll := xt5 (i := 195) (by decide +kernel) (by decide +kernel)
theorem q_m_X5_83 : (.methodLink RX5 83 yX5_letter : Cond) ∈ xAll := xt5 (i := 196) (by decide +kernel) (by decide +kernel)
theorem q_m_X7_164 : (.methodLink RX7 164 yJ4_setLength_d00df : Cond) ∈ xAll := xt4 (i := 150) (by decide +kernel) (by decide +kernel)
theorem q_m_X7_167 : (.methodLink RX7 167 yJ4_append_cf468 : Cond) ∈ xAll := xt5 (i := 167) (by decide +kernel) (by decide +kernel)
theorem q_m_X7_171 : (.methodLink RX7 171 yJ4_append_bf812 : Cond) ∈ xAll := xt5 (i := 189) (by decide +kernel) (by decide +kernel)
theorem q_m_X7_174 : (.methodLink RX7 174 yX5_writeTo : Cond) ∈ xAll := xt5 (i := 190) (by decide +kernel) (by decide +kernel)
theorem q_m_X7_178 : (.methodLink RX7 178 yJ4_length_8abf5 : Cond) ∈ xAll := xt5 (i := 200) (by decide +kernel) (by decide +kernel)
theorem q_m_X8_124 : (.methodLink RX8 124 yX8_writesNumber : Cond) ∈ xAll := xt7 (i := 139) (by decide +kernel) (by decide +kernel)
theorem q_m_X8_129 : (.methodLink RX8 129 yJ0_charAt_5068e : Cond) ∈ xAll := xt7 (i := 144) (by decide +kernel) (by decide +kernel)
theorem q_selects_X5_writeTo : (.selects yX5_writeTo.cls yX5_writeTo yX5_writeTo : Cond) ∈ xAll := xt5 (i := 192) (by decide +kernel) (by decide +kernel)
theorem q_selects_X8_line : (.selects yX8_line.cls yX8_line yX8_line : Cond) ∈ xAll := xt7 (i := 133) (by decide +kernel) (by decide +kernel)
theorem fdX5_writeTo : xFd yX5_writeTo cX5_writeTo 2 none 1 := ⟨q_instanceMethod_X5_writeTo, q_selects_X5_writeTo, q_initialized_X5, q_code_X5_writeTo, by decide +kernel⟩
theorem fdX8_line : xFd yX8_line cX8_line 2 (some .int) 1 := ⟨q_instanceMethod_X8_line, q_selects_X8_line, q_initialized_X8, q_code_X8_line, by decide +kernel⟩
