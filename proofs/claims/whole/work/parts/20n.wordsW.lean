theorem q_code_L_character : (.codeWith yL_character cL_character 4 (some .int) [(0, 9, 12, 13)] : Cond) ∈ xAll := xt5 (i := 203) (by decide +kernel) (by decide +kernel)
theorem q_code_L_line : (.codeWith yL_line cL_line 4 (some .int) [(0, 9, 12, 32)] : Cond) ∈ xAll := xt4 (i := 145) (by decide +kernel) (by decide +kernel)
theorem q_code_X7_character : (.code yX7_character cX7_character 2 (some .char) : Cond) ∈ xAll := xt5 (i := 207) (by decide +kernel) (by decide +kernel)
theorem q_code_X7_line : (.code yX7_line cX7_line 2 (some .int) : Cond) ∈ xAll := xt4 (i := 149) (by decide +kernel) (by decide +kernel)
theorem q_instanceMethod_X7_character : (.instanceMethod yX7_character : Cond) ∈ xAll := xt5 (i := 205) (by decide +kernel) (by decide +kernel)
theorem q_instanceMethod_X7_line : (.instanceMethod yX7_line : Cond) ∈ xAll := xt4 (i := 147) (by decide +kernel) (by decide +kernel)
theorem q_m_L_190 : (.methodLink RL 190 yL_line : Cond) ∈ xAll := xt4 (i := 143) (by decide +kernel) (by decide +kernel)
theorem q_m_L_192 : (.methodLink RL 192 yX8_line : Cond) ∈ xAll := xt7 (i := 131) (by decide +kernel) (by decide +kernel)
theorem q_m_L_193 : (.methodLink RL 193 yL_character : Cond) ∈ xAll := xt5 (i := 201) (by decide +kernel) (by decide +kernel)
theorem q_m_L_195 : (.methodLink RL 195 yX8_character : Cond) ∈ xAll := xt7 (i := 145) (by decide +kernel) (by decide +kernel)
theorem q_m_L_76 : (.methodLink RL 76 yX7_line : Cond) ∈ xAll := xt4 (i := 146) (by decide +kernel) (by decide +kernel)
theorem q_m_L_79 : (.methodLink RL 79 yX7_character : Cond) ∈ xAll := xt5 (i := 204) (by decide +kernel) (by decide +kernel)
theorem q_m_X7_183 : (.methodLink RX7 183 yJ4_charAt_5068e : Cond) ∈ xAll := xt5 (i := 209) (by decide +kernel) (by decide +kernel)
theorem q_selects_X7_character : (.selects yX7_character.cls yX7_character yX7_character : Cond) ∈ xAll := xt5 (i := 206) (by decide +kernel) (by decide +kernel)
theorem q_selects_X7_line : (.selects yX7_line.cls yX7_line yX7_line : Cond) ∈ xAll := xt4 (i := 148) (by decide +kernel) (by decide +kernel)
theorem q_static_L_character : (.static yL_character : Cond) ∈ xAll := xt5 (i := 202) (by decide +kernel) (by decide +kernel)
theorem q_static_L_line : (.static yL_line : Cond) ∈ xAll := xt4 (i := 144) (by decide +kernel) (by decide +kernel)
theorem fdX7_line : xFd yX7_line cX7_line 2 (some .int) 1 := ⟨q_instanceMethod_X7_line, q_selects_X7_line, q_initialized_X7, q_code_X7_line, by decide +kernel⟩
theorem fdX7_character : xFd yX7_character cX7_character 2 (some .char) 1 := ⟨q_instanceMethod_X7_character, q_selects_X7_character, q_initialized_X7, q_code_X7_character, by decide +kernel⟩
theorem fhL_line : xFh yL_line cL_line 4 (some .int) [(0, 9, 12, 32)] 3 := ⟨q_static_L_line, q_initialized_L, q_code_L_line, by decide +kernel⟩
theorem fhL_character : xFh yL_character cL_character 4 (some .int) [(0, 9, 12, 13)] 3 := ⟨q_static_L_character, q_initialized_L, q_code_L_character, by decide +kernel⟩
