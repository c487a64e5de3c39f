theorem q_Lc_102 : (.classLink RL 102 (xE 6) : Cond) ∈ xAll := xt6 (i := 99) (by decide +kernel) (by decide +kernel)
theorem q_code_L_meanLoan : (.codeWith yL_meanLoan cL_meanLoan 3 (some .int) [(0, 7, 10, 102)] : Cond) ∈ xAll := xt6 (i := 98) (by decide +kernel) (by decide +kernel)
theorem q_code_L_redeemedShare : (.codeWith yL_redeemedShare cL_redeemedShare 3 (some .int) [(0, 8, 11, 102)] : Cond) ∈ xAll := xt6 (i := 126) (by decide +kernel) (by decide +kernel)
theorem q_m_L_104 : (.methodLink RL 104 yX7_redeemedShare : Cond) ∈ xAll := xt6 (i := 127) (by decide +kernel) (by decide +kernel)
theorem q_m_L_215 : (.methodLink RL 215 yL_meanLoan : Cond) ∈ xAll := xt6 (i := 96) (by decide +kernel) (by decide +kernel)
theorem q_m_L_218 : (.methodLink RL 218 yX8_meanLoan : Cond) ∈ xAll := xt7 (i := 211) (by decide +kernel) (by decide +kernel)
theorem q_m_L_219 : (.methodLink RL 219 yL_redeemedShare : Cond) ∈ xAll := xt6 (i := 124) (by decide +kernel) (by decide +kernel)
theorem q_m_L_221 : (.methodLink RL 221 yX8_redeemedShare : Cond) ∈ xAll := xt7 (i := 215) (by decide +kernel) (by decide +kernel)
theorem q_m_L_98 : (.methodLink RL 98 yX7_meanLoan : Cond) ∈ xAll := xt6 (i := 113) (by decide +kernel) (by decide +kernel)
theorem q_static_L_meanLoan : (.static yL_meanLoan : Cond) ∈ xAll := xt6 (i := 97) (by decide +kernel) (by decide +kernel)
theorem q_static_L_redeemedShare : (.static yL_redeemedShare : Cond) ∈ xAll := xt6 (i := 125) (by decide +kernel) (by decide +kernel)
theorem fhL_meanLoan : xFh yL_meanLoan cL_meanLoan 3 (some .int) [(0, 7, 10, 102)] 2 := ⟨q_static_L_meanLoan, q_initialized_L, q_code_L_meanLoan, by decide +kernel⟩
theorem fhL_redeemedShare : xFh yL_redeemedShare cL_redeemedShare 3 (some .int) [(0, 8, 11, 102)] 2 := ⟨q_static_L_redeemedShare, q_initialized_L, q_code_L_redeemedShare, by decide +kernel⟩
