theorem q_ck_6 : (.classLink RX7 269 (xE 6) : Cond) ∈ xAll := xt6 (i := 117) (by decide +kernel) (by decide +kernel)
theorem q_code_X7_meanLoan : (.code yX7_meanLoan cX7_meanLoan 2 (some .double) : Cond) ∈ xAll := xt6 (i := 116) (by decide +kernel) (by decide +kernel)
theorem q_code_X7_redeemedShare : (.code yX7_redeemedShare cX7_redeemedShare 1 (some .float) : Cond) ∈ xAll := xt6 (i := 130) (by decide +kernel) (by decide +kernel)
theorem q_code_X8_meanLoan : (.code yX8_meanLoan cX8_meanLoan 3 (some .double) : Cond) ∈ xAll := xt7 (i := 214) (by decide +kernel) (by decide +kernel)
theorem q_code_X8_redeemedShare : (.code yX8_redeemedShare cX8_redeemedShare 1 (some .float) : Cond) ∈ xAll := xt7 (i := 218) (by decide +kernel) (by decide +kernel)
theorem q_ei_6 : (.initialized (xE 6) : Cond) ∈ xAll := xt1 (i := 32) (by decide +kernel) (by decide +kernel)
theorem q_instanceMethod_X7_meanLoan : (.instanceMethod yX7_meanLoan : Cond) ∈ xAll := xt6 (i := 114) (by decide +kernel) (by decide +kernel)
theorem q_instanceMethod_X7_redeemedShare : (.instanceMethod yX7_redeemedShare : Cond) ∈ xAll := xt6 (i := 128) (by decide +kernel) (by decide +kernel)
theorem q_instanceMethod_X8_meanLoan : (.instanceMethod yX8_meanLoan : Cond) ∈ xAll := xt7 (i := 212) (by decide +kernel) (by decide +kernel)
theorem q_instanceMethod_X8_redeemedShare : (.instanceMethod yX8_redeemedShare : Cond) ∈ xAll := xt7 (i := 216) (by decide +kernel) (by decide +kernel)
theorem q_m_X7_274 : (.methodLink RX7 274 yX0_sumOfRunningLoans : Cond) ∈ xAll := xt6 (i := 120) (by decide +kernel) (by decide +kernel)
theorem q_selects_X7_meanLoan : (.selects yX7_meanLoan.cls yX7_meanLoan yX7_meanLoan : Cond) ∈ xAll := xt6 (i := 115) (by decide +kernel) (by decide +kernel)
theorem q_selects_X7_redeemedShare : (.selects yX7_redeemedShare.cls yX7_redeemedShare yX7_redeemedShare : Cond) ∈ xAll := xt6 (i := 129) (by decide +kernel) (by decide +kernel)
theorem q_selects_X8_meanLoan : (.selects yX8_meanLoan.cls yX8_meanLoan yX8_meanLoan : Cond) ∈ xAll := xt7 (i := 213) (by decide +kernel) (by decide +kernel)
theorem q_selects_X8_redeemedShare : (.selects yX8_redeemedShare.cls yX8_redeemedShare yX8_redeemedShare : Cond) ∈ xAll := xt7 (i := 217) (by decide +kernel) (by decide +kernel)
theorem fdX7_meanLoan : xFd yX7_meanLoan cX7_meanLoan 2 (some .double) 0 := ⟨q_instanceMethod_X7_meanLoan, q_selects_X7_meanLoan, q_initialized_X7, q_code_X7_meanLoan, by decide +kernel⟩
theorem fdX7_redeemedShare : xFd yX7_redeemedShare cX7_redeemedShare 1 (some .float) 0 := ⟨q_instanceMethod_X7_redeemedShare, q_selects_X7_redeemedShare, q_initialized_X7, q_code_X7_redeemedShare, by decide +kernel⟩
theorem fdX8_meanLoan : xFd yX8_meanLoan cX8_meanLoan 3 (some .double) 0 := ⟨q_instanceMethod_X8_meanLoan, q_selects_X8_meanLoan, q_initialized_X8, q_code_X8_meanLoan, by decide +kernel⟩
theorem fdX8_redeemedShare : xFd yX8_redeemedShare cX8_redeemedShare 1 (some .float) 0 := ⟨q_instanceMethod_X8_redeemedShare, q_selects_X8_redeemedShare, q_initialized_X8, q_code_X8_redeemedShare, by decide +kernel⟩
theorem th_6 : xThr 6 269 273 := ⟨⟨q_ck_6, q_ei_6, by decide +kernel⟩, by decide +kernel, by decide +kernel, by decide +kernel⟩
