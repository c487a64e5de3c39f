theorem q_code_L_run : (.codeWith yL_run cL_run 3 (some .int) [(0, 8, 11, 15), (0, 8, 14, 17)] : Cond) ∈ xAll := xt5 (i := 232) (by decide +kernel) (by decide +kernel)
theorem q_code_X7_run : (.code yX7_run cX7_run 2 (some .int) : Cond) ∈ xAll := xt5 (i := 236) (by decide +kernel) (by decide +kernel)
theorem q_instanceMethod_X7_run : (.instanceMethod yX7_run : Cond) ∈ xAll := xt5 (i := 234) (by decide +kernel) (by decide +kernel)
theorem q_m_L_200 : (.methodLink RL 200 yL_run : Cond) ∈ xAll := xt5 (i := 230) (by decide +kernel) (by decide +kernel)
theorem q_m_L_203 : (.methodLink RL 203 yX8_run : Cond) ∈ xAll := xt7 (i := 153) (by decide +kernel) (by decide +kernel)
theorem q_m_L_87 : (.methodLink RL 87 yX7_run : Cond) ∈ xAll := xt5 (i := 233) (by decide +kernel) (by decide +kernel)
theorem q_m_X7_193 : (.methodLink RX7 193 yX3_readOrders : Cond) ∈ xAll := xt5 (i := 237) (by decide +kernel) (by decide +kernel)
theorem q_m_X7_196 : (.methodLink RX7 196 yX3_empty : Cond) ∈ xAll := xt6 (i := 51) (by decide +kernel) (by decide +kernel)
theorem q_m_X7_204 : (.methodLink RX7 204 yX7_tryOrders : Cond) ∈ xAll := xt6 (i := 56) (by decide +kernel) (by decide +kernel)
theorem q_selects_X7_run : (.selects yX7_run.cls yX7_run yX7_run : Cond) ∈ xAll := xt5 (i := 235) (by decide +kernel) (by decide +kernel)
theorem q_static_L_run : (.static yL_run : Cond) ∈ xAll := xt5 (i := 231) (by decide +kernel) (by decide +kernel)
theorem fdX7_run : xFd yX7_run cX7_run 2 (some .int) 0 := ⟨q_instanceMethod_X7_run, q_selects_X7_run, q_initialized_X7, q_code_X7_run, by decide +kernel⟩
theorem fhL_run : xFh yL_run cL_run 3 (some .int) [(0, 8, 11, 15), (0, 8, 14, 17)] 2 := ⟨q_static_L_run, q_initialized_L, q_code_L_run, by decide +kernel⟩
