theorem kb_37 : (Int8.ofInt (37)).toInt32 = (37 : Int32) := by decide
theorem kb_102 : (Int8.ofInt (102)).toInt32 = (102 : Int32) := by decide
theorem q_ck_1 : (.classLink RX7 134 (xE 1) : Cond) ∈ xAll := xt3 (i := 69) (by decide +kernel) (by decide +kernel)
theorem q_ck_2 : (.classLink RX7 199 (xE 2) : Cond) ∈ xAll := xt3 (i := 98) (by decide +kernel) (by decide +kernel)
theorem q_ck_3 : (.classLink RX7 207 (xE 3) : Cond) ∈ xAll := xt3 (i := 118) (by decide +kernel) (by decide +kernel)
theorem q_ck_4 : (.classLink RX7 225 xnX : Cond) ∈ xAll := xt3 (i := 82) (by decide +kernel) (by decide +kernel)
theorem q_ck_5 : (.classLink RX7 323 (xE 5) : Cond) ∈ xAll := xt4 (i := 83) (by decide +kernel) (by decide +kernel)
theorem q_code_X7_account : (.code yX7_account cX7_account 2 (some .int) : Cond) ∈ xAll := xt6 (i := 79) (by decide +kernel) (by decide +kernel)
theorem q_code_X7_append : (.code yX7_append cX7_append 2 (some .int) : Cond) ∈ xAll := xt5 (i := 225) (by decide +kernel) (by decide +kernel)
theorem q_code_X7_cash : (.code yX7_cash cX7_cash 2 (some .int) : Cond) ∈ xAll := xt2 (i := 91) (by decide +kernel) (by decide +kernel)
theorem q_code_X7_change : (.code yX7_change cX7_change 5 (some .int) : Cond) ∈ xAll := xt3 (i := 16) (by decide +kernel) (by decide +kernel)
theorem q_code_X7_claim : (.code yX7_claim cX7_claim 2 (some .int) : Cond) ∈ xAll := xt4 (i := 40) (by decide +kernel) (by decide +kernel)
theorem q_code_X7_demandFine : (.code yX7_demandFine cX7_demandFine 2 none : Cond) ∈ xAll := xt3 (i := 68) (by decide +kernel) (by decide +kernel)
theorem q_code_X7_demandFound : (.code yX7_demandFound cX7_demandFound 1 (some .int) : Cond) ∈ xAll := xt4 (i := 62) (by decide +kernel) (by decide +kernel)
theorem q_code_X7_demandRange : (.code yX7_demandRange cX7_demandRange 3 none : Cond) ∈ xAll := xt4 (i := 22) (by decide +kernel) (by decide +kernel)
theorem q_code_X7_demandState : (.code yX7_demandState cX7_demandState 1 none : Cond) ∈ xAll := xt4 (i := 82) (by decide +kernel) (by decide +kernel)
theorem q_code_X7_demandTicket : (.code yX7_demandTicket cX7_demandTicket 2 none : Cond) ∈ xAll := xt4 (i := 18) (by decide +kernel) (by decide +kernel)
theorem q_code_X7_errorPosition : (.code yX7_errorPosition cX7_errorPosition 1 (some .int) : Cond) ∈ xAll := xt2 (i := 151) (by decide +kernel) (by decide +kernel)
theorem q_code_X7_fee : (.code yX7_fee cX7_fee 2 (some .int) : Cond) ∈ xAll := xt3 (i := 218) (by decide +kernel) (by decide +kernel)
theorem q_code_X7_isWell : (.code yX7_isWell cX7_isWell 1 (some .boolean) : Cond) ∈ xAll := xt2 (i := 115) (by decide +kernel) (by decide +kernel)
theorem q_code_X7_lotAt : (.code yX7_lotAt cX7_lotAt 2 (some .int) : Cond) ∈ xAll := xt4 (i := 47) (by decide +kernel) (by decide +kernel)
theorem q_code_X7_ownerOf : (.code yX7_ownerOf cX7_ownerOf 3 (some .int) : Cond) ∈ xAll := xt4 (i := 136) (by decide +kernel) (by decide +kernel)
theorem q_code_X7_pass : (.code yX7_pass cX7_pass 2 (some .int) : Cond) ∈ xAll := xt3 (i := 225) (by decide +kernel) (by decide +kernel)
theorem q_code_X7_pay : (.code yX7_pay cX7_pay 3 (some .int) : Cond) ∈ xAll := xt4 (i := 0) (by decide +kernel) (by decide +kernel)
theorem q_code_X7_pledge : (.code yX7_pledge cX7_pledge 4 (some .int) : Cond) ∈ xAll := xt3 (i := 12) (by decide +kernel) (by decide +kernel)
theorem q_code_X7_pledgeOf : (.code yX7_pledgeOf cX7_pledgeOf 3 (some .int) : Cond) ∈ xAll := xt4 (i := 14) (by decide +kernel) (by decide +kernel)
theorem q_code_X7_quote : (.code yX7_quote cX7_quote 3 (some .int) : Cond) ∈ xAll := xt4 (i := 78) (by decide +kernel) (by decide +kernel)
theorem q_code_X7_quoteAgain : (.code yX7_quoteAgain cX7_quoteAgain 4 (some .int) : Cond) ∈ xAll := xt4 (i := 106) (by decide +kernel) (by decide +kernel)
theorem q_code_X7_ranked : (.code yX7_ranked cX7_ranked 2 (some .int) : Cond) ∈ xAll := xt4 (i := 70) (by decide +kernel) (by decide +kernel)
theorem q_code_X7_rate : (.code yX7_rate cX7_rate 2 (some .int) : Cond) ∈ xAll := xt3 (i := 211) (by decide +kernel) (by decide +kernel)
theorem q_code_X7_redeem : (.code yX7_redeem cX7_redeem 2 (some .int) : Cond) ∈ xAll := xt3 (i := 233) (by decide +kernel) (by decide +kernel)
theorem q_code_X7_refusal : (.code yX7_refusal cX7_refusal 3 (some .int) : Cond) ∈ xAll := xt6 (i := 71) (by decide +kernel) (by decide +kernel)
theorem q_code_X7_renew : (.code yX7_renew cX7_renew 2 (some .int) : Cond) ∈ xAll := xt4 (i := 7) (by decide +kernel) (by decide +kernel)
theorem q_code_X7_restore : (.code yX7_restore cX7_restore 1 (some .int) : Cond) ∈ xAll := xt6 (i := 149) (by decide +kernel) (by decide +kernel)
theorem q_code_X7_save : (.code yX7_save cX7_save 1 (some .int) : Cond) ∈ xAll := xt2 (i := 155) (by decide +kernel) (by decide +kernel)
theorem q_code_X7_sell : (.code yX7_sell cX7_sell 3 (some .int) : Cond) ∈ xAll := xt4 (i := 33) (by decide +kernel) (by decide +kernel)
theorem q_code_X7_undo : (.code yX7_undo cX7_undo 1 (some .int) : Cond) ∈ xAll := xt6 (i := 138) (by decide +kernel) (by decide +kernel)
theorem q_code_X7_willBeLots : (.code yX7_willBeLots cX7_willBeLots 2 (some .int) : Cond) ∈ xAll := xt4 (i := 114) (by decide +kernel) (by decide +kernel)
theorem q_code_X7_willBeLotsAgain : (.code yX7_willBeLotsAgain cX7_willBeLotsAgain 2 (some .int) : Cond) ∈ xAll := xt4 (i := 121) (by decide +kernel) (by decide +kernel)
theorem q_code_X7_willReserve : (.code yX7_willReserve cX7_willReserve 3 (some .int) : Cond) ∈ xAll := xt4 (i := 128) (by decide +kernel) (by decide +kernel)
theorem q_ei_1 : (.initialized (xE 1) : Cond) ∈ xAll := xt1 (i := 17) (by decide +kernel) (by decide +kernel)
theorem q_ei_2 : (.initialized (xE 2) : Cond) ∈ xAll := xt1 (i := 20) (by decide +kernel) (by decide +kernel)
theorem q_ei_3 : (.initialized (xE 3) : Cond) ∈ xAll := xt1 (i := 21) (by decide +kernel) (by decide +kernel)
theorem q_ei_4 : (.initialized xnX : Cond) ∈ xAll := xt1 (i := 19) (by decide +kernel) (by decide +kernel)
theorem q_ei_5 : (.initialized (xE 5) : Cond) ∈ xAll := xt1 (i := 22) (by decide +kernel) (by decide +kernel)
theorem q_f_X7_101 : (.fieldLink RX7 101 "CoatPledges$Bank" "week" "I" : Cond) ∈ xAll := xt1 (i := 117) (by decide +kernel) (by decide +kernel)
theorem q_f_X7_125 : (.fieldLink RX7 125 "CoatPledges$Pledge" "state" "I" : Cond) ∈ xAll := xt1 (i := 68) (by decide +kernel) (by decide +kernel)
theorem q_f_X7_147 : (.fieldLink RX7 147 "CoatPledges$Bank" "left" "[I" : Cond) ∈ xAll := xt1 (i := 110) (by decide +kernel) (by decide +kernel)
theorem q_f_X7_151 : (.fieldLink RX7 151 "CoatPledges$Bank" "claimed" "[I" : Cond) ∈ xAll := xt1 (i := 112) (by decide +kernel) (by decide +kernel)
theorem q_f_X7_158 : (.fieldLink RX7 158 "CoatPledges$Bank" "coins" "I" : Cond) ∈ xAll := xt1 (i := 126) (by decide +kernel) (by decide +kernel)
theorem q_f_X7_16 : (.fieldLink RX7 16 "CoatPledges" "snapshot" "LCoatPledges$Bank;" : Cond) ∈ xAll := xt2 (i := 55) (by decide +kernel) (by decide +kernel)
theorem q_f_X7_191 : (.fieldLink RX7 191 "CoatPledges$Input" "length" "I" : Cond) ∈ xAll := xt1 (i := 222) (by decide +kernel) (by decide +kernel)
theorem q_f_X7_22 : (.fieldLink RX7 22 "CoatPledges" "hasSnapshot" "Z" : Cond) ∈ xAll := xt2 (i := 57) (by decide +kernel) (by decide +kernel)
theorem q_f_X7_222 : (.fieldLink RX7 222 "CoatPledges$Refusal" "reason" "I" : Cond) ∈ xAll := xt2 (i := 5) (by decide +kernel) (by decide +kernel)
theorem q_f_X7_230 : (.fieldLink RX7 230 "CoatPledges$Refusal" "causeDetail" "I" : Cond) ∈ xAll := xt2 (i := 11) (by decide +kernel) (by decide +kernel)
theorem q_f_X7_233 : (.fieldLink RX7 233 "CoatPledges$Refusal" "cause" "I" : Cond) ∈ xAll := xt2 (i := 9) (by decide +kernel) (by decide +kernel)
theorem q_f_X7_236 : (.fieldLink RX7 236 "CoatPledges$Refusal" "detail" "I" : Cond) ∈ xAll := xt2 (i := 7) (by decide +kernel) (by decide +kernel)
theorem q_f_X7_239 : (.fieldLink RX7 239 "CoatPledges$Bank" "made" "I" : Cond) ∈ xAll := xt1 (i := 115) (by decide +kernel) (by decide +kernel)
theorem q_f_X7_260 : (.fieldLink RX7 260 "CoatPledges$Bank" "laterRate" "I" : Cond) ∈ xAll := xt1 (i := 120) (by decide +kernel) (by decide +kernel)
theorem q_f_X7_263 : (.fieldLink RX7 263 "CoatPledges$Bank" "laterFee" "I" : Cond) ∈ xAll := xt1 (i := 123) (by decide +kernel) (by decide +kernel)
theorem q_f_X7_266 : (.fieldLink RX7 266 "CoatPledges$History" "count" "I" : Cond) ∈ xAll := xt1 (i := 157) (by decide +kernel) (by decide +kernel)
theorem q_f_X7_29 : (.fieldLink RX7 29 "CoatPledges" "history" "LCoatPledges$History;" : Cond) ∈ xAll := xt2 (i := 58) (by decide +kernel) (by decide +kernel)
theorem q_f_X7_43 : (.fieldLink RX7 43 "CoatPledges" "spoken" "LCoatPledges$Order;" : Cond) ∈ xAll := xt2 (i := 60) (by decide +kernel) (by decide +kernel)
theorem q_f_X7_68 : (.fieldLink RX7 68 "CoatPledges" "errorPlace" "I" : Cond) ∈ xAll := xt2 (i := 64) (by decide +kernel) (by decide +kernel)
theorem q_f_X7_84 : (.fieldLink RX7 84 "CoatPledges$Bank" "pledges" "[LCoatPledges$Pledge;" : Cond) ∈ xAll := xt1 (i := 107) (by decide +kernel) (by decide +kernel)
theorem q_instanceMethod_X7_account : (.instanceMethod yX7_account : Cond) ∈ xAll := xt6 (i := 77) (by decide +kernel) (by decide +kernel)
theorem q_instanceMethod_X7_append : (.instanceMethod yX7_append : Cond) ∈ xAll := xt5 (i := 223) (by decide +kernel) (by decide +kernel)
theorem q_instanceMethod_X7_cash : (.instanceMethod yX7_cash : Cond) ∈ xAll := xt2 (i := 89) (by decide +kernel) (by decide +kernel)
theorem q_instanceMethod_X7_change : (.instanceMethod yX7_change : Cond) ∈ xAll := xt3 (i := 15) (by decide +kernel) (by decide +kernel)
theorem q_instanceMethod_X7_claim : (.instanceMethod yX7_claim : Cond) ∈ xAll := xt4 (i := 38) (by decide +kernel) (by decide +kernel)
theorem q_instanceMethod_X7_demandFine : (.instanceMethod yX7_demandFine : Cond) ∈ xAll := xt3 (i := 67) (by decide +kernel) (by decide +kernel)
theorem q_instanceMethod_X7_demandTicket : (.instanceMethod yX7_demandTicket : Cond) ∈ xAll := xt4 (i := 17) (by decide +kernel) (by decide +kernel)
theorem q_instanceMethod_X7_errorPosition : (.instanceMethod yX7_errorPosition : Cond) ∈ xAll := xt2 (i := 149) (by decide +kernel) (by decide +kernel)
theorem q_instanceMethod_X7_fee : (.instanceMethod yX7_fee : Cond) ∈ xAll := xt3 (i := 216) (by decide +kernel) (by decide +kernel)
theorem q_instanceMethod_X7_isWell : (.instanceMethod yX7_isWell : Cond) ∈ xAll := xt2 (i := 113) (by decide +kernel) (by decide +kernel)
theorem q_instanceMethod_X7_lotAt : (.instanceMethod yX7_lotAt : Cond) ∈ xAll := xt4 (i := 45) (by decide +kernel) (by decide +kernel)
theorem q_instanceMethod_X7_ownerOf : (.instanceMethod yX7_ownerOf : Cond) ∈ xAll := xt4 (i := 134) (by decide +kernel) (by decide +kernel)
theorem q_instanceMethod_X7_pass : (.instanceMethod yX7_pass : Cond) ∈ xAll := xt3 (i := 223) (by decide +kernel) (by decide +kernel)
theorem q_instanceMethod_X7_pay : (.instanceMethod yX7_pay : Cond) ∈ xAll := xt3 (i := 238) (by decide +kernel) (by decide +kernel)
theorem q_instanceMethod_X7_pledge : (.instanceMethod yX7_pledge : Cond) ∈ xAll := xt3 (i := 10) (by decide +kernel) (by decide +kernel)
theorem q_instanceMethod_X7_pledgeOf : (.instanceMethod yX7_pledgeOf : Cond) ∈ xAll := xt4 (i := 12) (by decide +kernel) (by decide +kernel)
theorem q_instanceMethod_X7_quote : (.instanceMethod yX7_quote : Cond) ∈ xAll := xt4 (i := 76) (by decide +kernel) (by decide +kernel)
theorem q_instanceMethod_X7_quoteAgain : (.instanceMethod yX7_quoteAgain : Cond) ∈ xAll := xt4 (i := 104) (by decide +kernel) (by decide +kernel)
theorem q_instanceMethod_X7_ranked : (.instanceMethod yX7_ranked : Cond) ∈ xAll := xt4 (i := 68) (by decide +kernel) (by decide +kernel)
theorem q_instanceMethod_X7_rate : (.instanceMethod yX7_rate : Cond) ∈ xAll := xt3 (i := 209) (by decide +kernel) (by decide +kernel)
theorem q_instanceMethod_X7_redeem : (.instanceMethod yX7_redeem : Cond) ∈ xAll := xt3 (i := 231) (by decide +kernel) (by decide +kernel)
theorem q_instanceMethod_X7_refusal : (.instanceMethod yX7_refusal : Cond) ∈ xAll := xt6 (i := 69) (by decide +kernel) (by decide +kernel)
theorem q_instanceMethod_X7_renew : (.instanceMethod yX7_renew : Cond) ∈ xAll := xt4 (i := 5) (by decide +kernel) (by decide +kernel)
theorem q_instanceMethod_X7_restore : (.instanceMethod yX7_restore : Cond) ∈ xAll := xt6 (i := 147) (by decide +kernel) (by decide +kernel)
theorem q_instanceMethod_X7_save : (.instanceMethod yX7_save : Cond) ∈ xAll := xt2 (i := 153) (by decide +kernel) (by decide +kernel)
theorem q_instanceMethod_X7_sell : (.instanceMethod yX7_sell : Cond) ∈ xAll := xt4 (i := 31) (by decide +kernel) (by decide +kernel)
theorem q_instanceMethod_X7_undo : (.instanceMethod yX7_undo : Cond) ∈ xAll := xt6 (i := 136) (by decide +kernel) (by decide +kernel)
theorem q_instanceMethod_X7_willBeLots : (.instanceMethod yX7_willBeLots : Cond) ∈ xAll := xt4 (i := 112) (by decide +kernel) (by decide +kernel)
theorem q_instanceMethod_X7_willBeLotsAgain : (.instanceMethod yX7_willBeLotsAgain : Cond) ∈ xAll := xt4 (i := 119) (by decide +kernel) (by decide +kernel)
theorem q_instanceMethod_X7_willReserve : (.instanceMethod yX7_willReserve : Cond) ∈ xAll := xt4 (i := 126) (by decide +kernel) (by decide +kernel)
theorem q_m_X7_104 : (.methodLink RX7 104 yX5_isRunningIn : Cond) ∈ xAll := xt4 (i := 79) (by decide +kernel) (by decide +kernel)
theorem q_m_X7_108 : (.methodLink RX7 108 yX7_demandState : Cond) ∈ xAll := xt4 (i := 80) (by decide +kernel) (by decide +kernel)
theorem q_m_X7_112 : (.methodLink RX7 112 yX5_costBehind : Cond) ∈ xAll := xt4 (i := 99) (by decide +kernel) (by decide +kernel)
theorem q_m_X7_115 : (.methodLink RX7 115 yX5_costWeekByWeek : Cond) ∈ xAll := xt4 (i := 107) (by decide +kernel) (by decide +kernel)
theorem q_m_X7_119 : (.methodLink RX7 119 yX0_lotsByTerms : Cond) ∈ xAll := xt2 (i := 140) (by decide +kernel) (by decide +kernel)
theorem q_m_X7_122 : (.methodLink RX7 122 yX0_lotsWeekByWeek : Cond) ∈ xAll := xt2 (i := 144) (by decide +kernel) (by decide +kernel)
theorem q_m_X7_128 : (.methodLink RX7 128 yX5_reserveBehind : Cond) ∈ xAll := xt4 (i := 129) (by decide +kernel) (by decide +kernel)
theorem q_m_X7_131 : (.methodLink RX7 131 yX7_isOwner : Cond) ∈ xAll := xt4 (i := 137) (by decide +kernel) (by decide +kernel)
theorem q_m_X7_141 : (.methodLink RX7 141 yX0_countOf : Cond) ∈ xAll := xt4 (i := 138) (by decide +kernel) (by decide +kernel)
theorem q_m_X7_144 : (.methodLink RX7 144 yX0_owedBy : Cond) ∈ xAll := xt4 (i := 139) (by decide +kernel) (by decide +kernel)
theorem q_m_X7_154 : (.methodLink RX7 154 yX0_cashFromAccounts : Cond) ∈ xAll := xt2 (i := 92) (by decide +kernel) (by decide +kernel)
theorem q_m_X7_161 : (.methodLink RX7 161 yX0_isCostTheSame : Cond) ∈ xAll := xt2 (i := 116) (by decide +kernel) (by decide +kernel)
theorem q_m_X7_187 : (.methodLink RX7 187 yX3_take : Cond) ∈ xAll := xt5 (i := 226) (by decide +kernel) (by decide +kernel)
theorem q_m_X7_212 : (.methodLink RX7 212 yX2_keep : Cond) ∈ xAll := xt3 (i := 134) (by decide +kernel) (by decide +kernel)
theorem q_m_X7_242 : (.methodLink RX7 242 yX0_sumOfLent : Cond) ∈ xAll := xt6 (i := 80) (by decide +kernel) (by decide +kernel)
theorem q_m_X7_245 : (.methodLink RX7 245 yX0_sumOfPaid : Cond) ∈ xAll := xt6 (i := 81) (by decide +kernel) (by decide +kernel)
theorem q_m_X7_248 : (.methodLink RX7 248 yX0_sumOfPrices : Cond) ∈ xAll := xt6 (i := 82) (by decide +kernel) (by decide +kernel)
theorem q_m_X7_251 : (.methodLink RX7 251 yX0_sumOfClaimed : Cond) ∈ xAll := xt6 (i := 83) (by decide +kernel) (by decide +kernel)
theorem q_m_X7_254 : (.methodLink RX7 254 yX0_sumOfLeft : Cond) ∈ xAll := xt6 (i := 84) (by decide +kernel) (by decide +kernel)
theorem q_m_X7_257 : (.methodLink RX7 257 yX0_sumOfLosses : Cond) ∈ xAll := xt6 (i := 88) (by decide +kernel) (by decide +kernel)
theorem q_m_X7_279 : (.methodLink RX7 279 yX2_takeBack : Cond) ∈ xAll := xt6 (i := 139) (by decide +kernel) (by decide +kernel)
theorem q_m_X7_282 : (.methodLink RX7 282 yX2_forget : Cond) ∈ xAll := xt6 (i := 150) (by decide +kernel) (by decide +kernel)
theorem q_m_X7_285 : (.methodLink RX7 285 yX4_begin : Cond) ∈ xAll := xt3 (i := 17) (by decide +kernel) (by decide +kernel)
theorem q_m_X7_289 : (.methodLink RX7 289 yX4_add : Cond) ∈ xAll := xt3 (i := 21) (by decide +kernel) (by decide +kernel)
theorem q_m_X7_296 : (.methodLink RX7 296 yX7_demandFine : Cond) ∈ xAll := xt3 (i := 65) (by decide +kernel) (by decide +kernel)
theorem q_m_X7_320 : (.methodLink RX7 320 yX0_hasTicket : Cond) ∈ xAll := xt4 (i := 19) (by decide +kernel) (by decide +kernel)
theorem q_m_X7_72 : (.methodLink RX7 72 yX7_change : Cond) ∈ xAll := xt3 (i := 13) (by decide +kernel) (by decide +kernel)
theorem q_m_X7_76 : (.methodLink RX7 76 yX7_demandTicket : Cond) ∈ xAll := xt4 (i := 15) (by decide +kernel) (by decide +kernel)
theorem q_m_X7_80 : (.methodLink RX7 80 yX7_demandRange : Cond) ∈ xAll := xt4 (i := 20) (by decide +kernel) (by decide +kernel)
theorem q_m_X7_88 : (.methodLink RX7 88 yX5_number : Cond) ∈ xAll := xt4 (i := 23) (by decide +kernel) (by decide +kernel)
theorem q_m_X7_94 : (.methodLink RX7 94 yX0_lotInPlace : Cond) ∈ xAll := xt4 (i := 48) (by decide +kernel) (by decide +kernel)
theorem q_m_X7_98 : (.methodLink RX7 98 yX7_demandFound : Cond) ∈ xAll := xt4 (i := 60) (by decide +kernel) (by decide +kernel)
theorem q_selects_X7_account : (.selects yX7_account.cls yX7_account yX7_account : Cond) ∈ xAll := xt6 (i := 78) (by decide +kernel) (by decide +kernel)
theorem q_selects_X7_append : (.selects yX7_append.cls yX7_append yX7_append : Cond) ∈ xAll := xt5 (i := 224) (by decide +kernel) (by decide +kernel)
theorem q_selects_X7_cash : (.selects yX7_cash.cls yX7_cash yX7_cash : Cond) ∈ xAll := xt2 (i := 90) (by decide +kernel) (by decide +kernel)
theorem q_selects_X7_change : (.selects yX7_change.cls yX7_change yX7_change : Cond) ∈ xAll := xtp (i := 1) (by decide +kernel) (by decide +kernel)
theorem q_selects_X7_claim : (.selects yX7_claim.cls yX7_claim yX7_claim : Cond) ∈ xAll := xt4 (i := 39) (by decide +kernel) (by decide +kernel)
theorem q_selects_X7_demandFine : (.selects yX7_demandFine.cls yX7_demandFine yX7_demandFine : Cond) ∈ xAll := xtp (i := 2) (by decide +kernel) (by decide +kernel)
theorem q_selects_X7_demandTicket : (.selects yX7_demandTicket.cls yX7_demandTicket yX7_demandTicket : Cond) ∈ xAll := xtp (i := 3) (by decide +kernel) (by decide +kernel)
theorem q_selects_X7_errorPosition : (.selects yX7_errorPosition.cls yX7_errorPosition yX7_errorPosition : Cond) ∈ xAll := xt2 (i := 150) (by decide +kernel) (by decide +kernel)
theorem q_selects_X7_fee : (.selects yX7_fee.cls yX7_fee yX7_fee : Cond) ∈ xAll := xt3 (i := 217) (by decide +kernel) (by decide +kernel)
theorem q_selects_X7_isWell : (.selects yX7_isWell.cls yX7_isWell yX7_isWell : Cond) ∈ xAll := xt2 (i := 114) (by decide +kernel) (by decide +kernel)
theorem q_selects_X7_lotAt : (.selects yX7_lotAt.cls yX7_lotAt yX7_lotAt : Cond) ∈ xAll := xt4 (i := 46) (by decide +kernel) (by decide +kernel)
theorem q_selects_X7_ownerOf : (.selects yX7_ownerOf.cls yX7_ownerOf yX7_ownerOf : Cond) ∈ xAll := xt4 (i := 135) (by decide +kernel) (by decide +kernel)
theorem q_selects_X7_pass : (.selects yX7_pass.cls yX7_pass yX7_pass : Cond) ∈ xAll := xt3 (i := 224) (by decide +kernel) (by decide +kernel)
theorem q_selects_X7_pay : (.selects yX7_pay.cls yX7_pay yX7_pay : Cond) ∈ xAll := xt3 (i := 239) (by decide +kernel) (by decide +kernel)
theorem q_selects_X7_pledge : (.selects yX7_pledge.cls yX7_pledge yX7_pledge : Cond) ∈ xAll := xt3 (i := 11) (by decide +kernel) (by decide +kernel)
theorem q_selects_X7_pledgeOf : (.selects yX7_pledgeOf.cls yX7_pledgeOf yX7_pledgeOf : Cond) ∈ xAll := xt4 (i := 13) (by decide +kernel) (by decide +kernel)
theorem q_selects_X7_quote : (.selects yX7_quote.cls yX7_quote yX7_quote : Cond) ∈ xAll := xt4 (i := 77) (by decide +kernel) (by decide +kernel)
theorem q_selects_X7_quoteAgain : (.selects yX7_quoteAgain.cls yX7_quoteAgain yX7_quoteAgain : Cond) ∈ xAll := xt4 (i := 105) (by decide +kernel) (by decide +kernel)
theorem q_selects_X7_ranked : (.selects yX7_ranked.cls yX7_ranked yX7_ranked : Cond) ∈ xAll := xt4 (i := 69) (by decide +kernel) (by decide +kernel)
theorem q_selects_X7_rate : (.selects yX7_rate.cls yX7_rate yX7_rate : Cond) ∈ xAll := xt3 (i := 210) (by decide +kernel) (by decide +kernel)
theorem q_selects_X7_redeem : (.selects yX7_redeem.cls yX7_redeem yX7_redeem : Cond) ∈ xAll := xt3 (i := 232) (by decide +kernel) (by decide +kernel)
theorem q_selects_X7_refusal : (.selects yX7_refusal.cls yX7_refusal yX7_refusal : Cond) ∈ xAll := xt6 (i := 70) (by decide +kernel) (by decide +kernel)
theorem q_selects_X7_renew : (.selects yX7_renew.cls yX7_renew yX7_renew : Cond) ∈ xAll := xt4 (i := 6) (by decide +kernel) (by decide +kernel)
theorem q_selects_X7_restore : (.selects yX7_restore.cls yX7_restore yX7_restore : Cond) ∈ xAll := xt6 (i := 148) (by decide +kernel) (by decide +kernel)
theorem q_selects_X7_save : (.selects yX7_save.cls yX7_save yX7_save : Cond) ∈ xAll := xt2 (i := 154) (by decide +kernel) (by decide +kernel)
theorem q_selects_X7_sell : (.selects yX7_sell.cls yX7_sell yX7_sell : Cond) ∈ xAll := xt4 (i := 32) (by decide +kernel) (by decide +kernel)
theorem q_selects_X7_undo : (.selects yX7_undo.cls yX7_undo yX7_undo : Cond) ∈ xAll := xt6 (i := 137) (by decide +kernel) (by decide +kernel)
theorem q_selects_X7_willBeLots : (.selects yX7_willBeLots.cls yX7_willBeLots yX7_willBeLots : Cond) ∈ xAll := xt4 (i := 113) (by decide +kernel) (by decide +kernel)
theorem q_selects_X7_willBeLotsAgain : (.selects yX7_willBeLotsAgain.cls yX7_willBeLotsAgain yX7_willBeLotsAgain : Cond) ∈ xAll := xt4 (i := 120) (by decide +kernel) (by decide +kernel)
theorem q_selects_X7_willReserve : (.selects yX7_willReserve.cls yX7_willReserve yX7_willReserve : Cond) ∈ xAll := xt4 (i := 127) (by decide +kernel) (by decide +kernel)
theorem q_static_X7_demandFound : (.static yX7_demandFound : Cond) ∈ xAll := xt4 (i := 61) (by decide +kernel) (by decide +kernel)
theorem q_static_X7_demandRange : (.static yX7_demandRange : Cond) ∈ xAll := xt4 (i := 21) (by decide +kernel) (by decide +kernel)
theorem q_static_X7_demandState : (.static yX7_demandState : Cond) ∈ xAll := xt4 (i := 81) (by decide +kernel) (by decide +kernel)
theorem fdX7_demandFine : xFd yX7_demandFine cX7_demandFine 2 none 1 := ⟨q_instanceMethod_X7_demandFine, q_selects_X7_demandFine, q_initialized_X7, q_code_X7_demandFine, by decide +kernel⟩
theorem fdX7_demandFound : xFs yX7_demandFound cX7_demandFound 1 (some .int) 1 := ⟨q_static_X7_demandFound, q_initialized_X7, q_code_X7_demandFound, by decide +kernel⟩
theorem fdX7_demandRange : xFs yX7_demandRange cX7_demandRange 3 none 3 := ⟨q_static_X7_demandRange, q_initialized_X7, q_code_X7_demandRange, by decide +kernel⟩
theorem fdX7_demandState : xFs yX7_demandState cX7_demandState 1 none 1 := ⟨q_static_X7_demandState, q_initialized_X7, q_code_X7_demandState, by decide +kernel⟩
theorem fdX7_demandTicket : xFd yX7_demandTicket cX7_demandTicket 2 none 1 := ⟨q_instanceMethod_X7_demandTicket, q_selects_X7_demandTicket, q_initialized_X7, q_code_X7_demandTicket, by decide +kernel⟩
theorem fdX7_change : xFd yX7_change cX7_change 5 (some .int) 4 := ⟨q_instanceMethod_X7_change, q_selects_X7_change, q_initialized_X7, q_code_X7_change, by decide +kernel⟩
theorem fdX7_pledge : xFd yX7_pledge cX7_pledge 4 (some .int) 3 := ⟨q_instanceMethod_X7_pledge, q_selects_X7_pledge, q_initialized_X7, q_code_X7_pledge, by decide +kernel⟩
theorem fdX7_rate : xFd yX7_rate cX7_rate 2 (some .int) 1 := ⟨q_instanceMethod_X7_rate, q_selects_X7_rate, q_initialized_X7, q_code_X7_rate, by decide +kernel⟩
theorem fdX7_fee : xFd yX7_fee cX7_fee 2 (some .int) 1 := ⟨q_instanceMethod_X7_fee, q_selects_X7_fee, q_initialized_X7, q_code_X7_fee, by decide +kernel⟩
theorem fdX7_pass : xFd yX7_pass cX7_pass 2 (some .int) 1 := ⟨q_instanceMethod_X7_pass, q_selects_X7_pass, q_initialized_X7, q_code_X7_pass, by decide +kernel⟩
theorem fdX7_redeem : xFd yX7_redeem cX7_redeem 2 (some .int) 1 := ⟨q_instanceMethod_X7_redeem, q_selects_X7_redeem, q_initialized_X7, q_code_X7_redeem, by decide +kernel⟩
theorem fdX7_pay : xFd yX7_pay cX7_pay 3 (some .int) 2 := ⟨q_instanceMethod_X7_pay, q_selects_X7_pay, q_initialized_X7, q_code_X7_pay, by decide +kernel⟩
theorem fdX7_renew : xFd yX7_renew cX7_renew 2 (some .int) 1 := ⟨q_instanceMethod_X7_renew, q_selects_X7_renew, q_initialized_X7, q_code_X7_renew, by decide +kernel⟩
theorem fdX7_pledgeOf : xFd yX7_pledgeOf cX7_pledgeOf 3 (some .int) 2 := ⟨q_instanceMethod_X7_pledgeOf, q_selects_X7_pledgeOf, q_initialized_X7, q_code_X7_pledgeOf, by decide +kernel⟩
theorem fdX7_sell : xFd yX7_sell cX7_sell 3 (some .int) 2 := ⟨q_instanceMethod_X7_sell, q_selects_X7_sell, q_initialized_X7, q_code_X7_sell, by decide +kernel⟩
theorem fdX7_claim : xFd yX7_claim cX7_claim 2 (some .int) 1 := ⟨q_instanceMethod_X7_claim, q_selects_X7_claim, q_initialized_X7, q_code_X7_claim, by decide +kernel⟩
theorem fdX7_lotAt : xFd yX7_lotAt cX7_lotAt 2 (some .int) 1 := ⟨q_instanceMethod_X7_lotAt, q_selects_X7_lotAt, q_initialized_X7, q_code_X7_lotAt, by decide +kernel⟩
theorem fdX7_ranked : xFd yX7_ranked cX7_ranked 2 (some .int) 1 := ⟨q_instanceMethod_X7_ranked, q_selects_X7_ranked, q_initialized_X7, q_code_X7_ranked, by decide +kernel⟩
theorem fdX7_quote : xFd yX7_quote cX7_quote 3 (some .int) 2 := ⟨q_instanceMethod_X7_quote, q_selects_X7_quote, q_initialized_X7, q_code_X7_quote, by decide +kernel⟩
theorem fdX7_quoteAgain : xFd yX7_quoteAgain cX7_quoteAgain 4 (some .int) 2 := ⟨q_instanceMethod_X7_quoteAgain, q_selects_X7_quoteAgain, q_initialized_X7, q_code_X7_quoteAgain, by decide +kernel⟩
theorem fdX7_willBeLots : xFd yX7_willBeLots cX7_willBeLots 2 (some .int) 1 := ⟨q_instanceMethod_X7_willBeLots, q_selects_X7_willBeLots, q_initialized_X7, q_code_X7_willBeLots, by decide +kernel⟩
theorem fdX7_willBeLotsAgain : xFd yX7_willBeLotsAgain cX7_willBeLotsAgain 2 (some .int) 1 := ⟨q_instanceMethod_X7_willBeLotsAgain, q_selects_X7_willBeLotsAgain, q_initialized_X7, q_code_X7_willBeLotsAgain, by decide +kernel⟩
theorem fdX7_willReserve : xFd yX7_willReserve cX7_willReserve 3 (some .int) 2 := ⟨q_instanceMethod_X7_willReserve, q_selects_X7_willReserve, q_initialized_X7, q_code_X7_willReserve, by decide +kernel⟩
theorem fdX7_ownerOf : xFd yX7_ownerOf cX7_ownerOf 3 (some .int) 2 := ⟨q_instanceMethod_X7_ownerOf, q_selects_X7_ownerOf, q_initialized_X7, q_code_X7_ownerOf, by decide +kernel⟩
theorem fdX7_cash : xFd yX7_cash cX7_cash 2 (some .int) 1 := ⟨q_instanceMethod_X7_cash, q_selects_X7_cash, q_initialized_X7, q_code_X7_cash, by decide +kernel⟩
theorem fdX7_isWell : xFd yX7_isWell cX7_isWell 1 (some .boolean) 0 := ⟨q_instanceMethod_X7_isWell, q_selects_X7_isWell, q_initialized_X7, q_code_X7_isWell, by decide +kernel⟩
theorem fdX7_append : xFd yX7_append cX7_append 2 (some .int) 1 := ⟨q_instanceMethod_X7_append, q_selects_X7_append, q_initialized_X7, q_code_X7_append, by decide +kernel⟩
theorem fdX7_errorPosition : xFd yX7_errorPosition cX7_errorPosition 1 (some .int) 0 := ⟨q_instanceMethod_X7_errorPosition, q_selects_X7_errorPosition, q_initialized_X7, q_code_X7_errorPosition, by decide +kernel⟩
theorem fdX7_refusal : xFd yX7_refusal cX7_refusal 3 (some .int) 2 := ⟨q_instanceMethod_X7_refusal, q_selects_X7_refusal, q_initialized_X7, q_code_X7_refusal, by decide +kernel⟩
theorem fdX7_account : xFd yX7_account cX7_account 2 (some .int) 1 := ⟨q_instanceMethod_X7_account, q_selects_X7_account, q_initialized_X7, q_code_X7_account, by decide +kernel⟩
theorem fdX7_undo : xFd yX7_undo cX7_undo 1 (some .int) 0 := ⟨q_instanceMethod_X7_undo, q_selects_X7_undo, q_initialized_X7, q_code_X7_undo, by decide +kernel⟩
theorem fdX7_save : xFd yX7_save cX7_save 1 (some .int) 0 := ⟨q_instanceMethod_X7_save, q_selects_X7_save, q_initialized_X7, q_code_X7_save, by decide +kernel⟩
theorem fdX7_restore : xFd yX7_restore cX7_restore 1 (some .int) 0 := ⟨q_instanceMethod_X7_restore, q_selects_X7_restore, q_initialized_X7, q_code_X7_restore, by decide +kernel⟩
theorem th_1 : xThr 1 134 138 := ⟨⟨q_ck_1, q_ei_1, by decide +kernel⟩, by decide +kernel, by decide +kernel, by decide +kernel⟩
theorem th_2 : xThr 2 199 203 := ⟨⟨q_ck_2, q_ei_2, by decide +kernel⟩, by decide +kernel, by decide +kernel, by decide +kernel⟩
theorem th_3 : xThr 3 207 211 := ⟨⟨q_ck_3, q_ei_3, by decide +kernel⟩, by decide +kernel, by decide +kernel, by decide +kernel⟩
theorem th_4 : xThrN 225 229 := ⟨⟨q_ck_4, q_ei_4⟩, by decide +kernel, by decide +kernel, by decide +kernel⟩
theorem th_5 : xThr 5 323 327 := ⟨⟨q_ck_5, q_ei_5, by decide +kernel⟩, by decide +kernel, by decide +kernel, by decide +kernel⟩
