theorem kb_m3 : (Int8.ofInt (-3)).toInt32 = (-3 : Int32) := by decide
theorem kb_m2 : (Int8.ofInt (-2)).toInt32 = (-2 : Int32) := by decide
theorem kb_6 : (Int8.ofInt (6)).toInt32 = (6 : Int32) := by decide
theorem kb_7 : (Int8.ofInt (7)).toInt32 = (7 : Int32) := by decide
theorem kb_8 : (Int8.ofInt (8)).toInt32 = (8 : Int32) := by decide
theorem kb_9 : (Int8.ofInt (9)).toInt32 = (9 : Int32) := by decide
theorem kb_10 : (Int8.ofInt (10)).toInt32 = (10 : Int32) := by decide
theorem kb_11 : (Int8.ofInt (11)).toInt32 = (11 : Int32) := by decide
theorem kb_15 : (Int8.ofInt (15)).toInt32 = (15 : Int32) := by decide
theorem kb_16 : (Int8.ofInt (16)).toInt32 = (16 : Int32) := by decide
theorem kb_20 : (Int8.ofInt (20)).toInt32 = (20 : Int32) := by decide
theorem kb_32 : (Int8.ofInt (32)).toInt32 = (32 : Int32) := by decide
theorem kb_47 : (Int8.ofInt (47)).toInt32 = (47 : Int32) := by decide
theorem kb_48 : (Int8.ofInt (48)).toInt32 = (48 : Int32) := by decide
theorem kb_57 : (Int8.ofInt (57)).toInt32 = (57 : Int32) := by decide
theorem kb_59 : (Int8.ofInt (59)).toInt32 = (59 : Int32) := by decide
theorem kb_60 : (Int8.ofInt (60)).toInt32 = (60 : Int32) := by decide
theorem kb_61 : (Int8.ofInt (61)).toInt32 = (61 : Int32) := by decide
theorem kb_99 : (Int8.ofInt (99)).toInt32 = (99 : Int32) := by decide
theorem kb_100 : (Int8.ofInt (100)).toInt32 = (100 : Int32) := by decide
theorem kb_108 : (Int8.ofInt (108)).toInt32 = (108 : Int32) := by decide
theorem kb_110 : (Int8.ofInt (110)).toInt32 = (110 : Int32) := by decide
theorem kb_112 : (Int8.ofInt (112)).toInt32 = (112 : Int32) := by decide
theorem kb_114 : (Int8.ofInt (114)).toInt32 = (114 : Int32) := by decide
theorem kb_115 : (Int8.ofInt (115)).toInt32 = (115 : Int32) := by decide
theorem kb_119 : (Int8.ofInt (119)).toInt32 = (119 : Int32) := by decide
theorem kb_121 : (Int8.ofInt (121)).toInt32 = (121 : Int32) := by decide
theorem kc_m1 : Int32.ofInt (-1) = (-1 : Int32) := by decide
theorem kc_0 : Int32.ofInt (0) = (0 : Int32) := by decide
theorem kc_1 : Int32.ofInt (1) = (1 : Int32) := by decide
theorem kc_2 : Int32.ofInt (2) = (2 : Int32) := by decide
theorem kc_3 : Int32.ofInt (3) = (3 : Int32) := by decide
theorem kc_4 : Int32.ofInt (4) = (4 : Int32) := by decide
theorem kc_5 : Int32.ofInt (5) = (5 : Int32) := by decide
theorem tn_0 : (0 : Int32).toNatClampNeg = 0 := by decide
theorem vl_0 {N : Nat} (h : 0 < N) : vp_in (0 : Int32) N := xlitin tn_0 (by decide) h
theorem tn_1 : (1 : Int32).toNatClampNeg = 1 := by decide
theorem vl_1 {N : Nat} (h : 1 < N) : vp_in (1 : Int32) N := xlitin tn_1 (by decide) h
theorem tn_2 : (2 : Int32).toNatClampNeg = 2 := by decide
theorem vl_2 {N : Nat} (h : 2 < N) : vp_in (2 : Int32) N := xlitin tn_2 (by decide) h
theorem tn_3 : (3 : Int32).toNatClampNeg = 3 := by decide
theorem vl_3 {N : Nat} (h : 3 < N) : vp_in (3 : Int32) N := xlitin tn_3 (by decide) h
theorem tn_4 : (4 : Int32).toNatClampNeg = 4 := by decide
theorem vl_4 {N : Nat} (h : 4 < N) : vp_in (4 : Int32) N := xlitin tn_4 (by decide) h
theorem tn_5 : (5 : Int32).toNatClampNeg = 5 := by decide
theorem vl_5 {N : Nat} (h : 5 < N) : vp_in (5 : Int32) N := xlitin tn_5 (by decide) h
theorem tn_6 : (6 : Int32).toNatClampNeg = 6 := by decide
theorem vl_6 {N : Nat} (h : 6 < N) : vp_in (6 : Int32) N := xlitin tn_6 (by decide) h
theorem tn_7 : (7 : Int32).toNatClampNeg = 7 := by decide
theorem vl_7 {N : Nat} (h : 7 < N) : vp_in (7 : Int32) N := xlitin tn_7 (by decide) h
theorem tn_8 : (8 : Int32).toNatClampNeg = 8 := by decide
theorem vl_8 {N : Nat} (h : 8 < N) : vp_in (8 : Int32) N := xlitin tn_8 (by decide) h
theorem tn_9 : (9 : Int32).toNatClampNeg = 9 := by decide
theorem vl_9 {N : Nat} (h : 9 < N) : vp_in (9 : Int32) N := xlitin tn_9 (by decide) h
theorem tn_10 : (10 : Int32).toNatClampNeg = 10 := by decide
theorem vl_10 {N : Nat} (h : 10 < N) : vp_in (10 : Int32) N := xlitin tn_10 (by decide) h
theorem ks_187 : (Int16.ofInt (187)).toInt32 = (187 : Int32) := by decide
theorem ks_193 : (Int16.ofInt (193)).toInt32 = (193 : Int32) := by decide
theorem ks_199 : (Int16.ofInt (199)).toInt32 = (199 : Int32) := by decide
theorem ks_999 : (Int16.ofInt (999)).toInt32 = (999 : Int32) := by decide
theorem ks_1000 : (Int16.ofInt (1000)).toInt32 = (1000 : Int32) := by decide
theorem ks_1393 : (Int16.ofInt (1393)).toInt32 = (1393 : Int32) := by decide
theorem ks_2000 : (Int16.ofInt (2000)).toInt32 = (2000 : Int32) := by decide
theorem ks_9999 : (Int16.ofInt (9999)).toInt32 = (9999 : Int32) := by decide
theorem q_code_X0_beginAnew : (.code yX0_beginAnew cX0_beginAnew 3 (some .int) : Cond) ∈ xAll := xt3 (i := 192) (by decide +kernel) (by decide +kernel)
theorem q_code_X0_carryOut : (.code yX0_carryOut cX0_carryOut 2 (some .int) : Cond) ∈ xAll := xt3 (i := 142) (by decide +kernel) (by decide +kernel)
theorem q_code_X0_cashFromAccounts : (.code yX0_cashFromAccounts cX0_cashFromAccounts 1 (some .int) : Cond) ∈ xAll := xt2 (i := 95) (by decide +kernel) (by decide +kernel)
theorem q_code_X0_changeFee : (.code yX0_changeFee cX0_changeFee 3 (some .int) : Cond) ∈ xAll := xt3 (i := 158) (by decide +kernel) (by decide +kernel)
theorem q_code_X0_changeRate : (.code yX0_changeRate cX0_changeRate 3 (some .int) : Cond) ∈ xAll := xt3 (i := 154) (by decide +kernel) (by decide +kernel)
theorem q_code_X0_copyFrom : (.code yX0_copyFrom cX0_copyFrom 3 none : Cond) ∈ xAll := xt2 (i := 159) (by decide +kernel) (by decide +kernel)
theorem q_code_X0_countOf : (.code yX0_countOf cX0_countOf 5 (some .int) : Cond) ∈ xAll := xt3 (i := 51) (by decide +kernel) (by decide +kernel)
theorem q_code_X0_endWeek : (.code yX0_endWeek cX0_endWeek 3 (some .int) : Cond) ∈ xAll := xt3 (i := 166) (by decide +kernel) (by decide +kernel)
theorem q_code_X0_endWeeks : (.code yX0_endWeeks cX0_endWeeks 4 (some .int) : Cond) ∈ xAll := xt3 (i := 162) (by decide +kernel) (by decide +kernel)
theorem q_code_X0_giveBack : (.code yX0_giveBack cX0_giveBack 3 (some .int) : Cond) ∈ xAll := xt3 (i := 179) (by decide +kernel) (by decide +kernel)
theorem q_code_X0_hasTicket : (.code yX0_hasTicket cX0_hasTicket 2 (some .boolean) : Cond) ∈ xAll := xt3 (i := 59) (by decide +kernel) (by decide +kernel)
theorem q_code_X0_isAhead : (.code yX0_isAhead cX0_isAhead 5 (some .boolean) : Cond) ∈ xAll := xt4 (i := 59) (by decide +kernel) (by decide +kernel)
theorem q_code_X0_isCostTheSame : (.code yX0_isCostTheSame cX0_isCostTheSame 3 (some .boolean) : Cond) ∈ xAll := xt2 (i := 119) (by decide +kernel) (by decide +kernel)
theorem q_code_X0_lend : (.code yX0_lend cX0_lend 3 (some .int) : Cond) ∈ xAll := xt3 (i := 146) (by decide +kernel) (by decide +kernel)
theorem q_code_X0_lotInPlace : (.code yX0_lotInPlace cX0_lotInPlace 4 (some .int) : Cond) ∈ xAll := xt4 (i := 51) (by decide +kernel) (by decide +kernel)
theorem q_code_X0_lotsAheadOf : (.code yX0_lotsAheadOf cX0_lotsAheadOf 5 (some .int) : Cond) ∈ xAll := xt4 (i := 55) (by decide +kernel) (by decide +kernel)
theorem q_code_X0_lotsByTerms : (.code yX0_lotsByTerms cX0_lotsByTerms 4 (some .int) : Cond) ∈ xAll := xt2 (i := 143) (by decide +kernel) (by decide +kernel)
theorem q_code_X0_lotsWeekByWeek : (.code yX0_lotsWeekByWeek cX0_lotsWeekByWeek 5 (some .int) : Cond) ∈ xAll := xt2 (i := 147) (by decide +kernel) (by decide +kernel)
theorem q_code_X0_owedBy : (.code yX0_owedBy cX0_owedBy 4 (some .int) : Cond) ∈ xAll := xt4 (i := 142) (by decide +kernel) (by decide +kernel)
theorem q_code_X0_payOut : (.code yX0_payOut cX0_payOut 3 (some .int) : Cond) ∈ xAll := xt3 (i := 204) (by decide +kernel) (by decide +kernel)
theorem q_code_X0_sellLot : (.code yX0_sellLot cX0_sellLot 4 (some .int) : Cond) ∈ xAll := xt3 (i := 196) (by decide +kernel) (by decide +kernel)
theorem q_code_X0_sumOfClaimed : (.code yX0_sumOfClaimed cX0_sumOfClaimed 3 (some .int) : Cond) ∈ xAll := xt2 (i := 111) (by decide +kernel) (by decide +kernel)
theorem q_code_X0_sumOfLeft : (.code yX0_sumOfLeft cX0_sumOfLeft 3 (some .int) : Cond) ∈ xAll := xt6 (i := 87) (by decide +kernel) (by decide +kernel)
theorem q_code_X0_sumOfLent : (.code yX0_sumOfLent cX0_sumOfLent 3 (some .int) : Cond) ∈ xAll := xt2 (i := 99) (by decide +kernel) (by decide +kernel)
theorem q_code_X0_sumOfLosses : (.code yX0_sumOfLosses cX0_sumOfLosses 3 (some .int) : Cond) ∈ xAll := xt6 (i := 91) (by decide +kernel) (by decide +kernel)
theorem q_code_X0_sumOfPaid : (.code yX0_sumOfPaid cX0_sumOfPaid 3 (some .int) : Cond) ∈ xAll := xt2 (i := 103) (by decide +kernel) (by decide +kernel)
theorem q_code_X0_sumOfPrices : (.code yX0_sumOfPrices cX0_sumOfPrices 3 (some .int) : Cond) ∈ xAll := xt2 (i := 107) (by decide +kernel) (by decide +kernel)
theorem q_code_X0_sumOfRunningLoans : (.code yX0_sumOfRunningLoans cX0_sumOfRunningLoans 3 (some .int) : Cond) ∈ xAll := xt6 (i := 123) (by decide +kernel) (by decide +kernel)
theorem q_code_X0_takePart : (.code yX0_takePart cX0_takePart 3 (some .int) : Cond) ∈ xAll := xt3 (i := 188) (by decide +kernel) (by decide +kernel)
theorem q_code_X1_examine : (.code yX1_examine cX1_examine 3 (some .int) : Cond) ∈ xAll := xt3 (i := 28) (by decide +kernel) (by decide +kernel)
theorem q_code_X1_examineClaim : (.code yX1_examineClaim cX1_examineClaim 3 (some .int) : Cond) ∈ xAll := xt3 (i := 47) (by decide +kernel) (by decide +kernel)
theorem q_code_X1_examinePledge : (.code yX1_examinePledge cX1_examinePledge 4 (some .int) : Cond) ∈ xAll := xt3 (i := 32) (by decide +kernel) (by decide +kernel)
theorem q_code_X1_examineSale : (.code yX1_examineSale cX1_examineSale 3 (some .int) : Cond) ∈ xAll := xt3 (i := 63) (by decide +kernel) (by decide +kernel)
theorem q_code_X1_examineSetting : (.code yX1_examineSetting cX1_examineSetting 5 (some .int) : Cond) ∈ xAll := xt3 (i := 43) (by decide +kernel) (by decide +kernel)
theorem q_code_X1_examineTicket : (.code yX1_examineTicket cX1_examineTicket 4 (some .int) : Cond) ∈ xAll := xt3 (i := 55) (by decide +kernel) (by decide +kernel)
theorem q_code_X1_refuse : (.code yX1_refuse cX1_refuse 3 (some .int) : Cond) ∈ xAll := xt3 (i := 39) (by decide +kernel) (by decide +kernel)
theorem q_code_X2_forget : (.code yX2_forget cX2_forget 1 none : Cond) ∈ xAll := xt6 (i := 153) (by decide +kernel) (by decide +kernel)
theorem q_code_X2_keep : (.code yX2_keep cX2_keep 2 none : Cond) ∈ xAll := xt3 (i := 137) (by decide +kernel) (by decide +kernel)
theorem q_code_X2_takeBack : (.code yX2_takeBack cX2_takeBack 2 none : Cond) ∈ xAll := xt6 (i := 142) (by decide +kernel) (by decide +kernel)
theorem q_code_X3_empty : (.code yX3_empty cX3_empty 1 none : Cond) ∈ xAll := xt6 (i := 54) (by decide +kernel) (by decide +kernel)
theorem q_code_X3_isDigit : (.code yX3_isDigit cX3_isDigit 1 (some .boolean) : Cond) ∈ xAll := xt6 (i := 41) (by decide +kernel) (by decide +kernel)
theorem q_code_X3_readNumber : (.code yX3_readNumber cX3_readNumber 4 (some .int) : Cond) ∈ xAll := xt6 (i := 49) (by decide +kernel) (by decide +kernel)
theorem q_code_X3_readPart : (.code yX3_readPart cX3_readPart 4 (some .boolean) : Cond) ∈ xAll := xt6 (i := 38) (by decide +kernel) (by decide +kernel)
theorem q_code_X3_readSign : (.code yX3_readSign cX3_readSign 2 (some .boolean) : Cond) ∈ xAll := xt6 (i := 45) (by decide +kernel) (by decide +kernel)
theorem q_code_X3_take : (.code yX3_take cX3_take 2 (some .boolean) : Cond) ∈ xAll := xt5 (i := 229) (by decide +kernel) (by decide +kernel)
theorem q_code_X4_add : (.code yX4_add cX4_add 2 none : Cond) ∈ xAll := xt3 (i := 24) (by decide +kernel) (by decide +kernel)
theorem q_code_X4_begin : (.code yX4_begin cX4_begin 2 none : Cond) ∈ xAll := xt3 (i := 20) (by decide +kernel) (by decide +kernel)
theorem q_code_X5_becomesLotAtEndOf : (.code yX5_becomesLotAtEndOf cX5_becomesLotAtEndOf 3 (some .boolean) : Cond) ∈ xAll := xt3 (i := 170) (by decide +kernel) (by decide +kernel)
theorem q_code_X5_begin : (.code yX5_begin cX5_begin 4 none : Cond) ∈ xAll := xt3 (i := 150) (by decide +kernel) (by decide +kernel)
theorem q_code_X5_copyFrom : (.code yX5_copyFrom cX5_copyFrom 2 none : Cond) ∈ xAll := xt2 (i := 163) (by decide +kernel) (by decide +kernel)
theorem q_code_X5_costBehind : (.code yX5_costBehind cX5_costBehind 2 (some .int) : Cond) ∈ xAll := xt2 (i := 127) (by decide +kernel) (by decide +kernel)
theorem q_code_X5_costWeekByWeek : (.code yX5_costWeekByWeek cX5_costWeekByWeek 5 (some .int) : Cond) ∈ xAll := xt2 (i := 139) (by decide +kernel) (by decide +kernel)
theorem q_code_X5_isRunningIn : (.code yX5_isRunningIn cX5_isRunningIn 2 (some .boolean) : Cond) ∈ xAll := xt2 (i := 123) (by decide +kernel) (by decide +kernel)
theorem q_code_X5_letter : (.code yX5_letter cX5_letter 1 (some .char) : Cond) ∈ xAll := xt5 (i := 199) (by decide +kernel) (by decide +kernel)
theorem q_code_X5_loss : (.code yX5_loss cX5_loss 1 (some .int) : Cond) ∈ xAll := xt6 (i := 95) (by decide +kernel) (by decide +kernel)
theorem q_code_X5_number : (.code yX5_number cX5_number 2 (some .int) : Cond) ∈ xAll := xt4 (i := 26) (by decide +kernel) (by decide +kernel)
theorem q_code_X5_owed : (.code yX5_owed cX5_owed 1 (some .int) : Cond) ∈ xAll := xt2 (i := 131) (by decide +kernel) (by decide +kernel)
theorem q_code_X5_payBack : (.code yX5_payBack cX5_payBack 3 (some .int) : Cond) ∈ xAll := xt3 (i := 184) (by decide +kernel) (by decide +kernel)
theorem q_code_X5_reserveBehind : (.code yX5_reserveBehind cX5_reserveBehind 4 (some .int) : Cond) ∈ xAll := xt3 (i := 174) (by decide +kernel) (by decide +kernel)
theorem q_code_X5_sellFor : (.code yX5_sellFor cX5_sellFor 2 (some .int) : Cond) ∈ xAll := xt3 (i := 200) (by decide +kernel) (by decide +kernel)
theorem q_code_X5_weeklyInterest : (.code yX5_weeklyInterest cX5_weeklyInterest 1 (some .int) : Cond) ∈ xAll := xt2 (i := 135) (by decide +kernel) (by decide +kernel)
theorem q_code_X6_keep : (.code yX6_keep cX6_keep 3 none : Cond) ∈ xAll := xt3 (i := 117) (by decide +kernel) (by decide +kernel)
theorem q_code_X6_keepCause : (.code yX6_keepCause cX6_keepCause 3 none : Cond) ∈ xAll := xt6 (i := 63) (by decide +kernel) (by decide +kernel)
theorem q_code_X7_isOwner : (.code yX7_isOwner cX7_isOwner 1 (some .boolean) : Cond) ∈ xAll := xt3 (i := 35) (by decide +kernel) (by decide +kernel)
theorem q_code_X7_tryOrders : (.code yX7_tryOrders cX7_tryOrders 3 (some .int) : Cond) ∈ xAll := xt6 (i := 59) (by decide +kernel) (by decide +kernel)
theorem q_code_X8_account : (.code yX8_account cX8_account 2 (some .int) : Cond) ∈ xAll := xt7 (i := 202) (by decide +kernel) (by decide +kernel)
theorem q_code_X8_append : (.code yX8_append cX8_append 2 (some .int) : Cond) ∈ xAll := xt7 (i := 152) (by decide +kernel) (by decide +kernel)
theorem q_code_X8_carries : (.code yX8_carries cX8_carries 2 (some .int) : Cond) ∈ xAll := xt7 (i := 180) (by decide +kernel) (by decide +kernel)
theorem q_code_X8_cash : (.code yX8_cash cX8_cash 2 (some .int) : Cond) ∈ xAll := xt7 (i := 126) (by decide +kernel) (by decide +kernel)
theorem q_code_X8_character : (.code yX8_character cX8_character 2 (some .char) : Cond) ∈ xAll := xt7 (i := 148) (by decide +kernel) (by decide +kernel)
theorem q_code_X8_claim : (.code yX8_claim cX8_claim 3 (some .int) : Cond) ∈ xAll := xt7 (i := 70) (by decide +kernel) (by decide +kernel)
theorem q_code_X8_comes : (.code yX8_comes cX8_comes 3 none : Cond) ∈ xAll := xt7 (i := 50) (by decide +kernel) (by decide +kernel)
theorem q_code_X8_copies : (.code yX8_copies cX8_copies 5 none : Cond) ∈ xAll := xt7 (i := 6) (by decide +kernel) (by decide +kernel)
theorem q_code_X8_errorPosition : (.code yX8_errorPosition cX8_errorPosition 1 (some .int) : Cond) ∈ xAll := xt7 (i := 194) (by decide +kernel) (by decide +kernel)
theorem q_code_X8_fails : (.code yX8_fails cX8_fails 2 (some .boolean) : Cond) ∈ xAll := xt6 (i := 235) (by decide +kernel) (by decide +kernel)
theorem q_code_X8_fee : (.code yX8_fee cX8_fee 3 (some .int) : Cond) ∈ xAll := xt7 (i := 18) (by decide +kernel) (by decide +kernel)
theorem q_code_X8_figures : (.code yX8_figures cX8_figures 4 (some .boolean) : Cond) ∈ xAll := xt7 (i := 176) (by decide +kernel) (by decide +kernel)
theorem q_code_X8_goesBy : (.code yX8_goesBy cX8_goesBy 3 (some .int) : Cond) ∈ xAll := xt7 (i := 26) (by decide +kernel) (by decide +kernel)
theorem q_code_X8_here : (.code yX8_here cX8_here 1 (some .int) : Cond) ∈ xAll := xt7 (i := 168) (by decide +kernel) (by decide +kernel)
theorem q_code_X8_in : (.code yX8_in cX8_in 3 (some .boolean) : Cond) ∈ xAll := xt6 (i := 231) (by decide +kernel) (by decide +kernel)
theorem q_code_X8_isNoQuote : (.code yX8_isNoQuote cX8_isNoQuote 3 (some .boolean) : Cond) ∈ xAll := xt7 (i := 90) (by decide +kernel) (by decide +kernel)
theorem q_code_X8_isOver : (.code yX8_isOver cX8_isOver 3 (some .boolean) : Cond) ∈ xAll := xt7 (i := 94) (by decide +kernel) (by decide +kernel)
theorem q_code_X8_isText : (.code yX8_isText cX8_isText 1 (some .boolean) : Cond) ∈ xAll := xt7 (i := 160) (by decide +kernel) (by decide +kernel)
theorem q_code_X8_isTicket : (.code yX8_isTicket cX8_isTicket 2 (some .boolean) : Cond) ∈ xAll := xt7 (i := 46) (by decide +kernel) (by decide +kernel)
theorem q_code_X8_isWell : (.code yX8_isWell cX8_isWell 1 (some .boolean) : Cond) ∈ xAll := xt7 (i := 130) (by decide +kernel) (by decide +kernel)
theorem q_code_X8_keeps : (.code yX8_keeps cX8_keeps 3 none : Cond) ∈ xAll := xt7 (i := 3) (by decide +kernel) (by decide +kernel)
theorem q_code_X8_lastOf : (.code yX8_lastOf cX8_lastOf 1 (some .int) : Cond) ∈ xAll := xt7 (i := 190) (by decide +kernel) (by decide +kernel)
theorem q_code_X8_lays : (.code yX8_lays cX8_lays 4 none : Cond) ∈ xAll := xt7 (i := 10) (by decide +kernel) (by decide +kernel)
theorem q_code_X8_leftAll : (.code yX8_leftAll cX8_leftAll 3 (some .int) : Cond) ∈ xAll := xt7 (i := 210) (by decide +kernel) (by decide +kernel)
theorem q_code_X8_lotAt : (.code yX8_lotAt cX8_lotAt 5 (some .int) : Cond) ∈ xAll := xt7 (i := 78) (by decide +kernel) (by decide +kernel)
theorem q_code_X8_lotsIn : (.code yX8_lotsIn cX8_lotsIn 4 (some .int) : Cond) ∈ xAll := xt7 (i := 106) (by decide +kernel) (by decide +kernel)
theorem q_code_X8_many : (.code yX8_many cX8_many 4 (some .int) : Cond) ∈ xAll := xt7 (i := 206) (by decide +kernel) (by decide +kernel)
theorem q_code_X8_of : (.code yX8_of cX8_of 3 (some .int) : Cond) ∈ xAll := xt7 (i := 30) (by decide +kernel) (by decide +kernel)
theorem q_code_X8_ofOwner : (.code yX8_ofOwner cX8_ofOwner 5 (some .int) : Cond) ∈ xAll := xt7 (i := 74) (by decide +kernel) (by decide +kernel)
theorem q_code_X8_orderHere : (.code yX8_orderHere cX8_orderHere 2 (some .boolean) : Cond) ∈ xAll := xt7 (i := 164) (by decide +kernel) (by decide +kernel)
theorem q_code_X8_owed : (.code yX8_owed cX8_owed 2 (some .int) : Cond) ∈ xAll := xt7 (i := 38) (by decide +kernel) (by decide +kernel)
theorem q_code_X8_owedBy : (.code yX8_owedBy cX8_owedBy 4 (some .int) : Cond) ∈ xAll := xt7 (i := 122) (by decide +kernel) (by decide +kernel)
theorem q_code_X8_ownerOf : (.code yX8_ownerOf cX8_ownerOf 3 (some .int) : Cond) ∈ xAll := xt7 (i := 118) (by decide +kernel) (by decide +kernel)
theorem q_code_X8_pass : (.code yX8_pass cX8_pass 4 (some .int) : Cond) ∈ xAll := xt7 (i := 22) (by decide +kernel) (by decide +kernel)
theorem q_code_X8_pay : (.code yX8_pay cX8_pay 4 (some .int) : Cond) ∈ xAll := xt7 (i := 54) (by decide +kernel) (by decide +kernel)
theorem q_code_X8_pledge : (.code yX8_pledge cX8_pledge 6 (some .int) : Cond) ∈ xAll := xt6 (i := 228) (by decide +kernel) (by decide +kernel)
theorem q_code_X8_pledgeOf : (.code yX8_pledgeOf cX8_pledgeOf 3 (some .int) : Cond) ∈ xAll := xt7 (i := 62) (by decide +kernel) (by decide +kernel)
theorem q_code_X8_quote : (.code yX8_quote cX8_quote 3 (some .int) : Cond) ∈ xAll := xt7 (i := 86) (by decide +kernel) (by decide +kernel)
theorem q_code_X8_quoteAgain : (.code yX8_quoteAgain cX8_quoteAgain 5 (some .int) : Cond) ∈ xAll := xt7 (i := 98) (by decide +kernel) (by decide +kernel)
theorem q_code_X8_ranked : (.code yX8_ranked cX8_ranked 5 (some .int) : Cond) ∈ xAll := xt7 (i := 82) (by decide +kernel) (by decide +kernel)
theorem q_code_X8_rate : (.code yX8_rate cX8_rate 3 (some .int) : Cond) ∈ xAll := xt7 (i := 14) (by decide +kernel) (by decide +kernel)
theorem q_code_X8_redeem : (.code yX8_redeem cX8_redeem 3 (some .int) : Cond) ∈ xAll := xt7 (i := 42) (by decide +kernel) (by decide +kernel)
theorem q_code_X8_refusal : (.code yX8_refusal cX8_refusal 3 (some .int) : Cond) ∈ xAll := xt7 (i := 198) (by decide +kernel) (by decide +kernel)
theorem q_code_X8_refuses : (.code yX8_refuses cX8_refuses 4 (some .int) : Cond) ∈ xAll := xt6 (i := 239) (by decide +kernel) (by decide +kernel)
theorem q_code_X8_renew : (.code yX8_renew cX8_renew 3 (some .int) : Cond) ∈ xAll := xt7 (i := 58) (by decide +kernel) (by decide +kernel)
theorem q_code_X8_restore : (.code yX8_restore cX8_restore 1 (some .int) : Cond) ∈ xAll := xt7 (i := 230) (by decide +kernel) (by decide +kernel)
theorem q_code_X8_run : (.code yX8_run cX8_run 7 (some .int) : Cond) ∈ xAll := xt7 (i := 156) (by decide +kernel) (by decide +kernel)
theorem q_code_X8_save : (.code yX8_save cX8_save 1 (some .int) : Cond) ∈ xAll := xt7 (i := 226) (by decide +kernel) (by decide +kernel)
theorem q_code_X8_sell : (.code yX8_sell cX8_sell 4 (some .int) : Cond) ∈ xAll := xt7 (i := 66) (by decide +kernel) (by decide +kernel)
theorem q_code_X8_skips : (.code yX8_skips cX8_skips 2 (some .boolean) : Cond) ∈ xAll := xt7 (i := 172) (by decide +kernel) (by decide +kernel)
theorem q_code_X8_thrown : (.code yX8_thrown cX8_thrown 1 (some .int) : Cond) ∈ xAll := xt6 (i := 224) (by decide +kernel) (by decide +kernel)
theorem q_code_X8_undo : (.code yX8_undo cX8_undo 1 (some .int) : Cond) ∈ xAll := xt7 (i := 222) (by decide +kernel) (by decide +kernel)
theorem q_code_X8_weekly : (.code yX8_weekly cX8_weekly 2 (some .int) : Cond) ∈ xAll := xt7 (i := 34) (by decide +kernel) (by decide +kernel)
theorem q_code_X8_willBeLots : (.code yX8_willBeLots cX8_willBeLots 2 (some .int) : Cond) ∈ xAll := xt7 (i := 102) (by decide +kernel) (by decide +kernel)
theorem q_code_X8_willBeLotsAgain : (.code yX8_willBeLotsAgain cX8_willBeLotsAgain 2 (some .int) : Cond) ∈ xAll := xt7 (i := 110) (by decide +kernel) (by decide +kernel)
theorem q_code_X8_willReserve : (.code yX8_willReserve cX8_willReserve 5 (some .int) : Cond) ∈ xAll := xt7 (i := 114) (by decide +kernel) (by decide +kernel)
theorem q_code_X8_writes : (.code yX8_writes cX8_writes 2 none : Cond) ∈ xAll := xt7 (i := 138) (by decide +kernel) (by decide +kernel)
theorem q_code_X8_writesNumber : (.code yX8_writesNumber cX8_writesNumber 3 none : Cond) ∈ xAll := xt7 (i := 142) (by decide +kernel) (by decide +kernel)
theorem q_f_X0_108 : (.fieldLink RX0 108 "CoatPledges$Pledge" "state" "I" : Cond) ∈ xAll := xt1 (i := 67) (by decide +kernel) (by decide +kernel)
theorem q_f_X0_11 : (.fieldLink RX0 11 "CoatPledges$Bank" "pledges" "[LCoatPledges$Pledge;" : Cond) ∈ xAll := xt1 (i := 105) (by decide +kernel) (by decide +kernel)
theorem q_f_X0_111 : (.fieldLink RX0 111 "CoatPledges$Pledge" "interest" "I" : Cond) ∈ xAll := xt1 (i := 64) (by decide +kernel) (by decide +kernel)
theorem q_f_X0_114 : (.fieldLink RX0 114 "CoatPledges$Pledge" "term" "I" : Cond) ∈ xAll := xt1 (i := 70) (by decide +kernel) (by decide +kernel)
theorem q_f_X0_120 : (.fieldLink RX0 120 "CoatPledges$Pledge" "owner" "I" : Cond) ∈ xAll := xt1 (i := 55) (by decide +kernel) (by decide +kernel)
theorem q_f_X0_131 : (.fieldLink RX0 131 "CoatPledges$Pledge" "reserve" "I" : Cond) ∈ xAll := xt1 (i := 74) (by decide +kernel) (by decide +kernel)
theorem q_f_X0_156 : (.fieldLink RX0 156 "CoatPledges$Pledge" "loan" "I" : Cond) ∈ xAll := xt1 (i := 61) (by decide +kernel) (by decide +kernel)
theorem q_f_X0_159 : (.fieldLink RX0 159 "CoatPledges$Pledge" "lent" "I" : Cond) ∈ xAll := xt1 (i := 58) (by decide +kernel) (by decide +kernel)
theorem q_f_X0_162 : (.fieldLink RX0 162 "CoatPledges$Pledge" "paid" "I" : Cond) ∈ xAll := xt1 (i := 76) (by decide +kernel) (by decide +kernel)
theorem q_f_X0_165 : (.fieldLink RX0 165 "CoatPledges$Pledge" "price" "I" : Cond) ∈ xAll := xt1 (i := 79) (by decide +kernel) (by decide +kernel)
theorem q_f_X0_18 : (.fieldLink RX0 18 "CoatPledges$Bank" "left" "[I" : Cond) ∈ xAll := xt1 (i := 108) (by decide +kernel) (by decide +kernel)
theorem q_f_X0_22 : (.fieldLink RX0 22 "CoatPledges$Bank" "claimed" "[I" : Cond) ∈ xAll := xt1 (i := 111) (by decide +kernel) (by decide +kernel)
theorem q_f_X0_25 : (.fieldLink RX0 25 "CoatPledges$Bank" "made" "I" : Cond) ∈ xAll := xt1 (i := 113) (by decide +kernel) (by decide +kernel)
theorem q_f_X0_29 : (.fieldLink RX0 29 "CoatPledges$Bank" "week" "I" : Cond) ∈ xAll := xt1 (i := 116) (by decide +kernel) (by decide +kernel)
theorem q_f_X0_32 : (.fieldLink RX0 32 "CoatPledges$Bank" "laterRate" "I" : Cond) ∈ xAll := xt1 (i := 118) (by decide +kernel) (by decide +kernel)
theorem q_f_X0_35 : (.fieldLink RX0 35 "CoatPledges$Bank" "laterFee" "I" : Cond) ∈ xAll := xt1 (i := 121) (by decide +kernel) (by decide +kernel)
theorem q_f_X0_38 : (.fieldLink RX0 38 "CoatPledges$Bank" "coins" "I" : Cond) ∈ xAll := xt1 (i := 124) (by decide +kernel) (by decide +kernel)
theorem q_f_X0_45 : (.fieldLink RX0 45 "CoatPledges$Order" "kind" "C" : Cond) ∈ xAll := xt1 (i := 184) (by decide +kernel) (by decide +kernel)
theorem q_f_X0_55 : (.fieldLink RX0 55 "CoatPledges$Order" "first" "I" : Cond) ∈ xAll := xt1 (i := 188) (by decide +kernel) (by decide +kernel)
theorem q_f_X0_71 : (.fieldLink RX0 71 "CoatPledges$Order" "second" "I" : Cond) ∈ xAll := xt1 (i := 192) (by decide +kernel) (by decide +kernel)
theorem q_f_X0_91 : (.fieldLink RX0 91 "CoatPledges$Order" "third" "I" : Cond) ∈ xAll := xt1 (i := 196) (by decide +kernel) (by decide +kernel)
theorem q_f_X1_100 : (.fieldLink RX1 100 "CoatPledges$Pledge" "reserve" "I" : Cond) ∈ xAll := xt1 (i := 73) (by decide +kernel) (by decide +kernel)
theorem q_f_X1_15 : (.fieldLink RX1 15 "CoatPledges$Order" "kind" "C" : Cond) ∈ xAll := xt1 (i := 183) (by decide +kernel) (by decide +kernel)
theorem q_f_X1_25 : (.fieldLink RX1 25 "CoatPledges$Order" "first" "I" : Cond) ∈ xAll := xt1 (i := 187) (by decide +kernel) (by decide +kernel)
theorem q_f_X1_28 : (.fieldLink RX1 28 "CoatPledges$Bank" "laterRate" "I" : Cond) ∈ xAll := xt1 (i := 119) (by decide +kernel) (by decide +kernel)
theorem q_f_X1_37 : (.fieldLink RX1 37 "CoatPledges$Bank" "laterFee" "I" : Cond) ∈ xAll := xt1 (i := 122) (by decide +kernel) (by decide +kernel)
theorem q_f_X1_51 : (.fieldLink RX1 51 "CoatPledges$Order" "second" "I" : Cond) ∈ xAll := xt1 (i := 191) (by decide +kernel) (by decide +kernel)
theorem q_f_X1_54 : (.fieldLink RX1 54 "CoatPledges$Order" "third" "I" : Cond) ∈ xAll := xt1 (i := 195) (by decide +kernel) (by decide +kernel)
theorem q_f_X1_61 : (.fieldLink RX1 61 "CoatPledges$Bank" "made" "I" : Cond) ∈ xAll := xt1 (i := 114) (by decide +kernel) (by decide +kernel)
theorem q_f_X1_64 : (.fieldLink RX1 64 "CoatPledges$Bank" "coins" "I" : Cond) ∈ xAll := xt1 (i := 125) (by decide +kernel) (by decide +kernel)
theorem q_f_X1_67 : (.fieldLink RX1 67 "CoatPledges$Bank" "left" "[I" : Cond) ∈ xAll := xt1 (i := 109) (by decide +kernel) (by decide +kernel)
theorem q_f_X1_77 : (.fieldLink RX1 77 "CoatPledges$Bank" "pledges" "[LCoatPledges$Pledge;" : Cond) ∈ xAll := xt1 (i := 106) (by decide +kernel) (by decide +kernel)
theorem q_f_X1_85 : (.fieldLink RX1 85 "CoatPledges$Pledge" "state" "I" : Cond) ∈ xAll := xt1 (i := 66) (by decide +kernel) (by decide +kernel)
theorem q_f_X1_9 : (.fieldLink RX1 9 "CoatPledges$Clerk" "detail" "I" : Cond) ∈ xAll := xt1 (i := 171) (by decide +kernel) (by decide +kernel)
theorem q_f_X1_94 : (.fieldLink RX1 94 "CoatPledges$Pledge" "interest" "I" : Cond) ∈ xAll := xt1 (i := 63) (by decide +kernel) (by decide +kernel)
theorem q_f_X1_97 : (.fieldLink RX1 97 "CoatPledges$Pledge" "loan" "I" : Cond) ∈ xAll := xt1 (i := 60) (by decide +kernel) (by decide +kernel)
theorem q_f_X2_11 : (.fieldLink RX2 11 "CoatPledges$History" "rows" "[LCoatPledges$Bank;" : Cond) ∈ xAll := xt1 (i := 154) (by decide +kernel) (by decide +kernel)
theorem q_f_X2_18 : (.fieldLink RX2 18 "CoatPledges$History" "next" "I" : Cond) ∈ xAll := xt1 (i := 155) (by decide +kernel) (by decide +kernel)
theorem q_f_X2_22 : (.fieldLink RX2 22 "CoatPledges$History" "count" "I" : Cond) ∈ xAll := xt1 (i := 156) (by decide +kernel) (by decide +kernel)
theorem q_f_X3_22 : (.fieldLink RX3 22 "CoatPledges$Input" "length" "I" : Cond) ∈ xAll := xt1 (i := 221) (by decide +kernel) (by decide +kernel)
theorem q_f_X3_29 : (.fieldLink RX3 29 "CoatPledges$Input" "place" "I" : Cond) ∈ xAll := xt1 (i := 225) (by decide +kernel) (by decide +kernel)
theorem q_f_X3_9 : (.fieldLink RX3 9 "CoatPledges$Input" "signs" "[C" : Cond) ∈ xAll := xt1 (i := 218) (by decide +kernel) (by decide +kernel)
theorem q_f_X4_13 : (.fieldLink RX4 13 "CoatPledges$Order" "first" "I" : Cond) ∈ xAll := xt1 (i := 186) (by decide +kernel) (by decide +kernel)
theorem q_f_X4_17 : (.fieldLink RX4 17 "CoatPledges$Order" "second" "I" : Cond) ∈ xAll := xt1 (i := 190) (by decide +kernel) (by decide +kernel)
theorem q_f_X4_20 : (.fieldLink RX4 20 "CoatPledges$Order" "third" "I" : Cond) ∈ xAll := xt1 (i := 193) (by decide +kernel) (by decide +kernel)
theorem q_f_X4_23 : (.fieldLink RX4 23 "CoatPledges$Order" "numbers" "I" : Cond) ∈ xAll := xt1 (i := 197) (by decide +kernel) (by decide +kernel)
theorem q_f_X4_7 : (.fieldLink RX4 7 "CoatPledges$Order" "kind" "C" : Cond) ∈ xAll := xt1 (i := 182) (by decide +kernel) (by decide +kernel)
theorem q_f_X5_15 : (.fieldLink RX5 15 "CoatPledges$Pledge" "owner" "I" : Cond) ∈ xAll := xt1 (i := 54) (by decide +kernel) (by decide +kernel)
theorem q_f_X5_20 : (.fieldLink RX5 20 "CoatPledges$Order" "second" "I" : Cond) ∈ xAll := xt1 (i := 189) (by decide +kernel) (by decide +kernel)
theorem q_f_X5_23 : (.fieldLink RX5 23 "CoatPledges$Pledge" "worth" "I" : Cond) ∈ xAll := xt1 (i := 56) (by decide +kernel) (by decide +kernel)
theorem q_f_X5_26 : (.fieldLink RX5 26 "CoatPledges$Order" "third" "I" : Cond) ∈ xAll := xt1 (i := 194) (by decide +kernel) (by decide +kernel)
theorem q_f_X5_29 : (.fieldLink RX5 29 "CoatPledges$Pledge" "lent" "I" : Cond) ∈ xAll := xt1 (i := 57) (by decide +kernel) (by decide +kernel)
theorem q_f_X5_32 : (.fieldLink RX5 32 "CoatPledges$Pledge" "loan" "I" : Cond) ∈ xAll := xt1 (i := 59) (by decide +kernel) (by decide +kernel)
theorem q_f_X5_35 : (.fieldLink RX5 35 "CoatPledges$Pledge" "interest" "I" : Cond) ∈ xAll := xt1 (i := 62) (by decide +kernel) (by decide +kernel)
theorem q_f_X5_38 : (.fieldLink RX5 38 "CoatPledges$Pledge" "state" "I" : Cond) ∈ xAll := xt1 (i := 65) (by decide +kernel) (by decide +kernel)
theorem q_f_X5_41 : (.fieldLink RX5 41 "CoatPledges$Pledge" "term" "I" : Cond) ∈ xAll := xt1 (i := 69) (by decide +kernel) (by decide +kernel)
theorem q_f_X5_44 : (.fieldLink RX5 44 "CoatPledges$Pledge" "rate" "I" : Cond) ∈ xAll := xt1 (i := 71) (by decide +kernel) (by decide +kernel)
theorem q_f_X5_47 : (.fieldLink RX5 47 "CoatPledges$Pledge" "reserve" "I" : Cond) ∈ xAll := xt1 (i := 72) (by decide +kernel) (by decide +kernel)
theorem q_f_X5_50 : (.fieldLink RX5 50 "CoatPledges$Pledge" "paid" "I" : Cond) ∈ xAll := xt1 (i := 75) (by decide +kernel) (by decide +kernel)
theorem q_f_X5_53 : (.fieldLink RX5 53 "CoatPledges$Pledge" "due" "I" : Cond) ∈ xAll := xt1 (i := 77) (by decide +kernel) (by decide +kernel)
theorem q_f_X5_56 : (.fieldLink RX5 56 "CoatPledges$Pledge" "price" "I" : Cond) ∈ xAll := xt1 (i := 78) (by decide +kernel) (by decide +kernel)
theorem q_f_X5_9 : (.fieldLink RX5 9 "CoatPledges$Order" "first" "I" : Cond) ∈ xAll := xt1 (i := 185) (by decide +kernel) (by decide +kernel)
theorem q_f_X6_13 : (.fieldLink RX6 13 "CoatPledges$Refusal" "detail" "I" : Cond) ∈ xAll := xt2 (i := 6) (by decide +kernel) (by decide +kernel)
theorem q_f_X6_16 : (.fieldLink RX6 16 "CoatPledges$Refusal" "cause" "I" : Cond) ∈ xAll := xt2 (i := 8) (by decide +kernel) (by decide +kernel)
theorem q_f_X6_19 : (.fieldLink RX6 19 "CoatPledges$Refusal" "causeDetail" "I" : Cond) ∈ xAll := xt2 (i := 10) (by decide +kernel) (by decide +kernel)
theorem q_f_X6_7 : (.fieldLink RX6 7 "CoatPledges$Refusal" "reason" "I" : Cond) ∈ xAll := xt2 (i := 4) (by decide +kernel) (by decide +kernel)
theorem q_f_X7_10 : (.fieldLink RX7 10 "CoatPledges" "bank" "LCoatPledges$Bank;" : Cond) ∈ xAll := xt2 (i := 54) (by decide +kernel) (by decide +kernel)
theorem q_f_X7_19 : (.fieldLink RX7 19 "CoatPledges" "trial" "LCoatPledges$Bank;" : Cond) ∈ xAll := xt2 (i := 56) (by decide +kernel) (by decide +kernel)
theorem q_f_X7_219 : (.fieldLink RX7 219 "CoatPledges$Input" "orderCount" "I" : Cond) ∈ xAll := xt1 (i := 224) (by decide +kernel) (by decide +kernel)
theorem q_f_X7_307 : (.fieldLink RX7 307 "CoatPledges$Clerk" "detail" "I" : Cond) ∈ xAll := xt1 (i := 172) (by decide +kernel) (by decide +kernel)
theorem q_f_X7_313 : (.fieldLink RX7 313 "CoatPledges$Input" "orders" "[LCoatPledges$Order;" : Cond) ∈ xAll := xt1 (i := 220) (by decide +kernel) (by decide +kernel)
theorem q_f_X7_36 : (.fieldLink RX7 36 "CoatPledges" "clerk" "LCoatPledges$Clerk;" : Cond) ∈ xAll := xt2 (i := 59) (by decide +kernel) (by decide +kernel)
theorem q_f_X7_50 : (.fieldLink RX7 50 "CoatPledges" "input" "LCoatPledges$Input;" : Cond) ∈ xAll := xt2 (i := 61) (by decide +kernel) (by decide +kernel)
theorem q_f_X7_57 : (.fieldLink RX7 57 "CoatPledges" "latest" "LCoatPledges$Refusal;" : Cond) ∈ xAll := xt2 (i := 62) (by decide +kernel) (by decide +kernel)
theorem q_f_X8_117 : (.fieldLink RX8 117 "CoatPledgesModel" "signMany" "I" : Cond) ∈ xAll := xt6 (i := 176) (by decide +kernel) (by decide +kernel)
theorem q_f_X8_13 : (.fieldLink RX8 13 "CoatPledgesModel" "kept" "[I" : Cond) ∈ xAll := xt6 (i := 161) (by decide +kernel) (by decide +kernel)
theorem q_f_X8_135 : (.fieldLink RX8 135 "CoatPledgesModel" "length" "I" : Cond) ∈ xAll := xt6 (i := 173) (by decide +kernel) (by decide +kernel)
theorem q_f_X8_138 : (.fieldLink RX8 138 "CoatPledgesModel" "at" "I" : Cond) ∈ xAll := xt6 (i := 177) (by decide +kernel) (by decide +kernel)
theorem q_f_X8_144 : (.fieldLink RX8 144 "CoatPledgesModel" "toldMany" "I" : Cond) ∈ xAll := xt6 (i := 179) (by decide +kernel) (by decide +kernel)
theorem q_f_X8_16 : (.fieldLink RX8 16 "CoatPledgesModel" "saved" "[I" : Cond) ∈ xAll := xt6 (i := 162) (by decide +kernel) (by decide +kernel)
theorem q_f_X8_187 : (.fieldLink RX8 187 "CoatPledgesModel" "causeDetail" "I" : Cond) ∈ xAll := xt6 (i := 171) (by decide +kernel) (by decide +kernel)
theorem q_f_X8_19 : (.fieldLink RX8 19 "CoatPledgesModel" "before" "[I" : Cond) ∈ xAll := xt6 (i := 163) (by decide +kernel) (by decide +kernel)
theorem q_f_X8_196 : (.fieldLink RX8 196 "CoatPledgesModel" "isSaved" "Z" : Cond) ∈ xAll := xt6 (i := 164) (by decide +kernel) (by decide +kernel)
theorem q_f_X8_22 : (.fieldLink RX8 22 "CoatPledgesModel" "cause" "I" : Cond) ∈ xAll := xt6 (i := 170) (by decide +kernel) (by decide +kernel)
theorem q_f_X8_26 : (.fieldLink RX8 26 "CoatPledgesModel" "input" "[I" : Cond) ∈ xAll := xt6 (i := 172) (by decide +kernel) (by decide +kernel)
theorem q_f_X8_29 : (.fieldLink RX8 29 "CoatPledgesModel" "error0" "I" : Cond) ∈ xAll := xt6 (i := 174) (by decide +kernel) (by decide +kernel)
theorem q_f_X8_32 : (.fieldLink RX8 32 "CoatPledgesModel" "signs" "[C" : Cond) ∈ xAll := xt6 (i := 175) (by decide +kernel) (by decide +kernel)
theorem q_f_X8_36 : (.fieldLink RX8 36 "CoatPledgesModel" "told" "[I" : Cond) ∈ xAll := xt6 (i := 178) (by decide +kernel) (by decide +kernel)
theorem q_f_X8_39 : (.fieldLink RX8 39 "CoatPledgesModel" "code" "I" : Cond) ∈ xAll := xt6 (i := 167) (by decide +kernel) (by decide +kernel)
theorem q_f_X8_42 : (.fieldLink RX8 42 "CoatPledgesModel" "why" "I" : Cond) ∈ xAll := xt6 (i := 168) (by decide +kernel) (by decide +kernel)
theorem q_f_X8_45 : (.fieldLink RX8 45 "CoatPledgesModel" "detail" "I" : Cond) ∈ xAll := xt6 (i := 169) (by decide +kernel) (by decide +kernel)
theorem q_f_X8_48 : (.fieldLink RX8 48 "CoatPledgesModel" "isWithin" "Z" : Cond) ∈ xAll := xt6 (i := 166) (by decide +kernel) (by decide +kernel)
theorem q_f_X8_52 : (.fieldLink RX8 52 "CoatPledgesModel" "changes" "I" : Cond) ∈ xAll := xt6 (i := 165) (by decide +kernel) (by decide +kernel)
theorem q_f_X8_7 : (.fieldLink RX8 7 "CoatPledgesModel" "g" "[I" : Cond) ∈ xAll := xt6 (i := 160) (by decide +kernel) (by decide +kernel)
theorem q_initialized_X0 : (.initialized RX0 : Cond) ∈ xAll := xt1 (i := 2) (by decide +kernel) (by decide +kernel)
theorem q_initialized_X1 : (.initialized RX1 : Cond) ∈ xAll := xt1 (i := 5) (by decide +kernel) (by decide +kernel)
theorem q_initialized_X2 : (.initialized RX2 : Cond) ∈ xAll := xt1 (i := 4) (by decide +kernel) (by decide +kernel)
theorem q_initialized_X3 : (.initialized RX3 : Cond) ∈ xAll := xt1 (i := 7) (by decide +kernel) (by decide +kernel)
theorem q_initialized_X4 : (.initialized RX4 : Cond) ∈ xAll := xt1 (i := 6) (by decide +kernel) (by decide +kernel)
theorem q_initialized_X5 : (.initialized RX5 : Cond) ∈ xAll := xt1 (i := 3) (by decide +kernel) (by decide +kernel)
theorem q_initialized_X6 : (.initialized RX6 : Cond) ∈ xAll := xt1 (i := 8) (by decide +kernel) (by decide +kernel)
theorem q_initialized_X7 : (.initialized RX7 : Cond) ∈ xAll := xt1 (i := 1) (by decide +kernel) (by decide +kernel)
theorem q_initialized_X8 : (.initialized RX8 : Cond) ∈ xAll := xt1 (i := 13) (by decide +kernel) (by decide +kernel)
theorem q_instanceMethod_X0_beginAnew : (.instanceMethod yX0_beginAnew : Cond) ∈ xAll := xt3 (i := 190) (by decide +kernel) (by decide +kernel)
theorem q_instanceMethod_X0_carryOut : (.instanceMethod yX0_carryOut : Cond) ∈ xAll := xt3 (i := 140) (by decide +kernel) (by decide +kernel)
theorem q_instanceMethod_X0_cashFromAccounts : (.instanceMethod yX0_cashFromAccounts : Cond) ∈ xAll := xt2 (i := 93) (by decide +kernel) (by decide +kernel)
theorem q_instanceMethod_X0_changeFee : (.instanceMethod yX0_changeFee : Cond) ∈ xAll := xt3 (i := 156) (by decide +kernel) (by decide +kernel)
theorem q_instanceMethod_X0_changeRate : (.instanceMethod yX0_changeRate : Cond) ∈ xAll := xt3 (i := 152) (by decide +kernel) (by decide +kernel)
theorem q_instanceMethod_X0_copyFrom : (.instanceMethod yX0_copyFrom : Cond) ∈ xAll := xt2 (i := 157) (by decide +kernel) (by decide +kernel)
theorem q_instanceMethod_X0_countOf : (.instanceMethod yX0_countOf : Cond) ∈ xAll := xt3 (i := 49) (by decide +kernel) (by decide +kernel)
theorem q_instanceMethod_X0_endWeek : (.instanceMethod yX0_endWeek : Cond) ∈ xAll := xt3 (i := 164) (by decide +kernel) (by decide +kernel)
theorem q_instanceMethod_X0_endWeeks : (.instanceMethod yX0_endWeeks : Cond) ∈ xAll := xt3 (i := 160) (by decide +kernel) (by decide +kernel)
theorem q_instanceMethod_X0_giveBack : (.instanceMethod yX0_giveBack : Cond) ∈ xAll := xt3 (i := 177) (by decide +kernel) (by decide +kernel)
theorem q_instanceMethod_X0_hasTicket : (.instanceMethod yX0_hasTicket : Cond) ∈ xAll := xt3 (i := 57) (by decide +kernel) (by decide +kernel)
theorem q_instanceMethod_X0_isAhead : (.instanceMethod yX0_isAhead : Cond) ∈ xAll := xt4 (i := 57) (by decide +kernel) (by decide +kernel)
theorem q_instanceMethod_X0_isCostTheSame : (.instanceMethod yX0_isCostTheSame : Cond) ∈ xAll := xt2 (i := 117) (by decide +kernel) (by decide +kernel)
theorem q_instanceMethod_X0_lend : (.instanceMethod yX0_lend : Cond) ∈ xAll := xt3 (i := 144) (by decide +kernel) (by decide +kernel)
theorem q_instanceMethod_X0_lotInPlace : (.instanceMethod yX0_lotInPlace : Cond) ∈ xAll := xt4 (i := 49) (by decide +kernel) (by decide +kernel)
theorem q_instanceMethod_X0_lotsAheadOf : (.instanceMethod yX0_lotsAheadOf : Cond) ∈ xAll := xt4 (i := 53) (by decide +kernel) (by decide +kernel)
theorem q_instanceMethod_X0_lotsByTerms : (.instanceMethod yX0_lotsByTerms : Cond) ∈ xAll := xt2 (i := 141) (by decide +kernel) (by decide +kernel)
theorem q_instanceMethod_X0_lotsWeekByWeek : (.instanceMethod yX0_lotsWeekByWeek : Cond) ∈ xAll := xt2 (i := 145) (by decide +kernel) (by decide +kernel)
theorem q_instanceMethod_X0_owedBy : (.instanceMethod yX0_owedBy : Cond) ∈ xAll := xt4 (i := 140) (by decide +kernel) (by decide +kernel)
theorem q_instanceMethod_X0_payOut : (.instanceMethod yX0_payOut : Cond) ∈ xAll := xt3 (i := 202) (by decide +kernel) (by decide +kernel)
theorem q_instanceMethod_X0_sellLot : (.instanceMethod yX0_sellLot : Cond) ∈ xAll := xt3 (i := 194) (by decide +kernel) (by decide +kernel)
theorem q_instanceMethod_X0_sumOfClaimed : (.instanceMethod yX0_sumOfClaimed : Cond) ∈ xAll := xt2 (i := 109) (by decide +kernel) (by decide +kernel)
theorem q_instanceMethod_X0_sumOfLeft : (.instanceMethod yX0_sumOfLeft : Cond) ∈ xAll := xt6 (i := 85) (by decide +kernel) (by decide +kernel)
theorem q_instanceMethod_X0_sumOfLent : (.instanceMethod yX0_sumOfLent : Cond) ∈ xAll := xt2 (i := 97) (by decide +kernel) (by decide +kernel)
theorem q_instanceMethod_X0_sumOfLosses : (.instanceMethod yX0_sumOfLosses : Cond) ∈ xAll := xt6 (i := 89) (by decide +kernel) (by decide +kernel)
theorem q_instanceMethod_X0_sumOfPaid : (.instanceMethod yX0_sumOfPaid : Cond) ∈ xAll := xt2 (i := 101) (by decide +kernel) (by decide +kernel)
theorem q_instanceMethod_X0_sumOfPrices : (.instanceMethod yX0_sumOfPrices : Cond) ∈ xAll := xt2 (i := 105) (by decide +kernel) (by decide +kernel)
theorem q_instanceMethod_X0_sumOfRunningLoans : (.instanceMethod yX0_sumOfRunningLoans : Cond) ∈ xAll := xt6 (i := 121) (by decide +kernel) (by decide +kernel)
theorem q_instanceMethod_X0_takePart : (.instanceMethod yX0_takePart : Cond) ∈ xAll := xt3 (i := 186) (by decide +kernel) (by decide +kernel)
theorem q_instanceMethod_X1_examine : (.instanceMethod yX1_examine : Cond) ∈ xAll := xt3 (i := 26) (by decide +kernel) (by decide +kernel)
theorem q_instanceMethod_X1_examineClaim : (.instanceMethod yX1_examineClaim : Cond) ∈ xAll := xt3 (i := 45) (by decide +kernel) (by decide +kernel)
theorem q_instanceMethod_X1_examinePledge : (.instanceMethod yX1_examinePledge : Cond) ∈ xAll := xt3 (i := 30) (by decide +kernel) (by decide +kernel)
theorem q_instanceMethod_X1_examineSale : (.instanceMethod yX1_examineSale : Cond) ∈ xAll := xt3 (i := 61) (by decide +kernel) (by decide +kernel)
theorem q_instanceMethod_X1_examineSetting : (.instanceMethod yX1_examineSetting : Cond) ∈ xAll := xt3 (i := 41) (by decide +kernel) (by decide +kernel)
theorem q_instanceMethod_X1_examineTicket : (.instanceMethod yX1_examineTicket : Cond) ∈ xAll := xt3 (i := 53) (by decide +kernel) (by decide +kernel)
theorem q_instanceMethod_X1_refuse : (.instanceMethod yX1_refuse : Cond) ∈ xAll := xt3 (i := 37) (by decide +kernel) (by decide +kernel)
theorem q_instanceMethod_X2_forget : (.instanceMethod yX2_forget : Cond) ∈ xAll := xt6 (i := 151) (by decide +kernel) (by decide +kernel)
theorem q_instanceMethod_X2_keep : (.instanceMethod yX2_keep : Cond) ∈ xAll := xt3 (i := 135) (by decide +kernel) (by decide +kernel)
theorem q_instanceMethod_X2_takeBack : (.instanceMethod yX2_takeBack : Cond) ∈ xAll := xt6 (i := 140) (by decide +kernel) (by decide +kernel)
theorem q_instanceMethod_X3_empty : (.instanceMethod yX3_empty : Cond) ∈ xAll := xt6 (i := 52) (by decide +kernel) (by decide +kernel)
theorem q_instanceMethod_X3_readNumber : (.instanceMethod yX3_readNumber : Cond) ∈ xAll := xt6 (i := 47) (by decide +kernel) (by decide +kernel)
theorem q_instanceMethod_X3_readPart : (.instanceMethod yX3_readPart : Cond) ∈ xAll := xt6 (i := 36) (by decide +kernel) (by decide +kernel)
theorem q_instanceMethod_X3_readSign : (.instanceMethod yX3_readSign : Cond) ∈ xAll := xt6 (i := 43) (by decide +kernel) (by decide +kernel)
theorem q_instanceMethod_X3_take : (.instanceMethod yX3_take : Cond) ∈ xAll := xt5 (i := 227) (by decide +kernel) (by decide +kernel)
theorem q_instanceMethod_X4_add : (.instanceMethod yX4_add : Cond) ∈ xAll := xt3 (i := 22) (by decide +kernel) (by decide +kernel)
theorem q_instanceMethod_X4_begin : (.instanceMethod yX4_begin : Cond) ∈ xAll := xt3 (i := 18) (by decide +kernel) (by decide +kernel)
theorem q_instanceMethod_X5_becomesLotAtEndOf : (.instanceMethod yX5_becomesLotAtEndOf : Cond) ∈ xAll := xt3 (i := 168) (by decide +kernel) (by decide +kernel)
theorem q_instanceMethod_X5_begin : (.instanceMethod yX5_begin : Cond) ∈ xAll := xt3 (i := 148) (by decide +kernel) (by decide +kernel)
theorem q_instanceMethod_X5_copyFrom : (.instanceMethod yX5_copyFrom : Cond) ∈ xAll := xt2 (i := 161) (by decide +kernel) (by decide +kernel)
theorem q_instanceMethod_X5_costBehind : (.instanceMethod yX5_costBehind : Cond) ∈ xAll := xt2 (i := 125) (by decide +kernel) (by decide +kernel)
theorem q_instanceMethod_X5_costWeekByWeek : (.instanceMethod yX5_costWeekByWeek : Cond) ∈ xAll := xt2 (i := 137) (by decide +kernel) (by decide +kernel)
theorem q_instanceMethod_X5_isRunningIn : (.instanceMethod yX5_isRunningIn : Cond) ∈ xAll := xt2 (i := 121) (by decide +kernel) (by decide +kernel)
theorem q_instanceMethod_X5_letter : (.instanceMethod yX5_letter : Cond) ∈ xAll := xt5 (i := 197) (by decide +kernel) (by decide +kernel)
theorem q_instanceMethod_X5_loss : (.instanceMethod yX5_loss : Cond) ∈ xAll := xt6 (i := 93) (by decide +kernel) (by decide +kernel)
theorem q_instanceMethod_X5_number : (.instanceMethod yX5_number : Cond) ∈ xAll := xt4 (i := 24) (by decide +kernel) (by decide +kernel)
theorem q_instanceMethod_X5_owed : (.instanceMethod yX5_owed : Cond) ∈ xAll := xt2 (i := 129) (by decide +kernel) (by decide +kernel)
theorem q_instanceMethod_X5_payBack : (.instanceMethod yX5_payBack : Cond) ∈ xAll := xt3 (i := 182) (by decide +kernel) (by decide +kernel)
theorem q_instanceMethod_X5_reserveBehind : (.instanceMethod yX5_reserveBehind : Cond) ∈ xAll := xt3 (i := 172) (by decide +kernel) (by decide +kernel)
theorem q_instanceMethod_X5_sellFor : (.instanceMethod yX5_sellFor : Cond) ∈ xAll := xt3 (i := 198) (by decide +kernel) (by decide +kernel)
theorem q_instanceMethod_X5_weeklyInterest : (.instanceMethod yX5_weeklyInterest : Cond) ∈ xAll := xt2 (i := 133) (by decide +kernel) (by decide +kernel)
theorem q_instanceMethod_X6_keep : (.instanceMethod yX6_keep : Cond) ∈ xAll := xt3 (i := 115) (by decide +kernel) (by decide +kernel)
theorem q_instanceMethod_X6_keepCause : (.instanceMethod yX6_keepCause : Cond) ∈ xAll := xt6 (i := 61) (by decide +kernel) (by decide +kernel)
theorem q_instanceMethod_X7_tryOrders : (.instanceMethod yX7_tryOrders : Cond) ∈ xAll := xt6 (i := 58) (by decide +kernel) (by decide +kernel)
theorem q_instanceMethod_X8_account : (.instanceMethod yX8_account : Cond) ∈ xAll := xt7 (i := 200) (by decide +kernel) (by decide +kernel)
theorem q_instanceMethod_X8_append : (.instanceMethod yX8_append : Cond) ∈ xAll := xt7 (i := 150) (by decide +kernel) (by decide +kernel)
theorem q_instanceMethod_X8_carries : (.instanceMethod yX8_carries : Cond) ∈ xAll := xt7 (i := 179) (by decide +kernel) (by decide +kernel)
theorem q_instanceMethod_X8_cash : (.instanceMethod yX8_cash : Cond) ∈ xAll := xt7 (i := 124) (by decide +kernel) (by decide +kernel)
theorem q_instanceMethod_X8_character : (.instanceMethod yX8_character : Cond) ∈ xAll := xt7 (i := 146) (by decide +kernel) (by decide +kernel)
theorem q_instanceMethod_X8_claim : (.instanceMethod yX8_claim : Cond) ∈ xAll := xt7 (i := 68) (by decide +kernel) (by decide +kernel)
theorem q_instanceMethod_X8_comes : (.instanceMethod yX8_comes : Cond) ∈ xAll := xt7 (i := 49) (by decide +kernel) (by decide +kernel)
theorem q_instanceMethod_X8_errorPosition : (.instanceMethod yX8_errorPosition : Cond) ∈ xAll := xt7 (i := 192) (by decide +kernel) (by decide +kernel)
theorem q_instanceMethod_X8_fails : (.instanceMethod yX8_fails : Cond) ∈ xAll := xt6 (i := 234) (by decide +kernel) (by decide +kernel)
theorem q_instanceMethod_X8_fee : (.instanceMethod yX8_fee : Cond) ∈ xAll := xt7 (i := 16) (by decide +kernel) (by decide +kernel)
theorem q_instanceMethod_X8_figures : (.instanceMethod yX8_figures : Cond) ∈ xAll := xt7 (i := 175) (by decide +kernel) (by decide +kernel)
theorem q_instanceMethod_X8_goesBy : (.instanceMethod yX8_goesBy : Cond) ∈ xAll := xt7 (i := 25) (by decide +kernel) (by decide +kernel)
theorem q_instanceMethod_X8_here : (.instanceMethod yX8_here : Cond) ∈ xAll := xt7 (i := 167) (by decide +kernel) (by decide +kernel)
theorem q_instanceMethod_X8_isNoQuote : (.instanceMethod yX8_isNoQuote : Cond) ∈ xAll := xt7 (i := 89) (by decide +kernel) (by decide +kernel)
theorem q_instanceMethod_X8_isOver : (.instanceMethod yX8_isOver : Cond) ∈ xAll := xt7 (i := 93) (by decide +kernel) (by decide +kernel)
theorem q_instanceMethod_X8_isText : (.instanceMethod yX8_isText : Cond) ∈ xAll := xt7 (i := 159) (by decide +kernel) (by decide +kernel)
theorem q_instanceMethod_X8_isTicket : (.instanceMethod yX8_isTicket : Cond) ∈ xAll := xt7 (i := 45) (by decide +kernel) (by decide +kernel)
theorem q_instanceMethod_X8_isWell : (.instanceMethod yX8_isWell : Cond) ∈ xAll := xt7 (i := 128) (by decide +kernel) (by decide +kernel)
theorem q_instanceMethod_X8_keeps : (.instanceMethod yX8_keeps : Cond) ∈ xAll := xt7 (i := 2) (by decide +kernel) (by decide +kernel)
theorem q_instanceMethod_X8_lays : (.instanceMethod yX8_lays : Cond) ∈ xAll := xt7 (i := 9) (by decide +kernel) (by decide +kernel)
theorem q_instanceMethod_X8_leftAll : (.instanceMethod yX8_leftAll : Cond) ∈ xAll := xt7 (i := 209) (by decide +kernel) (by decide +kernel)
theorem q_instanceMethod_X8_lotAt : (.instanceMethod yX8_lotAt : Cond) ∈ xAll := xt7 (i := 76) (by decide +kernel) (by decide +kernel)
theorem q_instanceMethod_X8_lotsIn : (.instanceMethod yX8_lotsIn : Cond) ∈ xAll := xt7 (i := 105) (by decide +kernel) (by decide +kernel)
theorem q_instanceMethod_X8_many : (.instanceMethod yX8_many : Cond) ∈ xAll := xt7 (i := 205) (by decide +kernel) (by decide +kernel)
theorem q_instanceMethod_X8_of : (.instanceMethod yX8_of : Cond) ∈ xAll := xt7 (i := 29) (by decide +kernel) (by decide +kernel)
theorem q_instanceMethod_X8_ofOwner : (.instanceMethod yX8_ofOwner : Cond) ∈ xAll := xt7 (i := 73) (by decide +kernel) (by decide +kernel)
theorem q_instanceMethod_X8_orderHere : (.instanceMethod yX8_orderHere : Cond) ∈ xAll := xt7 (i := 163) (by decide +kernel) (by decide +kernel)
theorem q_instanceMethod_X8_owed : (.instanceMethod yX8_owed : Cond) ∈ xAll := xt7 (i := 37) (by decide +kernel) (by decide +kernel)
theorem q_instanceMethod_X8_owedBy : (.instanceMethod yX8_owedBy : Cond) ∈ xAll := xt7 (i := 121) (by decide +kernel) (by decide +kernel)
theorem q_instanceMethod_X8_ownerOf : (.instanceMethod yX8_ownerOf : Cond) ∈ xAll := xt7 (i := 116) (by decide +kernel) (by decide +kernel)
theorem q_instanceMethod_X8_pass : (.instanceMethod yX8_pass : Cond) ∈ xAll := xt7 (i := 20) (by decide +kernel) (by decide +kernel)
theorem q_instanceMethod_X8_pay : (.instanceMethod yX8_pay : Cond) ∈ xAll := xt7 (i := 52) (by decide +kernel) (by decide +kernel)
theorem q_instanceMethod_X8_pledge : (.instanceMethod yX8_pledge : Cond) ∈ xAll := xt6 (i := 226) (by decide +kernel) (by decide +kernel)
theorem q_instanceMethod_X8_pledgeOf : (.instanceMethod yX8_pledgeOf : Cond) ∈ xAll := xt7 (i := 60) (by decide +kernel) (by decide +kernel)
theorem q_instanceMethod_X8_quote : (.instanceMethod yX8_quote : Cond) ∈ xAll := xt7 (i := 84) (by decide +kernel) (by decide +kernel)
theorem q_instanceMethod_X8_quoteAgain : (.instanceMethod yX8_quoteAgain : Cond) ∈ xAll := xt7 (i := 96) (by decide +kernel) (by decide +kernel)
theorem q_instanceMethod_X8_ranked : (.instanceMethod yX8_ranked : Cond) ∈ xAll := xt7 (i := 80) (by decide +kernel) (by decide +kernel)
theorem q_instanceMethod_X8_rate : (.instanceMethod yX8_rate : Cond) ∈ xAll := xt7 (i := 12) (by decide +kernel) (by decide +kernel)
theorem q_instanceMethod_X8_redeem : (.instanceMethod yX8_redeem : Cond) ∈ xAll := xt7 (i := 40) (by decide +kernel) (by decide +kernel)
theorem q_instanceMethod_X8_refusal : (.instanceMethod yX8_refusal : Cond) ∈ xAll := xt7 (i := 196) (by decide +kernel) (by decide +kernel)
theorem q_instanceMethod_X8_refuses : (.instanceMethod yX8_refuses : Cond) ∈ xAll := xt6 (i := 238) (by decide +kernel) (by decide +kernel)
theorem q_instanceMethod_X8_renew : (.instanceMethod yX8_renew : Cond) ∈ xAll := xt7 (i := 56) (by decide +kernel) (by decide +kernel)
theorem q_instanceMethod_X8_restore : (.instanceMethod yX8_restore : Cond) ∈ xAll := xt7 (i := 228) (by decide +kernel) (by decide +kernel)
theorem q_instanceMethod_X8_run : (.instanceMethod yX8_run : Cond) ∈ xAll := xt7 (i := 154) (by decide +kernel) (by decide +kernel)
theorem q_instanceMethod_X8_save : (.instanceMethod yX8_save : Cond) ∈ xAll := xt7 (i := 224) (by decide +kernel) (by decide +kernel)
theorem q_instanceMethod_X8_sell : (.instanceMethod yX8_sell : Cond) ∈ xAll := xt7 (i := 64) (by decide +kernel) (by decide +kernel)
theorem q_instanceMethod_X8_skips : (.instanceMethod yX8_skips : Cond) ∈ xAll := xt7 (i := 171) (by decide +kernel) (by decide +kernel)
theorem q_instanceMethod_X8_thrown : (.instanceMethod yX8_thrown : Cond) ∈ xAll := xt6 (i := 222) (by decide +kernel) (by decide +kernel)
theorem q_instanceMethod_X8_undo : (.instanceMethod yX8_undo : Cond) ∈ xAll := xt7 (i := 220) (by decide +kernel) (by decide +kernel)
theorem q_instanceMethod_X8_weekly : (.instanceMethod yX8_weekly : Cond) ∈ xAll := xt7 (i := 33) (by decide +kernel) (by decide +kernel)
theorem q_instanceMethod_X8_willBeLots : (.instanceMethod yX8_willBeLots : Cond) ∈ xAll := xt7 (i := 100) (by decide +kernel) (by decide +kernel)
theorem q_instanceMethod_X8_willBeLotsAgain : (.instanceMethod yX8_willBeLotsAgain : Cond) ∈ xAll := xt7 (i := 108) (by decide +kernel) (by decide +kernel)
theorem q_instanceMethod_X8_willReserve : (.instanceMethod yX8_willReserve : Cond) ∈ xAll := xt7 (i := 112) (by decide +kernel) (by decide +kernel)
theorem q_instanceMethod_X8_writes : (.instanceMethod yX8_writes : Cond) ∈ xAll := xt7 (i := 137) (by decide +kernel) (by decide +kernel)
theorem q_instanceMethod_X8_writesNumber : (.instanceMethod yX8_writesNumber : Cond) ∈ xAll := xt7 (i := 141) (by decide +kernel) (by decide +kernel)
theorem q_m_X0_102 : (.methodLink RX0 102 yX5_owed : Cond) ∈ xAll := xt3 (i := 180) (by decide +kernel) (by decide +kernel)
theorem q_m_X0_105 : (.methodLink RX0 105 yX5_payBack : Cond) ∈ xAll := xt3 (i := 181) (by decide +kernel) (by decide +kernel)
theorem q_m_X0_117 : (.methodLink RX0 117 yX5_sellFor : Cond) ∈ xAll := xt3 (i := 197) (by decide +kernel) (by decide +kernel)
theorem q_m_X0_123 : (.methodLink RX0 123 yX0_lotsAheadOf : Cond) ∈ xAll := xt4 (i := 52) (by decide +kernel) (by decide +kernel)
theorem q_m_X0_127 : (.methodLink RX0 127 yX0_isAhead : Cond) ∈ xAll := xt4 (i := 56) (by decide +kernel) (by decide +kernel)
theorem q_m_X0_134 : (.methodLink RX0 134 yX5_isRunningIn : Cond) ∈ xAll := xt2 (i := 120) (by decide +kernel) (by decide +kernel)
theorem q_m_X0_138 : (.methodLink RX0 138 yX5_costBehind : Cond) ∈ xAll := xt2 (i := 124) (by decide +kernel) (by decide +kernel)
theorem q_m_X0_141 : (.methodLink RX0 141 yX5_costWeekByWeek : Cond) ∈ xAll := xt2 (i := 136) (by decide +kernel) (by decide +kernel)
theorem q_m_X0_144 : (.methodLink RX0 144 yX0_sumOfLent : Cond) ∈ xAll := xt2 (i := 96) (by decide +kernel) (by decide +kernel)
theorem q_m_X0_147 : (.methodLink RX0 147 yX0_sumOfPaid : Cond) ∈ xAll := xt2 (i := 100) (by decide +kernel) (by decide +kernel)
theorem q_m_X0_150 : (.methodLink RX0 150 yX0_sumOfPrices : Cond) ∈ xAll := xt2 (i := 104) (by decide +kernel) (by decide +kernel)
theorem q_m_X0_153 : (.methodLink RX0 153 yX0_sumOfClaimed : Cond) ∈ xAll := xt2 (i := 108) (by decide +kernel) (by decide +kernel)
theorem q_m_X0_168 : (.methodLink RX0 168 yX5_loss : Cond) ∈ xAll := xt6 (i := 92) (by decide +kernel) (by decide +kernel)
theorem q_m_X0_41 : (.methodLink RX0 41 yX5_copyFrom : Cond) ∈ xAll := xt2 (i := 160) (by decide +kernel) (by decide +kernel)
theorem q_m_X0_51 : (.methodLink RX0 51 yX0_lend : Cond) ∈ xAll := xt3 (i := 143) (by decide +kernel) (by decide +kernel)
theorem q_m_X0_58 : (.methodLink RX0 58 yX0_changeRate : Cond) ∈ xAll := xt3 (i := 151) (by decide +kernel) (by decide +kernel)
theorem q_m_X0_62 : (.methodLink RX0 62 yX0_changeFee : Cond) ∈ xAll := xt3 (i := 155) (by decide +kernel) (by decide +kernel)
theorem q_m_X0_65 : (.methodLink RX0 65 yX0_endWeeks : Cond) ∈ xAll := xt3 (i := 159) (by decide +kernel) (by decide +kernel)
theorem q_m_X0_68 : (.methodLink RX0 68 yX0_giveBack : Cond) ∈ xAll := xt3 (i := 176) (by decide +kernel) (by decide +kernel)
theorem q_m_X0_74 : (.methodLink RX0 74 yX0_takePart : Cond) ∈ xAll := xt3 (i := 185) (by decide +kernel) (by decide +kernel)
theorem q_m_X0_78 : (.methodLink RX0 78 yX0_beginAnew : Cond) ∈ xAll := xt3 (i := 189) (by decide +kernel) (by decide +kernel)
theorem q_m_X0_81 : (.methodLink RX0 81 yX0_sellLot : Cond) ∈ xAll := xt3 (i := 193) (by decide +kernel) (by decide +kernel)
theorem q_m_X0_84 : (.methodLink RX0 84 yX0_payOut : Cond) ∈ xAll := xt3 (i := 201) (by decide +kernel) (by decide +kernel)
theorem q_m_X0_87 : (.methodLink RX0 87 yX5_begin : Cond) ∈ xAll := xt3 (i := 147) (by decide +kernel) (by decide +kernel)
theorem q_m_X0_94 : (.methodLink RX0 94 yX0_endWeek : Cond) ∈ xAll := xt3 (i := 163) (by decide +kernel) (by decide +kernel)
theorem q_m_X0_98 : (.methodLink RX0 98 yX5_becomesLotAtEndOf : Cond) ∈ xAll := xt3 (i := 167) (by decide +kernel) (by decide +kernel)
theorem q_m_X1_21 : (.methodLink RX1 21 yX1_examinePledge : Cond) ∈ xAll := xt3 (i := 29) (by decide +kernel) (by decide +kernel)
theorem q_m_X1_33 : (.methodLink RX1 33 yX1_examineSetting : Cond) ∈ xAll := xt3 (i := 40) (by decide +kernel) (by decide +kernel)
theorem q_m_X1_40 : (.methodLink RX1 40 yX1_examineClaim : Cond) ∈ xAll := xt3 (i := 44) (by decide +kernel) (by decide +kernel)
theorem q_m_X1_44 : (.methodLink RX1 44 yX1_examineTicket : Cond) ∈ xAll := xt3 (i := 52) (by decide +kernel) (by decide +kernel)
theorem q_m_X1_57 : (.methodLink RX1 57 yX1_refuse : Cond) ∈ xAll := xt3 (i := 36) (by decide +kernel) (by decide +kernel)
theorem q_m_X1_71 : (.methodLink RX1 71 yX0_countOf : Cond) ∈ xAll := xt3 (i := 48) (by decide +kernel) (by decide +kernel)
theorem q_m_X1_74 : (.methodLink RX1 74 yX0_hasTicket : Cond) ∈ xAll := xt3 (i := 56) (by decide +kernel) (by decide +kernel)
theorem q_m_X1_81 : (.methodLink RX1 81 yX1_examineSale : Cond) ∈ xAll := xt3 (i := 60) (by decide +kernel) (by decide +kernel)
theorem q_m_X1_90 : (.methodLink RX1 90 yX5_owed : Cond) ∈ xAll := xt3 (i := 64) (by decide +kernel) (by decide +kernel)
theorem q_m_X2_25 : (.methodLink RX2 25 yX0_copyFrom : Cond) ∈ xAll := xt3 (i := 138) (by decide +kernel) (by decide +kernel)
theorem q_m_X3_36 : (.methodLink RX3 36 yX3_readSign : Cond) ∈ xAll := xt6 (i := 42) (by decide +kernel) (by decide +kernel)
theorem q_m_X3_77 : (.methodLink RX3 77 yX3_isDigit : Cond) ∈ xAll := xt6 (i := 39) (by decide +kernel) (by decide +kernel)
theorem q_m_X3_80 : (.methodLink RX3 80 yX3_readNumber : Cond) ∈ xAll := xt6 (i := 46) (by decide +kernel) (by decide +kernel)
theorem q_m_X3_84 : (.methodLink RX3 84 yX4_add : Cond) ∈ xAll := xt6 (i := 50) (by decide +kernel) (by decide +kernel)
theorem q_m_X5_59 : (.methodLink RX5 59 yX5_owed : Cond) ∈ xAll := xt2 (i := 128) (by decide +kernel) (by decide +kernel)
theorem q_m_X5_63 : (.methodLink RX5 63 yX5_weeklyInterest : Cond) ∈ xAll := xt2 (i := 132) (by decide +kernel) (by decide +kernel)
theorem q_m_X5_66 : (.methodLink RX5 66 yX5_reserveBehind : Cond) ∈ xAll := xt3 (i := 171) (by decide +kernel) (by decide +kernel)
theorem q_m_X5_70 : (.methodLink RX5 70 yX5_isRunningIn : Cond) ∈ xAll := xt3 (i := 175) (by decide +kernel) (by decide +kernel)
theorem q_m_X7_216 : (.methodLink RX7 216 yX0_copyFrom : Cond) ∈ xAll := xt2 (i := 156) (by decide +kernel) (by decide +kernel)
theorem q_m_X7_292 : (.methodLink RX7 292 yX1_examine : Cond) ∈ xAll := xt3 (i := 25) (by decide +kernel) (by decide +kernel)
theorem q_m_X7_299 : (.methodLink RX7 299 yX0_carryOut : Cond) ∈ xAll := xt3 (i := 139) (by decide +kernel) (by decide +kernel)
theorem q_m_X7_308 : (.methodLink RX7 308 yX6_keep : Cond) ∈ xAll := xt3 (i := 114) (by decide +kernel) (by decide +kernel)
theorem q_m_X7_317 : (.methodLink RX7 317 yX6_keepCause : Cond) ∈ xAll := xt6 (i := 60) (by decide +kernel) (by decide +kernel)
theorem q_m_X8_101 : (.methodLink RX8 101 yX8_ofOwner : Cond) ∈ xAll := xt7 (i := 71) (by decide +kernel) (by decide +kernel)
theorem q_m_X8_104 : (.methodLink RX8 104 yX8_isOver : Cond) ∈ xAll := xt7 (i := 91) (by decide +kernel) (by decide +kernel)
theorem q_m_X8_108 : (.methodLink RX8 108 yX8_isNoQuote : Cond) ∈ xAll := xt7 (i := 87) (by decide +kernel) (by decide +kernel)
theorem q_m_X8_111 : (.methodLink RX8 111 yX8_lotsIn : Cond) ∈ xAll := xt7 (i := 103) (by decide +kernel) (by decide +kernel)
theorem q_m_X8_114 : (.methodLink RX8 114 yX8_owedBy : Cond) ∈ xAll := xt7 (i := 119) (by decide +kernel) (by decide +kernel)
theorem q_m_X8_120 : (.methodLink RX8 120 yX8_writes : Cond) ∈ xAll := xt7 (i := 135) (by decide +kernel) (by decide +kernel)
theorem q_m_X8_141 : (.methodLink RX8 141 yX8_here : Cond) ∈ xAll := xt7 (i := 165) (by decide +kernel) (by decide +kernel)
theorem q_m_X8_147 : (.methodLink RX8 147 yX8_skips : Cond) ∈ xAll := xt7 (i := 169) (by decide +kernel) (by decide +kernel)
theorem q_m_X8_150 : (.methodLink RX8 150 yX8_figures : Cond) ∈ xAll := xt7 (i := 173) (by decide +kernel) (by decide +kernel)
theorem q_m_X8_153 : (.methodLink RX8 153 yX8_orderHere : Cond) ∈ xAll := xt7 (i := 161) (by decide +kernel) (by decide +kernel)
theorem q_m_X8_157 : (.methodLink RX8 157 yX8_pledge : Cond) ∈ xAll := xt7 (i := 181) (by decide +kernel) (by decide +kernel)
theorem q_m_X8_160 : (.methodLink RX8 160 yX8_pay : Cond) ∈ xAll := xt7 (i := 182) (by decide +kernel) (by decide +kernel)
theorem q_m_X8_163 : (.methodLink RX8 163 yX8_sell : Cond) ∈ xAll := xt7 (i := 183) (by decide +kernel) (by decide +kernel)
theorem q_m_X8_166 : (.methodLink RX8 166 yX8_claim : Cond) ∈ xAll := xt7 (i := 184) (by decide +kernel) (by decide +kernel)
theorem q_m_X8_169 : (.methodLink RX8 169 yX8_pass : Cond) ∈ xAll := xt7 (i := 185) (by decide +kernel) (by decide +kernel)
theorem q_m_X8_172 : (.methodLink RX8 172 yX8_redeem : Cond) ∈ xAll := xt7 (i := 186) (by decide +kernel) (by decide +kernel)
theorem q_m_X8_175 : (.methodLink RX8 175 yX8_renew : Cond) ∈ xAll := xt7 (i := 187) (by decide +kernel) (by decide +kernel)
theorem q_m_X8_178 : (.methodLink RX8 178 yX8_isText : Cond) ∈ xAll := xt7 (i := 157) (by decide +kernel) (by decide +kernel)
theorem q_m_X8_181 : (.methodLink RX8 181 yX8_carries : Cond) ∈ xAll := xt7 (i := 177) (by decide +kernel) (by decide +kernel)
theorem q_m_X8_184 : (.methodLink RX8 184 yX8_lastOf : Cond) ∈ xAll := xt7 (i := 188) (by decide +kernel) (by decide +kernel)
theorem q_m_X8_190 : (.methodLink RX8 190 yX8_many : Cond) ∈ xAll := xt7 (i := 203) (by decide +kernel) (by decide +kernel)
theorem q_m_X8_193 : (.methodLink RX8 193 yX8_leftAll : Cond) ∈ xAll := xt7 (i := 207) (by decide +kernel) (by decide +kernel)
theorem q_m_X8_55 : (.methodLink RX8 55 yX8_copies : Cond) ∈ xAll := xt7 (i := 4) (by decide +kernel) (by decide +kernel)
theorem q_m_X8_59 : (.methodLink RX8 59 yX8_in : Cond) ∈ xAll := xt6 (i := 229) (by decide +kernel) (by decide +kernel)
theorem q_m_X8_63 : (.methodLink RX8 63 yX8_of : Cond) ∈ xAll := xt7 (i := 27) (by decide +kernel) (by decide +kernel)
theorem q_m_X8_67 : (.methodLink RX8 67 yX8_fails : Cond) ∈ xAll := xt6 (i := 232) (by decide +kernel) (by decide +kernel)
theorem q_m_X8_71 : (.methodLink RX8 71 yX8_refuses : Cond) ∈ xAll := xt6 (i := 236) (by decide +kernel) (by decide +kernel)
theorem q_m_X8_75 : (.methodLink RX8 75 yX8_keeps : Cond) ∈ xAll := xt7 (i := 0) (by decide +kernel) (by decide +kernel)
theorem q_m_X8_79 : (.methodLink RX8 79 yX8_lays : Cond) ∈ xAll := xt7 (i := 7) (by decide +kernel) (by decide +kernel)
theorem q_m_X8_83 : (.methodLink RX8 83 yX8_weekly : Cond) ∈ xAll := xt7 (i := 31) (by decide +kernel) (by decide +kernel)
theorem q_m_X8_87 : (.methodLink RX8 87 yX8_owed : Cond) ∈ xAll := xt7 (i := 35) (by decide +kernel) (by decide +kernel)
theorem q_m_X8_90 : (.methodLink RX8 90 yX8_goesBy : Cond) ∈ xAll := xt7 (i := 23) (by decide +kernel) (by decide +kernel)
theorem q_m_X8_94 : (.methodLink RX8 94 yX8_isTicket : Cond) ∈ xAll := xt7 (i := 43) (by decide +kernel) (by decide +kernel)
theorem q_m_X8_97 : (.methodLink RX8 97 yX8_comes : Cond) ∈ xAll := xt7 (i := 47) (by decide +kernel) (by decide +kernel)
theorem q_selects_X0_beginAnew : (.selects yX0_beginAnew.cls yX0_beginAnew yX0_beginAnew : Cond) ∈ xAll := xt3 (i := 191) (by decide +kernel) (by decide +kernel)
theorem q_selects_X0_carryOut : (.selects yX0_carryOut.cls yX0_carryOut yX0_carryOut : Cond) ∈ xAll := xt3 (i := 141) (by decide +kernel) (by decide +kernel)
theorem q_selects_X0_cashFromAccounts : (.selects yX0_cashFromAccounts.cls yX0_cashFromAccounts yX0_cashFromAccounts : Cond) ∈ xAll := xt2 (i := 94) (by decide +kernel) (by decide +kernel)
theorem q_selects_X0_changeFee : (.selects yX0_changeFee.cls yX0_changeFee yX0_changeFee : Cond) ∈ xAll := xt3 (i := 157) (by decide +kernel) (by decide +kernel)
theorem q_selects_X0_changeRate : (.selects yX0_changeRate.cls yX0_changeRate yX0_changeRate : Cond) ∈ xAll := xt3 (i := 153) (by decide +kernel) (by decide +kernel)
theorem q_selects_X0_copyFrom : (.selects yX0_copyFrom.cls yX0_copyFrom yX0_copyFrom : Cond) ∈ xAll := xt2 (i := 158) (by decide +kernel) (by decide +kernel)
theorem q_selects_X0_countOf : (.selects yX0_countOf.cls yX0_countOf yX0_countOf : Cond) ∈ xAll := xt3 (i := 50) (by decide +kernel) (by decide +kernel)
theorem q_selects_X0_endWeek : (.selects yX0_endWeek.cls yX0_endWeek yX0_endWeek : Cond) ∈ xAll := xt3 (i := 165) (by decide +kernel) (by decide +kernel)
theorem q_selects_X0_endWeeks : (.selects yX0_endWeeks.cls yX0_endWeeks yX0_endWeeks : Cond) ∈ xAll := xt3 (i := 161) (by decide +kernel) (by decide +kernel)
theorem q_selects_X0_giveBack : (.selects yX0_giveBack.cls yX0_giveBack yX0_giveBack : Cond) ∈ xAll := xt3 (i := 178) (by decide +kernel) (by decide +kernel)
theorem q_selects_X0_hasTicket : (.selects yX0_hasTicket.cls yX0_hasTicket yX0_hasTicket : Cond) ∈ xAll := xt3 (i := 58) (by decide +kernel) (by decide +kernel)
theorem q_selects_X0_isAhead : (.selects yX0_isAhead.cls yX0_isAhead yX0_isAhead : Cond) ∈ xAll := xt4 (i := 58) (by decide +kernel) (by decide +kernel)
theorem q_selects_X0_isCostTheSame : (.selects yX0_isCostTheSame.cls yX0_isCostTheSame yX0_isCostTheSame : Cond) ∈ xAll := xt2 (i := 118) (by decide +kernel) (by decide +kernel)
theorem q_selects_X0_lend : (.selects yX0_lend.cls yX0_lend yX0_lend : Cond) ∈ xAll := xt3 (i := 145) (by decide +kernel) (by decide +kernel)
theorem q_selects_X0_lotInPlace : (.selects yX0_lotInPlace.cls yX0_lotInPlace yX0_lotInPlace : Cond) ∈ xAll := xt4 (i := 50) (by decide +kernel) (by decide +kernel)
theorem q_selects_X0_lotsAheadOf : (.selects yX0_lotsAheadOf.cls yX0_lotsAheadOf yX0_lotsAheadOf : Cond) ∈ xAll := xt4 (i := 54) (by decide +kernel) (by decide +kernel)
theorem q_selects_X0_lotsByTerms : (.selects yX0_lotsByTerms.cls yX0_lotsByTerms yX0_lotsByTerms : Cond) ∈ xAll := xt2 (i := 142) (by decide +kernel) (by decide +kernel)
theorem q_selects_X0_lotsWeekByWeek : (.selects yX0_lotsWeekByWeek.cls yX0_lotsWeekByWeek yX0_lotsWeekByWeek : Cond) ∈ xAll := xt2 (i := 146) (by decide +kernel) (by decide +kernel)
theorem q_selects_X0_owedBy : (.selects yX0_owedBy.cls yX0_owedBy yX0_owedBy : Cond) ∈ xAll := xt4 (i := 141) (by decide +kernel) (by decide +kernel)
theorem q_selects_X0_payOut : (.selects yX0_payOut.cls yX0_payOut yX0_payOut : Cond) ∈ xAll := xt3 (i := 203) (by decide +kernel) (by decide +kernel)
theorem q_selects_X0_sellLot : (.selects yX0_sellLot.cls yX0_sellLot yX0_sellLot : Cond) ∈ xAll := xt3 (i := 195) (by decide +kernel) (by decide +kernel)
theorem q_selects_X0_sumOfClaimed : (.selects yX0_sumOfClaimed.cls yX0_sumOfClaimed yX0_sumOfClaimed : Cond) ∈ xAll := xt2 (i := 110) (by decide +kernel) (by decide +kernel)
theorem q_selects_X0_sumOfLeft : (.selects yX0_sumOfLeft.cls yX0_sumOfLeft yX0_sumOfLeft : Cond) ∈ xAll := xt6 (i := 86) (by decide +kernel) (by decide +kernel)
theorem q_selects_X0_sumOfLent : (.selects yX0_sumOfLent.cls yX0_sumOfLent yX0_sumOfLent : Cond) ∈ xAll := xt2 (i := 98) (by decide +kernel) (by decide +kernel)
theorem q_selects_X0_sumOfLosses : (.selects yX0_sumOfLosses.cls yX0_sumOfLosses yX0_sumOfLosses : Cond) ∈ xAll := xt6 (i := 90) (by decide +kernel) (by decide +kernel)
theorem q_selects_X0_sumOfPaid : (.selects yX0_sumOfPaid.cls yX0_sumOfPaid yX0_sumOfPaid : Cond) ∈ xAll := xt2 (i := 102) (by decide +kernel) (by decide +kernel)
theorem q_selects_X0_sumOfPrices : (.selects yX0_sumOfPrices.cls yX0_sumOfPrices yX0_sumOfPrices : Cond) ∈ xAll := xt2 (i := 106) (by decide +kernel) (by decide +kernel)
theorem q_selects_X0_sumOfRunningLoans : (.selects yX0_sumOfRunningLoans.cls yX0_sumOfRunningLoans yX0_sumOfRunningLoans : Cond) ∈ xAll := xt6 (i := 122) (by decide +kernel) (by decide +kernel)
theorem q_selects_X0_takePart : (.selects yX0_takePart.cls yX0_takePart yX0_takePart : Cond) ∈ xAll := xt3 (i := 187) (by decide +kernel) (by decide +kernel)
theorem q_selects_X1_examine : (.selects yX1_examine.cls yX1_examine yX1_examine : Cond) ∈ xAll := xt3 (i := 27) (by decide +kernel) (by decide +kernel)
theorem q_selects_X1_examineClaim : (.selects yX1_examineClaim.cls yX1_examineClaim yX1_examineClaim : Cond) ∈ xAll := xt3 (i := 46) (by decide +kernel) (by decide +kernel)
theorem q_selects_X1_examinePledge : (.selects yX1_examinePledge.cls yX1_examinePledge yX1_examinePledge : Cond) ∈ xAll := xt3 (i := 31) (by decide +kernel) (by decide +kernel)
theorem q_selects_X1_examineSale : (.selects yX1_examineSale.cls yX1_examineSale yX1_examineSale : Cond) ∈ xAll := xt3 (i := 62) (by decide +kernel) (by decide +kernel)
theorem q_selects_X1_examineSetting : (.selects yX1_examineSetting.cls yX1_examineSetting yX1_examineSetting : Cond) ∈ xAll := xt3 (i := 42) (by decide +kernel) (by decide +kernel)
theorem q_selects_X1_examineTicket : (.selects yX1_examineTicket.cls yX1_examineTicket yX1_examineTicket : Cond) ∈ xAll := xt3 (i := 54) (by decide +kernel) (by decide +kernel)
theorem q_selects_X1_refuse : (.selects yX1_refuse.cls yX1_refuse yX1_refuse : Cond) ∈ xAll := xt3 (i := 38) (by decide +kernel) (by decide +kernel)
theorem q_selects_X2_forget : (.selects yX2_forget.cls yX2_forget yX2_forget : Cond) ∈ xAll := xt6 (i := 152) (by decide +kernel) (by decide +kernel)
theorem q_selects_X2_keep : (.selects yX2_keep.cls yX2_keep yX2_keep : Cond) ∈ xAll := xt3 (i := 136) (by decide +kernel) (by decide +kernel)
theorem q_selects_X2_takeBack : (.selects yX2_takeBack.cls yX2_takeBack yX2_takeBack : Cond) ∈ xAll := xt6 (i := 141) (by decide +kernel) (by decide +kernel)
theorem q_selects_X3_empty : (.selects yX3_empty.cls yX3_empty yX3_empty : Cond) ∈ xAll := xt6 (i := 53) (by decide +kernel) (by decide +kernel)
theorem q_selects_X3_readNumber : (.selects yX3_readNumber.cls yX3_readNumber yX3_readNumber : Cond) ∈ xAll := xt6 (i := 48) (by decide +kernel) (by decide +kernel)
theorem q_selects_X3_readPart : (.selects yX3_readPart.cls yX3_readPart yX3_readPart : Cond) ∈ xAll := xt6 (i := 37) (by decide +kernel) (by decide +kernel)
theorem q_selects_X3_readSign : (.selects yX3_readSign.cls yX3_readSign yX3_readSign : Cond) ∈ xAll := xt6 (i := 44) (by decide +kernel) (by decide +kernel)
theorem q_selects_X3_take : (.selects yX3_take.cls yX3_take yX3_take : Cond) ∈ xAll := xt5 (i := 228) (by decide +kernel) (by decide +kernel)
theorem q_selects_X4_add : (.selects yX4_add.cls yX4_add yX4_add : Cond) ∈ xAll := xt3 (i := 23) (by decide +kernel) (by decide +kernel)
theorem q_selects_X4_begin : (.selects yX4_begin.cls yX4_begin yX4_begin : Cond) ∈ xAll := xt3 (i := 19) (by decide +kernel) (by decide +kernel)
theorem q_selects_X5_becomesLotAtEndOf : (.selects yX5_becomesLotAtEndOf.cls yX5_becomesLotAtEndOf yX5_becomesLotAtEndOf : Cond) ∈ xAll := xt3 (i := 169) (by decide +kernel) (by decide +kernel)
theorem q_selects_X5_begin : (.selects yX5_begin.cls yX5_begin yX5_begin : Cond) ∈ xAll := xt3 (i := 149) (by decide +kernel) (by decide +kernel)
theorem q_selects_X5_copyFrom : (.selects yX5_copyFrom.cls yX5_copyFrom yX5_copyFrom : Cond) ∈ xAll := xt2 (i := 162) (by decide +kernel) (by decide +kernel)
theorem q_selects_X5_costBehind : (.selects yX5_costBehind.cls yX5_costBehind yX5_costBehind : Cond) ∈ xAll := xt2 (i := 126) (by decide +kernel) (by decide +kernel)
theorem q_selects_X5_costWeekByWeek : (.selects yX5_costWeekByWeek.cls yX5_costWeekByWeek yX5_costWeekByWeek : Cond) ∈ xAll := xt2 (i := 138) (by decide +kernel) (by decide +kernel)
theorem q_selects_X5_isRunningIn : (.selects yX5_isRunningIn.cls yX5_isRunningIn yX5_isRunningIn : Cond) ∈ xAll := xt2 (i := 122) (by decide +kernel) (by decide +kernel)
theorem q_selects_X5_letter : (.selects yX5_letter.cls yX5_letter yX5_letter : Cond) ∈ xAll := xt5 (i := 198) (by decide +kernel) (by decide +kernel)
theorem q_selects_X5_loss : (.selects yX5_loss.cls yX5_loss yX5_loss : Cond) ∈ xAll := xt6 (i := 94) (by decide +kernel) (by decide +kernel)
theorem q_selects_X5_number : (.selects yX5_number.cls yX5_number yX5_number : Cond) ∈ xAll := xt4 (i := 25) (by decide +kernel) (by decide +kernel)
theorem q_selects_X5_owed : (.selects yX5_owed.cls yX5_owed yX5_owed : Cond) ∈ xAll := xt2 (i := 130) (by decide +kernel) (by decide +kernel)
theorem q_selects_X5_payBack : (.selects yX5_payBack.cls yX5_payBack yX5_payBack : Cond) ∈ xAll := xt3 (i := 183) (by decide +kernel) (by decide +kernel)
theorem q_selects_X5_reserveBehind : (.selects yX5_reserveBehind.cls yX5_reserveBehind yX5_reserveBehind : Cond) ∈ xAll := xt3 (i := 173) (by decide +kernel) (by decide +kernel)
theorem q_selects_X5_sellFor : (.selects yX5_sellFor.cls yX5_sellFor yX5_sellFor : Cond) ∈ xAll := xt3 (i := 199) (by decide +kernel) (by decide +kernel)
theorem q_selects_X5_weeklyInterest : (.selects yX5_weeklyInterest.cls yX5_weeklyInterest yX5_weeklyInterest : Cond) ∈ xAll := xt2 (i := 134) (by decide +kernel) (by decide +kernel)
theorem q_selects_X6_keep : (.selects yX6_keep.cls yX6_keep yX6_keep : Cond) ∈ xAll := xt3 (i := 116) (by decide +kernel) (by decide +kernel)
theorem q_selects_X6_keepCause : (.selects yX6_keepCause.cls yX6_keepCause yX6_keepCause : Cond) ∈ xAll := xt6 (i := 62) (by decide +kernel) (by decide +kernel)
theorem q_selects_X7_tryOrders : (.selects yX7_tryOrders.cls yX7_tryOrders yX7_tryOrders : Cond) ∈ xAll := xtp (i := 4) (by decide +kernel) (by decide +kernel)
theorem q_selects_X8_account : (.selects yX8_account.cls yX8_account yX8_account : Cond) ∈ xAll := xt7 (i := 201) (by decide +kernel) (by decide +kernel)
theorem q_selects_X8_append : (.selects yX8_append.cls yX8_append yX8_append : Cond) ∈ xAll := xt7 (i := 151) (by decide +kernel) (by decide +kernel)
theorem q_selects_X8_carries : (.selects yX8_carries.cls yX8_carries yX8_carries : Cond) ∈ xAll := xtp (i := 27) (by decide +kernel) (by decide +kernel)
theorem q_selects_X8_cash : (.selects yX8_cash.cls yX8_cash yX8_cash : Cond) ∈ xAll := xt7 (i := 125) (by decide +kernel) (by decide +kernel)
theorem q_selects_X8_character : (.selects yX8_character.cls yX8_character yX8_character : Cond) ∈ xAll := xt7 (i := 147) (by decide +kernel) (by decide +kernel)
theorem q_selects_X8_claim : (.selects yX8_claim.cls yX8_claim yX8_claim : Cond) ∈ xAll := xt7 (i := 69) (by decide +kernel) (by decide +kernel)
theorem q_selects_X8_comes : (.selects yX8_comes.cls yX8_comes yX8_comes : Cond) ∈ xAll := xtp (i := 14) (by decide +kernel) (by decide +kernel)
theorem q_selects_X8_errorPosition : (.selects yX8_errorPosition.cls yX8_errorPosition yX8_errorPosition : Cond) ∈ xAll := xt7 (i := 193) (by decide +kernel) (by decide +kernel)
theorem q_selects_X8_fails : (.selects yX8_fails.cls yX8_fails yX8_fails : Cond) ∈ xAll := xtp (i := 5) (by decide +kernel) (by decide +kernel)
theorem q_selects_X8_fee : (.selects yX8_fee.cls yX8_fee yX8_fee : Cond) ∈ xAll := xt7 (i := 17) (by decide +kernel) (by decide +kernel)
theorem q_selects_X8_figures : (.selects yX8_figures.cls yX8_figures yX8_figures : Cond) ∈ xAll := xtp (i := 26) (by decide +kernel) (by decide +kernel)
theorem q_selects_X8_goesBy : (.selects yX8_goesBy.cls yX8_goesBy yX8_goesBy : Cond) ∈ xAll := xtp (i := 9) (by decide +kernel) (by decide +kernel)
theorem q_selects_X8_here : (.selects yX8_here.cls yX8_here yX8_here : Cond) ∈ xAll := xtp (i := 24) (by decide +kernel) (by decide +kernel)
theorem q_selects_X8_isNoQuote : (.selects yX8_isNoQuote.cls yX8_isNoQuote yX8_isNoQuote : Cond) ∈ xAll := xtp (i := 16) (by decide +kernel) (by decide +kernel)
theorem q_selects_X8_isOver : (.selects yX8_isOver.cls yX8_isOver yX8_isOver : Cond) ∈ xAll := xtp (i := 17) (by decide +kernel) (by decide +kernel)
theorem q_selects_X8_isText : (.selects yX8_isText.cls yX8_isText yX8_isText : Cond) ∈ xAll := xtp (i := 22) (by decide +kernel) (by decide +kernel)
theorem q_selects_X8_isTicket : (.selects yX8_isTicket.cls yX8_isTicket yX8_isTicket : Cond) ∈ xAll := xtp (i := 13) (by decide +kernel) (by decide +kernel)
theorem q_selects_X8_isWell : (.selects yX8_isWell.cls yX8_isWell yX8_isWell : Cond) ∈ xAll := xt7 (i := 129) (by decide +kernel) (by decide +kernel)
theorem q_selects_X8_keeps : (.selects yX8_keeps.cls yX8_keeps yX8_keeps : Cond) ∈ xAll := xtp (i := 7) (by decide +kernel) (by decide +kernel)
theorem q_selects_X8_lays : (.selects yX8_lays.cls yX8_lays yX8_lays : Cond) ∈ xAll := xtp (i := 8) (by decide +kernel) (by decide +kernel)
theorem q_selects_X8_leftAll : (.selects yX8_leftAll.cls yX8_leftAll yX8_leftAll : Cond) ∈ xAll := xtp (i := 29) (by decide +kernel) (by decide +kernel)
theorem q_selects_X8_lotAt : (.selects yX8_lotAt.cls yX8_lotAt yX8_lotAt : Cond) ∈ xAll := xt7 (i := 77) (by decide +kernel) (by decide +kernel)
theorem q_selects_X8_lotsIn : (.selects yX8_lotsIn.cls yX8_lotsIn yX8_lotsIn : Cond) ∈ xAll := xtp (i := 18) (by decide +kernel) (by decide +kernel)
theorem q_selects_X8_many : (.selects yX8_many.cls yX8_many yX8_many : Cond) ∈ xAll := xtp (i := 28) (by decide +kernel) (by decide +kernel)
theorem q_selects_X8_of : (.selects yX8_of.cls yX8_of yX8_of : Cond) ∈ xAll := xtp (i := 10) (by decide +kernel) (by decide +kernel)
theorem q_selects_X8_ofOwner : (.selects yX8_ofOwner.cls yX8_ofOwner yX8_ofOwner : Cond) ∈ xAll := xtp (i := 15) (by decide +kernel) (by decide +kernel)
theorem q_selects_X8_orderHere : (.selects yX8_orderHere.cls yX8_orderHere yX8_orderHere : Cond) ∈ xAll := xtp (i := 23) (by decide +kernel) (by decide +kernel)
theorem q_selects_X8_owed : (.selects yX8_owed.cls yX8_owed yX8_owed : Cond) ∈ xAll := xtp (i := 12) (by decide +kernel) (by decide +kernel)
theorem q_selects_X8_owedBy : (.selects yX8_owedBy.cls yX8_owedBy yX8_owedBy : Cond) ∈ xAll := xtp (i := 19) (by decide +kernel) (by decide +kernel)
theorem q_selects_X8_ownerOf : (.selects yX8_ownerOf.cls yX8_ownerOf yX8_ownerOf : Cond) ∈ xAll := xt7 (i := 117) (by decide +kernel) (by decide +kernel)
theorem q_selects_X8_pass : (.selects yX8_pass.cls yX8_pass yX8_pass : Cond) ∈ xAll := xt7 (i := 21) (by decide +kernel) (by decide +kernel)
theorem q_selects_X8_pay : (.selects yX8_pay.cls yX8_pay yX8_pay : Cond) ∈ xAll := xt7 (i := 53) (by decide +kernel) (by decide +kernel)
theorem q_selects_X8_pledge : (.selects yX8_pledge.cls yX8_pledge yX8_pledge : Cond) ∈ xAll := xt6 (i := 227) (by decide +kernel) (by decide +kernel)
theorem q_selects_X8_pledgeOf : (.selects yX8_pledgeOf.cls yX8_pledgeOf yX8_pledgeOf : Cond) ∈ xAll := xt7 (i := 61) (by decide +kernel) (by decide +kernel)
theorem q_selects_X8_quote : (.selects yX8_quote.cls yX8_quote yX8_quote : Cond) ∈ xAll := xt7 (i := 85) (by decide +kernel) (by decide +kernel)
theorem q_selects_X8_quoteAgain : (.selects yX8_quoteAgain.cls yX8_quoteAgain yX8_quoteAgain : Cond) ∈ xAll := xt7 (i := 97) (by decide +kernel) (by decide +kernel)
theorem q_selects_X8_ranked : (.selects yX8_ranked.cls yX8_ranked yX8_ranked : Cond) ∈ xAll := xt7 (i := 81) (by decide +kernel) (by decide +kernel)
theorem q_selects_X8_rate : (.selects yX8_rate.cls yX8_rate yX8_rate : Cond) ∈ xAll := xt7 (i := 13) (by decide +kernel) (by decide +kernel)
theorem q_selects_X8_redeem : (.selects yX8_redeem.cls yX8_redeem yX8_redeem : Cond) ∈ xAll := xt7 (i := 41) (by decide +kernel) (by decide +kernel)
theorem q_selects_X8_refusal : (.selects yX8_refusal.cls yX8_refusal yX8_refusal : Cond) ∈ xAll := xt7 (i := 197) (by decide +kernel) (by decide +kernel)
theorem q_selects_X8_refuses : (.selects yX8_refuses.cls yX8_refuses yX8_refuses : Cond) ∈ xAll := xtp (i := 6) (by decide +kernel) (by decide +kernel)
theorem q_selects_X8_renew : (.selects yX8_renew.cls yX8_renew yX8_renew : Cond) ∈ xAll := xt7 (i := 57) (by decide +kernel) (by decide +kernel)
theorem q_selects_X8_restore : (.selects yX8_restore.cls yX8_restore yX8_restore : Cond) ∈ xAll := xt7 (i := 229) (by decide +kernel) (by decide +kernel)
theorem q_selects_X8_run : (.selects yX8_run.cls yX8_run yX8_run : Cond) ∈ xAll := xt7 (i := 155) (by decide +kernel) (by decide +kernel)
theorem q_selects_X8_save : (.selects yX8_save.cls yX8_save yX8_save : Cond) ∈ xAll := xt7 (i := 225) (by decide +kernel) (by decide +kernel)
theorem q_selects_X8_sell : (.selects yX8_sell.cls yX8_sell yX8_sell : Cond) ∈ xAll := xt7 (i := 65) (by decide +kernel) (by decide +kernel)
theorem q_selects_X8_skips : (.selects yX8_skips.cls yX8_skips yX8_skips : Cond) ∈ xAll := xtp (i := 25) (by decide +kernel) (by decide +kernel)
theorem q_selects_X8_thrown : (.selects yX8_thrown.cls yX8_thrown yX8_thrown : Cond) ∈ xAll := xt6 (i := 223) (by decide +kernel) (by decide +kernel)
theorem q_selects_X8_undo : (.selects yX8_undo.cls yX8_undo yX8_undo : Cond) ∈ xAll := xt7 (i := 221) (by decide +kernel) (by decide +kernel)
theorem q_selects_X8_weekly : (.selects yX8_weekly.cls yX8_weekly yX8_weekly : Cond) ∈ xAll := xtp (i := 11) (by decide +kernel) (by decide +kernel)
theorem q_selects_X8_willBeLots : (.selects yX8_willBeLots.cls yX8_willBeLots yX8_willBeLots : Cond) ∈ xAll := xt7 (i := 101) (by decide +kernel) (by decide +kernel)
theorem q_selects_X8_willBeLotsAgain : (.selects yX8_willBeLotsAgain.cls yX8_willBeLotsAgain yX8_willBeLotsAgain : Cond) ∈ xAll := xt7 (i := 109) (by decide +kernel) (by decide +kernel)
theorem q_selects_X8_willReserve : (.selects yX8_willReserve.cls yX8_willReserve yX8_willReserve : Cond) ∈ xAll := xt7 (i := 113) (by decide +kernel) (by decide +kernel)
theorem q_selects_X8_writes : (.selects yX8_writes.cls yX8_writes yX8_writes : Cond) ∈ xAll := xtp (i := 20) (by decide +kernel) (by decide +kernel)
theorem q_selects_X8_writesNumber : (.selects yX8_writesNumber.cls yX8_writesNumber yX8_writesNumber : Cond) ∈ xAll := xtp (i := 21) (by decide +kernel) (by decide +kernel)
theorem q_static_X3_isDigit : (.static yX3_isDigit : Cond) ∈ xAll := xt6 (i := 40) (by decide +kernel) (by decide +kernel)
theorem q_static_X7_isOwner : (.static yX7_isOwner : Cond) ∈ xAll := xt3 (i := 34) (by decide +kernel) (by decide +kernel)
theorem q_static_X8_copies : (.static yX8_copies : Cond) ∈ xAll := xt7 (i := 5) (by decide +kernel) (by decide +kernel)
theorem q_static_X8_in : (.static yX8_in : Cond) ∈ xAll := xt6 (i := 230) (by decide +kernel) (by decide +kernel)
theorem q_static_X8_lastOf : (.static yX8_lastOf : Cond) ∈ xAll := xt7 (i := 189) (by decide +kernel) (by decide +kernel)
theorem fdX4_begin : xFd yX4_begin cX4_begin 2 none 1 := ⟨q_instanceMethod_X4_begin, q_selects_X4_begin, q_initialized_X4, q_code_X4_begin, by decide +kernel⟩
theorem fdX4_add : xFd yX4_add cX4_add 2 none 1 := ⟨q_instanceMethod_X4_add, q_selects_X4_add, q_initialized_X4, q_code_X4_add, by decide +kernel⟩
theorem fdX5_begin : xFd yX5_begin cX5_begin 4 none 3 := ⟨q_instanceMethod_X5_begin, q_selects_X5_begin, q_initialized_X5, q_code_X5_begin, by decide +kernel⟩
theorem fdX5_copyFrom : xFd yX5_copyFrom cX5_copyFrom 2 none 1 := ⟨q_instanceMethod_X5_copyFrom, q_selects_X5_copyFrom, q_initialized_X5, q_code_X5_copyFrom, by decide +kernel⟩
theorem fdX5_number : xFd yX5_number cX5_number 2 (some .int) 1 := ⟨q_instanceMethod_X5_number, q_selects_X5_number, q_initialized_X5, q_code_X5_number, by decide +kernel⟩
theorem fdX5_owed : xFd yX5_owed cX5_owed 1 (some .int) 0 := ⟨q_instanceMethod_X5_owed, q_selects_X5_owed, q_initialized_X5, q_code_X5_owed, by decide +kernel⟩
theorem fdX5_weeklyInterest : xFd yX5_weeklyInterest cX5_weeklyInterest 1 (some .int) 0 := ⟨q_instanceMethod_X5_weeklyInterest, q_selects_X5_weeklyInterest, q_initialized_X5, q_code_X5_weeklyInterest, by decide +kernel⟩
theorem fdX5_isRunningIn : xFd yX5_isRunningIn cX5_isRunningIn 2 (some .boolean) 1 := ⟨q_instanceMethod_X5_isRunningIn, q_selects_X5_isRunningIn, q_initialized_X5, q_code_X5_isRunningIn, by decide +kernel⟩
theorem fdX5_costBehind : xFd yX5_costBehind cX5_costBehind 2 (some .int) 1 := ⟨q_instanceMethod_X5_costBehind, q_selects_X5_costBehind, q_initialized_X5, q_code_X5_costBehind, by decide +kernel⟩
theorem fdX5_costWeekByWeek : xFd yX5_costWeekByWeek cX5_costWeekByWeek 5 (some .int) 2 := ⟨q_instanceMethod_X5_costWeekByWeek, q_selects_X5_costWeekByWeek, q_initialized_X5, q_code_X5_costWeekByWeek, by decide +kernel⟩
theorem fdX5_reserveBehind : xFd yX5_reserveBehind cX5_reserveBehind 4 (some .int) 1 := ⟨q_instanceMethod_X5_reserveBehind, q_selects_X5_reserveBehind, q_initialized_X5, q_code_X5_reserveBehind, by decide +kernel⟩
theorem fdX5_becomesLotAtEndOf : xFd yX5_becomesLotAtEndOf cX5_becomesLotAtEndOf 3 (some .boolean) 2 := ⟨q_instanceMethod_X5_becomesLotAtEndOf, q_selects_X5_becomesLotAtEndOf, q_initialized_X5, q_code_X5_becomesLotAtEndOf, by decide +kernel⟩
theorem fdX5_payBack : xFd yX5_payBack cX5_payBack 3 (some .int) 1 := ⟨q_instanceMethod_X5_payBack, q_selects_X5_payBack, q_initialized_X5, q_code_X5_payBack, by decide +kernel⟩
theorem fdX5_sellFor : xFd yX5_sellFor cX5_sellFor 2 (some .int) 1 := ⟨q_instanceMethod_X5_sellFor, q_selects_X5_sellFor, q_initialized_X5, q_code_X5_sellFor, by decide +kernel⟩
theorem fdX5_loss : xFd yX5_loss cX5_loss 1 (some .int) 0 := ⟨q_instanceMethod_X5_loss, q_selects_X5_loss, q_initialized_X5, q_code_X5_loss, by decide +kernel⟩
theorem fdX5_letter : xFd yX5_letter cX5_letter 1 (some .char) 0 := ⟨q_instanceMethod_X5_letter, q_selects_X5_letter, q_initialized_X5, q_code_X5_letter, by decide +kernel⟩
theorem fdX6_keep : xFd yX6_keep cX6_keep 3 none 2 := ⟨q_instanceMethod_X6_keep, q_selects_X6_keep, q_initialized_X6, q_code_X6_keep, by decide +kernel⟩
theorem fdX6_keepCause : xFd yX6_keepCause cX6_keepCause 3 none 2 := ⟨q_instanceMethod_X6_keepCause, q_selects_X6_keepCause, q_initialized_X6, q_code_X6_keepCause, by decide +kernel⟩
theorem fdX0_copyFrom : xFd yX0_copyFrom cX0_copyFrom 3 none 1 := ⟨q_instanceMethod_X0_copyFrom, q_selects_X0_copyFrom, q_initialized_X0, q_code_X0_copyFrom, by decide +kernel⟩
theorem fdX0_hasTicket : xFd yX0_hasTicket cX0_hasTicket 2 (some .boolean) 1 := ⟨q_instanceMethod_X0_hasTicket, q_selects_X0_hasTicket, q_initialized_X0, q_code_X0_hasTicket, by decide +kernel⟩
theorem fdX0_lend : xFd yX0_lend cX0_lend 3 (some .int) 1 := ⟨q_instanceMethod_X0_lend, q_selects_X0_lend, q_initialized_X0, q_code_X0_lend, by decide +kernel⟩
theorem fdX0_changeRate : xFd yX0_changeRate cX0_changeRate 3 (some .int) 1 := ⟨q_instanceMethod_X0_changeRate, q_selects_X0_changeRate, q_initialized_X0, q_code_X0_changeRate, by decide +kernel⟩
theorem fdX0_changeFee : xFd yX0_changeFee cX0_changeFee 3 (some .int) 1 := ⟨q_instanceMethod_X0_changeFee, q_selects_X0_changeFee, q_initialized_X0, q_code_X0_changeFee, by decide +kernel⟩
theorem fdX0_endWeek : xFd yX0_endWeek cX0_endWeek 3 (some .int) 0 := ⟨q_instanceMethod_X0_endWeek, q_selects_X0_endWeek, q_initialized_X0, q_code_X0_endWeek, by decide +kernel⟩
theorem fdX0_endWeeks : xFd yX0_endWeeks cX0_endWeeks 4 (some .int) 1 := ⟨q_instanceMethod_X0_endWeeks, q_selects_X0_endWeeks, q_initialized_X0, q_code_X0_endWeeks, by decide +kernel⟩
theorem fdX0_giveBack : xFd yX0_giveBack cX0_giveBack 3 (some .int) 1 := ⟨q_instanceMethod_X0_giveBack, q_selects_X0_giveBack, q_initialized_X0, q_code_X0_giveBack, by decide +kernel⟩
theorem fdX0_takePart : xFd yX0_takePart cX0_takePart 3 (some .int) 2 := ⟨q_instanceMethod_X0_takePart, q_selects_X0_takePart, q_initialized_X0, q_code_X0_takePart, by decide +kernel⟩
theorem fdX0_beginAnew : xFd yX0_beginAnew cX0_beginAnew 3 (some .int) 1 := ⟨q_instanceMethod_X0_beginAnew, q_selects_X0_beginAnew, q_initialized_X0, q_code_X0_beginAnew, by decide +kernel⟩
theorem fdX0_sellLot : xFd yX0_sellLot cX0_sellLot 4 (some .int) 2 := ⟨q_instanceMethod_X0_sellLot, q_selects_X0_sellLot, q_initialized_X0, q_code_X0_sellLot, by decide +kernel⟩
theorem fdX0_payOut : xFd yX0_payOut cX0_payOut 3 (some .int) 1 := ⟨q_instanceMethod_X0_payOut, q_selects_X0_payOut, q_initialized_X0, q_code_X0_payOut, by decide +kernel⟩
theorem fdX0_isAhead : xFd yX0_isAhead cX0_isAhead 5 (some .boolean) 3 := ⟨q_instanceMethod_X0_isAhead, q_selects_X0_isAhead, q_initialized_X0, q_code_X0_isAhead, by decide +kernel⟩
theorem fdX0_lotsAheadOf : xFd yX0_lotsAheadOf cX0_lotsAheadOf 5 (some .int) 2 := ⟨q_instanceMethod_X0_lotsAheadOf, q_selects_X0_lotsAheadOf, q_initialized_X0, q_code_X0_lotsAheadOf, by decide +kernel⟩
theorem fdX0_lotInPlace : xFd yX0_lotInPlace cX0_lotInPlace 4 (some .int) 2 := ⟨q_instanceMethod_X0_lotInPlace, q_selects_X0_lotInPlace, q_initialized_X0, q_code_X0_lotInPlace, by decide +kernel⟩
theorem fdX0_lotsByTerms : xFd yX0_lotsByTerms cX0_lotsByTerms 4 (some .int) 1 := ⟨q_instanceMethod_X0_lotsByTerms, q_selects_X0_lotsByTerms, q_initialized_X0, q_code_X0_lotsByTerms, by decide +kernel⟩
theorem fdX0_lotsWeekByWeek : xFd yX0_lotsWeekByWeek cX0_lotsWeekByWeek 5 (some .int) 1 := ⟨q_instanceMethod_X0_lotsWeekByWeek, q_selects_X0_lotsWeekByWeek, q_initialized_X0, q_code_X0_lotsWeekByWeek, by decide +kernel⟩
theorem fdX0_isCostTheSame : xFd yX0_isCostTheSame cX0_isCostTheSame 3 (some .boolean) 1 := ⟨q_instanceMethod_X0_isCostTheSame, q_selects_X0_isCostTheSame, q_initialized_X0, q_code_X0_isCostTheSame, by decide +kernel⟩
theorem fdX0_sumOfRunningLoans : xFd yX0_sumOfRunningLoans cX0_sumOfRunningLoans 3 (some .int) 0 := ⟨q_instanceMethod_X0_sumOfRunningLoans, q_selects_X0_sumOfRunningLoans, q_initialized_X0, q_code_X0_sumOfRunningLoans, by decide +kernel⟩
theorem fdX0_sumOfLent : xFd yX0_sumOfLent cX0_sumOfLent 3 (some .int) 0 := ⟨q_instanceMethod_X0_sumOfLent, q_selects_X0_sumOfLent, q_initialized_X0, q_code_X0_sumOfLent, by decide +kernel⟩
theorem fdX0_sumOfPaid : xFd yX0_sumOfPaid cX0_sumOfPaid 3 (some .int) 0 := ⟨q_instanceMethod_X0_sumOfPaid, q_selects_X0_sumOfPaid, q_initialized_X0, q_code_X0_sumOfPaid, by decide +kernel⟩
theorem fdX0_sumOfPrices : xFd yX0_sumOfPrices cX0_sumOfPrices 3 (some .int) 0 := ⟨q_instanceMethod_X0_sumOfPrices, q_selects_X0_sumOfPrices, q_initialized_X0, q_code_X0_sumOfPrices, by decide +kernel⟩
theorem fdX0_sumOfLosses : xFd yX0_sumOfLosses cX0_sumOfLosses 3 (some .int) 0 := ⟨q_instanceMethod_X0_sumOfLosses, q_selects_X0_sumOfLosses, q_initialized_X0, q_code_X0_sumOfLosses, by decide +kernel⟩
theorem fdX0_sumOfClaimed : xFd yX0_sumOfClaimed cX0_sumOfClaimed 3 (some .int) 0 := ⟨q_instanceMethod_X0_sumOfClaimed, q_selects_X0_sumOfClaimed, q_initialized_X0, q_code_X0_sumOfClaimed, by decide +kernel⟩
theorem fdX0_sumOfLeft : xFd yX0_sumOfLeft cX0_sumOfLeft 3 (some .int) 0 := ⟨q_instanceMethod_X0_sumOfLeft, q_selects_X0_sumOfLeft, q_initialized_X0, q_code_X0_sumOfLeft, by decide +kernel⟩
theorem fdX0_cashFromAccounts : xFd yX0_cashFromAccounts cX0_cashFromAccounts 1 (some .int) 0 := ⟨q_instanceMethod_X0_cashFromAccounts, q_selects_X0_cashFromAccounts, q_initialized_X0, q_code_X0_cashFromAccounts, by decide +kernel⟩
theorem fdX0_countOf : xFd yX0_countOf cX0_countOf 5 (some .int) 2 := ⟨q_instanceMethod_X0_countOf, q_selects_X0_countOf, q_initialized_X0, q_code_X0_countOf, by decide +kernel⟩
theorem fdX0_owedBy : xFd yX0_owedBy cX0_owedBy 4 (some .int) 1 := ⟨q_instanceMethod_X0_owedBy, q_selects_X0_owedBy, q_initialized_X0, q_code_X0_owedBy, by decide +kernel⟩
theorem fdX0_carryOut : xFd yX0_carryOut cX0_carryOut 2 (some .int) 1 := ⟨q_instanceMethod_X0_carryOut, q_selects_X0_carryOut, q_initialized_X0, q_code_X0_carryOut, by decide +kernel⟩
theorem fdX3_take : xFd yX3_take cX3_take 2 (some .boolean) 1 := ⟨q_instanceMethod_X3_take, q_selects_X3_take, q_initialized_X3, q_code_X3_take, by decide +kernel⟩
theorem fdX3_empty : xFd yX3_empty cX3_empty 1 none 0 := ⟨q_instanceMethod_X3_empty, q_selects_X3_empty, q_initialized_X3, q_code_X3_empty, by decide +kernel⟩
theorem fdX3_isDigit : xFs yX3_isDigit cX3_isDigit 1 (some .boolean) 1 := ⟨q_static_X3_isDigit, q_initialized_X3, q_code_X3_isDigit, by decide +kernel⟩
theorem fdX3_readSign : xFd yX3_readSign cX3_readSign 2 (some .boolean) 1 := ⟨q_instanceMethod_X3_readSign, q_selects_X3_readSign, q_initialized_X3, q_code_X3_readSign, by decide +kernel⟩
theorem fdX3_readNumber : xFd yX3_readNumber cX3_readNumber 4 (some .int) 1 := ⟨q_instanceMethod_X3_readNumber, q_selects_X3_readNumber, q_initialized_X3, q_code_X3_readNumber, by decide +kernel⟩
theorem fdX3_readPart : xFd yX3_readPart cX3_readPart 4 (some .boolean) 2 := ⟨q_instanceMethod_X3_readPart, q_selects_X3_readPart, q_initialized_X3, q_code_X3_readPart, by decide +kernel⟩
theorem fdX2_keep : xFd yX2_keep cX2_keep 2 none 1 := ⟨q_instanceMethod_X2_keep, q_selects_X2_keep, q_initialized_X2, q_code_X2_keep, by decide +kernel⟩
theorem fdX2_takeBack : xFd yX2_takeBack cX2_takeBack 2 none 1 := ⟨q_instanceMethod_X2_takeBack, q_selects_X2_takeBack, q_initialized_X2, q_code_X2_takeBack, by decide +kernel⟩
theorem fdX2_forget : xFd yX2_forget cX2_forget 1 none 0 := ⟨q_instanceMethod_X2_forget, q_selects_X2_forget, q_initialized_X2, q_code_X2_forget, by decide +kernel⟩
theorem fdX7_isOwner : xFs yX7_isOwner cX7_isOwner 1 (some .boolean) 1 := ⟨q_static_X7_isOwner, q_initialized_X7, q_code_X7_isOwner, by decide +kernel⟩
theorem fdX1_refuse : xFd yX1_refuse cX1_refuse 3 (some .int) 2 := ⟨q_instanceMethod_X1_refuse, q_selects_X1_refuse, q_initialized_X1, q_code_X1_refuse, by decide +kernel⟩
theorem fdX1_examineSetting : xFd yX1_examineSetting cX1_examineSetting 5 (some .int) 4 := ⟨q_instanceMethod_X1_examineSetting, q_selects_X1_examineSetting, q_initialized_X1, q_code_X1_examineSetting, by decide +kernel⟩
theorem fdX1_examineSale : xFd yX1_examineSale cX1_examineSale 3 (some .int) 2 := ⟨q_instanceMethod_X1_examineSale, q_selects_X1_examineSale, q_initialized_X1, q_code_X1_examineSale, by decide +kernel⟩
theorem fdX1_examinePledge : xFd yX1_examinePledge cX1_examinePledge 4 (some .int) 2 := ⟨q_instanceMethod_X1_examinePledge, q_selects_X1_examinePledge, q_initialized_X1, q_code_X1_examinePledge, by decide +kernel⟩
theorem fdX1_examineClaim : xFd yX1_examineClaim cX1_examineClaim 3 (some .int) 2 := ⟨q_instanceMethod_X1_examineClaim, q_selects_X1_examineClaim, q_initialized_X1, q_code_X1_examineClaim, by decide +kernel⟩
theorem fdX1_examineTicket : xFd yX1_examineTicket cX1_examineTicket 4 (some .int) 2 := ⟨q_instanceMethod_X1_examineTicket, q_selects_X1_examineTicket, q_initialized_X1, q_code_X1_examineTicket, by decide +kernel⟩
theorem fdX1_examine : xFd yX1_examine cX1_examine 3 (some .int) 2 := ⟨q_instanceMethod_X1_examine, q_selects_X1_examine, q_initialized_X1, q_code_X1_examine, by decide +kernel⟩
theorem fdX7_tryOrders : xFd yX7_tryOrders cX7_tryOrders 3 (some .int) 0 := ⟨q_instanceMethod_X7_tryOrders, q_selects_X7_tryOrders, q_initialized_X7, q_code_X7_tryOrders, by decide +kernel⟩
theorem fdX8_thrown : xFd yX8_thrown cX8_thrown 1 (some .int) 0 := ⟨q_instanceMethod_X8_thrown, q_selects_X8_thrown, q_initialized_X8, q_code_X8_thrown, by decide +kernel⟩
theorem fdX8_in : xFs yX8_in cX8_in 3 (some .boolean) 3 := ⟨q_static_X8_in, q_initialized_X8, q_code_X8_in, by decide +kernel⟩
theorem fdX8_fails : xFd yX8_fails cX8_fails 2 (some .boolean) 1 := ⟨q_instanceMethod_X8_fails, q_selects_X8_fails, q_initialized_X8, q_code_X8_fails, by decide +kernel⟩
theorem fdX8_refuses : xFd yX8_refuses cX8_refuses 4 (some .int) 3 := ⟨q_instanceMethod_X8_refuses, q_selects_X8_refuses, q_initialized_X8, q_code_X8_refuses, by decide +kernel⟩
theorem fdX8_copies : xFs yX8_copies cX8_copies 5 none 4 := ⟨q_static_X8_copies, q_initialized_X8, q_code_X8_copies, by decide +kernel⟩
theorem fdX8_keeps : xFd yX8_keeps cX8_keeps 3 none 1 := ⟨q_instanceMethod_X8_keeps, q_selects_X8_keeps, q_initialized_X8, q_code_X8_keeps, by decide +kernel⟩
theorem fdX8_isTicket : xFd yX8_isTicket cX8_isTicket 2 (some .boolean) 1 := ⟨q_instanceMethod_X8_isTicket, q_selects_X8_isTicket, q_initialized_X8, q_code_X8_isTicket, by decide +kernel⟩
theorem fdX8_of : xFd yX8_of cX8_of 3 (some .int) 2 := ⟨q_instanceMethod_X8_of, q_selects_X8_of, q_initialized_X8, q_code_X8_of, by decide +kernel⟩
theorem fdX8_lays : xFd yX8_lays cX8_lays 4 none 3 := ⟨q_instanceMethod_X8_lays, q_selects_X8_lays, q_initialized_X8, q_code_X8_lays, by decide +kernel⟩
theorem fdX8_owed : xFd yX8_owed cX8_owed 2 (some .int) 1 := ⟨q_instanceMethod_X8_owed, q_selects_X8_owed, q_initialized_X8, q_code_X8_owed, by decide +kernel⟩
theorem fdX8_weekly : xFd yX8_weekly cX8_weekly 2 (some .int) 1 := ⟨q_instanceMethod_X8_weekly, q_selects_X8_weekly, q_initialized_X8, q_code_X8_weekly, by decide +kernel⟩
theorem fdX8_many : xFd yX8_many cX8_many 4 (some .int) 1 := ⟨q_instanceMethod_X8_many, q_selects_X8_many, q_initialized_X8, q_code_X8_many, by decide +kernel⟩
theorem fdX8_pledge : xFd yX8_pledge cX8_pledge 6 (some .int) 3 := ⟨q_instanceMethod_X8_pledge, q_selects_X8_pledge, q_initialized_X8, q_code_X8_pledge, by decide +kernel⟩
theorem fdX8_rate : xFd yX8_rate cX8_rate 3 (some .int) 1 := ⟨q_instanceMethod_X8_rate, q_selects_X8_rate, q_initialized_X8, q_code_X8_rate, by decide +kernel⟩
theorem fdX8_fee : xFd yX8_fee cX8_fee 3 (some .int) 1 := ⟨q_instanceMethod_X8_fee, q_selects_X8_fee, q_initialized_X8, q_code_X8_fee, by decide +kernel⟩
theorem fdX8_goesBy : xFd yX8_goesBy cX8_goesBy 3 (some .int) 0 := ⟨q_instanceMethod_X8_goesBy, q_selects_X8_goesBy, q_initialized_X8, q_code_X8_goesBy, by decide +kernel⟩
theorem fdX8_pass : xFd yX8_pass cX8_pass 4 (some .int) 1 := ⟨q_instanceMethod_X8_pass, q_selects_X8_pass, q_initialized_X8, q_code_X8_pass, by decide +kernel⟩
theorem fdX8_comes : xFd yX8_comes cX8_comes 3 none 2 := ⟨q_instanceMethod_X8_comes, q_selects_X8_comes, q_initialized_X8, q_code_X8_comes, by decide +kernel⟩
theorem fdX8_redeem : xFd yX8_redeem cX8_redeem 3 (some .int) 1 := ⟨q_instanceMethod_X8_redeem, q_selects_X8_redeem, q_initialized_X8, q_code_X8_redeem, by decide +kernel⟩
theorem fdX8_pay : xFd yX8_pay cX8_pay 4 (some .int) 2 := ⟨q_instanceMethod_X8_pay, q_selects_X8_pay, q_initialized_X8, q_code_X8_pay, by decide +kernel⟩
theorem fdX8_renew : xFd yX8_renew cX8_renew 3 (some .int) 1 := ⟨q_instanceMethod_X8_renew, q_selects_X8_renew, q_initialized_X8, q_code_X8_renew, by decide +kernel⟩
theorem fdX8_pledgeOf : xFd yX8_pledgeOf cX8_pledgeOf 3 (some .int) 2 := ⟨q_instanceMethod_X8_pledgeOf, q_selects_X8_pledgeOf, q_initialized_X8, q_code_X8_pledgeOf, by decide +kernel⟩
theorem fdX8_sell : xFd yX8_sell cX8_sell 4 (some .int) 2 := ⟨q_instanceMethod_X8_sell, q_selects_X8_sell, q_initialized_X8, q_code_X8_sell, by decide +kernel⟩
theorem fdX8_ofOwner : xFd yX8_ofOwner cX8_ofOwner 5 (some .int) 2 := ⟨q_instanceMethod_X8_ofOwner, q_selects_X8_ofOwner, q_initialized_X8, q_code_X8_ofOwner, by decide +kernel⟩
theorem fdX8_claim : xFd yX8_claim cX8_claim 3 (some .int) 1 := ⟨q_instanceMethod_X8_claim, q_selects_X8_claim, q_initialized_X8, q_code_X8_claim, by decide +kernel⟩
theorem fdX8_lotAt : xFd yX8_lotAt cX8_lotAt 5 (some .int) 1 := ⟨q_instanceMethod_X8_lotAt, q_selects_X8_lotAt, q_initialized_X8, q_code_X8_lotAt, by decide +kernel⟩
theorem fdX8_ranked : xFd yX8_ranked cX8_ranked 5 (some .int) 1 := ⟨q_instanceMethod_X8_ranked, q_selects_X8_ranked, q_initialized_X8, q_code_X8_ranked, by decide +kernel⟩
theorem fdX8_isOver : xFd yX8_isOver cX8_isOver 3 (some .boolean) 2 := ⟨q_instanceMethod_X8_isOver, q_selects_X8_isOver, q_initialized_X8, q_code_X8_isOver, by decide +kernel⟩
theorem fdX8_isNoQuote : xFd yX8_isNoQuote cX8_isNoQuote 3 (some .boolean) 2 := ⟨q_instanceMethod_X8_isNoQuote, q_selects_X8_isNoQuote, q_initialized_X8, q_code_X8_isNoQuote, by decide +kernel⟩
theorem fdX8_quote : xFd yX8_quote cX8_quote 3 (some .int) 2 := ⟨q_instanceMethod_X8_quote, q_selects_X8_quote, q_initialized_X8, q_code_X8_quote, by decide +kernel⟩
theorem fdX8_quoteAgain : xFd yX8_quoteAgain cX8_quoteAgain 5 (some .int) 2 := ⟨q_instanceMethod_X8_quoteAgain, q_selects_X8_quoteAgain, q_initialized_X8, q_code_X8_quoteAgain, by decide +kernel⟩
theorem fdX8_lotsIn : xFd yX8_lotsIn cX8_lotsIn 4 (some .int) 1 := ⟨q_instanceMethod_X8_lotsIn, q_selects_X8_lotsIn, q_initialized_X8, q_code_X8_lotsIn, by decide +kernel⟩
theorem fdX8_willBeLots : xFd yX8_willBeLots cX8_willBeLots 2 (some .int) 1 := ⟨q_instanceMethod_X8_willBeLots, q_selects_X8_willBeLots, q_initialized_X8, q_code_X8_willBeLots, by decide +kernel⟩
theorem fdX8_willBeLotsAgain : xFd yX8_willBeLotsAgain cX8_willBeLotsAgain 2 (some .int) 1 := ⟨q_instanceMethod_X8_willBeLotsAgain, q_selects_X8_willBeLotsAgain, q_initialized_X8, q_code_X8_willBeLotsAgain, by decide +kernel⟩
theorem fdX8_willReserve : xFd yX8_willReserve cX8_willReserve 5 (some .int) 2 := ⟨q_instanceMethod_X8_willReserve, q_selects_X8_willReserve, q_initialized_X8, q_code_X8_willReserve, by decide +kernel⟩
theorem fdX8_owedBy : xFd yX8_owedBy cX8_owedBy 4 (some .int) 1 := ⟨q_instanceMethod_X8_owedBy, q_selects_X8_owedBy, q_initialized_X8, q_code_X8_owedBy, by decide +kernel⟩
theorem fdX8_ownerOf : xFd yX8_ownerOf cX8_ownerOf 3 (some .int) 2 := ⟨q_instanceMethod_X8_ownerOf, q_selects_X8_ownerOf, q_initialized_X8, q_code_X8_ownerOf, by decide +kernel⟩
theorem fdX8_cash : xFd yX8_cash cX8_cash 2 (some .int) 1 := ⟨q_instanceMethod_X8_cash, q_selects_X8_cash, q_initialized_X8, q_code_X8_cash, by decide +kernel⟩
theorem fdX8_isWell : xFd yX8_isWell cX8_isWell 1 (some .boolean) 0 := ⟨q_instanceMethod_X8_isWell, q_selects_X8_isWell, q_initialized_X8, q_code_X8_isWell, by decide +kernel⟩
theorem fdX8_writes : xFd yX8_writes cX8_writes 2 none 1 := ⟨q_instanceMethod_X8_writes, q_selects_X8_writes, q_initialized_X8, q_code_X8_writes, by decide +kernel⟩
theorem fdX8_writesNumber : xFd yX8_writesNumber cX8_writesNumber 3 none 1 := ⟨q_instanceMethod_X8_writesNumber, q_selects_X8_writesNumber, q_initialized_X8, q_code_X8_writesNumber, by decide +kernel⟩
theorem fdX8_character : xFd yX8_character cX8_character 2 (some .char) 1 := ⟨q_instanceMethod_X8_character, q_selects_X8_character, q_initialized_X8, q_code_X8_character, by decide +kernel⟩
theorem fdX8_append : xFd yX8_append cX8_append 2 (some .int) 1 := ⟨q_instanceMethod_X8_append, q_selects_X8_append, q_initialized_X8, q_code_X8_append, by decide +kernel⟩
theorem fdX8_here : xFd yX8_here cX8_here 1 (some .int) 0 := ⟨q_instanceMethod_X8_here, q_selects_X8_here, q_initialized_X8, q_code_X8_here, by decide +kernel⟩
theorem fdX8_skips : xFd yX8_skips cX8_skips 2 (some .boolean) 1 := ⟨q_instanceMethod_X8_skips, q_selects_X8_skips, q_initialized_X8, q_code_X8_skips, by decide +kernel⟩
theorem fdX8_figures : xFd yX8_figures cX8_figures 4 (some .boolean) 2 := ⟨q_instanceMethod_X8_figures, q_selects_X8_figures, q_initialized_X8, q_code_X8_figures, by decide +kernel⟩
theorem fdX8_orderHere : xFd yX8_orderHere cX8_orderHere 2 (some .boolean) 0 := ⟨q_instanceMethod_X8_orderHere, q_selects_X8_orderHere, q_initialized_X8, q_code_X8_orderHere, by decide +kernel⟩
theorem fdX8_isText : xFd yX8_isText cX8_isText 1 (some .boolean) 0 := ⟨q_instanceMethod_X8_isText, q_selects_X8_isText, q_initialized_X8, q_code_X8_isText, by decide +kernel⟩
theorem fdX8_carries : xFd yX8_carries cX8_carries 2 (some .int) 1 := ⟨q_instanceMethod_X8_carries, q_selects_X8_carries, q_initialized_X8, q_code_X8_carries, by decide +kernel⟩
theorem fdX8_lastOf : xFs yX8_lastOf cX8_lastOf 1 (some .int) 1 := ⟨q_static_X8_lastOf, q_initialized_X8, q_code_X8_lastOf, by decide +kernel⟩
theorem fdX8_run : xFd yX8_run cX8_run 7 (some .int) 0 := ⟨q_instanceMethod_X8_run, q_selects_X8_run, q_initialized_X8, q_code_X8_run, by decide +kernel⟩
theorem fdX8_errorPosition : xFd yX8_errorPosition cX8_errorPosition 1 (some .int) 0 := ⟨q_instanceMethod_X8_errorPosition, q_selects_X8_errorPosition, q_initialized_X8, q_code_X8_errorPosition, by decide +kernel⟩
theorem fdX8_refusal : xFd yX8_refusal cX8_refusal 3 (some .int) 2 := ⟨q_instanceMethod_X8_refusal, q_selects_X8_refusal, q_initialized_X8, q_code_X8_refusal, by decide +kernel⟩
theorem fdX8_leftAll : xFd yX8_leftAll cX8_leftAll 3 (some .int) 0 := ⟨q_instanceMethod_X8_leftAll, q_selects_X8_leftAll, q_initialized_X8, q_code_X8_leftAll, by decide +kernel⟩
theorem fdX8_account : xFd yX8_account cX8_account 2 (some .int) 1 := ⟨q_instanceMethod_X8_account, q_selects_X8_account, q_initialized_X8, q_code_X8_account, by decide +kernel⟩
theorem fdX8_undo : xFd yX8_undo cX8_undo 1 (some .int) 0 := ⟨q_instanceMethod_X8_undo, q_selects_X8_undo, q_initialized_X8, q_code_X8_undo, by decide +kernel⟩
theorem fdX8_save : xFd yX8_save cX8_save 1 (some .int) 0 := ⟨q_instanceMethod_X8_save, q_selects_X8_save, q_initialized_X8, q_code_X8_save, by decide +kernel⟩
theorem fdX8_restore : xFd yX8_restore cX8_restore 1 (some .int) 0 := ⟨q_instanceMethod_X8_restore, q_selects_X8_restore, q_initialized_X8, q_code_X8_restore, by decide +kernel⟩
