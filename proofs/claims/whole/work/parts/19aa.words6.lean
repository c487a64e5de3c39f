theorem tn_12 : (12 : Int32).toNatClampNeg = 12 := by decide
theorem vl_12 {N : Nat} (h : 12 < N) : vp_in (12 : Int32) N := xlitin tn_12 (by decide) h
theorem tn_13 : (13 : Int32).toNatClampNeg = 13 := by decide
theorem vl_13 {N : Nat} (h : 13 < N) : vp_in (13 : Int32) N := xlitin tn_13 (by decide) h
theorem tn_14 : (14 : Int32).toNatClampNeg = 14 := by decide
theorem vl_14 {N : Nat} (h : 14 < N) : vp_in (14 : Int32) N := xlitin tn_14 (by decide) h
theorem tn_15 : (15 : Int32).toNatClampNeg = 15 := by decide
theorem vl_15 {N : Nat} (h : 15 < N) : vp_in (15 : Int32) N := xlitin tn_15 (by decide) h
theorem tn_16 : (16 : Int32).toNatClampNeg = 16 := by decide
theorem vl_16 {N : Nat} (h : 16 < N) : vp_in (16 : Int32) N := xlitin tn_16 (by decide) h
theorem tn_17 : (17 : Int32).toNatClampNeg = 17 := by decide
theorem vl_17 {N : Nat} (h : 17 < N) : vp_in (17 : Int32) N := xlitin tn_17 (by decide) h
theorem ks_255 : (Int16.ofInt (255)).toInt32 = (255 : Int32) := by decide
theorem ti_100 : ((100 : Int32)).toInt = 100 := by decide
theorem ti_101 : ((101 : Int32)).toInt = 101 := by decide
theorem ti_103 : ((103 : Int32)).toInt = 103 := by decide
theorem ti_104 : ((104 : Int32)).toInt = 104 := by decide
theorem ti_105 : ((105 : Int32)).toInt = 105 := by decide
theorem ti_106 : ((106 : Int32)).toInt = 106 := by decide
theorem ti_107 : ((107 : Int32)).toInt = 107 := by decide
theorem ti_108 : ((108 : Int32)).toInt = 108 := by decide
theorem ti_109 : ((109 : Int32)).toInt = 109 := by decide
theorem ti_111 : ((111 : Int32)).toInt = 111 := by decide
theorem ti_113 : ((113 : Int32)).toInt = 113 := by decide
theorem ti_116 : ((116 : Int32)).toInt = 116 := by decide
theorem ti_117 : ((117 : Int32)).toInt = 117 := by decide
theorem ti_118 : ((118 : Int32)).toInt = 118 := by decide
theorem ti_120 : ((120 : Int32)).toInt = 120 := by decide
theorem q_code_J0_charAt_5068e : (.code yJ0_charAt_5068e cJ0_charAt_5068e 2 (some .char) : Cond) ∈ xAll := xt6 (i := 23) (by decide +kernel) (by decide +kernel)
theorem q_code_J0_checkIndex_df160 : (.code yJ0_checkIndex_df160 cJ0_checkIndex_df160 2 none : Cond) ∈ xAll := xt5 (i := 185) (by decide +kernel) (by decide +kernel)
theorem q_code_J0_coder_7d493 : (.code yJ0_coder_7d493 cJ0_coder_7d493 1 (some .byte) : Cond) ∈ xAll := xt5 (i := 9) (by decide +kernel) (by decide +kernel)
theorem q_code_J0_isEmpty_aae02 : (.code yJ0_isEmpty_aae02 cJ0_isEmpty_aae02 1 (some .boolean) : Cond) ∈ xAll := xt6 (i := 17) (by decide +kernel) (by decide +kernel)
theorem q_code_J0_isLatin1_aae02 : (.code yJ0_isLatin1_aae02 cJ0_isLatin1_aae02 1 (some .boolean) : Cond) ∈ xAll := xt6 (i := 27) (by decide +kernel) (by decide +kernel)
theorem q_code_J0_length_8abf5 : (.code yJ0_length_8abf5 cJ0_length_8abf5 1 (some .int) : Cond) ∈ xAll := xt5 (i := 5) (by decide +kernel) (by decide +kernel)
theorem q_code_J1_charAt_3b067 : (.code yJ1_charAt_3b067 cJ1_charAt_3b067 2 (some .char) : Cond) ∈ xAll := xt6 (i := 30) (by decide +kernel) (by decide +kernel)
theorem q_code_J3_checkIndex_8e157 : (.code yJ3_checkIndex_8e157 cJ3_checkIndex_8e157 3 (some .int) : Cond) ∈ xAll := xt5 (i := 188) (by decide +kernel) (by decide +kernel)
theorem q_code_X3_readOrder : (.code yX3_readOrder cX3_readOrder 5 (some .boolean) : Cond) ∈ xAll := xt6 (i := 4) (by decide +kernel) (by decide +kernel)
theorem q_code_X3_readOrders : (.code yX3_readOrders cX3_readOrders 2 (some .int) : Cond) ∈ xAll := xt6 (i := 0) (by decide +kernel) (by decide +kernel)
theorem q_code_X3_shapeOf : (.code yX3_shapeOf cX3_shapeOf 1 (some (.object "java/lang/String")) : Cond) ∈ xAll := xt6 (i := 7) (by decide +kernel) (by decide +kernel)
theorem q_f_J0_1053 : (.fieldLink RJ0 1053 "jdk/internal/util/Preconditions" "SIOOBE_FORMATTER" "Ljava/util/function/BiFunction;" : Cond) ∈ xAll := xt4 (i := 228) (by decide +kernel) (by decide +kernel)
theorem q_f_J0_15 : (.fieldLink RJ0 15 "java/lang/String" "coder" "B" : Cond) ∈ xAll := xt5 (i := 127) (by decide +kernel) (by decide +kernel)
theorem q_f_J0_38 : (.fieldLink RJ0 38 "java/lang/String" "COMPACT_STRINGS" "Z" : Cond) ∈ xAll := xt5 (i := 10) (by decide +kernel) (by decide +kernel)
theorem q_f_J0_9 : (.fieldLink RJ0 9 "java/lang/String" "value" "[B" : Cond) ∈ xAll := xt5 (i := 126) (by decide +kernel) (by decide +kernel)
theorem q_f_X3_17 : (.fieldLink RX3 17 "CoatPledges$Input" "orders" "[LCoatPledges$Order;" : Cond) ∈ xAll := xt1 (i := 219) (by decide +kernel) (by decide +kernel)
theorem q_f_X3_26 : (.fieldLink RX3 26 "CoatPledges$Input" "orderCount" "I" : Cond) ∈ xAll := xt1 (i := 223) (by decide +kernel) (by decide +kernel)
theorem q_initialized_J0 : (.initialized RJ0 : Cond) ∈ xAll := xt1 (i := 11) (by decide +kernel) (by decide +kernel)
theorem q_initialized_J1 : (.initialized RJ1 : Cond) ∈ xAll := xt1 (i := 29) (by decide +kernel) (by decide +kernel)
theorem q_initialized_J3 : (.initialized RJ3 : Cond) ∈ xAll := xt1 (i := 28) (by decide +kernel) (by decide +kernel)
theorem q_instanceMethod_J0_charAt_5068e : (.instanceMethod yJ0_charAt_5068e : Cond) ∈ xAll := xt6 (i := 21) (by decide +kernel) (by decide +kernel)
theorem q_instanceMethod_J0_coder_7d493 : (.instanceMethod yJ0_coder_7d493 : Cond) ∈ xAll := xt5 (i := 7) (by decide +kernel) (by decide +kernel)
theorem q_instanceMethod_J0_isEmpty_aae02 : (.instanceMethod yJ0_isEmpty_aae02 : Cond) ∈ xAll := xt6 (i := 15) (by decide +kernel) (by decide +kernel)
theorem q_instanceMethod_J0_isLatin1_aae02 : (.instanceMethod yJ0_isLatin1_aae02 : Cond) ∈ xAll := xt6 (i := 25) (by decide +kernel) (by decide +kernel)
theorem q_instanceMethod_J0_length_8abf5 : (.instanceMethod yJ0_length_8abf5 : Cond) ∈ xAll := xt5 (i := 3) (by decide +kernel) (by decide +kernel)
theorem q_instanceMethod_X3_readOrder : (.instanceMethod yX3_readOrder : Cond) ∈ xAll := xt6 (i := 2) (by decide +kernel) (by decide +kernel)
theorem q_instanceMethod_X3_readOrders : (.instanceMethod yX3_readOrders : Cond) ∈ xAll := xt5 (i := 238) (by decide +kernel) (by decide +kernel)
theorem q_m_J0_1059 : (.methodLink RJ0 1059 yJ3_checkIndex_8e157 : Cond) ∈ xAll := xt5 (i := 186) (by decide +kernel) (by decide +kernel)
theorem q_m_J0_335 : (.methodLink RJ0 335 yJ0_coder_7d493 : Cond) ∈ xAll := xt5 (i := 6) (by decide +kernel) (by decide +kernel)
theorem q_m_J0_492 : (.methodLink RJ0 492 yJ0_isLatin1_aae02 : Cond) ∈ xAll := xt6 (i := 24) (by decide +kernel) (by decide +kernel)
theorem q_m_J0_495 : (.methodLink RJ0 495 yJ1_charAt_3b067 : Cond) ∈ xAll := xt6 (i := 28) (by decide +kernel) (by decide +kernel)
theorem q_m_J1_9 : (.methodLink RJ1 9 yJ0_checkIndex_df160 : Cond) ∈ xAll := xt6 (i := 31) (by decide +kernel) (by decide +kernel)
theorem q_m_X3_32 : (.methodLink RX3 32 yX3_readOrder : Cond) ∈ xAll := xt6 (i := 1) (by decide +kernel) (by decide +kernel)
theorem q_m_X3_40 : (.methodLink RX3 40 yX3_shapeOf : Cond) ∈ xAll := xt6 (i := 5) (by decide +kernel) (by decide +kernel)
theorem q_m_X3_44 : (.methodLink RX3 44 yJ0_isEmpty_aae02 : Cond) ∈ xAll := xt6 (i := 14) (by decide +kernel) (by decide +kernel)
theorem q_m_X3_50 : (.methodLink RX3 50 yX4_begin : Cond) ∈ xAll := xt6 (i := 18) (by decide +kernel) (by decide +kernel)
theorem q_m_X3_54 : (.methodLink RX3 54 yJ0_length_8abf5 : Cond) ∈ xAll := xt6 (i := 19) (by decide +kernel) (by decide +kernel)
theorem q_m_X3_57 : (.methodLink RX3 57 yJ0_charAt_5068e : Cond) ∈ xAll := xt6 (i := 20) (by decide +kernel) (by decide +kernel)
theorem q_m_X3_61 : (.methodLink RX3 61 yX3_readPart : Cond) ∈ xAll := xt6 (i := 35) (by decide +kernel) (by decide +kernel)
theorem q_selects_J0_charAt_5068e : (.selects yJ0_charAt_5068e.cls yJ0_charAt_5068e yJ0_charAt_5068e : Cond) ∈ xAll := xt6 (i := 22) (by decide +kernel) (by decide +kernel)
theorem q_selects_J0_coder_7d493 : (.selects yJ0_coder_7d493.cls yJ0_coder_7d493 yJ0_coder_7d493 : Cond) ∈ xAll := xt5 (i := 8) (by decide +kernel) (by decide +kernel)
theorem q_selects_J0_isEmpty_aae02 : (.selects yJ0_isEmpty_aae02.cls yJ0_isEmpty_aae02 yJ0_isEmpty_aae02 : Cond) ∈ xAll := xt6 (i := 16) (by decide +kernel) (by decide +kernel)
theorem q_selects_J0_isLatin1_aae02 : (.selects yJ0_isLatin1_aae02.cls yJ0_isLatin1_aae02 yJ0_isLatin1_aae02 : Cond) ∈ xAll := xt6 (i := 26) (by decide +kernel) (by decide +kernel)
theorem q_selects_J0_length_8abf5 : (.selects yJ0_length_8abf5.cls yJ0_length_8abf5 yJ0_length_8abf5 : Cond) ∈ xAll := xt5 (i := 4) (by decide +kernel) (by decide +kernel)
theorem q_selects_X3_readOrder : (.selects yX3_readOrder.cls yX3_readOrder yX3_readOrder : Cond) ∈ xAll := xt6 (i := 3) (by decide +kernel) (by decide +kernel)
theorem q_selects_X3_readOrders : (.selects yX3_readOrders.cls yX3_readOrders yX3_readOrders : Cond) ∈ xAll := xt5 (i := 239) (by decide +kernel) (by decide +kernel)
theorem q_static_J0_checkIndex_df160 : (.static yJ0_checkIndex_df160 : Cond) ∈ xAll := xt5 (i := 184) (by decide +kernel) (by decide +kernel)
theorem q_static_J1_charAt_3b067 : (.static yJ1_charAt_3b067 : Cond) ∈ xAll := xt6 (i := 29) (by decide +kernel) (by decide +kernel)
theorem q_static_J3_checkIndex_8e157 : (.static yJ3_checkIndex_8e157 : Cond) ∈ xAll := xt5 (i := 187) (by decide +kernel) (by decide +kernel)
theorem q_static_X3_shapeOf : (.static yX3_shapeOf : Cond) ∈ xAll := xt6 (i := 6) (by decide +kernel) (by decide +kernel)
theorem fdJ0_isEmpty_aae02 : xFd yJ0_isEmpty_aae02 cJ0_isEmpty_aae02 1 (some .boolean) 0 := ⟨q_instanceMethod_J0_isEmpty_aae02, q_selects_J0_isEmpty_aae02, q_initialized_J0, q_code_J0_isEmpty_aae02, by decide +kernel⟩
theorem fdJ0_coder_7d493 : xFd yJ0_coder_7d493 cJ0_coder_7d493 1 (some .byte) 0 := ⟨q_instanceMethod_J0_coder_7d493, q_selects_J0_coder_7d493, q_initialized_J0, q_code_J0_coder_7d493, by decide +kernel⟩
theorem fdJ0_length_8abf5 : xFd yJ0_length_8abf5 cJ0_length_8abf5 1 (some .int) 0 := ⟨q_instanceMethod_J0_length_8abf5, q_selects_J0_length_8abf5, q_initialized_J0, q_code_J0_length_8abf5, by decide +kernel⟩
theorem fdJ0_isLatin1_aae02 : xFd yJ0_isLatin1_aae02 cJ0_isLatin1_aae02 1 (some .boolean) 0 := ⟨q_instanceMethod_J0_isLatin1_aae02, q_selects_J0_isLatin1_aae02, q_initialized_J0, q_code_J0_isLatin1_aae02, by decide +kernel⟩
theorem fdJ1_charAt_3b067 : xFs yJ1_charAt_3b067 cJ1_charAt_3b067 2 (some .char) 2 := ⟨q_static_J1_charAt_3b067, q_initialized_J1, q_code_J1_charAt_3b067, by decide +kernel⟩
theorem fdJ0_charAt_5068e : xFd yJ0_charAt_5068e cJ0_charAt_5068e 2 (some .char) 1 := ⟨q_instanceMethod_J0_charAt_5068e, q_selects_J0_charAt_5068e, q_initialized_J0, q_code_J0_charAt_5068e, by decide +kernel⟩
theorem fdX3_shapeOf : xFs yX3_shapeOf cX3_shapeOf 1 (some (.object "java/lang/String")) 1 := ⟨q_static_X3_shapeOf, q_initialized_X3, q_code_X3_shapeOf, by decide +kernel⟩
theorem fdX3_readOrder : xFd yX3_readOrder cX3_readOrder 5 (some .boolean) 1 := ⟨q_instanceMethod_X3_readOrder, q_selects_X3_readOrder, q_initialized_X3, q_code_X3_readOrder, by decide +kernel⟩
theorem fdX3_readOrders : xFd yX3_readOrders cX3_readOrders 2 (some .int) 0 := ⟨q_instanceMethod_X3_readOrders, q_selects_X3_readOrders, q_initialized_X3, q_code_X3_readOrders, by decide +kernel⟩
theorem fdJ0_checkIndex_df160 : xFs yJ0_checkIndex_df160 cJ0_checkIndex_df160 2 none 2 := ⟨q_static_J0_checkIndex_df160, q_initialized_J0, q_code_J0_checkIndex_df160, by decide +kernel⟩
theorem fdJ3_checkIndex_8e157 : xFs yJ3_checkIndex_8e157 cJ3_checkIndex_8e157 3 (some .int) 3 := ⟨q_static_J3_checkIndex_8e157, q_initialized_J3, q_code_J3_checkIndex_8e157, by decide +kernel⟩
