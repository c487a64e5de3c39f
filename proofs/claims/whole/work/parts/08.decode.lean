theorem dX0_init_0 : decode cX0_init 0 = .ok (.aload_n 0, 1) := by decide +kernel
theorem dX0_init_1 : decode cX0_init 1 = .ok (.invokespecial 3, 3) := by decide +kernel
theorem dX0_init_4 : decode cX0_init 4 = .ok (.aload_n 0, 1) := by decide +kernel
theorem dX0_init_5 : decode cX0_init 5 = .ok (.bipush 16, 2) := by decide +kernel
theorem dX0_init_7 : decode cX0_init 7 = .ok (.anewarray 9, 3) := by decide +kernel
theorem dX0_init_10 : decode cX0_init 10 = .ok (.putfield 11, 3) := by decide +kernel
theorem dX0_init_13 : decode cX0_init 13 = .ok (.iconst 0, 1) := by decide +kernel
theorem dX0_init_14 : decode cX0_init 14 = .ok (.istore_n 1, 1) := by decide +kernel
theorem dX0_init_15 : decode cX0_init 15 = .ok (.iload_n 1, 1) := by decide +kernel
theorem dX0_init_16 : decode cX0_init 16 = .ok (.bipush 16, 2) := by decide +kernel
theorem dX0_init_18 : decode cX0_init 18 = .ok (.if_icmp .ge 22, 3) := by decide +kernel
theorem dX0_init_21 : decode cX0_init 21 = .ok (.aload_n 0, 1) := by decide +kernel
theorem dX0_init_22 : decode cX0_init 22 = .ok (.getfield 11, 3) := by decide +kernel
theorem dX0_init_25 : decode cX0_init 25 = .ok (.iload_n 1, 1) := by decide +kernel
theorem dX0_init_26 : decode cX0_init 26 = .ok (.new 9, 3) := by decide +kernel
theorem dX0_init_29 : decode cX0_init 29 = .ok (.dup, 1) := by decide +kernel
theorem dX0_init_30 : decode cX0_init 30 = .ok (.invokespecial 17, 3) := by decide +kernel
theorem dX0_init_33 : decode cX0_init 33 = .ok (.aastore, 1) := by decide +kernel
theorem dX0_init_34 : decode cX0_init 34 = .ok (.iinc 1 1, 3) := by decide +kernel
theorem dX0_init_37 : decode cX0_init 37 = .ok (.goto (-22), 3) := by decide +kernel
theorem dX0_init_40 : decode cX0_init 40 = .ok (.aload_n 0, 1) := by decide +kernel
theorem dX0_init_41 : decode cX0_init 41 = .ok (.bipush 6, 2) := by decide +kernel
theorem dX0_init_43 : decode cX0_init 43 = .ok (.newarray .int, 2) := by decide +kernel
theorem dX0_init_45 : decode cX0_init 45 = .ok (.putfield 18, 3) := by decide +kernel
theorem dX0_init_48 : decode cX0_init 48 = .ok (.aload_n 0, 1) := by decide +kernel
theorem dX0_init_49 : decode cX0_init 49 = .ok (.bipush 6, 2) := by decide +kernel
theorem dX0_init_51 : decode cX0_init 51 = .ok (.newarray .int, 2) := by decide +kernel
theorem dX0_init_53 : decode cX0_init 53 = .ok (.putfield 22, 3) := by decide +kernel
theorem dX0_init_56 : decode cX0_init 56 = .ok (.aload_n 0, 1) := by decide +kernel
theorem dX0_init_57 : decode cX0_init 57 = .ok (.iconst 0, 1) := by decide +kernel
theorem dX0_init_58 : decode cX0_init 58 = .ok (.putfield 25, 3) := by decide +kernel
theorem dX0_init_61 : decode cX0_init 61 = .ok (.aload_n 0, 1) := by decide +kernel
theorem dX0_init_62 : decode cX0_init 62 = .ok (.iconst 0, 1) := by decide +kernel
theorem dX0_init_63 : decode cX0_init 63 = .ok (.putfield 29, 3) := by decide +kernel
theorem dX0_init_66 : decode cX0_init 66 = .ok (.aload_n 0, 1) := by decide +kernel
theorem dX0_init_67 : decode cX0_init 67 = .ok (.bipush 20, 2) := by decide +kernel
theorem dX0_init_69 : decode cX0_init 69 = .ok (.putfield 32, 3) := by decide +kernel
theorem dX0_init_72 : decode cX0_init 72 = .ok (.aload_n 0, 1) := by decide +kernel
theorem dX0_init_73 : decode cX0_init 73 = .ok (.iconst 5, 1) := by decide +kernel
theorem dX0_init_74 : decode cX0_init 74 = .ok (.putfield 35, 3) := by decide +kernel
theorem dX0_init_77 : decode cX0_init 77 = .ok (.aload_n 0, 1) := by decide +kernel
theorem dX0_init_78 : decode cX0_init 78 = .ok (.sipush 2000, 3) := by decide +kernel
theorem dX0_init_81 : decode cX0_init 81 = .ok (.putfield 38, 3) := by decide +kernel
theorem dX0_init_84 : decode cX0_init 84 = .ok (.return_, 1) := by decide +kernel
theorem dX0_copyFrom_0 : decode cX0_copyFrom 0 = .ok (.iconst 0, 1) := by decide +kernel
theorem dX0_copyFrom_1 : decode cX0_copyFrom 1 = .ok (.istore_n 2, 1) := by decide +kernel
theorem dX0_copyFrom_2 : decode cX0_copyFrom 2 = .ok (.iload_n 2, 1) := by decide +kernel
theorem dX0_copyFrom_3 : decode cX0_copyFrom 3 = .ok (.aload_n 1, 1) := by decide +kernel
theorem dX0_copyFrom_4 : decode cX0_copyFrom 4 = .ok (.getfield 25, 3) := by decide +kernel
theorem dX0_copyFrom_7 : decode cX0_copyFrom 7 = .ok (.if_icmp .ge 24, 3) := by decide +kernel
theorem dX0_copyFrom_10 : decode cX0_copyFrom 10 = .ok (.aload_n 0, 1) := by decide +kernel
theorem dX0_copyFrom_11 : decode cX0_copyFrom 11 = .ok (.getfield 11, 3) := by decide +kernel
theorem dX0_copyFrom_14 : decode cX0_copyFrom 14 = .ok (.iload_n 2, 1) := by decide +kernel
theorem dX0_copyFrom_15 : decode cX0_copyFrom 15 = .ok (.aaload, 1) := by decide +kernel
theorem dX0_copyFrom_16 : decode cX0_copyFrom 16 = .ok (.aload_n 1, 1) := by decide +kernel
theorem dX0_copyFrom_17 : decode cX0_copyFrom 17 = .ok (.getfield 11, 3) := by decide +kernel
theorem dX0_copyFrom_20 : decode cX0_copyFrom 20 = .ok (.iload_n 2, 1) := by decide +kernel
theorem dX0_copyFrom_21 : decode cX0_copyFrom 21 = .ok (.aaload, 1) := by decide +kernel
theorem dX0_copyFrom_22 : decode cX0_copyFrom 22 = .ok (.invokevirtual 41, 3) := by decide +kernel
theorem dX0_copyFrom_25 : decode cX0_copyFrom 25 = .ok (.iinc 2 1, 3) := by decide +kernel
theorem dX0_copyFrom_28 : decode cX0_copyFrom 28 = .ok (.goto (-26), 3) := by decide +kernel
theorem dX0_copyFrom_31 : decode cX0_copyFrom 31 = .ok (.iconst 0, 1) := by decide +kernel
theorem dX0_copyFrom_32 : decode cX0_copyFrom 32 = .ok (.istore_n 2, 1) := by decide +kernel
theorem dX0_copyFrom_33 : decode cX0_copyFrom 33 = .ok (.iload_n 2, 1) := by decide +kernel
theorem dX0_copyFrom_34 : decode cX0_copyFrom 34 = .ok (.bipush 6, 2) := by decide +kernel
theorem dX0_copyFrom_36 : decode cX0_copyFrom 36 = .ok (.if_icmp .ge 33, 3) := by decide +kernel
theorem dX0_copyFrom_39 : decode cX0_copyFrom 39 = .ok (.aload_n 0, 1) := by decide +kernel
theorem dX0_copyFrom_40 : decode cX0_copyFrom 40 = .ok (.getfield 18, 3) := by decide +kernel
theorem dX0_copyFrom_43 : decode cX0_copyFrom 43 = .ok (.iload_n 2, 1) := by decide +kernel
theorem dX0_copyFrom_44 : decode cX0_copyFrom 44 = .ok (.aload_n 1, 1) := by decide +kernel
theorem dX0_copyFrom_45 : decode cX0_copyFrom 45 = .ok (.getfield 18, 3) := by decide +kernel
theorem dX0_copyFrom_48 : decode cX0_copyFrom 48 = .ok (.iload_n 2, 1) := by decide +kernel
theorem dX0_copyFrom_49 : decode cX0_copyFrom 49 = .ok (.iaload, 1) := by decide +kernel
theorem dX0_copyFrom_50 : decode cX0_copyFrom 50 = .ok (.iastore, 1) := by decide +kernel
theorem dX0_copyFrom_51 : decode cX0_copyFrom 51 = .ok (.aload_n 0, 1) := by decide +kernel
theorem dX0_copyFrom_52 : decode cX0_copyFrom 52 = .ok (.getfield 22, 3) := by decide +kernel
theorem dX0_copyFrom_55 : decode cX0_copyFrom 55 = .ok (.iload_n 2, 1) := by decide +kernel
theorem dX0_copyFrom_56 : decode cX0_copyFrom 56 = .ok (.aload_n 1, 1) := by decide +kernel
theorem dX0_copyFrom_57 : decode cX0_copyFrom 57 = .ok (.getfield 22, 3) := by decide +kernel
theorem dX0_copyFrom_60 : decode cX0_copyFrom 60 = .ok (.iload_n 2, 1) := by decide +kernel
theorem dX0_copyFrom_61 : decode cX0_copyFrom 61 = .ok (.iaload, 1) := by decide +kernel
theorem dX0_copyFrom_62 : decode cX0_copyFrom 62 = .ok (.iastore, 1) := by decide +kernel
theorem dX0_copyFrom_63 : decode cX0_copyFrom 63 = .ok (.iinc 2 1, 3) := by decide +kernel
theorem dX0_copyFrom_66 : decode cX0_copyFrom 66 = .ok (.goto (-33), 3) := by decide +kernel
theorem dX0_copyFrom_69 : decode cX0_copyFrom 69 = .ok (.aload_n 0, 1) := by decide +kernel
theorem dX0_copyFrom_70 : decode cX0_copyFrom 70 = .ok (.aload_n 1, 1) := by decide +kernel
theorem dX0_copyFrom_71 : decode cX0_copyFrom 71 = .ok (.getfield 25, 3) := by decide +kernel
theorem dX0_copyFrom_74 : decode cX0_copyFrom 74 = .ok (.putfield 25, 3) := by decide +kernel
theorem dX0_copyFrom_77 : decode cX0_copyFrom 77 = .ok (.aload_n 0, 1) := by decide +kernel
theorem dX0_copyFrom_78 : decode cX0_copyFrom 78 = .ok (.aload_n 1, 1) := by decide +kernel
theorem dX0_copyFrom_79 : decode cX0_copyFrom 79 = .ok (.getfield 29, 3) := by decide +kernel
theorem dX0_copyFrom_82 : decode cX0_copyFrom 82 = .ok (.putfield 29, 3) := by decide +kernel
theorem dX0_copyFrom_85 : decode cX0_copyFrom 85 = .ok (.aload_n 0, 1) := by decide +kernel
theorem dX0_copyFrom_86 : decode cX0_copyFrom 86 = .ok (.aload_n 1, 1) := by decide +kernel
theorem dX0_copyFrom_87 : decode cX0_copyFrom 87 = .ok (.getfield 32, 3) := by decide +kernel
theorem dX0_copyFrom_90 : decode cX0_copyFrom 90 = .ok (.putfield 32, 3) := by decide +kernel
theorem dX0_copyFrom_93 : decode cX0_copyFrom 93 = .ok (.aload_n 0, 1) := by decide +kernel
theorem dX0_copyFrom_94 : decode cX0_copyFrom 94 = .ok (.aload_n 1, 1) := by decide +kernel
theorem dX0_copyFrom_95 : decode cX0_copyFrom 95 = .ok (.getfield 35, 3) := by decide +kernel
theorem dX0_copyFrom_98 : decode cX0_copyFrom 98 = .ok (.putfield 35, 3) := by decide +kernel
theorem dX0_copyFrom_101 : decode cX0_copyFrom 101 = .ok (.aload_n 0, 1) := by decide +kernel
theorem dX0_copyFrom_102 : decode cX0_copyFrom 102 = .ok (.aload_n 1, 1) := by decide +kernel
theorem dX0_copyFrom_103 : decode cX0_copyFrom 103 = .ok (.getfield 38, 3) := by decide +kernel
theorem dX0_copyFrom_106 : decode cX0_copyFrom 106 = .ok (.putfield 38, 3) := by decide +kernel
theorem dX0_copyFrom_109 : decode cX0_copyFrom 109 = .ok (.return_, 1) := by decide +kernel
theorem dX0_hasTicket_0 : decode cX0_hasTicket 0 = .ok (.iload_n 1, 1) := by decide +kernel
theorem dX0_hasTicket_1 : decode cX0_hasTicket 1 = .ok (.ifCond .lt 15, 3) := by decide +kernel
theorem dX0_hasTicket_4 : decode cX0_hasTicket 4 = .ok (.iload_n 1, 1) := by decide +kernel
theorem dX0_hasTicket_5 : decode cX0_hasTicket 5 = .ok (.aload_n 0, 1) := by decide +kernel
theorem dX0_hasTicket_6 : decode cX0_hasTicket 6 = .ok (.getfield 25, 3) := by decide +kernel
theorem dX0_hasTicket_9 : decode cX0_hasTicket 9 = .ok (.if_icmp .ge 7, 3) := by decide +kernel
theorem dX0_hasTicket_12 : decode cX0_hasTicket 12 = .ok (.iconst 1, 1) := by decide +kernel
theorem dX0_hasTicket_13 : decode cX0_hasTicket 13 = .ok (.goto 4, 3) := by decide +kernel
theorem dX0_hasTicket_16 : decode cX0_hasTicket 16 = .ok (.iconst 0, 1) := by decide +kernel
theorem dX0_hasTicket_17 : decode cX0_hasTicket 17 = .ok (.ireturn, 1) := by decide +kernel
theorem dX0_carryOut_0 : decode cX0_carryOut 0 = .ok (.aload_n 1, 1) := by decide +kernel
theorem dX0_carryOut_1 : decode cX0_carryOut 1 = .ok (.getfield 45, 3) := by decide +kernel
theorem dX0_carryOut_4 : decode cX0_carryOut 4 = .ok (.lookupswitch 153 #[(37, 82), (102, 91), (110, 131), (112, 76), (114, 109), (115, 140), (119, 100), (121, 118)], 76) := by decide +kernel
theorem dX0_carryOut_80 : decode cX0_carryOut 80 = .ok (.aload_n 0, 1) := by decide +kernel
theorem dX0_carryOut_81 : decode cX0_carryOut 81 = .ok (.aload_n 1, 1) := by decide +kernel
theorem dX0_carryOut_82 : decode cX0_carryOut 82 = .ok (.invokevirtual 51, 3) := by decide +kernel
theorem dX0_carryOut_85 : decode cX0_carryOut 85 = .ok (.ireturn, 1) := by decide +kernel
theorem dX0_carryOut_86 : decode cX0_carryOut 86 = .ok (.aload_n 0, 1) := by decide +kernel
theorem dX0_carryOut_87 : decode cX0_carryOut 87 = .ok (.aload_n 1, 1) := by decide +kernel
theorem dX0_carryOut_88 : decode cX0_carryOut 88 = .ok (.getfield 55, 3) := by decide +kernel
theorem dX0_carryOut_91 : decode cX0_carryOut 91 = .ok (.invokevirtual 58, 3) := by decide +kernel
theorem dX0_carryOut_94 : decode cX0_carryOut 94 = .ok (.ireturn, 1) := by decide +kernel
theorem dX0_carryOut_95 : decode cX0_carryOut 95 = .ok (.aload_n 0, 1) := by decide +kernel
theorem dX0_carryOut_96 : decode cX0_carryOut 96 = .ok (.aload_n 1, 1) := by decide +kernel
theorem dX0_carryOut_97 : decode cX0_carryOut 97 = .ok (.getfield 55, 3) := by decide +kernel
theorem dX0_carryOut_100 : decode cX0_carryOut 100 = .ok (.invokevirtual 62, 3) := by decide +kernel
theorem dX0_carryOut_103 : decode cX0_carryOut 103 = .ok (.ireturn, 1) := by decide +kernel
theorem dX0_carryOut_104 : decode cX0_carryOut 104 = .ok (.aload_n 0, 1) := by decide +kernel
theorem dX0_carryOut_105 : decode cX0_carryOut 105 = .ok (.aload_n 1, 1) := by decide +kernel
theorem dX0_carryOut_106 : decode cX0_carryOut 106 = .ok (.getfield 55, 3) := by decide +kernel
theorem dX0_carryOut_109 : decode cX0_carryOut 109 = .ok (.invokevirtual 65, 3) := by decide +kernel
theorem dX0_carryOut_112 : decode cX0_carryOut 112 = .ok (.ireturn, 1) := by decide +kernel
theorem dX0_carryOut_113 : decode cX0_carryOut 113 = .ok (.aload_n 0, 1) := by decide +kernel
theorem dX0_carryOut_114 : decode cX0_carryOut 114 = .ok (.aload_n 1, 1) := by decide +kernel
theorem dX0_carryOut_115 : decode cX0_carryOut 115 = .ok (.getfield 55, 3) := by decide +kernel
theorem dX0_carryOut_118 : decode cX0_carryOut 118 = .ok (.invokevirtual 68, 3) := by decide +kernel
theorem dX0_carryOut_121 : decode cX0_carryOut 121 = .ok (.ireturn, 1) := by decide +kernel
theorem dX0_carryOut_122 : decode cX0_carryOut 122 = .ok (.aload_n 0, 1) := by decide +kernel
theorem dX0_carryOut_123 : decode cX0_carryOut 123 = .ok (.aload_n 1, 1) := by decide +kernel
theorem dX0_carryOut_124 : decode cX0_carryOut 124 = .ok (.getfield 55, 3) := by decide +kernel
theorem dX0_carryOut_127 : decode cX0_carryOut 127 = .ok (.aload_n 1, 1) := by decide +kernel
theorem dX0_carryOut_128 : decode cX0_carryOut 128 = .ok (.getfield 71, 3) := by decide +kernel
theorem dX0_carryOut_131 : decode cX0_carryOut 131 = .ok (.invokevirtual 74, 3) := by decide +kernel
theorem dX0_carryOut_134 : decode cX0_carryOut 134 = .ok (.ireturn, 1) := by decide +kernel
theorem dX0_carryOut_135 : decode cX0_carryOut 135 = .ok (.aload_n 0, 1) := by decide +kernel
theorem dX0_carryOut_136 : decode cX0_carryOut 136 = .ok (.aload_n 1, 1) := by decide +kernel
theorem dX0_carryOut_137 : decode cX0_carryOut 137 = .ok (.getfield 55, 3) := by decide +kernel
theorem dX0_carryOut_140 : decode cX0_carryOut 140 = .ok (.invokevirtual 78, 3) := by decide +kernel
theorem dX0_carryOut_143 : decode cX0_carryOut 143 = .ok (.ireturn, 1) := by decide +kernel
theorem dX0_carryOut_144 : decode cX0_carryOut 144 = .ok (.aload_n 0, 1) := by decide +kernel
theorem dX0_carryOut_145 : decode cX0_carryOut 145 = .ok (.aload_n 1, 1) := by decide +kernel
theorem dX0_carryOut_146 : decode cX0_carryOut 146 = .ok (.getfield 55, 3) := by decide +kernel
theorem dX0_carryOut_149 : decode cX0_carryOut 149 = .ok (.aload_n 1, 1) := by decide +kernel
theorem dX0_carryOut_150 : decode cX0_carryOut 150 = .ok (.getfield 71, 3) := by decide +kernel
theorem dX0_carryOut_153 : decode cX0_carryOut 153 = .ok (.invokevirtual 81, 3) := by decide +kernel
theorem dX0_carryOut_156 : decode cX0_carryOut 156 = .ok (.ireturn, 1) := by decide +kernel
theorem dX0_carryOut_157 : decode cX0_carryOut 157 = .ok (.aload_n 0, 1) := by decide +kernel
theorem dX0_carryOut_158 : decode cX0_carryOut 158 = .ok (.aload_n 1, 1) := by decide +kernel
theorem dX0_carryOut_159 : decode cX0_carryOut 159 = .ok (.getfield 55, 3) := by decide +kernel
theorem dX0_carryOut_162 : decode cX0_carryOut 162 = .ok (.invokevirtual 84, 3) := by decide +kernel
theorem dX0_carryOut_165 : decode cX0_carryOut 165 = .ok (.ireturn, 1) := by decide +kernel
theorem dX0_lend_0 : decode cX0_lend 0 = .ok (.aload_n 0, 1) := by decide +kernel
theorem dX0_lend_1 : decode cX0_lend 1 = .ok (.getfield 25, 3) := by decide +kernel
theorem dX0_lend_4 : decode cX0_lend 4 = .ok (.istore_n 2, 1) := by decide +kernel
theorem dX0_lend_5 : decode cX0_lend 5 = .ok (.aload_n 0, 1) := by decide +kernel
theorem dX0_lend_6 : decode cX0_lend 6 = .ok (.getfield 11, 3) := by decide +kernel
theorem dX0_lend_9 : decode cX0_lend 9 = .ok (.iload_n 2, 1) := by decide +kernel
theorem dX0_lend_10 : decode cX0_lend 10 = .ok (.aaload, 1) := by decide +kernel
theorem dX0_lend_11 : decode cX0_lend 11 = .ok (.aload_n 1, 1) := by decide +kernel
theorem dX0_lend_12 : decode cX0_lend 12 = .ok (.aload_n 0, 1) := by decide +kernel
theorem dX0_lend_13 : decode cX0_lend 13 = .ok (.getfield 32, 3) := by decide +kernel
theorem dX0_lend_16 : decode cX0_lend 16 = .ok (.aload_n 0, 1) := by decide +kernel
theorem dX0_lend_17 : decode cX0_lend 17 = .ok (.getfield 29, 3) := by decide +kernel
theorem dX0_lend_20 : decode cX0_lend 20 = .ok (.invokevirtual 87, 3) := by decide +kernel
theorem dX0_lend_23 : decode cX0_lend 23 = .ok (.aload_n 0, 1) := by decide +kernel
theorem dX0_lend_24 : decode cX0_lend 24 = .ok (.dup, 1) := by decide +kernel
theorem dX0_lend_25 : decode cX0_lend 25 = .ok (.getfield 38, 3) := by decide +kernel
theorem dX0_lend_28 : decode cX0_lend 28 = .ok (.aload_n 1, 1) := by decide +kernel
theorem dX0_lend_29 : decode cX0_lend 29 = .ok (.getfield 91, 3) := by decide +kernel
theorem dX0_lend_32 : decode cX0_lend 32 = .ok (.isub, 1) := by decide +kernel
theorem dX0_lend_33 : decode cX0_lend 33 = .ok (.putfield 38, 3) := by decide +kernel
theorem dX0_lend_36 : decode cX0_lend 36 = .ok (.aload_n 0, 1) := by decide +kernel
theorem dX0_lend_37 : decode cX0_lend 37 = .ok (.dup, 1) := by decide +kernel
theorem dX0_lend_38 : decode cX0_lend 38 = .ok (.getfield 25, 3) := by decide +kernel
theorem dX0_lend_41 : decode cX0_lend 41 = .ok (.iconst 1, 1) := by decide +kernel
theorem dX0_lend_42 : decode cX0_lend 42 = .ok (.iadd, 1) := by decide +kernel
theorem dX0_lend_43 : decode cX0_lend 43 = .ok (.putfield 25, 3) := by decide +kernel
theorem dX0_lend_46 : decode cX0_lend 46 = .ok (.iload_n 2, 1) := by decide +kernel
theorem dX0_lend_47 : decode cX0_lend 47 = .ok (.ireturn, 1) := by decide +kernel
theorem dX0_changeRate_0 : decode cX0_changeRate 0 = .ok (.aload_n 0, 1) := by decide +kernel
theorem dX0_changeRate_1 : decode cX0_changeRate 1 = .ok (.getfield 32, 3) := by decide +kernel
theorem dX0_changeRate_4 : decode cX0_changeRate 4 = .ok (.istore_n 2, 1) := by decide +kernel
theorem dX0_changeRate_5 : decode cX0_changeRate 5 = .ok (.aload_n 0, 1) := by decide +kernel
theorem dX0_changeRate_6 : decode cX0_changeRate 6 = .ok (.iload_n 1, 1) := by decide +kernel
theorem dX0_changeRate_7 : decode cX0_changeRate 7 = .ok (.putfield 32, 3) := by decide +kernel
theorem dX0_changeRate_10 : decode cX0_changeRate 10 = .ok (.iload_n 2, 1) := by decide +kernel
theorem dX0_changeRate_11 : decode cX0_changeRate 11 = .ok (.ireturn, 1) := by decide +kernel
theorem dX0_changeFee_0 : decode cX0_changeFee 0 = .ok (.aload_n 0, 1) := by decide +kernel
theorem dX0_changeFee_1 : decode cX0_changeFee 1 = .ok (.getfield 35, 3) := by decide +kernel
theorem dX0_changeFee_4 : decode cX0_changeFee 4 = .ok (.istore_n 2, 1) := by decide +kernel
theorem dX0_changeFee_5 : decode cX0_changeFee 5 = .ok (.aload_n 0, 1) := by decide +kernel
theorem dX0_changeFee_6 : decode cX0_changeFee 6 = .ok (.iload_n 1, 1) := by decide +kernel
theorem dX0_changeFee_7 : decode cX0_changeFee 7 = .ok (.putfield 35, 3) := by decide +kernel
theorem dX0_changeFee_10 : decode cX0_changeFee 10 = .ok (.iload_n 2, 1) := by decide +kernel
theorem dX0_changeFee_11 : decode cX0_changeFee 11 = .ok (.ireturn, 1) := by decide +kernel
theorem dX0_endWeeks_0 : decode cX0_endWeeks 0 = .ok (.iconst 0, 1) := by decide +kernel
theorem dX0_endWeeks_1 : decode cX0_endWeeks 1 = .ok (.istore_n 2, 1) := by decide +kernel
theorem dX0_endWeeks_2 : decode cX0_endWeeks 2 = .ok (.iconst 0, 1) := by decide +kernel
theorem dX0_endWeeks_3 : decode cX0_endWeeks 3 = .ok (.istore_n 3, 1) := by decide +kernel
theorem dX0_endWeeks_4 : decode cX0_endWeeks 4 = .ok (.iload_n 3, 1) := by decide +kernel
theorem dX0_endWeeks_5 : decode cX0_endWeeks 5 = .ok (.iload_n 1, 1) := by decide +kernel
theorem dX0_endWeeks_6 : decode cX0_endWeeks 6 = .ok (.if_icmp .ge 16, 3) := by decide +kernel
theorem dX0_endWeeks_9 : decode cX0_endWeeks 9 = .ok (.iload_n 2, 1) := by decide +kernel
theorem dX0_endWeeks_10 : decode cX0_endWeeks 10 = .ok (.aload_n 0, 1) := by decide +kernel
theorem dX0_endWeeks_11 : decode cX0_endWeeks 11 = .ok (.invokevirtual 94, 3) := by decide +kernel
theorem dX0_endWeeks_14 : decode cX0_endWeeks 14 = .ok (.iadd, 1) := by decide +kernel
theorem dX0_endWeeks_15 : decode cX0_endWeeks 15 = .ok (.istore_n 2, 1) := by decide +kernel
theorem dX0_endWeeks_16 : decode cX0_endWeeks 16 = .ok (.iinc 3 1, 3) := by decide +kernel
theorem dX0_endWeeks_19 : decode cX0_endWeeks 19 = .ok (.goto (-15), 3) := by decide +kernel
theorem dX0_endWeeks_22 : decode cX0_endWeeks 22 = .ok (.iload_n 2, 1) := by decide +kernel
theorem dX0_endWeeks_23 : decode cX0_endWeeks 23 = .ok (.ireturn, 1) := by decide +kernel
theorem dX0_endWeek_0 : decode cX0_endWeek 0 = .ok (.iconst 0, 1) := by decide +kernel
theorem dX0_endWeek_1 : decode cX0_endWeek 1 = .ok (.istore_n 1, 1) := by decide +kernel
theorem dX0_endWeek_2 : decode cX0_endWeek 2 = .ok (.aload_n 0, 1) := by decide +kernel
theorem dX0_endWeek_3 : decode cX0_endWeek 3 = .ok (.dup, 1) := by decide +kernel
theorem dX0_endWeek_4 : decode cX0_endWeek 4 = .ok (.getfield 29, 3) := by decide +kernel
theorem dX0_endWeek_7 : decode cX0_endWeek 7 = .ok (.iconst 1, 1) := by decide +kernel
theorem dX0_endWeek_8 : decode cX0_endWeek 8 = .ok (.iadd, 1) := by decide +kernel
theorem dX0_endWeek_9 : decode cX0_endWeek 9 = .ok (.putfield 29, 3) := by decide +kernel
theorem dX0_endWeek_12 : decode cX0_endWeek 12 = .ok (.iconst 0, 1) := by decide +kernel
theorem dX0_endWeek_13 : decode cX0_endWeek 13 = .ok (.istore_n 2, 1) := by decide +kernel
theorem dX0_endWeek_14 : decode cX0_endWeek 14 = .ok (.iload_n 2, 1) := by decide +kernel
theorem dX0_endWeek_15 : decode cX0_endWeek 15 = .ok (.aload_n 0, 1) := by decide +kernel
theorem dX0_endWeek_16 : decode cX0_endWeek 16 = .ok (.getfield 25, 3) := by decide +kernel
theorem dX0_endWeek_19 : decode cX0_endWeek 19 = .ok (.if_icmp .ge 32, 3) := by decide +kernel
theorem dX0_endWeek_22 : decode cX0_endWeek 22 = .ok (.aload_n 0, 1) := by decide +kernel
theorem dX0_endWeek_23 : decode cX0_endWeek 23 = .ok (.getfield 11, 3) := by decide +kernel
theorem dX0_endWeek_26 : decode cX0_endWeek 26 = .ok (.iload_n 2, 1) := by decide +kernel
theorem dX0_endWeek_27 : decode cX0_endWeek 27 = .ok (.aaload, 1) := by decide +kernel
theorem dX0_endWeek_28 : decode cX0_endWeek 28 = .ok (.aload_n 0, 1) := by decide +kernel
theorem dX0_endWeek_29 : decode cX0_endWeek 29 = .ok (.getfield 29, 3) := by decide +kernel
theorem dX0_endWeek_32 : decode cX0_endWeek 32 = .ok (.aload_n 0, 1) := by decide +kernel
theorem dX0_endWeek_33 : decode cX0_endWeek 33 = .ok (.getfield 35, 3) := by decide +kernel
theorem dX0_endWeek_36 : decode cX0_endWeek 36 = .ok (.invokevirtual 98, 3) := by decide +kernel
theorem dX0_endWeek_39 : decode cX0_endWeek 39 = .ok (.ifCond .eq 6, 3) := by decide +kernel
theorem dX0_endWeek_42 : decode cX0_endWeek 42 = .ok (.iinc 1 1, 3) := by decide +kernel
theorem dX0_endWeek_45 : decode cX0_endWeek 45 = .ok (.iinc 2 1, 3) := by decide +kernel
theorem dX0_endWeek_48 : decode cX0_endWeek 48 = .ok (.goto (-34), 3) := by decide +kernel
theorem dX0_endWeek_51 : decode cX0_endWeek 51 = .ok (.iload_n 1, 1) := by decide +kernel
theorem dX0_endWeek_52 : decode cX0_endWeek 52 = .ok (.ireturn, 1) := by decide +kernel
theorem dX0_giveBack_0 : decode cX0_giveBack 0 = .ok (.aload_n 0, 1) := by decide +kernel
theorem dX0_giveBack_1 : decode cX0_giveBack 1 = .ok (.getfield 11, 3) := by decide +kernel
theorem dX0_giveBack_4 : decode cX0_giveBack 4 = .ok (.iload_n 1, 1) := by decide +kernel
theorem dX0_giveBack_5 : decode cX0_giveBack 5 = .ok (.aaload, 1) := by decide +kernel
theorem dX0_giveBack_6 : decode cX0_giveBack 6 = .ok (.invokevirtual 102, 3) := by decide +kernel
theorem dX0_giveBack_9 : decode cX0_giveBack 9 = .ok (.istore_n 2, 1) := by decide +kernel
theorem dX0_giveBack_10 : decode cX0_giveBack 10 = .ok (.aload_n 0, 1) := by decide +kernel
theorem dX0_giveBack_11 : decode cX0_giveBack 11 = .ok (.getfield 11, 3) := by decide +kernel
theorem dX0_giveBack_14 : decode cX0_giveBack 14 = .ok (.iload_n 1, 1) := by decide +kernel
theorem dX0_giveBack_15 : decode cX0_giveBack 15 = .ok (.aaload, 1) := by decide +kernel
theorem dX0_giveBack_16 : decode cX0_giveBack 16 = .ok (.iload_n 2, 1) := by decide +kernel
theorem dX0_giveBack_17 : decode cX0_giveBack 17 = .ok (.invokevirtual 105, 3) := by decide +kernel
theorem dX0_giveBack_20 : decode cX0_giveBack 20 = .ok (.pop, 1) := by decide +kernel
theorem dX0_giveBack_21 : decode cX0_giveBack 21 = .ok (.aload_n 0, 1) := by decide +kernel
theorem dX0_giveBack_22 : decode cX0_giveBack 22 = .ok (.getfield 11, 3) := by decide +kernel
theorem dX0_giveBack_25 : decode cX0_giveBack 25 = .ok (.iload_n 1, 1) := by decide +kernel
theorem dX0_giveBack_26 : decode cX0_giveBack 26 = .ok (.aaload, 1) := by decide +kernel
theorem dX0_giveBack_27 : decode cX0_giveBack 27 = .ok (.iconst 2, 1) := by decide +kernel
theorem dX0_giveBack_28 : decode cX0_giveBack 28 = .ok (.putfield 108, 3) := by decide +kernel
theorem dX0_giveBack_31 : decode cX0_giveBack 31 = .ok (.aload_n 0, 1) := by decide +kernel
theorem dX0_giveBack_32 : decode cX0_giveBack 32 = .ok (.dup, 1) := by decide +kernel
theorem dX0_giveBack_33 : decode cX0_giveBack 33 = .ok (.getfield 38, 3) := by decide +kernel
theorem dX0_giveBack_36 : decode cX0_giveBack 36 = .ok (.iload_n 2, 1) := by decide +kernel
theorem dX0_giveBack_37 : decode cX0_giveBack 37 = .ok (.iadd, 1) := by decide +kernel
theorem dX0_giveBack_38 : decode cX0_giveBack 38 = .ok (.putfield 38, 3) := by decide +kernel
theorem dX0_giveBack_41 : decode cX0_giveBack 41 = .ok (.iload_n 2, 1) := by decide +kernel
theorem dX0_giveBack_42 : decode cX0_giveBack 42 = .ok (.ireturn, 1) := by decide +kernel
theorem dX0_takePart_0 : decode cX0_takePart 0 = .ok (.aload_n 0, 1) := by decide +kernel
theorem dX0_takePart_1 : decode cX0_takePart 1 = .ok (.dup, 1) := by decide +kernel
theorem dX0_takePart_2 : decode cX0_takePart 2 = .ok (.getfield 38, 3) := by decide +kernel
theorem dX0_takePart_5 : decode cX0_takePart 5 = .ok (.iload_n 2, 1) := by decide +kernel
theorem dX0_takePart_6 : decode cX0_takePart 6 = .ok (.iadd, 1) := by decide +kernel
theorem dX0_takePart_7 : decode cX0_takePart 7 = .ok (.putfield 38, 3) := by decide +kernel
theorem dX0_takePart_10 : decode cX0_takePart 10 = .ok (.aload_n 0, 1) := by decide +kernel
theorem dX0_takePart_11 : decode cX0_takePart 11 = .ok (.getfield 11, 3) := by decide +kernel
theorem dX0_takePart_14 : decode cX0_takePart 14 = .ok (.iload_n 1, 1) := by decide +kernel
theorem dX0_takePart_15 : decode cX0_takePart 15 = .ok (.aaload, 1) := by decide +kernel
theorem dX0_takePart_16 : decode cX0_takePart 16 = .ok (.iload_n 2, 1) := by decide +kernel
theorem dX0_takePart_17 : decode cX0_takePart 17 = .ok (.invokevirtual 105, 3) := by decide +kernel
theorem dX0_takePart_20 : decode cX0_takePart 20 = .ok (.ireturn, 1) := by decide +kernel
theorem dX0_beginAnew_0 : decode cX0_beginAnew 0 = .ok (.aload_n 0, 1) := by decide +kernel
theorem dX0_beginAnew_1 : decode cX0_beginAnew 1 = .ok (.getfield 11, 3) := by decide +kernel
theorem dX0_beginAnew_4 : decode cX0_beginAnew 4 = .ok (.iload_n 1, 1) := by decide +kernel
theorem dX0_beginAnew_5 : decode cX0_beginAnew 5 = .ok (.aaload, 1) := by decide +kernel
theorem dX0_beginAnew_6 : decode cX0_beginAnew 6 = .ok (.getfield 111, 3) := by decide +kernel
theorem dX0_beginAnew_9 : decode cX0_beginAnew 9 = .ok (.istore_n 2, 1) := by decide +kernel
theorem dX0_beginAnew_10 : decode cX0_beginAnew 10 = .ok (.aload_n 0, 1) := by decide +kernel
theorem dX0_beginAnew_11 : decode cX0_beginAnew 11 = .ok (.iload_n 1, 1) := by decide +kernel
theorem dX0_beginAnew_12 : decode cX0_beginAnew 12 = .ok (.iload_n 2, 1) := by decide +kernel
theorem dX0_beginAnew_13 : decode cX0_beginAnew 13 = .ok (.invokevirtual 74, 3) := by decide +kernel
theorem dX0_beginAnew_16 : decode cX0_beginAnew 16 = .ok (.pop, 1) := by decide +kernel
theorem dX0_beginAnew_17 : decode cX0_beginAnew 17 = .ok (.aload_n 0, 1) := by decide +kernel
theorem dX0_beginAnew_18 : decode cX0_beginAnew 18 = .ok (.getfield 11, 3) := by decide +kernel
theorem dX0_beginAnew_21 : decode cX0_beginAnew 21 = .ok (.iload_n 1, 1) := by decide +kernel
theorem dX0_beginAnew_22 : decode cX0_beginAnew 22 = .ok (.aaload, 1) := by decide +kernel
theorem dX0_beginAnew_23 : decode cX0_beginAnew 23 = .ok (.aload_n 0, 1) := by decide +kernel
theorem dX0_beginAnew_24 : decode cX0_beginAnew 24 = .ok (.getfield 29, 3) := by decide +kernel
theorem dX0_beginAnew_27 : decode cX0_beginAnew 27 = .ok (.putfield 114, 3) := by decide +kernel
theorem dX0_beginAnew_30 : decode cX0_beginAnew 30 = .ok (.iload_n 2, 1) := by decide +kernel
theorem dX0_beginAnew_31 : decode cX0_beginAnew 31 = .ok (.ireturn, 1) := by decide +kernel
theorem dX0_sellLot_0 : decode cX0_sellLot 0 = .ok (.aload_n 0, 1) := by decide +kernel
theorem dX0_sellLot_1 : decode cX0_sellLot 1 = .ok (.getfield 11, 3) := by decide +kernel
theorem dX0_sellLot_4 : decode cX0_sellLot 4 = .ok (.iload_n 1, 1) := by decide +kernel
theorem dX0_sellLot_5 : decode cX0_sellLot 5 = .ok (.aaload, 1) := by decide +kernel
theorem dX0_sellLot_6 : decode cX0_sellLot 6 = .ok (.iload_n 2, 1) := by decide +kernel
theorem dX0_sellLot_7 : decode cX0_sellLot 7 = .ok (.invokevirtual 117, 3) := by decide +kernel
theorem dX0_sellLot_10 : decode cX0_sellLot 10 = .ok (.istore_n 3, 1) := by decide +kernel
theorem dX0_sellLot_11 : decode cX0_sellLot 11 = .ok (.aload_n 0, 1) := by decide +kernel
theorem dX0_sellLot_12 : decode cX0_sellLot 12 = .ok (.getfield 18, 3) := by decide +kernel
theorem dX0_sellLot_15 : decode cX0_sellLot 15 = .ok (.aload_n 0, 1) := by decide +kernel
theorem dX0_sellLot_16 : decode cX0_sellLot 16 = .ok (.getfield 11, 3) := by decide +kernel
theorem dX0_sellLot_19 : decode cX0_sellLot 19 = .ok (.iload_n 1, 1) := by decide +kernel
theorem dX0_sellLot_20 : decode cX0_sellLot 20 = .ok (.aaload, 1) := by decide +kernel
theorem dX0_sellLot_21 : decode cX0_sellLot 21 = .ok (.getfield 120, 3) := by decide +kernel
theorem dX0_sellLot_24 : decode cX0_sellLot 24 = .ok (.dup2, 1) := by decide +kernel
theorem dX0_sellLot_25 : decode cX0_sellLot 25 = .ok (.iaload, 1) := by decide +kernel
theorem dX0_sellLot_26 : decode cX0_sellLot 26 = .ok (.iload_n 3, 1) := by decide +kernel
theorem dX0_sellLot_27 : decode cX0_sellLot 27 = .ok (.iadd, 1) := by decide +kernel
theorem dX0_sellLot_28 : decode cX0_sellLot 28 = .ok (.iastore, 1) := by decide +kernel
theorem dX0_sellLot_29 : decode cX0_sellLot 29 = .ok (.aload_n 0, 1) := by decide +kernel
theorem dX0_sellLot_30 : decode cX0_sellLot 30 = .ok (.dup, 1) := by decide +kernel
theorem dX0_sellLot_31 : decode cX0_sellLot 31 = .ok (.getfield 38, 3) := by decide +kernel
theorem dX0_sellLot_34 : decode cX0_sellLot 34 = .ok (.iload_n 2, 1) := by decide +kernel
theorem dX0_sellLot_35 : decode cX0_sellLot 35 = .ok (.iadd, 1) := by decide +kernel
theorem dX0_sellLot_36 : decode cX0_sellLot 36 = .ok (.putfield 38, 3) := by decide +kernel
theorem dX0_sellLot_39 : decode cX0_sellLot 39 = .ok (.iload_n 3, 1) := by decide +kernel
theorem dX0_sellLot_40 : decode cX0_sellLot 40 = .ok (.ireturn, 1) := by decide +kernel
theorem dX0_payOut_0 : decode cX0_payOut 0 = .ok (.aload_n 0, 1) := by decide +kernel
theorem dX0_payOut_1 : decode cX0_payOut 1 = .ok (.getfield 18, 3) := by decide +kernel
theorem dX0_payOut_4 : decode cX0_payOut 4 = .ok (.iload_n 1, 1) := by decide +kernel
theorem dX0_payOut_5 : decode cX0_payOut 5 = .ok (.iaload, 1) := by decide +kernel
theorem dX0_payOut_6 : decode cX0_payOut 6 = .ok (.istore_n 2, 1) := by decide +kernel
theorem dX0_payOut_7 : decode cX0_payOut 7 = .ok (.aload_n 0, 1) := by decide +kernel
theorem dX0_payOut_8 : decode cX0_payOut 8 = .ok (.getfield 18, 3) := by decide +kernel
theorem dX0_payOut_11 : decode cX0_payOut 11 = .ok (.iload_n 1, 1) := by decide +kernel
theorem dX0_payOut_12 : decode cX0_payOut 12 = .ok (.iconst 0, 1) := by decide +kernel
theorem dX0_payOut_13 : decode cX0_payOut 13 = .ok (.iastore, 1) := by decide +kernel
theorem dX0_payOut_14 : decode cX0_payOut 14 = .ok (.aload_n 0, 1) := by decide +kernel
theorem dX0_payOut_15 : decode cX0_payOut 15 = .ok (.getfield 22, 3) := by decide +kernel
theorem dX0_payOut_18 : decode cX0_payOut 18 = .ok (.iload_n 1, 1) := by decide +kernel
theorem dX0_payOut_19 : decode cX0_payOut 19 = .ok (.dup2, 1) := by decide +kernel
theorem dX0_payOut_20 : decode cX0_payOut 20 = .ok (.iaload, 1) := by decide +kernel
theorem dX0_payOut_21 : decode cX0_payOut 21 = .ok (.iload_n 2, 1) := by decide +kernel
theorem dX0_payOut_22 : decode cX0_payOut 22 = .ok (.iadd, 1) := by decide +kernel
theorem dX0_payOut_23 : decode cX0_payOut 23 = .ok (.iastore, 1) := by decide +kernel
theorem dX0_payOut_24 : decode cX0_payOut 24 = .ok (.aload_n 0, 1) := by decide +kernel
theorem dX0_payOut_25 : decode cX0_payOut 25 = .ok (.dup, 1) := by decide +kernel
theorem dX0_payOut_26 : decode cX0_payOut 26 = .ok (.getfield 38, 3) := by decide +kernel
theorem dX0_payOut_29 : decode cX0_payOut 29 = .ok (.iload_n 2, 1) := by decide +kernel
theorem dX0_payOut_30 : decode cX0_payOut 30 = .ok (.isub, 1) := by decide +kernel
theorem dX0_payOut_31 : decode cX0_payOut 31 = .ok (.putfield 38, 3) := by decide +kernel
theorem dX0_payOut_34 : decode cX0_payOut 34 = .ok (.iload_n 2, 1) := by decide +kernel
theorem dX0_payOut_35 : decode cX0_payOut 35 = .ok (.ireturn, 1) := by decide +kernel
theorem dX0_lotInPlace_0 : decode cX0_lotInPlace 0 = .ok (.iconst 0, 1) := by decide +kernel
theorem dX0_lotInPlace_1 : decode cX0_lotInPlace 1 = .ok (.istore_n 3, 1) := by decide +kernel
theorem dX0_lotInPlace_2 : decode cX0_lotInPlace 2 = .ok (.iload_n 3, 1) := by decide +kernel
theorem dX0_lotInPlace_3 : decode cX0_lotInPlace 3 = .ok (.aload_n 0, 1) := by decide +kernel
theorem dX0_lotInPlace_4 : decode cX0_lotInPlace 4 = .ok (.getfield 25, 3) := by decide +kernel
theorem dX0_lotInPlace_7 : decode cX0_lotInPlace 7 = .ok (.if_icmp .ge 34, 3) := by decide +kernel
theorem dX0_lotInPlace_10 : decode cX0_lotInPlace 10 = .ok (.aload_n 0, 1) := by decide +kernel
theorem dX0_lotInPlace_11 : decode cX0_lotInPlace 11 = .ok (.getfield 11, 3) := by decide +kernel
theorem dX0_lotInPlace_14 : decode cX0_lotInPlace 14 = .ok (.iload_n 3, 1) := by decide +kernel
theorem dX0_lotInPlace_15 : decode cX0_lotInPlace 15 = .ok (.aaload, 1) := by decide +kernel
theorem dX0_lotInPlace_16 : decode cX0_lotInPlace 16 = .ok (.getfield 108, 3) := by decide +kernel
theorem dX0_lotInPlace_19 : decode cX0_lotInPlace 19 = .ok (.iconst 1, 1) := by decide +kernel
theorem dX0_lotInPlace_20 : decode cX0_lotInPlace 20 = .ok (.if_icmp .ne 15, 3) := by decide +kernel
theorem dX0_lotInPlace_23 : decode cX0_lotInPlace 23 = .ok (.aload_n 0, 1) := by decide +kernel
theorem dX0_lotInPlace_24 : decode cX0_lotInPlace 24 = .ok (.iload_n 3, 1) := by decide +kernel
theorem dX0_lotInPlace_25 : decode cX0_lotInPlace 25 = .ok (.iload_n 2, 1) := by decide +kernel
theorem dX0_lotInPlace_26 : decode cX0_lotInPlace 26 = .ok (.invokevirtual 123, 3) := by decide +kernel
theorem dX0_lotInPlace_29 : decode cX0_lotInPlace 29 = .ok (.iload_n 1, 1) := by decide +kernel
theorem dX0_lotInPlace_30 : decode cX0_lotInPlace 30 = .ok (.if_icmp .ne 5, 3) := by decide +kernel
theorem dX0_lotInPlace_33 : decode cX0_lotInPlace 33 = .ok (.iload_n 3, 1) := by decide +kernel
theorem dX0_lotInPlace_34 : decode cX0_lotInPlace 34 = .ok (.ireturn, 1) := by decide +kernel
theorem dX0_lotInPlace_35 : decode cX0_lotInPlace 35 = .ok (.iinc 3 1, 3) := by decide +kernel
theorem dX0_lotInPlace_38 : decode cX0_lotInPlace 38 = .ok (.goto (-36), 3) := by decide +kernel
theorem dX0_lotInPlace_41 : decode cX0_lotInPlace 41 = .ok (.iconst (-1), 1) := by decide +kernel
theorem dX0_lotInPlace_42 : decode cX0_lotInPlace 42 = .ok (.ireturn, 1) := by decide +kernel
theorem dX0_lotsAheadOf_0 : decode cX0_lotsAheadOf 0 = .ok (.iconst 0, 1) := by decide +kernel
theorem dX0_lotsAheadOf_1 : decode cX0_lotsAheadOf 1 = .ok (.istore_n 3, 1) := by decide +kernel
theorem dX0_lotsAheadOf_2 : decode cX0_lotsAheadOf 2 = .ok (.iconst 0, 1) := by decide +kernel
theorem dX0_lotsAheadOf_3 : decode cX0_lotsAheadOf 3 = .ok (.istore 4, 2) := by decide +kernel
theorem dX0_lotsAheadOf_5 : decode cX0_lotsAheadOf 5 = .ok (.iload 4, 2) := by decide +kernel
theorem dX0_lotsAheadOf_7 : decode cX0_lotsAheadOf 7 = .ok (.aload_n 0, 1) := by decide +kernel
theorem dX0_lotsAheadOf_8 : decode cX0_lotsAheadOf 8 = .ok (.getfield 25, 3) := by decide +kernel
theorem dX0_lotsAheadOf_11 : decode cX0_lotsAheadOf 11 = .ok (.if_icmp .ge 37, 3) := by decide +kernel
theorem dX0_lotsAheadOf_14 : decode cX0_lotsAheadOf 14 = .ok (.aload_n 0, 1) := by decide +kernel
theorem dX0_lotsAheadOf_15 : decode cX0_lotsAheadOf 15 = .ok (.getfield 11, 3) := by decide +kernel
theorem dX0_lotsAheadOf_18 : decode cX0_lotsAheadOf 18 = .ok (.iload 4, 2) := by decide +kernel
theorem dX0_lotsAheadOf_20 : decode cX0_lotsAheadOf 20 = .ok (.aaload, 1) := by decide +kernel
theorem dX0_lotsAheadOf_21 : decode cX0_lotsAheadOf 21 = .ok (.getfield 108, 3) := by decide +kernel
theorem dX0_lotsAheadOf_24 : decode cX0_lotsAheadOf 24 = .ok (.iconst 1, 1) := by decide +kernel
theorem dX0_lotsAheadOf_25 : decode cX0_lotsAheadOf 25 = .ok (.if_icmp .ne 17, 3) := by decide +kernel
theorem dX0_lotsAheadOf_28 : decode cX0_lotsAheadOf 28 = .ok (.aload_n 0, 1) := by decide +kernel
theorem dX0_lotsAheadOf_29 : decode cX0_lotsAheadOf 29 = .ok (.iload 4, 2) := by decide +kernel
theorem dX0_lotsAheadOf_31 : decode cX0_lotsAheadOf 31 = .ok (.iload_n 1, 1) := by decide +kernel
theorem dX0_lotsAheadOf_32 : decode cX0_lotsAheadOf 32 = .ok (.iload_n 2, 1) := by decide +kernel
theorem dX0_lotsAheadOf_33 : decode cX0_lotsAheadOf 33 = .ok (.invokevirtual 127, 3) := by decide +kernel
theorem dX0_lotsAheadOf_36 : decode cX0_lotsAheadOf 36 = .ok (.ifCond .eq 6, 3) := by decide +kernel
theorem dX0_lotsAheadOf_39 : decode cX0_lotsAheadOf 39 = .ok (.iinc 3 1, 3) := by decide +kernel
theorem dX0_lotsAheadOf_42 : decode cX0_lotsAheadOf 42 = .ok (.iinc 4 1, 3) := by decide +kernel
theorem dX0_lotsAheadOf_45 : decode cX0_lotsAheadOf 45 = .ok (.goto (-40), 3) := by decide +kernel
theorem dX0_lotsAheadOf_48 : decode cX0_lotsAheadOf 48 = .ok (.iload_n 3, 1) := by decide +kernel
theorem dX0_lotsAheadOf_49 : decode cX0_lotsAheadOf 49 = .ok (.ireturn, 1) := by decide +kernel
theorem dX0_isAhead_0 : decode cX0_isAhead 0 = .ok (.iload_n 3, 1) := by decide +kernel
theorem dX0_isAhead_1 : decode cX0_isAhead 1 = .ok (.ifCond .eq 25, 3) := by decide +kernel
theorem dX0_isAhead_4 : decode cX0_isAhead 4 = .ok (.aload_n 0, 1) := by decide +kernel
theorem dX0_isAhead_5 : decode cX0_isAhead 5 = .ok (.getfield 11, 3) := by decide +kernel
theorem dX0_isAhead_8 : decode cX0_isAhead 8 = .ok (.iload_n 1, 1) := by decide +kernel
theorem dX0_isAhead_9 : decode cX0_isAhead 9 = .ok (.aaload, 1) := by decide +kernel
theorem dX0_isAhead_10 : decode cX0_isAhead 10 = .ok (.getfield 131, 3) := by decide +kernel
theorem dX0_isAhead_13 : decode cX0_isAhead 13 = .ok (.aload_n 0, 1) := by decide +kernel
theorem dX0_isAhead_14 : decode cX0_isAhead 14 = .ok (.getfield 11, 3) := by decide +kernel
theorem dX0_isAhead_17 : decode cX0_isAhead 17 = .ok (.iload_n 2, 1) := by decide +kernel
theorem dX0_isAhead_18 : decode cX0_isAhead 18 = .ok (.aaload, 1) := by decide +kernel
theorem dX0_isAhead_19 : decode cX0_isAhead 19 = .ok (.getfield 131, 3) := by decide +kernel
theorem dX0_isAhead_22 : decode cX0_isAhead 22 = .ok (.isub, 1) := by decide +kernel
theorem dX0_isAhead_23 : decode cX0_isAhead 23 = .ok (.goto 22, 3) := by decide +kernel
theorem dX0_isAhead_26 : decode cX0_isAhead 26 = .ok (.aload_n 0, 1) := by decide +kernel
theorem dX0_isAhead_27 : decode cX0_isAhead 27 = .ok (.getfield 11, 3) := by decide +kernel
theorem dX0_isAhead_30 : decode cX0_isAhead 30 = .ok (.iload_n 2, 1) := by decide +kernel
theorem dX0_isAhead_31 : decode cX0_isAhead 31 = .ok (.aaload, 1) := by decide +kernel
theorem dX0_isAhead_32 : decode cX0_isAhead 32 = .ok (.getfield 114, 3) := by decide +kernel
theorem dX0_isAhead_35 : decode cX0_isAhead 35 = .ok (.aload_n 0, 1) := by decide +kernel
theorem dX0_isAhead_36 : decode cX0_isAhead 36 = .ok (.getfield 11, 3) := by decide +kernel
theorem dX0_isAhead_39 : decode cX0_isAhead 39 = .ok (.iload_n 1, 1) := by decide +kernel
theorem dX0_isAhead_40 : decode cX0_isAhead 40 = .ok (.aaload, 1) := by decide +kernel
theorem dX0_isAhead_41 : decode cX0_isAhead 41 = .ok (.getfield 114, 3) := by decide +kernel
theorem dX0_isAhead_44 : decode cX0_isAhead 44 = .ok (.isub, 1) := by decide +kernel
theorem dX0_isAhead_45 : decode cX0_isAhead 45 = .ok (.istore 4, 2) := by decide +kernel
theorem dX0_isAhead_47 : decode cX0_isAhead 47 = .ok (.iload 4, 2) := by decide +kernel
theorem dX0_isAhead_49 : decode cX0_isAhead 49 = .ok (.ifCond .gt 13, 3) := by decide +kernel
theorem dX0_isAhead_52 : decode cX0_isAhead 52 = .ok (.iload 4, 2) := by decide +kernel
theorem dX0_isAhead_54 : decode cX0_isAhead 54 = .ok (.ifCond .ne 12, 3) := by decide +kernel
theorem dX0_isAhead_57 : decode cX0_isAhead 57 = .ok (.iload_n 1, 1) := by decide +kernel
theorem dX0_isAhead_58 : decode cX0_isAhead 58 = .ok (.iload_n 2, 1) := by decide +kernel
theorem dX0_isAhead_59 : decode cX0_isAhead 59 = .ok (.if_icmp .ge 7, 3) := by decide +kernel
theorem dX0_isAhead_62 : decode cX0_isAhead 62 = .ok (.iconst 1, 1) := by decide +kernel
theorem dX0_isAhead_63 : decode cX0_isAhead 63 = .ok (.goto 4, 3) := by decide +kernel
theorem dX0_isAhead_66 : decode cX0_isAhead 66 = .ok (.iconst 0, 1) := by decide +kernel
theorem dX0_isAhead_67 : decode cX0_isAhead 67 = .ok (.ireturn, 1) := by decide +kernel
theorem dX0_lotsByTerms_0 : decode cX0_lotsByTerms 0 = .ok (.iconst 0, 1) := by decide +kernel
theorem dX0_lotsByTerms_1 : decode cX0_lotsByTerms 1 = .ok (.istore_n 2, 1) := by decide +kernel
theorem dX0_lotsByTerms_2 : decode cX0_lotsByTerms 2 = .ok (.iconst 0, 1) := by decide +kernel
theorem dX0_lotsByTerms_3 : decode cX0_lotsByTerms 3 = .ok (.istore_n 3, 1) := by decide +kernel
theorem dX0_lotsByTerms_4 : decode cX0_lotsByTerms 4 = .ok (.iload_n 3, 1) := by decide +kernel
theorem dX0_lotsByTerms_5 : decode cX0_lotsByTerms 5 = .ok (.aload_n 0, 1) := by decide +kernel
theorem dX0_lotsByTerms_6 : decode cX0_lotsByTerms 6 = .ok (.getfield 25, 3) := by decide +kernel
theorem dX0_lotsByTerms_9 : decode cX0_lotsByTerms 9 = .ok (.if_icmp .ge 42, 3) := by decide +kernel
theorem dX0_lotsByTerms_12 : decode cX0_lotsByTerms 12 = .ok (.aload_n 0, 1) := by decide +kernel
theorem dX0_lotsByTerms_13 : decode cX0_lotsByTerms 13 = .ok (.getfield 11, 3) := by decide +kernel
theorem dX0_lotsByTerms_16 : decode cX0_lotsByTerms 16 = .ok (.iload_n 3, 1) := by decide +kernel
theorem dX0_lotsByTerms_17 : decode cX0_lotsByTerms 17 = .ok (.aaload, 1) := by decide +kernel
theorem dX0_lotsByTerms_18 : decode cX0_lotsByTerms 18 = .ok (.getfield 108, 3) := by decide +kernel
theorem dX0_lotsByTerms_21 : decode cX0_lotsByTerms 21 = .ok (.ifCond .ne 24, 3) := by decide +kernel
theorem dX0_lotsByTerms_24 : decode cX0_lotsByTerms 24 = .ok (.aload_n 0, 1) := by decide +kernel
theorem dX0_lotsByTerms_25 : decode cX0_lotsByTerms 25 = .ok (.getfield 11, 3) := by decide +kernel
theorem dX0_lotsByTerms_28 : decode cX0_lotsByTerms 28 = .ok (.iload_n 3, 1) := by decide +kernel
theorem dX0_lotsByTerms_29 : decode cX0_lotsByTerms 29 = .ok (.aaload, 1) := by decide +kernel
theorem dX0_lotsByTerms_30 : decode cX0_lotsByTerms 30 = .ok (.aload_n 0, 1) := by decide +kernel
theorem dX0_lotsByTerms_31 : decode cX0_lotsByTerms 31 = .ok (.getfield 29, 3) := by decide +kernel
theorem dX0_lotsByTerms_34 : decode cX0_lotsByTerms 34 = .ok (.iload_n 1, 1) := by decide +kernel
theorem dX0_lotsByTerms_35 : decode cX0_lotsByTerms 35 = .ok (.iadd, 1) := by decide +kernel
theorem dX0_lotsByTerms_36 : decode cX0_lotsByTerms 36 = .ok (.invokevirtual 134, 3) := by decide +kernel
theorem dX0_lotsByTerms_39 : decode cX0_lotsByTerms 39 = .ok (.ifCond .ne 6, 3) := by decide +kernel
theorem dX0_lotsByTerms_42 : decode cX0_lotsByTerms 42 = .ok (.iinc 2 1, 3) := by decide +kernel
theorem dX0_lotsByTerms_45 : decode cX0_lotsByTerms 45 = .ok (.iinc 3 1, 3) := by decide +kernel
theorem dX0_lotsByTerms_48 : decode cX0_lotsByTerms 48 = .ok (.goto (-44), 3) := by decide +kernel
theorem dX0_lotsByTerms_51 : decode cX0_lotsByTerms 51 = .ok (.iload_n 2, 1) := by decide +kernel
theorem dX0_lotsByTerms_52 : decode cX0_lotsByTerms 52 = .ok (.ireturn, 1) := by decide +kernel
theorem dX0_lotsWeekByWeek_0 : decode cX0_lotsWeekByWeek 0 = .ok (.iconst 0, 1) := by decide +kernel
theorem dX0_lotsWeekByWeek_1 : decode cX0_lotsWeekByWeek 1 = .ok (.istore_n 2, 1) := by decide +kernel
theorem dX0_lotsWeekByWeek_2 : decode cX0_lotsWeekByWeek 2 = .ok (.iconst 1, 1) := by decide +kernel
theorem dX0_lotsWeekByWeek_3 : decode cX0_lotsWeekByWeek 3 = .ok (.istore_n 3, 1) := by decide +kernel
theorem dX0_lotsWeekByWeek_4 : decode cX0_lotsWeekByWeek 4 = .ok (.iload_n 3, 1) := by decide +kernel
theorem dX0_lotsWeekByWeek_5 : decode cX0_lotsWeekByWeek 5 = .ok (.iload_n 1, 1) := by decide +kernel
theorem dX0_lotsWeekByWeek_6 : decode cX0_lotsWeekByWeek 6 = .ok (.if_icmp .gt 65, 3) := by decide +kernel
theorem dX0_lotsWeekByWeek_9 : decode cX0_lotsWeekByWeek 9 = .ok (.iconst 0, 1) := by decide +kernel
theorem dX0_lotsWeekByWeek_10 : decode cX0_lotsWeekByWeek 10 = .ok (.istore 4, 2) := by decide +kernel
theorem dX0_lotsWeekByWeek_12 : decode cX0_lotsWeekByWeek 12 = .ok (.iload 4, 2) := by decide +kernel
theorem dX0_lotsWeekByWeek_14 : decode cX0_lotsWeekByWeek 14 = .ok (.aload_n 0, 1) := by decide +kernel
theorem dX0_lotsWeekByWeek_15 : decode cX0_lotsWeekByWeek 15 = .ok (.getfield 25, 3) := by decide +kernel
theorem dX0_lotsWeekByWeek_18 : decode cX0_lotsWeekByWeek 18 = .ok (.if_icmp .ge 47, 3) := by decide +kernel
theorem dX0_lotsWeekByWeek_21 : decode cX0_lotsWeekByWeek 21 = .ok (.aload_n 0, 1) := by decide +kernel
theorem dX0_lotsWeekByWeek_22 : decode cX0_lotsWeekByWeek 22 = .ok (.getfield 11, 3) := by decide +kernel
theorem dX0_lotsWeekByWeek_25 : decode cX0_lotsWeekByWeek 25 = .ok (.iload 4, 2) := by decide +kernel
theorem dX0_lotsWeekByWeek_27 : decode cX0_lotsWeekByWeek 27 = .ok (.aaload, 1) := by decide +kernel
theorem dX0_lotsWeekByWeek_28 : decode cX0_lotsWeekByWeek 28 = .ok (.getfield 108, 3) := by decide +kernel
theorem dX0_lotsWeekByWeek_31 : decode cX0_lotsWeekByWeek 31 = .ok (.ifCond .ne 28, 3) := by decide +kernel
theorem dX0_lotsWeekByWeek_34 : decode cX0_lotsWeekByWeek 34 = .ok (.aload_n 0, 1) := by decide +kernel
theorem dX0_lotsWeekByWeek_35 : decode cX0_lotsWeekByWeek 35 = .ok (.getfield 29, 3) := by decide +kernel
theorem dX0_lotsWeekByWeek_38 : decode cX0_lotsWeekByWeek 38 = .ok (.iload_n 3, 1) := by decide +kernel
theorem dX0_lotsWeekByWeek_39 : decode cX0_lotsWeekByWeek 39 = .ok (.iadd, 1) := by decide +kernel
theorem dX0_lotsWeekByWeek_40 : decode cX0_lotsWeekByWeek 40 = .ok (.aload_n 0, 1) := by decide +kernel
theorem dX0_lotsWeekByWeek_41 : decode cX0_lotsWeekByWeek 41 = .ok (.getfield 11, 3) := by decide +kernel
theorem dX0_lotsWeekByWeek_44 : decode cX0_lotsWeekByWeek 44 = .ok (.iload 4, 2) := by decide +kernel
theorem dX0_lotsWeekByWeek_46 : decode cX0_lotsWeekByWeek 46 = .ok (.aaload, 1) := by decide +kernel
theorem dX0_lotsWeekByWeek_47 : decode cX0_lotsWeekByWeek 47 = .ok (.getfield 114, 3) := by decide +kernel
theorem dX0_lotsWeekByWeek_50 : decode cX0_lotsWeekByWeek 50 = .ok (.isub, 1) := by decide +kernel
theorem dX0_lotsWeekByWeek_51 : decode cX0_lotsWeekByWeek 51 = .ok (.bipush 9, 2) := by decide +kernel
theorem dX0_lotsWeekByWeek_53 : decode cX0_lotsWeekByWeek 53 = .ok (.if_icmp .ne 6, 3) := by decide +kernel
theorem dX0_lotsWeekByWeek_56 : decode cX0_lotsWeekByWeek 56 = .ok (.iinc 2 1, 3) := by decide +kernel
theorem dX0_lotsWeekByWeek_59 : decode cX0_lotsWeekByWeek 59 = .ok (.iinc 4 1, 3) := by decide +kernel
theorem dX0_lotsWeekByWeek_62 : decode cX0_lotsWeekByWeek 62 = .ok (.goto (-50), 3) := by decide +kernel
theorem dX0_lotsWeekByWeek_65 : decode cX0_lotsWeekByWeek 65 = .ok (.iinc 3 1, 3) := by decide +kernel
theorem dX0_lotsWeekByWeek_68 : decode cX0_lotsWeekByWeek 68 = .ok (.goto (-64), 3) := by decide +kernel
theorem dX0_lotsWeekByWeek_71 : decode cX0_lotsWeekByWeek 71 = .ok (.iload_n 2, 1) := by decide +kernel
theorem dX0_lotsWeekByWeek_72 : decode cX0_lotsWeekByWeek 72 = .ok (.ireturn, 1) := by decide +kernel
theorem dX0_isCostTheSame_0 : decode cX0_isCostTheSame 0 = .ok (.iconst 0, 1) := by decide +kernel
theorem dX0_isCostTheSame_1 : decode cX0_isCostTheSame 1 = .ok (.istore_n 2, 1) := by decide +kernel
theorem dX0_isCostTheSame_2 : decode cX0_isCostTheSame 2 = .ok (.iload_n 2, 1) := by decide +kernel
theorem dX0_isCostTheSame_3 : decode cX0_isCostTheSame 3 = .ok (.aload_n 0, 1) := by decide +kernel
theorem dX0_isCostTheSame_4 : decode cX0_isCostTheSame 4 = .ok (.getfield 25, 3) := by decide +kernel
theorem dX0_isCostTheSame_7 : decode cX0_isCostTheSame 7 = .ok (.if_icmp .ge 56, 3) := by decide +kernel
theorem dX0_isCostTheSame_10 : decode cX0_isCostTheSame 10 = .ok (.aload_n 0, 1) := by decide +kernel
theorem dX0_isCostTheSame_11 : decode cX0_isCostTheSame 11 = .ok (.getfield 11, 3) := by decide +kernel
theorem dX0_isCostTheSame_14 : decode cX0_isCostTheSame 14 = .ok (.iload_n 2, 1) := by decide +kernel
theorem dX0_isCostTheSame_15 : decode cX0_isCostTheSame 15 = .ok (.aaload, 1) := by decide +kernel
theorem dX0_isCostTheSame_16 : decode cX0_isCostTheSame 16 = .ok (.aload_n 0, 1) := by decide +kernel
theorem dX0_isCostTheSame_17 : decode cX0_isCostTheSame 17 = .ok (.getfield 29, 3) := by decide +kernel
theorem dX0_isCostTheSame_20 : decode cX0_isCostTheSame 20 = .ok (.iload_n 1, 1) := by decide +kernel
theorem dX0_isCostTheSame_21 : decode cX0_isCostTheSame 21 = .ok (.iadd, 1) := by decide +kernel
theorem dX0_isCostTheSame_22 : decode cX0_isCostTheSame 22 = .ok (.invokevirtual 134, 3) := by decide +kernel
theorem dX0_isCostTheSame_25 : decode cX0_isCostTheSame 25 = .ok (.ifCond .eq 32, 3) := by decide +kernel
theorem dX0_isCostTheSame_28 : decode cX0_isCostTheSame 28 = .ok (.aload_n 0, 1) := by decide +kernel
theorem dX0_isCostTheSame_29 : decode cX0_isCostTheSame 29 = .ok (.getfield 11, 3) := by decide +kernel
theorem dX0_isCostTheSame_32 : decode cX0_isCostTheSame 32 = .ok (.iload_n 2, 1) := by decide +kernel
theorem dX0_isCostTheSame_33 : decode cX0_isCostTheSame 33 = .ok (.aaload, 1) := by decide +kernel
theorem dX0_isCostTheSame_34 : decode cX0_isCostTheSame 34 = .ok (.iload_n 1, 1) := by decide +kernel
theorem dX0_isCostTheSame_35 : decode cX0_isCostTheSame 35 = .ok (.invokevirtual 138, 3) := by decide +kernel
theorem dX0_isCostTheSame_38 : decode cX0_isCostTheSame 38 = .ok (.aload_n 0, 1) := by decide +kernel
theorem dX0_isCostTheSame_39 : decode cX0_isCostTheSame 39 = .ok (.getfield 11, 3) := by decide +kernel
theorem dX0_isCostTheSame_42 : decode cX0_isCostTheSame 42 = .ok (.iload_n 2, 1) := by decide +kernel
theorem dX0_isCostTheSame_43 : decode cX0_isCostTheSame 43 = .ok (.aaload, 1) := by decide +kernel
theorem dX0_isCostTheSame_44 : decode cX0_isCostTheSame 44 = .ok (.aload_n 0, 1) := by decide +kernel
theorem dX0_isCostTheSame_45 : decode cX0_isCostTheSame 45 = .ok (.getfield 29, 3) := by decide +kernel
theorem dX0_isCostTheSame_48 : decode cX0_isCostTheSame 48 = .ok (.iload_n 1, 1) := by decide +kernel
theorem dX0_isCostTheSame_49 : decode cX0_isCostTheSame 49 = .ok (.invokevirtual 141, 3) := by decide +kernel
theorem dX0_isCostTheSame_52 : decode cX0_isCostTheSame 52 = .ok (.if_icmp .eq 5, 3) := by decide +kernel
theorem dX0_isCostTheSame_55 : decode cX0_isCostTheSame 55 = .ok (.iconst 0, 1) := by decide +kernel
theorem dX0_isCostTheSame_56 : decode cX0_isCostTheSame 56 = .ok (.ireturn, 1) := by decide +kernel
theorem dX0_isCostTheSame_57 : decode cX0_isCostTheSame 57 = .ok (.iinc 2 1, 3) := by decide +kernel
theorem dX0_isCostTheSame_60 : decode cX0_isCostTheSame 60 = .ok (.goto (-58), 3) := by decide +kernel
theorem dX0_isCostTheSame_63 : decode cX0_isCostTheSame 63 = .ok (.iconst 1, 1) := by decide +kernel
theorem dX0_isCostTheSame_64 : decode cX0_isCostTheSame 64 = .ok (.ireturn, 1) := by decide +kernel
theorem dX0_cashFromAccounts_0 : decode cX0_cashFromAccounts 0 = .ok (.sipush 2000, 3) := by decide +kernel
theorem dX0_cashFromAccounts_3 : decode cX0_cashFromAccounts 3 = .ok (.aload_n 0, 1) := by decide +kernel
theorem dX0_cashFromAccounts_4 : decode cX0_cashFromAccounts 4 = .ok (.invokevirtual 144, 3) := by decide +kernel
theorem dX0_cashFromAccounts_7 : decode cX0_cashFromAccounts 7 = .ok (.isub, 1) := by decide +kernel
theorem dX0_cashFromAccounts_8 : decode cX0_cashFromAccounts 8 = .ok (.aload_n 0, 1) := by decide +kernel
theorem dX0_cashFromAccounts_9 : decode cX0_cashFromAccounts 9 = .ok (.invokevirtual 147, 3) := by decide +kernel
theorem dX0_cashFromAccounts_12 : decode cX0_cashFromAccounts 12 = .ok (.iadd, 1) := by decide +kernel
theorem dX0_cashFromAccounts_13 : decode cX0_cashFromAccounts 13 = .ok (.aload_n 0, 1) := by decide +kernel
theorem dX0_cashFromAccounts_14 : decode cX0_cashFromAccounts 14 = .ok (.invokevirtual 150, 3) := by decide +kernel
theorem dX0_cashFromAccounts_17 : decode cX0_cashFromAccounts 17 = .ok (.iadd, 1) := by decide +kernel
theorem dX0_cashFromAccounts_18 : decode cX0_cashFromAccounts 18 = .ok (.aload_n 0, 1) := by decide +kernel
theorem dX0_cashFromAccounts_19 : decode cX0_cashFromAccounts 19 = .ok (.invokevirtual 153, 3) := by decide +kernel
theorem dX0_cashFromAccounts_22 : decode cX0_cashFromAccounts 22 = .ok (.isub, 1) := by decide +kernel
theorem dX0_cashFromAccounts_23 : decode cX0_cashFromAccounts 23 = .ok (.ireturn, 1) := by decide +kernel
theorem dX0_countOf_0 : decode cX0_countOf 0 = .ok (.iconst 0, 1) := by decide +kernel
theorem dX0_countOf_1 : decode cX0_countOf 1 = .ok (.istore_n 3, 1) := by decide +kernel
theorem dX0_countOf_2 : decode cX0_countOf 2 = .ok (.iconst 0, 1) := by decide +kernel
theorem dX0_countOf_3 : decode cX0_countOf 3 = .ok (.istore 4, 2) := by decide +kernel
theorem dX0_countOf_5 : decode cX0_countOf 5 = .ok (.iload 4, 2) := by decide +kernel
theorem dX0_countOf_7 : decode cX0_countOf 7 = .ok (.aload_n 0, 1) := by decide +kernel
theorem dX0_countOf_8 : decode cX0_countOf 8 = .ok (.getfield 25, 3) := by decide +kernel
theorem dX0_countOf_11 : decode cX0_countOf 11 = .ok (.if_icmp .ge 45, 3) := by decide +kernel
theorem dX0_countOf_14 : decode cX0_countOf 14 = .ok (.aload_n 0, 1) := by decide +kernel
theorem dX0_countOf_15 : decode cX0_countOf 15 = .ok (.getfield 11, 3) := by decide +kernel
theorem dX0_countOf_18 : decode cX0_countOf 18 = .ok (.iload 4, 2) := by decide +kernel
theorem dX0_countOf_20 : decode cX0_countOf 20 = .ok (.aaload, 1) := by decide +kernel
theorem dX0_countOf_21 : decode cX0_countOf 21 = .ok (.getfield 108, 3) := by decide +kernel
theorem dX0_countOf_24 : decode cX0_countOf 24 = .ok (.iload_n 2, 1) := by decide +kernel
theorem dX0_countOf_25 : decode cX0_countOf 25 = .ok (.if_icmp .ne 25, 3) := by decide +kernel
theorem dX0_countOf_28 : decode cX0_countOf 28 = .ok (.iload_n 1, 1) := by decide +kernel
theorem dX0_countOf_29 : decode cX0_countOf 29 = .ok (.iconst (-1), 1) := by decide +kernel
theorem dX0_countOf_30 : decode cX0_countOf 30 = .ok (.if_icmp .eq 17, 3) := by decide +kernel
theorem dX0_countOf_33 : decode cX0_countOf 33 = .ok (.aload_n 0, 1) := by decide +kernel
theorem dX0_countOf_34 : decode cX0_countOf 34 = .ok (.getfield 11, 3) := by decide +kernel
theorem dX0_countOf_37 : decode cX0_countOf 37 = .ok (.iload 4, 2) := by decide +kernel
theorem dX0_countOf_39 : decode cX0_countOf 39 = .ok (.aaload, 1) := by decide +kernel
theorem dX0_countOf_40 : decode cX0_countOf 40 = .ok (.getfield 120, 3) := by decide +kernel
theorem dX0_countOf_43 : decode cX0_countOf 43 = .ok (.iload_n 1, 1) := by decide +kernel
theorem dX0_countOf_44 : decode cX0_countOf 44 = .ok (.if_icmp .ne 6, 3) := by decide +kernel
theorem dX0_countOf_47 : decode cX0_countOf 47 = .ok (.iinc 3 1, 3) := by decide +kernel
theorem dX0_countOf_50 : decode cX0_countOf 50 = .ok (.iinc 4 1, 3) := by decide +kernel
theorem dX0_countOf_53 : decode cX0_countOf 53 = .ok (.goto (-48), 3) := by decide +kernel
theorem dX0_countOf_56 : decode cX0_countOf 56 = .ok (.iload_n 3, 1) := by decide +kernel
theorem dX0_countOf_57 : decode cX0_countOf 57 = .ok (.ireturn, 1) := by decide +kernel
theorem dX0_owedBy_0 : decode cX0_owedBy 0 = .ok (.iconst 0, 1) := by decide +kernel
theorem dX0_owedBy_1 : decode cX0_owedBy 1 = .ok (.istore_n 2, 1) := by decide +kernel
theorem dX0_owedBy_2 : decode cX0_owedBy 2 = .ok (.iconst 0, 1) := by decide +kernel
theorem dX0_owedBy_3 : decode cX0_owedBy 3 = .ok (.istore_n 3, 1) := by decide +kernel
theorem dX0_owedBy_4 : decode cX0_owedBy 4 = .ok (.iload_n 3, 1) := by decide +kernel
theorem dX0_owedBy_5 : decode cX0_owedBy 5 = .ok (.aload_n 0, 1) := by decide +kernel
theorem dX0_owedBy_6 : decode cX0_owedBy 6 = .ok (.getfield 25, 3) := by decide +kernel
theorem dX0_owedBy_9 : decode cX0_owedBy 9 = .ok (.if_icmp .ge 46, 3) := by decide +kernel
theorem dX0_owedBy_12 : decode cX0_owedBy 12 = .ok (.aload_n 0, 1) := by decide +kernel
theorem dX0_owedBy_13 : decode cX0_owedBy 13 = .ok (.getfield 11, 3) := by decide +kernel
theorem dX0_owedBy_16 : decode cX0_owedBy 16 = .ok (.iload_n 3, 1) := by decide +kernel
theorem dX0_owedBy_17 : decode cX0_owedBy 17 = .ok (.aaload, 1) := by decide +kernel
theorem dX0_owedBy_18 : decode cX0_owedBy 18 = .ok (.getfield 108, 3) := by decide +kernel
theorem dX0_owedBy_21 : decode cX0_owedBy 21 = .ok (.ifCond .ne 28, 3) := by decide +kernel
theorem dX0_owedBy_24 : decode cX0_owedBy 24 = .ok (.aload_n 0, 1) := by decide +kernel
theorem dX0_owedBy_25 : decode cX0_owedBy 25 = .ok (.getfield 11, 3) := by decide +kernel
theorem dX0_owedBy_28 : decode cX0_owedBy 28 = .ok (.iload_n 3, 1) := by decide +kernel
theorem dX0_owedBy_29 : decode cX0_owedBy 29 = .ok (.aaload, 1) := by decide +kernel
theorem dX0_owedBy_30 : decode cX0_owedBy 30 = .ok (.getfield 120, 3) := by decide +kernel
theorem dX0_owedBy_33 : decode cX0_owedBy 33 = .ok (.iload_n 1, 1) := by decide +kernel
theorem dX0_owedBy_34 : decode cX0_owedBy 34 = .ok (.if_icmp .ne 15, 3) := by decide +kernel
theorem dX0_owedBy_37 : decode cX0_owedBy 37 = .ok (.iload_n 2, 1) := by decide +kernel
theorem dX0_owedBy_38 : decode cX0_owedBy 38 = .ok (.aload_n 0, 1) := by decide +kernel
theorem dX0_owedBy_39 : decode cX0_owedBy 39 = .ok (.getfield 11, 3) := by decide +kernel
theorem dX0_owedBy_42 : decode cX0_owedBy 42 = .ok (.iload_n 3, 1) := by decide +kernel
theorem dX0_owedBy_43 : decode cX0_owedBy 43 = .ok (.aaload, 1) := by decide +kernel
theorem dX0_owedBy_44 : decode cX0_owedBy 44 = .ok (.invokevirtual 102, 3) := by decide +kernel
theorem dX0_owedBy_47 : decode cX0_owedBy 47 = .ok (.iadd, 1) := by decide +kernel
theorem dX0_owedBy_48 : decode cX0_owedBy 48 = .ok (.istore_n 2, 1) := by decide +kernel
theorem dX0_owedBy_49 : decode cX0_owedBy 49 = .ok (.iinc 3 1, 3) := by decide +kernel
theorem dX0_owedBy_52 : decode cX0_owedBy 52 = .ok (.goto (-48), 3) := by decide +kernel
theorem dX0_owedBy_55 : decode cX0_owedBy 55 = .ok (.iload_n 2, 1) := by decide +kernel
theorem dX0_owedBy_56 : decode cX0_owedBy 56 = .ok (.ireturn, 1) := by decide +kernel
theorem dX0_sumOfRunningLoans_0 : decode cX0_sumOfRunningLoans 0 = .ok (.iconst 0, 1) := by decide +kernel
theorem dX0_sumOfRunningLoans_1 : decode cX0_sumOfRunningLoans 1 = .ok (.istore_n 1, 1) := by decide +kernel
theorem dX0_sumOfRunningLoans_2 : decode cX0_sumOfRunningLoans 2 = .ok (.iconst 0, 1) := by decide +kernel
theorem dX0_sumOfRunningLoans_3 : decode cX0_sumOfRunningLoans 3 = .ok (.istore_n 2, 1) := by decide +kernel
theorem dX0_sumOfRunningLoans_4 : decode cX0_sumOfRunningLoans 4 = .ok (.iload_n 2, 1) := by decide +kernel
theorem dX0_sumOfRunningLoans_5 : decode cX0_sumOfRunningLoans 5 = .ok (.aload_n 0, 1) := by decide +kernel
theorem dX0_sumOfRunningLoans_6 : decode cX0_sumOfRunningLoans 6 = .ok (.getfield 25, 3) := by decide +kernel
theorem dX0_sumOfRunningLoans_9 : decode cX0_sumOfRunningLoans 9 = .ok (.if_icmp .ge 33, 3) := by decide +kernel
theorem dX0_sumOfRunningLoans_12 : decode cX0_sumOfRunningLoans 12 = .ok (.aload_n 0, 1) := by decide +kernel
theorem dX0_sumOfRunningLoans_13 : decode cX0_sumOfRunningLoans 13 = .ok (.getfield 11, 3) := by decide +kernel
theorem dX0_sumOfRunningLoans_16 : decode cX0_sumOfRunningLoans 16 = .ok (.iload_n 2, 1) := by decide +kernel
theorem dX0_sumOfRunningLoans_17 : decode cX0_sumOfRunningLoans 17 = .ok (.aaload, 1) := by decide +kernel
theorem dX0_sumOfRunningLoans_18 : decode cX0_sumOfRunningLoans 18 = .ok (.getfield 108, 3) := by decide +kernel
theorem dX0_sumOfRunningLoans_21 : decode cX0_sumOfRunningLoans 21 = .ok (.ifCond .ne 15, 3) := by decide +kernel
theorem dX0_sumOfRunningLoans_24 : decode cX0_sumOfRunningLoans 24 = .ok (.iload_n 1, 1) := by decide +kernel
theorem dX0_sumOfRunningLoans_25 : decode cX0_sumOfRunningLoans 25 = .ok (.aload_n 0, 1) := by decide +kernel
theorem dX0_sumOfRunningLoans_26 : decode cX0_sumOfRunningLoans 26 = .ok (.getfield 11, 3) := by decide +kernel
theorem dX0_sumOfRunningLoans_29 : decode cX0_sumOfRunningLoans 29 = .ok (.iload_n 2, 1) := by decide +kernel
theorem dX0_sumOfRunningLoans_30 : decode cX0_sumOfRunningLoans 30 = .ok (.aaload, 1) := by decide +kernel
theorem dX0_sumOfRunningLoans_31 : decode cX0_sumOfRunningLoans 31 = .ok (.getfield 156, 3) := by decide +kernel
theorem dX0_sumOfRunningLoans_34 : decode cX0_sumOfRunningLoans 34 = .ok (.iadd, 1) := by decide +kernel
theorem dX0_sumOfRunningLoans_35 : decode cX0_sumOfRunningLoans 35 = .ok (.istore_n 1, 1) := by decide +kernel
theorem dX0_sumOfRunningLoans_36 : decode cX0_sumOfRunningLoans 36 = .ok (.iinc 2 1, 3) := by decide +kernel
theorem dX0_sumOfRunningLoans_39 : decode cX0_sumOfRunningLoans 39 = .ok (.goto (-35), 3) := by decide +kernel
theorem dX0_sumOfRunningLoans_42 : decode cX0_sumOfRunningLoans 42 = .ok (.iload_n 1, 1) := by decide +kernel
theorem dX0_sumOfRunningLoans_43 : decode cX0_sumOfRunningLoans 43 = .ok (.ireturn, 1) := by decide +kernel
theorem dX0_sumOfLent_0 : decode cX0_sumOfLent 0 = .ok (.iconst 0, 1) := by decide +kernel
theorem dX0_sumOfLent_1 : decode cX0_sumOfLent 1 = .ok (.istore_n 1, 1) := by decide +kernel
theorem dX0_sumOfLent_2 : decode cX0_sumOfLent 2 = .ok (.iconst 0, 1) := by decide +kernel
theorem dX0_sumOfLent_3 : decode cX0_sumOfLent 3 = .ok (.istore_n 2, 1) := by decide +kernel
theorem dX0_sumOfLent_4 : decode cX0_sumOfLent 4 = .ok (.iload_n 2, 1) := by decide +kernel
theorem dX0_sumOfLent_5 : decode cX0_sumOfLent 5 = .ok (.aload_n 0, 1) := by decide +kernel
theorem dX0_sumOfLent_6 : decode cX0_sumOfLent 6 = .ok (.getfield 25, 3) := by decide +kernel
theorem dX0_sumOfLent_9 : decode cX0_sumOfLent 9 = .ok (.if_icmp .ge 21, 3) := by decide +kernel
theorem dX0_sumOfLent_12 : decode cX0_sumOfLent 12 = .ok (.iload_n 1, 1) := by decide +kernel
theorem dX0_sumOfLent_13 : decode cX0_sumOfLent 13 = .ok (.aload_n 0, 1) := by decide +kernel
theorem dX0_sumOfLent_14 : decode cX0_sumOfLent 14 = .ok (.getfield 11, 3) := by decide +kernel
theorem dX0_sumOfLent_17 : decode cX0_sumOfLent 17 = .ok (.iload_n 2, 1) := by decide +kernel
theorem dX0_sumOfLent_18 : decode cX0_sumOfLent 18 = .ok (.aaload, 1) := by decide +kernel
theorem dX0_sumOfLent_19 : decode cX0_sumOfLent 19 = .ok (.getfield 159, 3) := by decide +kernel
theorem dX0_sumOfLent_22 : decode cX0_sumOfLent 22 = .ok (.iadd, 1) := by decide +kernel
theorem dX0_sumOfLent_23 : decode cX0_sumOfLent 23 = .ok (.istore_n 1, 1) := by decide +kernel
theorem dX0_sumOfLent_24 : decode cX0_sumOfLent 24 = .ok (.iinc 2 1, 3) := by decide +kernel
theorem dX0_sumOfLent_27 : decode cX0_sumOfLent 27 = .ok (.goto (-23), 3) := by decide +kernel
theorem dX0_sumOfLent_30 : decode cX0_sumOfLent 30 = .ok (.iload_n 1, 1) := by decide +kernel
theorem dX0_sumOfLent_31 : decode cX0_sumOfLent 31 = .ok (.ireturn, 1) := by decide +kernel
theorem dX0_sumOfPaid_0 : decode cX0_sumOfPaid 0 = .ok (.iconst 0, 1) := by decide +kernel
theorem dX0_sumOfPaid_1 : decode cX0_sumOfPaid 1 = .ok (.istore_n 1, 1) := by decide +kernel
theorem dX0_sumOfPaid_2 : decode cX0_sumOfPaid 2 = .ok (.iconst 0, 1) := by decide +kernel
theorem dX0_sumOfPaid_3 : decode cX0_sumOfPaid 3 = .ok (.istore_n 2, 1) := by decide +kernel
theorem dX0_sumOfPaid_4 : decode cX0_sumOfPaid 4 = .ok (.iload_n 2, 1) := by decide +kernel
theorem dX0_sumOfPaid_5 : decode cX0_sumOfPaid 5 = .ok (.aload_n 0, 1) := by decide +kernel
theorem dX0_sumOfPaid_6 : decode cX0_sumOfPaid 6 = .ok (.getfield 25, 3) := by decide +kernel
theorem dX0_sumOfPaid_9 : decode cX0_sumOfPaid 9 = .ok (.if_icmp .ge 21, 3) := by decide +kernel
theorem dX0_sumOfPaid_12 : decode cX0_sumOfPaid 12 = .ok (.iload_n 1, 1) := by decide +kernel
theorem dX0_sumOfPaid_13 : decode cX0_sumOfPaid 13 = .ok (.aload_n 0, 1) := by decide +kernel
theorem dX0_sumOfPaid_14 : decode cX0_sumOfPaid 14 = .ok (.getfield 11, 3) := by decide +kernel
theorem dX0_sumOfPaid_17 : decode cX0_sumOfPaid 17 = .ok (.iload_n 2, 1) := by decide +kernel
theorem dX0_sumOfPaid_18 : decode cX0_sumOfPaid 18 = .ok (.aaload, 1) := by decide +kernel
theorem dX0_sumOfPaid_19 : decode cX0_sumOfPaid 19 = .ok (.getfield 162, 3) := by decide +kernel
theorem dX0_sumOfPaid_22 : decode cX0_sumOfPaid 22 = .ok (.iadd, 1) := by decide +kernel
theorem dX0_sumOfPaid_23 : decode cX0_sumOfPaid 23 = .ok (.istore_n 1, 1) := by decide +kernel
theorem dX0_sumOfPaid_24 : decode cX0_sumOfPaid 24 = .ok (.iinc 2 1, 3) := by decide +kernel
theorem dX0_sumOfPaid_27 : decode cX0_sumOfPaid 27 = .ok (.goto (-23), 3) := by decide +kernel
theorem dX0_sumOfPaid_30 : decode cX0_sumOfPaid 30 = .ok (.iload_n 1, 1) := by decide +kernel
theorem dX0_sumOfPaid_31 : decode cX0_sumOfPaid 31 = .ok (.ireturn, 1) := by decide +kernel
theorem dX0_sumOfPrices_0 : decode cX0_sumOfPrices 0 = .ok (.iconst 0, 1) := by decide +kernel
theorem dX0_sumOfPrices_1 : decode cX0_sumOfPrices 1 = .ok (.istore_n 1, 1) := by decide +kernel
theorem dX0_sumOfPrices_2 : decode cX0_sumOfPrices 2 = .ok (.iconst 0, 1) := by decide +kernel
theorem dX0_sumOfPrices_3 : decode cX0_sumOfPrices 3 = .ok (.istore_n 2, 1) := by decide +kernel
theorem dX0_sumOfPrices_4 : decode cX0_sumOfPrices 4 = .ok (.iload_n 2, 1) := by decide +kernel
theorem dX0_sumOfPrices_5 : decode cX0_sumOfPrices 5 = .ok (.aload_n 0, 1) := by decide +kernel
theorem dX0_sumOfPrices_6 : decode cX0_sumOfPrices 6 = .ok (.getfield 25, 3) := by decide +kernel
theorem dX0_sumOfPrices_9 : decode cX0_sumOfPrices 9 = .ok (.if_icmp .ge 21, 3) := by decide +kernel
theorem dX0_sumOfPrices_12 : decode cX0_sumOfPrices 12 = .ok (.iload_n 1, 1) := by decide +kernel
theorem dX0_sumOfPrices_13 : decode cX0_sumOfPrices 13 = .ok (.aload_n 0, 1) := by decide +kernel
theorem dX0_sumOfPrices_14 : decode cX0_sumOfPrices 14 = .ok (.getfield 11, 3) := by decide +kernel
theorem dX0_sumOfPrices_17 : decode cX0_sumOfPrices 17 = .ok (.iload_n 2, 1) := by decide +kernel
theorem dX0_sumOfPrices_18 : decode cX0_sumOfPrices 18 = .ok (.aaload, 1) := by decide +kernel
theorem dX0_sumOfPrices_19 : decode cX0_sumOfPrices 19 = .ok (.getfield 165, 3) := by decide +kernel
theorem dX0_sumOfPrices_22 : decode cX0_sumOfPrices 22 = .ok (.iadd, 1) := by decide +kernel
theorem dX0_sumOfPrices_23 : decode cX0_sumOfPrices 23 = .ok (.istore_n 1, 1) := by decide +kernel
theorem dX0_sumOfPrices_24 : decode cX0_sumOfPrices 24 = .ok (.iinc 2 1, 3) := by decide +kernel
theorem dX0_sumOfPrices_27 : decode cX0_sumOfPrices 27 = .ok (.goto (-23), 3) := by decide +kernel
theorem dX0_sumOfPrices_30 : decode cX0_sumOfPrices 30 = .ok (.iload_n 1, 1) := by decide +kernel
theorem dX0_sumOfPrices_31 : decode cX0_sumOfPrices 31 = .ok (.ireturn, 1) := by decide +kernel
theorem dX0_sumOfLosses_0 : decode cX0_sumOfLosses 0 = .ok (.iconst 0, 1) := by decide +kernel
theorem dX0_sumOfLosses_1 : decode cX0_sumOfLosses 1 = .ok (.istore_n 1, 1) := by decide +kernel
theorem dX0_sumOfLosses_2 : decode cX0_sumOfLosses 2 = .ok (.iconst 0, 1) := by decide +kernel
theorem dX0_sumOfLosses_3 : decode cX0_sumOfLosses 3 = .ok (.istore_n 2, 1) := by decide +kernel
theorem dX0_sumOfLosses_4 : decode cX0_sumOfLosses 4 = .ok (.iload_n 2, 1) := by decide +kernel
theorem dX0_sumOfLosses_5 : decode cX0_sumOfLosses 5 = .ok (.aload_n 0, 1) := by decide +kernel
theorem dX0_sumOfLosses_6 : decode cX0_sumOfLosses 6 = .ok (.getfield 25, 3) := by decide +kernel
theorem dX0_sumOfLosses_9 : decode cX0_sumOfLosses 9 = .ok (.if_icmp .ge 21, 3) := by decide +kernel
theorem dX0_sumOfLosses_12 : decode cX0_sumOfLosses 12 = .ok (.iload_n 1, 1) := by decide +kernel
theorem dX0_sumOfLosses_13 : decode cX0_sumOfLosses 13 = .ok (.aload_n 0, 1) := by decide +kernel
theorem dX0_sumOfLosses_14 : decode cX0_sumOfLosses 14 = .ok (.getfield 11, 3) := by decide +kernel
theorem dX0_sumOfLosses_17 : decode cX0_sumOfLosses 17 = .ok (.iload_n 2, 1) := by decide +kernel
theorem dX0_sumOfLosses_18 : decode cX0_sumOfLosses 18 = .ok (.aaload, 1) := by decide +kernel
theorem dX0_sumOfLosses_19 : decode cX0_sumOfLosses 19 = .ok (.invokevirtual 168, 3) := by decide +kernel
theorem dX0_sumOfLosses_22 : decode cX0_sumOfLosses 22 = .ok (.iadd, 1) := by decide +kernel
theorem dX0_sumOfLosses_23 : decode cX0_sumOfLosses 23 = .ok (.istore_n 1, 1) := by decide +kernel
theorem dX0_sumOfLosses_24 : decode cX0_sumOfLosses 24 = .ok (.iinc 2 1, 3) := by decide +kernel
theorem dX0_sumOfLosses_27 : decode cX0_sumOfLosses 27 = .ok (.goto (-23), 3) := by decide +kernel
theorem dX0_sumOfLosses_30 : decode cX0_sumOfLosses 30 = .ok (.iload_n 1, 1) := by decide +kernel
theorem dX0_sumOfLosses_31 : decode cX0_sumOfLosses 31 = .ok (.ireturn, 1) := by decide +kernel
theorem dX0_sumOfClaimed_0 : decode cX0_sumOfClaimed 0 = .ok (.iconst 0, 1) := by decide +kernel
theorem dX0_sumOfClaimed_1 : decode cX0_sumOfClaimed 1 = .ok (.istore_n 1, 1) := by decide +kernel
theorem dX0_sumOfClaimed_2 : decode cX0_sumOfClaimed 2 = .ok (.iconst 0, 1) := by decide +kernel
theorem dX0_sumOfClaimed_3 : decode cX0_sumOfClaimed 3 = .ok (.istore_n 2, 1) := by decide +kernel
theorem dX0_sumOfClaimed_4 : decode cX0_sumOfClaimed 4 = .ok (.iload_n 2, 1) := by decide +kernel
theorem dX0_sumOfClaimed_5 : decode cX0_sumOfClaimed 5 = .ok (.bipush 6, 2) := by decide +kernel
theorem dX0_sumOfClaimed_7 : decode cX0_sumOfClaimed 7 = .ok (.if_icmp .ge 18, 3) := by decide +kernel
theorem dX0_sumOfClaimed_10 : decode cX0_sumOfClaimed 10 = .ok (.iload_n 1, 1) := by decide +kernel
theorem dX0_sumOfClaimed_11 : decode cX0_sumOfClaimed 11 = .ok (.aload_n 0, 1) := by decide +kernel
theorem dX0_sumOfClaimed_12 : decode cX0_sumOfClaimed 12 = .ok (.getfield 22, 3) := by decide +kernel
theorem dX0_sumOfClaimed_15 : decode cX0_sumOfClaimed 15 = .ok (.iload_n 2, 1) := by decide +kernel
theorem dX0_sumOfClaimed_16 : decode cX0_sumOfClaimed 16 = .ok (.iaload, 1) := by decide +kernel
theorem dX0_sumOfClaimed_17 : decode cX0_sumOfClaimed 17 = .ok (.iadd, 1) := by decide +kernel
theorem dX0_sumOfClaimed_18 : decode cX0_sumOfClaimed 18 = .ok (.istore_n 1, 1) := by decide +kernel
theorem dX0_sumOfClaimed_19 : decode cX0_sumOfClaimed 19 = .ok (.iinc 2 1, 3) := by decide +kernel
theorem dX0_sumOfClaimed_22 : decode cX0_sumOfClaimed 22 = .ok (.goto (-18), 3) := by decide +kernel
theorem dX0_sumOfClaimed_25 : decode cX0_sumOfClaimed 25 = .ok (.iload_n 1, 1) := by decide +kernel
theorem dX0_sumOfClaimed_26 : decode cX0_sumOfClaimed 26 = .ok (.ireturn, 1) := by decide +kernel
theorem dX0_sumOfLeft_0 : decode cX0_sumOfLeft 0 = .ok (.iconst 0, 1) := by decide +kernel
theorem dX0_sumOfLeft_1 : decode cX0_sumOfLeft 1 = .ok (.istore_n 1, 1) := by decide +kernel
theorem dX0_sumOfLeft_2 : decode cX0_sumOfLeft 2 = .ok (.iconst 0, 1) := by decide +kernel
theorem dX0_sumOfLeft_3 : decode cX0_sumOfLeft 3 = .ok (.istore_n 2, 1) := by decide +kernel
theorem dX0_sumOfLeft_4 : decode cX0_sumOfLeft 4 = .ok (.iload_n 2, 1) := by decide +kernel
theorem dX0_sumOfLeft_5 : decode cX0_sumOfLeft 5 = .ok (.bipush 6, 2) := by decide +kernel
theorem dX0_sumOfLeft_7 : decode cX0_sumOfLeft 7 = .ok (.if_icmp .ge 18, 3) := by decide +kernel
theorem dX0_sumOfLeft_10 : decode cX0_sumOfLeft 10 = .ok (.iload_n 1, 1) := by decide +kernel
theorem dX0_sumOfLeft_11 : decode cX0_sumOfLeft 11 = .ok (.aload_n 0, 1) := by decide +kernel
theorem dX0_sumOfLeft_12 : decode cX0_sumOfLeft 12 = .ok (.getfield 18, 3) := by decide +kernel
theorem dX0_sumOfLeft_15 : decode cX0_sumOfLeft 15 = .ok (.iload_n 2, 1) := by decide +kernel
theorem dX0_sumOfLeft_16 : decode cX0_sumOfLeft 16 = .ok (.iaload, 1) := by decide +kernel
theorem dX0_sumOfLeft_17 : decode cX0_sumOfLeft 17 = .ok (.iadd, 1) := by decide +kernel
theorem dX0_sumOfLeft_18 : decode cX0_sumOfLeft 18 = .ok (.istore_n 1, 1) := by decide +kernel
theorem dX0_sumOfLeft_19 : decode cX0_sumOfLeft 19 = .ok (.iinc 2 1, 3) := by decide +kernel
theorem dX0_sumOfLeft_22 : decode cX0_sumOfLeft 22 = .ok (.goto (-18), 3) := by decide +kernel
theorem dX0_sumOfLeft_25 : decode cX0_sumOfLeft 25 = .ok (.iload_n 1, 1) := by decide +kernel
theorem dX0_sumOfLeft_26 : decode cX0_sumOfLeft 26 = .ok (.ireturn, 1) := by decide +kernel
theorem dX1_init_0 : decode cX1_init 0 = .ok (.aload_n 0, 1) := by decide +kernel
theorem dX1_init_1 : decode cX1_init 1 = .ok (.invokespecial 3, 3) := by decide +kernel
theorem dX1_init_4 : decode cX1_init 4 = .ok (.return_, 1) := by decide +kernel
theorem dX1_examine_0 : decode cX1_examine 0 = .ok (.aload_n 0, 1) := by decide +kernel
theorem dX1_examine_1 : decode cX1_examine 1 = .ok (.iconst 0, 1) := by decide +kernel
theorem dX1_examine_2 : decode cX1_examine 2 = .ok (.putfield 9, 3) := by decide +kernel
theorem dX1_examine_5 : decode cX1_examine 5 = .ok (.aload_n 2, 1) := by decide +kernel
theorem dX1_examine_6 : decode cX1_examine 6 = .ok (.getfield 15, 3) := by decide +kernel
theorem dX1_examine_9 : decode cX1_examine 9 = .ok (.lookupswitch 124 #[(37, 58), (99, 114), (102, 74), (112, 51), (119, 90)], 51) := by decide +kernel
theorem dX1_examine_60 : decode cX1_examine 60 = .ok (.aload_n 0, 1) := by decide +kernel
theorem dX1_examine_61 : decode cX1_examine 61 = .ok (.aload_n 1, 1) := by decide +kernel
theorem dX1_examine_62 : decode cX1_examine 62 = .ok (.aload_n 2, 1) := by decide +kernel
theorem dX1_examine_63 : decode cX1_examine 63 = .ok (.invokevirtual 21, 3) := by decide +kernel
theorem dX1_examine_66 : decode cX1_examine 66 = .ok (.ireturn, 1) := by decide +kernel
theorem dX1_examine_67 : decode cX1_examine 67 = .ok (.aload_n 0, 1) := by decide +kernel
theorem dX1_examine_68 : decode cX1_examine 68 = .ok (.aload_n 2, 1) := by decide +kernel
theorem dX1_examine_69 : decode cX1_examine 69 = .ok (.getfield 25, 3) := by decide +kernel
theorem dX1_examine_72 : decode cX1_examine 72 = .ok (.iconst 1, 1) := by decide +kernel
theorem dX1_examine_73 : decode cX1_examine 73 = .ok (.bipush 60, 2) := by decide +kernel
theorem dX1_examine_75 : decode cX1_examine 75 = .ok (.aload_n 1, 1) := by decide +kernel
theorem dX1_examine_76 : decode cX1_examine 76 = .ok (.getfield 28, 3) := by decide +kernel
theorem dX1_examine_79 : decode cX1_examine 79 = .ok (.invokevirtual 33, 3) := by decide +kernel
theorem dX1_examine_82 : decode cX1_examine 82 = .ok (.ireturn, 1) := by decide +kernel
theorem dX1_examine_83 : decode cX1_examine 83 = .ok (.aload_n 0, 1) := by decide +kernel
theorem dX1_examine_84 : decode cX1_examine 84 = .ok (.aload_n 2, 1) := by decide +kernel
theorem dX1_examine_85 : decode cX1_examine 85 = .ok (.getfield 25, 3) := by decide +kernel
theorem dX1_examine_88 : decode cX1_examine 88 = .ok (.iconst 0, 1) := by decide +kernel
theorem dX1_examine_89 : decode cX1_examine 89 = .ok (.bipush 20, 2) := by decide +kernel
theorem dX1_examine_91 : decode cX1_examine 91 = .ok (.aload_n 1, 1) := by decide +kernel
theorem dX1_examine_92 : decode cX1_examine 92 = .ok (.getfield 37, 3) := by decide +kernel
theorem dX1_examine_95 : decode cX1_examine 95 = .ok (.invokevirtual 33, 3) := by decide +kernel
theorem dX1_examine_98 : decode cX1_examine 98 = .ok (.ireturn, 1) := by decide +kernel
theorem dX1_examine_99 : decode cX1_examine 99 = .ok (.aload_n 2, 1) := by decide +kernel
theorem dX1_examine_100 : decode cX1_examine 100 = .ok (.getfield 25, 3) := by decide +kernel
theorem dX1_examine_103 : decode cX1_examine 103 = .ok (.iconst 1, 1) := by decide +kernel
theorem dX1_examine_104 : decode cX1_examine 104 = .ok (.if_icmp .lt 12, 3) := by decide +kernel
theorem dX1_examine_107 : decode cX1_examine 107 = .ok (.aload_n 2, 1) := by decide +kernel
theorem dX1_examine_108 : decode cX1_examine 108 = .ok (.getfield 25, 3) := by decide +kernel
theorem dX1_examine_111 : decode cX1_examine 111 = .ok (.bipush 20, 2) := by decide +kernel
theorem dX1_examine_113 : decode cX1_examine 113 = .ok (.if_icmp .le 8, 3) := by decide +kernel
theorem dX1_examine_116 : decode cX1_examine 116 = .ok (.bipush (-2), 2) := by decide +kernel
theorem dX1_examine_118 : decode cX1_examine 118 = .ok (.goto 4, 3) := by decide +kernel
theorem dX1_examine_121 : decode cX1_examine 121 = .ok (.iconst 0, 1) := by decide +kernel
theorem dX1_examine_122 : decode cX1_examine 122 = .ok (.ireturn, 1) := by decide +kernel
theorem dX1_examine_123 : decode cX1_examine 123 = .ok (.aload_n 0, 1) := by decide +kernel
theorem dX1_examine_124 : decode cX1_examine 124 = .ok (.aload_n 1, 1) := by decide +kernel
theorem dX1_examine_125 : decode cX1_examine 125 = .ok (.aload_n 2, 1) := by decide +kernel
theorem dX1_examine_126 : decode cX1_examine 126 = .ok (.getfield 25, 3) := by decide +kernel
theorem dX1_examine_129 : decode cX1_examine 129 = .ok (.invokevirtual 40, 3) := by decide +kernel
theorem dX1_examine_132 : decode cX1_examine 132 = .ok (.ireturn, 1) := by decide +kernel
theorem dX1_examine_133 : decode cX1_examine 133 = .ok (.aload_n 0, 1) := by decide +kernel
theorem dX1_examine_134 : decode cX1_examine 134 = .ok (.aload_n 1, 1) := by decide +kernel
theorem dX1_examine_135 : decode cX1_examine 135 = .ok (.aload_n 2, 1) := by decide +kernel
theorem dX1_examine_136 : decode cX1_examine 136 = .ok (.invokevirtual 44, 3) := by decide +kernel
theorem dX1_examine_139 : decode cX1_examine 139 = .ok (.ireturn, 1) := by decide +kernel
theorem dX1_examinePledge_0 : decode cX1_examinePledge 0 = .ok (.aload_n 2, 1) := by decide +kernel
theorem dX1_examinePledge_1 : decode cX1_examinePledge 1 = .ok (.getfield 25, 3) := by decide +kernel
theorem dX1_examinePledge_4 : decode cX1_examinePledge 4 = .ok (.invokestatic 47, 3) := by decide +kernel
theorem dX1_examinePledge_7 : decode cX1_examinePledge 7 = .ok (.ifCond .ne 5, 3) := by decide +kernel
theorem dX1_examinePledge_10 : decode cX1_examinePledge 10 = .ok (.iconst (-1), 1) := by decide +kernel
theorem dX1_examinePledge_11 : decode cX1_examinePledge 11 = .ok (.ireturn, 1) := by decide +kernel
theorem dX1_examinePledge_12 : decode cX1_examinePledge 12 = .ok (.aload_n 2, 1) := by decide +kernel
theorem dX1_examinePledge_13 : decode cX1_examinePledge 13 = .ok (.getfield 51, 3) := by decide +kernel
theorem dX1_examinePledge_16 : decode cX1_examinePledge 16 = .ok (.iconst 1, 1) := by decide +kernel
theorem dX1_examinePledge_17 : decode cX1_examinePledge 17 = .ok (.if_icmp .lt 21, 3) := by decide +kernel
theorem dX1_examinePledge_20 : decode cX1_examinePledge 20 = .ok (.aload_n 2, 1) := by decide +kernel
theorem dX1_examinePledge_21 : decode cX1_examinePledge 21 = .ok (.getfield 51, 3) := by decide +kernel
theorem dX1_examinePledge_24 : decode cX1_examinePledge 24 = .ok (.sipush 999, 3) := by decide +kernel
theorem dX1_examinePledge_27 : decode cX1_examinePledge 27 = .ok (.if_icmp .gt 11, 3) := by decide +kernel
theorem dX1_examinePledge_30 : decode cX1_examinePledge 30 = .ok (.aload_n 2, 1) := by decide +kernel
theorem dX1_examinePledge_31 : decode cX1_examinePledge 31 = .ok (.getfield 54, 3) := by decide +kernel
theorem dX1_examinePledge_34 : decode cX1_examinePledge 34 = .ok (.iconst 1, 1) := by decide +kernel
theorem dX1_examinePledge_35 : decode cX1_examinePledge 35 = .ok (.if_icmp .ge 6, 3) := by decide +kernel
theorem dX1_examinePledge_38 : decode cX1_examinePledge 38 = .ok (.bipush (-2), 2) := by decide +kernel
theorem dX1_examinePledge_40 : decode cX1_examinePledge 40 = .ok (.ireturn, 1) := by decide +kernel
theorem dX1_examinePledge_41 : decode cX1_examinePledge 41 = .ok (.aload_n 2, 1) := by decide +kernel
theorem dX1_examinePledge_42 : decode cX1_examinePledge 42 = .ok (.getfield 51, 3) := by decide +kernel
theorem dX1_examinePledge_45 : decode cX1_examinePledge 45 = .ok (.bipush 60, 2) := by decide +kernel
theorem dX1_examinePledge_47 : decode cX1_examinePledge 47 = .ok (.imul, 1) := by decide +kernel
theorem dX1_examinePledge_48 : decode cX1_examinePledge 48 = .ok (.bipush 100, 2) := by decide +kernel
theorem dX1_examinePledge_50 : decode cX1_examinePledge 50 = .ok (.idiv, 1) := by decide +kernel
theorem dX1_examinePledge_51 : decode cX1_examinePledge 51 = .ok (.istore_n 3, 1) := by decide +kernel
theorem dX1_examinePledge_52 : decode cX1_examinePledge 52 = .ok (.aload_n 2, 1) := by decide +kernel
theorem dX1_examinePledge_53 : decode cX1_examinePledge 53 = .ok (.getfield 54, 3) := by decide +kernel
theorem dX1_examinePledge_56 : decode cX1_examinePledge 56 = .ok (.iload_n 3, 1) := by decide +kernel
theorem dX1_examinePledge_57 : decode cX1_examinePledge 57 = .ok (.if_icmp .le 10, 3) := by decide +kernel
theorem dX1_examinePledge_60 : decode cX1_examinePledge 60 = .ok (.aload_n 0, 1) := by decide +kernel
theorem dX1_examinePledge_61 : decode cX1_examinePledge 61 = .ok (.iconst 2, 1) := by decide +kernel
theorem dX1_examinePledge_62 : decode cX1_examinePledge 62 = .ok (.iload_n 3, 1) := by decide +kernel
theorem dX1_examinePledge_63 : decode cX1_examinePledge 63 = .ok (.invokevirtual 57, 3) := by decide +kernel
theorem dX1_examinePledge_66 : decode cX1_examinePledge 66 = .ok (.ireturn, 1) := by decide +kernel
theorem dX1_examinePledge_67 : decode cX1_examinePledge 67 = .ok (.aload_n 1, 1) := by decide +kernel
theorem dX1_examinePledge_68 : decode cX1_examinePledge 68 = .ok (.getfield 61, 3) := by decide +kernel
theorem dX1_examinePledge_71 : decode cX1_examinePledge 71 = .ok (.bipush 16, 2) := by decide +kernel
theorem dX1_examinePledge_73 : decode cX1_examinePledge 73 = .ok (.if_icmp .lt 11, 3) := by decide +kernel
theorem dX1_examinePledge_76 : decode cX1_examinePledge 76 = .ok (.aload_n 0, 1) := by decide +kernel
theorem dX1_examinePledge_77 : decode cX1_examinePledge 77 = .ok (.iconst 1, 1) := by decide +kernel
theorem dX1_examinePledge_78 : decode cX1_examinePledge 78 = .ok (.bipush 16, 2) := by decide +kernel
theorem dX1_examinePledge_80 : decode cX1_examinePledge 80 = .ok (.invokevirtual 57, 3) := by decide +kernel
theorem dX1_examinePledge_83 : decode cX1_examinePledge 83 = .ok (.ireturn, 1) := by decide +kernel
theorem dX1_examinePledge_84 : decode cX1_examinePledge 84 = .ok (.aload_n 2, 1) := by decide +kernel
theorem dX1_examinePledge_85 : decode cX1_examinePledge 85 = .ok (.getfield 54, 3) := by decide +kernel
theorem dX1_examinePledge_88 : decode cX1_examinePledge 88 = .ok (.aload_n 1, 1) := by decide +kernel
theorem dX1_examinePledge_89 : decode cX1_examinePledge 89 = .ok (.getfield 64, 3) := by decide +kernel
theorem dX1_examinePledge_92 : decode cX1_examinePledge 92 = .ok (.if_icmp .le 15, 3) := by decide +kernel
theorem dX1_examinePledge_95 : decode cX1_examinePledge 95 = .ok (.aload_n 0, 1) := by decide +kernel
theorem dX1_examinePledge_96 : decode cX1_examinePledge 96 = .ok (.iconst 3, 1) := by decide +kernel
theorem dX1_examinePledge_97 : decode cX1_examinePledge 97 = .ok (.aload_n 1, 1) := by decide +kernel
theorem dX1_examinePledge_98 : decode cX1_examinePledge 98 = .ok (.getfield 64, 3) := by decide +kernel
theorem dX1_examinePledge_101 : decode cX1_examinePledge 101 = .ok (.invokevirtual 57, 3) := by decide +kernel
theorem dX1_examinePledge_104 : decode cX1_examinePledge 104 = .ok (.goto 4, 3) := by decide +kernel
theorem dX1_examinePledge_107 : decode cX1_examinePledge 107 = .ok (.iconst 0, 1) := by decide +kernel
theorem dX1_examinePledge_108 : decode cX1_examinePledge 108 = .ok (.ireturn, 1) := by decide +kernel
theorem dX1_examineSetting_0 : decode cX1_examineSetting 0 = .ok (.iload_n 1, 1) := by decide +kernel
theorem dX1_examineSetting_1 : decode cX1_examineSetting 1 = .ok (.iload_n 2, 1) := by decide +kernel
theorem dX1_examineSetting_2 : decode cX1_examineSetting 2 = .ok (.if_icmp .lt 8, 3) := by decide +kernel
theorem dX1_examineSetting_5 : decode cX1_examineSetting 5 = .ok (.iload_n 1, 1) := by decide +kernel
theorem dX1_examineSetting_6 : decode cX1_examineSetting 6 = .ok (.iload_n 3, 1) := by decide +kernel
theorem dX1_examineSetting_7 : decode cX1_examineSetting 7 = .ok (.if_icmp .le 6, 3) := by decide +kernel
theorem dX1_examineSetting_10 : decode cX1_examineSetting 10 = .ok (.bipush (-2), 2) := by decide +kernel
theorem dX1_examineSetting_12 : decode cX1_examineSetting 12 = .ok (.ireturn, 1) := by decide +kernel
theorem dX1_examineSetting_13 : decode cX1_examineSetting 13 = .ok (.iload_n 1, 1) := by decide +kernel
theorem dX1_examineSetting_14 : decode cX1_examineSetting 14 = .ok (.iload 4, 2) := by decide +kernel
theorem dX1_examineSetting_16 : decode cX1_examineSetting 16 = .ok (.if_icmp .ne 14, 3) := by decide +kernel
theorem dX1_examineSetting_19 : decode cX1_examineSetting 19 = .ok (.aload_n 0, 1) := by decide +kernel
theorem dX1_examineSetting_20 : decode cX1_examineSetting 20 = .ok (.bipush 10, 2) := by decide +kernel
theorem dX1_examineSetting_22 : decode cX1_examineSetting 22 = .ok (.iload 4, 2) := by decide +kernel
theorem dX1_examineSetting_24 : decode cX1_examineSetting 24 = .ok (.invokevirtual 57, 3) := by decide +kernel
theorem dX1_examineSetting_27 : decode cX1_examineSetting 27 = .ok (.goto 4, 3) := by decide +kernel
theorem dX1_examineSetting_30 : decode cX1_examineSetting 30 = .ok (.iconst 0, 1) := by decide +kernel
theorem dX1_examineSetting_31 : decode cX1_examineSetting 31 = .ok (.ireturn, 1) := by decide +kernel
theorem dX1_examineClaim_0 : decode cX1_examineClaim 0 = .ok (.iload_n 2, 1) := by decide +kernel
theorem dX1_examineClaim_1 : decode cX1_examineClaim 1 = .ok (.invokestatic 47, 3) := by decide +kernel
theorem dX1_examineClaim_4 : decode cX1_examineClaim 4 = .ok (.ifCond .ne 5, 3) := by decide +kernel
theorem dX1_examineClaim_7 : decode cX1_examineClaim 7 = .ok (.iconst (-1), 1) := by decide +kernel
theorem dX1_examineClaim_8 : decode cX1_examineClaim 8 = .ok (.ireturn, 1) := by decide +kernel
theorem dX1_examineClaim_9 : decode cX1_examineClaim 9 = .ok (.aload_n 1, 1) := by decide +kernel
theorem dX1_examineClaim_10 : decode cX1_examineClaim 10 = .ok (.getfield 67, 3) := by decide +kernel
theorem dX1_examineClaim_13 : decode cX1_examineClaim 13 = .ok (.iload_n 2, 1) := by decide +kernel
theorem dX1_examineClaim_14 : decode cX1_examineClaim 14 = .ok (.iaload, 1) := by decide +kernel
theorem dX1_examineClaim_15 : decode cX1_examineClaim 15 = .ok (.ifCond .ne 16, 3) := by decide +kernel
theorem dX1_examineClaim_18 : decode cX1_examineClaim 18 = .ok (.aload_n 0, 1) := by decide +kernel
theorem dX1_examineClaim_19 : decode cX1_examineClaim 19 = .ok (.bipush 9, 2) := by decide +kernel
theorem dX1_examineClaim_21 : decode cX1_examineClaim 21 = .ok (.aload_n 1, 1) := by decide +kernel
theorem dX1_examineClaim_22 : decode cX1_examineClaim 22 = .ok (.iload_n 2, 1) := by decide +kernel
theorem dX1_examineClaim_23 : decode cX1_examineClaim 23 = .ok (.iconst 3, 1) := by decide +kernel
theorem dX1_examineClaim_24 : decode cX1_examineClaim 24 = .ok (.invokevirtual 71, 3) := by decide +kernel
theorem dX1_examineClaim_27 : decode cX1_examineClaim 27 = .ok (.invokevirtual 57, 3) := by decide +kernel
theorem dX1_examineClaim_30 : decode cX1_examineClaim 30 = .ok (.ireturn, 1) := by decide +kernel
theorem dX1_examineClaim_31 : decode cX1_examineClaim 31 = .ok (.aload_n 1, 1) := by decide +kernel
theorem dX1_examineClaim_32 : decode cX1_examineClaim 32 = .ok (.getfield 67, 3) := by decide +kernel
theorem dX1_examineClaim_35 : decode cX1_examineClaim 35 = .ok (.iload_n 2, 1) := by decide +kernel
theorem dX1_examineClaim_36 : decode cX1_examineClaim 36 = .ok (.iaload, 1) := by decide +kernel
theorem dX1_examineClaim_37 : decode cX1_examineClaim 37 = .ok (.aload_n 1, 1) := by decide +kernel
theorem dX1_examineClaim_38 : decode cX1_examineClaim 38 = .ok (.getfield 64, 3) := by decide +kernel
theorem dX1_examineClaim_41 : decode cX1_examineClaim 41 = .ok (.if_icmp .le 15, 3) := by decide +kernel
theorem dX1_examineClaim_44 : decode cX1_examineClaim 44 = .ok (.aload_n 0, 1) := by decide +kernel
theorem dX1_examineClaim_45 : decode cX1_examineClaim 45 = .ok (.iconst 3, 1) := by decide +kernel
theorem dX1_examineClaim_46 : decode cX1_examineClaim 46 = .ok (.aload_n 1, 1) := by decide +kernel
theorem dX1_examineClaim_47 : decode cX1_examineClaim 47 = .ok (.getfield 64, 3) := by decide +kernel
theorem dX1_examineClaim_50 : decode cX1_examineClaim 50 = .ok (.invokevirtual 57, 3) := by decide +kernel
theorem dX1_examineClaim_53 : decode cX1_examineClaim 53 = .ok (.goto 4, 3) := by decide +kernel
theorem dX1_examineClaim_56 : decode cX1_examineClaim 56 = .ok (.iconst 0, 1) := by decide +kernel
theorem dX1_examineClaim_57 : decode cX1_examineClaim 57 = .ok (.ireturn, 1) := by decide +kernel
theorem dX1_examineTicket_0 : decode cX1_examineTicket 0 = .ok (.aload_n 1, 1) := by decide +kernel
theorem dX1_examineTicket_1 : decode cX1_examineTicket 1 = .ok (.aload_n 2, 1) := by decide +kernel
theorem dX1_examineTicket_2 : decode cX1_examineTicket 2 = .ok (.getfield 25, 3) := by decide +kernel
theorem dX1_examineTicket_5 : decode cX1_examineTicket 5 = .ok (.invokevirtual 74, 3) := by decide +kernel
theorem dX1_examineTicket_8 : decode cX1_examineTicket 8 = .ok (.ifCond .ne 6, 3) := by decide +kernel
theorem dX1_examineTicket_11 : decode cX1_examineTicket 11 = .ok (.bipush (-3), 2) := by decide +kernel
theorem dX1_examineTicket_13 : decode cX1_examineTicket 13 = .ok (.ireturn, 1) := by decide +kernel
theorem dX1_examineTicket_14 : decode cX1_examineTicket 14 = .ok (.aload_n 1, 1) := by decide +kernel
theorem dX1_examineTicket_15 : decode cX1_examineTicket 15 = .ok (.getfield 77, 3) := by decide +kernel
theorem dX1_examineTicket_18 : decode cX1_examineTicket 18 = .ok (.aload_n 2, 1) := by decide +kernel
theorem dX1_examineTicket_19 : decode cX1_examineTicket 19 = .ok (.getfield 25, 3) := by decide +kernel
theorem dX1_examineTicket_22 : decode cX1_examineTicket 22 = .ok (.aaload, 1) := by decide +kernel
theorem dX1_examineTicket_23 : decode cX1_examineTicket 23 = .ok (.astore_n 3, 1) := by decide +kernel
theorem dX1_examineTicket_24 : decode cX1_examineTicket 24 = .ok (.aload_n 2, 1) := by decide +kernel
theorem dX1_examineTicket_25 : decode cX1_examineTicket 25 = .ok (.getfield 15, 3) := by decide +kernel
theorem dX1_examineTicket_28 : decode cX1_examineTicket 28 = .ok (.bipush 115, 2) := by decide +kernel
theorem dX1_examineTicket_30 : decode cX1_examineTicket 30 = .ok (.if_icmp .ne 13, 3) := by decide +kernel
theorem dX1_examineTicket_33 : decode cX1_examineTicket 33 = .ok (.aload_n 0, 1) := by decide +kernel
theorem dX1_examineTicket_34 : decode cX1_examineTicket 34 = .ok (.aload_n 3, 1) := by decide +kernel
theorem dX1_examineTicket_35 : decode cX1_examineTicket 35 = .ok (.aload_n 2, 1) := by decide +kernel
theorem dX1_examineTicket_36 : decode cX1_examineTicket 36 = .ok (.getfield 51, 3) := by decide +kernel
theorem dX1_examineTicket_39 : decode cX1_examineTicket 39 = .ok (.invokevirtual 81, 3) := by decide +kernel
theorem dX1_examineTicket_42 : decode cX1_examineTicket 42 = .ok (.ireturn, 1) := by decide +kernel
theorem dX1_examineTicket_43 : decode cX1_examineTicket 43 = .ok (.aload_n 2, 1) := by decide +kernel
theorem dX1_examineTicket_44 : decode cX1_examineTicket 44 = .ok (.getfield 15, 3) := by decide +kernel
theorem dX1_examineTicket_47 : decode cX1_examineTicket 47 = .ok (.bipush 121, 2) := by decide +kernel
theorem dX1_examineTicket_49 : decode cX1_examineTicket 49 = .ok (.if_icmp .ne 14, 3) := by decide +kernel
theorem dX1_examineTicket_52 : decode cX1_examineTicket 52 = .ok (.aload_n 2, 1) := by decide +kernel
theorem dX1_examineTicket_53 : decode cX1_examineTicket 53 = .ok (.getfield 51, 3) := by decide +kernel
theorem dX1_examineTicket_56 : decode cX1_examineTicket 56 = .ok (.iconst 1, 1) := by decide +kernel
theorem dX1_examineTicket_57 : decode cX1_examineTicket 57 = .ok (.if_icmp .ge 6, 3) := by decide +kernel
theorem dX1_examineTicket_60 : decode cX1_examineTicket 60 = .ok (.bipush (-2), 2) := by decide +kernel
theorem dX1_examineTicket_62 : decode cX1_examineTicket 62 = .ok (.ireturn, 1) := by decide +kernel
theorem dX1_examineTicket_63 : decode cX1_examineTicket 63 = .ok (.aload_n 3, 1) := by decide +kernel
theorem dX1_examineTicket_64 : decode cX1_examineTicket 64 = .ok (.getfield 85, 3) := by decide +kernel
theorem dX1_examineTicket_67 : decode cX1_examineTicket 67 = .ok (.ifCond .eq 13, 3) := by decide +kernel
theorem dX1_examineTicket_70 : decode cX1_examineTicket 70 = .ok (.aload_n 0, 1) := by decide +kernel
theorem dX1_examineTicket_71 : decode cX1_examineTicket 71 = .ok (.iconst 4, 1) := by decide +kernel
theorem dX1_examineTicket_72 : decode cX1_examineTicket 72 = .ok (.aload_n 3, 1) := by decide +kernel
theorem dX1_examineTicket_73 : decode cX1_examineTicket 73 = .ok (.getfield 85, 3) := by decide +kernel
theorem dX1_examineTicket_76 : decode cX1_examineTicket 76 = .ok (.invokevirtual 57, 3) := by decide +kernel
theorem dX1_examineTicket_79 : decode cX1_examineTicket 79 = .ok (.ireturn, 1) := by decide +kernel
theorem dX1_examineTicket_80 : decode cX1_examineTicket 80 = .ok (.aload_n 2, 1) := by decide +kernel
theorem dX1_examineTicket_81 : decode cX1_examineTicket 81 = .ok (.getfield 15, 3) := by decide +kernel
theorem dX1_examineTicket_84 : decode cX1_examineTicket 84 = .ok (.bipush 121, 2) := by decide +kernel
theorem dX1_examineTicket_86 : decode cX1_examineTicket 86 = .ok (.if_icmp .ne 24, 3) := by decide +kernel
theorem dX1_examineTicket_89 : decode cX1_examineTicket 89 = .ok (.aload_n 2, 1) := by decide +kernel
theorem dX1_examineTicket_90 : decode cX1_examineTicket 90 = .ok (.getfield 51, 3) := by decide +kernel
theorem dX1_examineTicket_93 : decode cX1_examineTicket 93 = .ok (.aload_n 3, 1) := by decide +kernel
theorem dX1_examineTicket_94 : decode cX1_examineTicket 94 = .ok (.invokevirtual 90, 3) := by decide +kernel
theorem dX1_examineTicket_97 : decode cX1_examineTicket 97 = .ok (.if_icmp .lt 13, 3) := by decide +kernel
theorem dX1_examineTicket_100 : decode cX1_examineTicket 100 = .ok (.aload_n 0, 1) := by decide +kernel
theorem dX1_examineTicket_101 : decode cX1_examineTicket 101 = .ok (.iconst 5, 1) := by decide +kernel
theorem dX1_examineTicket_102 : decode cX1_examineTicket 102 = .ok (.aload_n 3, 1) := by decide +kernel
theorem dX1_examineTicket_103 : decode cX1_examineTicket 103 = .ok (.invokevirtual 90, 3) := by decide +kernel
theorem dX1_examineTicket_106 : decode cX1_examineTicket 106 = .ok (.invokevirtual 57, 3) := by decide +kernel
theorem dX1_examineTicket_109 : decode cX1_examineTicket 109 = .ok (.ireturn, 1) := by decide +kernel
theorem dX1_examineTicket_110 : decode cX1_examineTicket 110 = .ok (.aload_n 2, 1) := by decide +kernel
theorem dX1_examineTicket_111 : decode cX1_examineTicket 111 = .ok (.getfield 15, 3) := by decide +kernel
theorem dX1_examineTicket_114 : decode cX1_examineTicket 114 = .ok (.bipush 110, 2) := by decide +kernel
theorem dX1_examineTicket_116 : decode cX1_examineTicket 116 = .ok (.if_icmp .ne 21, 3) := by decide +kernel
theorem dX1_examineTicket_119 : decode cX1_examineTicket 119 = .ok (.aload_n 3, 1) := by decide +kernel
theorem dX1_examineTicket_120 : decode cX1_examineTicket 120 = .ok (.getfield 94, 3) := by decide +kernel
theorem dX1_examineTicket_123 : decode cX1_examineTicket 123 = .ok (.ifCond .ne 14, 3) := by decide +kernel
theorem dX1_examineTicket_126 : decode cX1_examineTicket 126 = .ok (.aload_n 0, 1) := by decide +kernel
theorem dX1_examineTicket_127 : decode cX1_examineTicket 127 = .ok (.bipush 6, 2) := by decide +kernel
theorem dX1_examineTicket_129 : decode cX1_examineTicket 129 = .ok (.aload_n 3, 1) := by decide +kernel
theorem dX1_examineTicket_130 : decode cX1_examineTicket 130 = .ok (.getfield 97, 3) := by decide +kernel
theorem dX1_examineTicket_133 : decode cX1_examineTicket 133 = .ok (.invokevirtual 57, 3) := by decide +kernel
theorem dX1_examineTicket_136 : decode cX1_examineTicket 136 = .ok (.ireturn, 1) := by decide +kernel
theorem dX1_examineTicket_137 : decode cX1_examineTicket 137 = .ok (.iconst 0, 1) := by decide +kernel
theorem dX1_examineTicket_138 : decode cX1_examineTicket 138 = .ok (.ireturn, 1) := by decide +kernel
theorem dX1_examineSale_0 : decode cX1_examineSale 0 = .ok (.iload_n 2, 1) := by decide +kernel
theorem dX1_examineSale_1 : decode cX1_examineSale 1 = .ok (.iconst 1, 1) := by decide +kernel
theorem dX1_examineSale_2 : decode cX1_examineSale 2 = .ok (.if_icmp .lt 10, 3) := by decide +kernel
theorem dX1_examineSale_5 : decode cX1_examineSale 5 = .ok (.iload_n 2, 1) := by decide +kernel
theorem dX1_examineSale_6 : decode cX1_examineSale 6 = .ok (.sipush 9999, 3) := by decide +kernel
theorem dX1_examineSale_9 : decode cX1_examineSale 9 = .ok (.if_icmp .le 6, 3) := by decide +kernel
theorem dX1_examineSale_12 : decode cX1_examineSale 12 = .ok (.bipush (-2), 2) := by decide +kernel
theorem dX1_examineSale_14 : decode cX1_examineSale 14 = .ok (.ireturn, 1) := by decide +kernel
theorem dX1_examineSale_15 : decode cX1_examineSale 15 = .ok (.aload_n 1, 1) := by decide +kernel
theorem dX1_examineSale_16 : decode cX1_examineSale 16 = .ok (.getfield 85, 3) := by decide +kernel
theorem dX1_examineSale_19 : decode cX1_examineSale 19 = .ok (.iconst 1, 1) := by decide +kernel
theorem dX1_examineSale_20 : decode cX1_examineSale 20 = .ok (.if_icmp .eq 14, 3) := by decide +kernel
theorem dX1_examineSale_23 : decode cX1_examineSale 23 = .ok (.aload_n 0, 1) := by decide +kernel
theorem dX1_examineSale_24 : decode cX1_examineSale 24 = .ok (.bipush 7, 2) := by decide +kernel
theorem dX1_examineSale_26 : decode cX1_examineSale 26 = .ok (.aload_n 1, 1) := by decide +kernel
theorem dX1_examineSale_27 : decode cX1_examineSale 27 = .ok (.getfield 85, 3) := by decide +kernel
theorem dX1_examineSale_30 : decode cX1_examineSale 30 = .ok (.invokevirtual 57, 3) := by decide +kernel
theorem dX1_examineSale_33 : decode cX1_examineSale 33 = .ok (.ireturn, 1) := by decide +kernel
theorem dX1_examineSale_34 : decode cX1_examineSale 34 = .ok (.iload_n 2, 1) := by decide +kernel
theorem dX1_examineSale_35 : decode cX1_examineSale 35 = .ok (.aload_n 1, 1) := by decide +kernel
theorem dX1_examineSale_36 : decode cX1_examineSale 36 = .ok (.getfield 100, 3) := by decide +kernel
theorem dX1_examineSale_39 : decode cX1_examineSale 39 = .ok (.if_icmp .ge 16, 3) := by decide +kernel
theorem dX1_examineSale_42 : decode cX1_examineSale 42 = .ok (.aload_n 0, 1) := by decide +kernel
theorem dX1_examineSale_43 : decode cX1_examineSale 43 = .ok (.bipush 8, 2) := by decide +kernel
theorem dX1_examineSale_45 : decode cX1_examineSale 45 = .ok (.aload_n 1, 1) := by decide +kernel
theorem dX1_examineSale_46 : decode cX1_examineSale 46 = .ok (.getfield 100, 3) := by decide +kernel
theorem dX1_examineSale_49 : decode cX1_examineSale 49 = .ok (.invokevirtual 57, 3) := by decide +kernel
theorem dX1_examineSale_52 : decode cX1_examineSale 52 = .ok (.goto 4, 3) := by decide +kernel
theorem dX1_examineSale_55 : decode cX1_examineSale 55 = .ok (.iconst 0, 1) := by decide +kernel
theorem dX1_examineSale_56 : decode cX1_examineSale 56 = .ok (.ireturn, 1) := by decide +kernel
theorem dX1_refuse_0 : decode cX1_refuse 0 = .ok (.aload_n 0, 1) := by decide +kernel
theorem dX1_refuse_1 : decode cX1_refuse 1 = .ok (.iload_n 2, 1) := by decide +kernel
theorem dX1_refuse_2 : decode cX1_refuse 2 = .ok (.putfield 9, 3) := by decide +kernel
theorem dX1_refuse_5 : decode cX1_refuse 5 = .ok (.iload_n 1, 1) := by decide +kernel
theorem dX1_refuse_6 : decode cX1_refuse 6 = .ok (.ireturn, 1) := by decide +kernel
theorem dX2_init_0 : decode cX2_init 0 = .ok (.aload_n 0, 1) := by decide +kernel
theorem dX2_init_1 : decode cX2_init 1 = .ok (.invokespecial 3, 3) := by decide +kernel
theorem dX2_init_4 : decode cX2_init 4 = .ok (.aload_n 0, 1) := by decide +kernel
theorem dX2_init_5 : decode cX2_init 5 = .ok (.bipush 8, 2) := by decide +kernel
theorem dX2_init_7 : decode cX2_init 7 = .ok (.anewarray 9, 3) := by decide +kernel
theorem dX2_init_10 : decode cX2_init 10 = .ok (.putfield 11, 3) := by decide +kernel
theorem dX2_init_13 : decode cX2_init 13 = .ok (.iconst 0, 1) := by decide +kernel
theorem dX2_init_14 : decode cX2_init 14 = .ok (.istore_n 1, 1) := by decide +kernel
theorem dX2_init_15 : decode cX2_init 15 = .ok (.iload_n 1, 1) := by decide +kernel
theorem dX2_init_16 : decode cX2_init 16 = .ok (.bipush 8, 2) := by decide +kernel
theorem dX2_init_18 : decode cX2_init 18 = .ok (.if_icmp .ge 22, 3) := by decide +kernel
theorem dX2_init_21 : decode cX2_init 21 = .ok (.aload_n 0, 1) := by decide +kernel
theorem dX2_init_22 : decode cX2_init 22 = .ok (.getfield 11, 3) := by decide +kernel
theorem dX2_init_25 : decode cX2_init 25 = .ok (.iload_n 1, 1) := by decide +kernel
theorem dX2_init_26 : decode cX2_init 26 = .ok (.new 9, 3) := by decide +kernel
theorem dX2_init_29 : decode cX2_init 29 = .ok (.dup, 1) := by decide +kernel
theorem dX2_init_30 : decode cX2_init 30 = .ok (.invokespecial 17, 3) := by decide +kernel
theorem dX2_init_33 : decode cX2_init 33 = .ok (.aastore, 1) := by decide +kernel
theorem dX2_init_34 : decode cX2_init 34 = .ok (.iinc 1 1, 3) := by decide +kernel
theorem dX2_init_37 : decode cX2_init 37 = .ok (.goto (-22), 3) := by decide +kernel
theorem dX2_init_40 : decode cX2_init 40 = .ok (.aload_n 0, 1) := by decide +kernel
theorem dX2_init_41 : decode cX2_init 41 = .ok (.iconst 0, 1) := by decide +kernel
theorem dX2_init_42 : decode cX2_init 42 = .ok (.putfield 18, 3) := by decide +kernel
theorem dX2_init_45 : decode cX2_init 45 = .ok (.aload_n 0, 1) := by decide +kernel
theorem dX2_init_46 : decode cX2_init 46 = .ok (.iconst 0, 1) := by decide +kernel
theorem dX2_init_47 : decode cX2_init 47 = .ok (.putfield 22, 3) := by decide +kernel
theorem dX2_init_50 : decode cX2_init 50 = .ok (.return_, 1) := by decide +kernel
theorem dX2_keep_0 : decode cX2_keep 0 = .ok (.aload_n 0, 1) := by decide +kernel
theorem dX2_keep_1 : decode cX2_keep 1 = .ok (.getfield 11, 3) := by decide +kernel
theorem dX2_keep_4 : decode cX2_keep 4 = .ok (.aload_n 0, 1) := by decide +kernel
theorem dX2_keep_5 : decode cX2_keep 5 = .ok (.getfield 18, 3) := by decide +kernel
theorem dX2_keep_8 : decode cX2_keep 8 = .ok (.aaload, 1) := by decide +kernel
theorem dX2_keep_9 : decode cX2_keep 9 = .ok (.aload_n 1, 1) := by decide +kernel
theorem dX2_keep_10 : decode cX2_keep 10 = .ok (.invokevirtual 25, 3) := by decide +kernel
theorem dX2_keep_13 : decode cX2_keep 13 = .ok (.aload_n 0, 1) := by decide +kernel
theorem dX2_keep_14 : decode cX2_keep 14 = .ok (.aload_n 0, 1) := by decide +kernel
theorem dX2_keep_15 : decode cX2_keep 15 = .ok (.getfield 18, 3) := by decide +kernel
theorem dX2_keep_18 : decode cX2_keep 18 = .ok (.iconst 1, 1) := by decide +kernel
theorem dX2_keep_19 : decode cX2_keep 19 = .ok (.iadd, 1) := by decide +kernel
theorem dX2_keep_20 : decode cX2_keep 20 = .ok (.bipush 8, 2) := by decide +kernel
theorem dX2_keep_22 : decode cX2_keep 22 = .ok (.if_icmp .ge 12, 3) := by decide +kernel
theorem dX2_keep_25 : decode cX2_keep 25 = .ok (.aload_n 0, 1) := by decide +kernel
theorem dX2_keep_26 : decode cX2_keep 26 = .ok (.getfield 18, 3) := by decide +kernel
theorem dX2_keep_29 : decode cX2_keep 29 = .ok (.iconst 1, 1) := by decide +kernel
theorem dX2_keep_30 : decode cX2_keep 30 = .ok (.iadd, 1) := by decide +kernel
theorem dX2_keep_31 : decode cX2_keep 31 = .ok (.goto 4, 3) := by decide +kernel
theorem dX2_keep_34 : decode cX2_keep 34 = .ok (.iconst 0, 1) := by decide +kernel
theorem dX2_keep_35 : decode cX2_keep 35 = .ok (.putfield 18, 3) := by decide +kernel
theorem dX2_keep_38 : decode cX2_keep 38 = .ok (.aload_n 0, 1) := by decide +kernel
theorem dX2_keep_39 : decode cX2_keep 39 = .ok (.getfield 22, 3) := by decide +kernel
theorem dX2_keep_42 : decode cX2_keep 42 = .ok (.bipush 8, 2) := by decide +kernel
theorem dX2_keep_44 : decode cX2_keep 44 = .ok (.if_icmp .ge 13, 3) := by decide +kernel
theorem dX2_keep_47 : decode cX2_keep 47 = .ok (.aload_n 0, 1) := by decide +kernel
theorem dX2_keep_48 : decode cX2_keep 48 = .ok (.dup, 1) := by decide +kernel
theorem dX2_keep_49 : decode cX2_keep 49 = .ok (.getfield 22, 3) := by decide +kernel
theorem dX2_keep_52 : decode cX2_keep 52 = .ok (.iconst 1, 1) := by decide +kernel
theorem dX2_keep_53 : decode cX2_keep 53 = .ok (.iadd, 1) := by decide +kernel
theorem dX2_keep_54 : decode cX2_keep 54 = .ok (.putfield 22, 3) := by decide +kernel
theorem dX2_keep_57 : decode cX2_keep 57 = .ok (.return_, 1) := by decide +kernel
theorem dX2_takeBack_0 : decode cX2_takeBack 0 = .ok (.aload_n 0, 1) := by decide +kernel
theorem dX2_takeBack_1 : decode cX2_takeBack 1 = .ok (.aload_n 0, 1) := by decide +kernel
theorem dX2_takeBack_2 : decode cX2_takeBack 2 = .ok (.getfield 18, 3) := by decide +kernel
theorem dX2_takeBack_5 : decode cX2_takeBack 5 = .ok (.ifCond .le 12, 3) := by decide +kernel
theorem dX2_takeBack_8 : decode cX2_takeBack 8 = .ok (.aload_n 0, 1) := by decide +kernel
theorem dX2_takeBack_9 : decode cX2_takeBack 9 = .ok (.getfield 18, 3) := by decide +kernel
theorem dX2_takeBack_12 : decode cX2_takeBack 12 = .ok (.iconst 1, 1) := by decide +kernel
theorem dX2_takeBack_13 : decode cX2_takeBack 13 = .ok (.isub, 1) := by decide +kernel
theorem dX2_takeBack_14 : decode cX2_takeBack 14 = .ok (.goto 5, 3) := by decide +kernel
theorem dX2_takeBack_17 : decode cX2_takeBack 17 = .ok (.bipush 7, 2) := by decide +kernel
theorem dX2_takeBack_19 : decode cX2_takeBack 19 = .ok (.putfield 18, 3) := by decide +kernel
theorem dX2_takeBack_22 : decode cX2_takeBack 22 = .ok (.aload_n 1, 1) := by decide +kernel
theorem dX2_takeBack_23 : decode cX2_takeBack 23 = .ok (.aload_n 0, 1) := by decide +kernel
theorem dX2_takeBack_24 : decode cX2_takeBack 24 = .ok (.getfield 11, 3) := by decide +kernel
theorem dX2_takeBack_27 : decode cX2_takeBack 27 = .ok (.aload_n 0, 1) := by decide +kernel
theorem dX2_takeBack_28 : decode cX2_takeBack 28 = .ok (.getfield 18, 3) := by decide +kernel
theorem dX2_takeBack_31 : decode cX2_takeBack 31 = .ok (.aaload, 1) := by decide +kernel
theorem dX2_takeBack_32 : decode cX2_takeBack 32 = .ok (.invokevirtual 25, 3) := by decide +kernel
theorem dX2_takeBack_35 : decode cX2_takeBack 35 = .ok (.aload_n 0, 1) := by decide +kernel
theorem dX2_takeBack_36 : decode cX2_takeBack 36 = .ok (.dup, 1) := by decide +kernel
theorem dX2_takeBack_37 : decode cX2_takeBack 37 = .ok (.getfield 22, 3) := by decide +kernel
theorem dX2_takeBack_40 : decode cX2_takeBack 40 = .ok (.iconst 1, 1) := by decide +kernel
theorem dX2_takeBack_41 : decode cX2_takeBack 41 = .ok (.isub, 1) := by decide +kernel
theorem dX2_takeBack_42 : decode cX2_takeBack 42 = .ok (.putfield 22, 3) := by decide +kernel
theorem dX2_takeBack_45 : decode cX2_takeBack 45 = .ok (.return_, 1) := by decide +kernel
theorem dX2_forget_0 : decode cX2_forget 0 = .ok (.aload_n 0, 1) := by decide +kernel
theorem dX2_forget_1 : decode cX2_forget 1 = .ok (.iconst 0, 1) := by decide +kernel
theorem dX2_forget_2 : decode cX2_forget 2 = .ok (.putfield 22, 3) := by decide +kernel
theorem dX2_forget_5 : decode cX2_forget 5 = .ok (.return_, 1) := by decide +kernel
theorem dX3_init_0 : decode cX3_init 0 = .ok (.aload_n 0, 1) := by decide +kernel
theorem dX3_init_1 : decode cX3_init 1 = .ok (.invokespecial 3, 3) := by decide +kernel
theorem dX3_init_4 : decode cX3_init 4 = .ok (.aload_n 0, 1) := by decide +kernel
theorem dX3_init_5 : decode cX3_init 5 = .ok (.bipush 60, 2) := by decide +kernel
theorem dX3_init_7 : decode cX3_init 7 = .ok (.newarray .char, 2) := by decide +kernel
theorem dX3_init_9 : decode cX3_init 9 = .ok (.putfield 9, 3) := by decide +kernel
theorem dX3_init_12 : decode cX3_init 12 = .ok (.aload_n 0, 1) := by decide +kernel
theorem dX3_init_13 : decode cX3_init 13 = .ok (.bipush 20, 2) := by decide +kernel
theorem dX3_init_15 : decode cX3_init 15 = .ok (.anewarray 15, 3) := by decide +kernel
theorem dX3_init_18 : decode cX3_init 18 = .ok (.putfield 17, 3) := by decide +kernel
theorem dX3_init_21 : decode cX3_init 21 = .ok (.iconst 0, 1) := by decide +kernel
theorem dX3_init_22 : decode cX3_init 22 = .ok (.istore_n 1, 1) := by decide +kernel
theorem dX3_init_23 : decode cX3_init 23 = .ok (.iload_n 1, 1) := by decide +kernel
theorem dX3_init_24 : decode cX3_init 24 = .ok (.bipush 20, 2) := by decide +kernel
theorem dX3_init_26 : decode cX3_init 26 = .ok (.if_icmp .ge 22, 3) := by decide +kernel
theorem dX3_init_29 : decode cX3_init 29 = .ok (.aload_n 0, 1) := by decide +kernel
theorem dX3_init_30 : decode cX3_init 30 = .ok (.getfield 17, 3) := by decide +kernel
theorem dX3_init_33 : decode cX3_init 33 = .ok (.iload_n 1, 1) := by decide +kernel
theorem dX3_init_34 : decode cX3_init 34 = .ok (.new 15, 3) := by decide +kernel
theorem dX3_init_37 : decode cX3_init 37 = .ok (.dup, 1) := by decide +kernel
theorem dX3_init_38 : decode cX3_init 38 = .ok (.invokespecial 21, 3) := by decide +kernel
theorem dX3_init_41 : decode cX3_init 41 = .ok (.aastore, 1) := by decide +kernel
theorem dX3_init_42 : decode cX3_init 42 = .ok (.iinc 1 1, 3) := by decide +kernel
theorem dX3_init_45 : decode cX3_init 45 = .ok (.goto (-22), 3) := by decide +kernel
theorem dX3_init_48 : decode cX3_init 48 = .ok (.aload_n 0, 1) := by decide +kernel
theorem dX3_init_49 : decode cX3_init 49 = .ok (.iconst 0, 1) := by decide +kernel
theorem dX3_init_50 : decode cX3_init 50 = .ok (.putfield 22, 3) := by decide +kernel
theorem dX3_init_53 : decode cX3_init 53 = .ok (.aload_n 0, 1) := by decide +kernel
theorem dX3_init_54 : decode cX3_init 54 = .ok (.iconst 0, 1) := by decide +kernel
theorem dX3_init_55 : decode cX3_init 55 = .ok (.putfield 26, 3) := by decide +kernel
theorem dX3_init_58 : decode cX3_init 58 = .ok (.aload_n 0, 1) := by decide +kernel
theorem dX3_init_59 : decode cX3_init 59 = .ok (.iconst 0, 1) := by decide +kernel
theorem dX3_init_60 : decode cX3_init 60 = .ok (.putfield 29, 3) := by decide +kernel
theorem dX3_init_63 : decode cX3_init 63 = .ok (.return_, 1) := by decide +kernel
theorem dX3_take_0 : decode cX3_take 0 = .ok (.aload_n 0, 1) := by decide +kernel
theorem dX3_take_1 : decode cX3_take 1 = .ok (.getfield 22, 3) := by decide +kernel
theorem dX3_take_4 : decode cX3_take 4 = .ok (.bipush 60, 2) := by decide +kernel
theorem dX3_take_6 : decode cX3_take 6 = .ok (.if_icmp .lt 5, 3) := by decide +kernel
theorem dX3_take_9 : decode cX3_take 9 = .ok (.iconst 0, 1) := by decide +kernel
theorem dX3_take_10 : decode cX3_take 10 = .ok (.ireturn, 1) := by decide +kernel
theorem dX3_take_11 : decode cX3_take 11 = .ok (.aload_n 0, 1) := by decide +kernel
theorem dX3_take_12 : decode cX3_take 12 = .ok (.getfield 9, 3) := by decide +kernel
theorem dX3_take_15 : decode cX3_take 15 = .ok (.aload_n 0, 1) := by decide +kernel
theorem dX3_take_16 : decode cX3_take 16 = .ok (.getfield 22, 3) := by decide +kernel
theorem dX3_take_19 : decode cX3_take 19 = .ok (.iload_n 1, 1) := by decide +kernel
theorem dX3_take_20 : decode cX3_take 20 = .ok (.castore, 1) := by decide +kernel
theorem dX3_take_21 : decode cX3_take 21 = .ok (.aload_n 0, 1) := by decide +kernel
theorem dX3_take_22 : decode cX3_take 22 = .ok (.dup, 1) := by decide +kernel
theorem dX3_take_23 : decode cX3_take 23 = .ok (.getfield 22, 3) := by decide +kernel
theorem dX3_take_26 : decode cX3_take 26 = .ok (.iconst 1, 1) := by decide +kernel
theorem dX3_take_27 : decode cX3_take 27 = .ok (.iadd, 1) := by decide +kernel
theorem dX3_take_28 : decode cX3_take 28 = .ok (.putfield 22, 3) := by decide +kernel
theorem dX3_take_31 : decode cX3_take 31 = .ok (.iconst 1, 1) := by decide +kernel
theorem dX3_take_32 : decode cX3_take 32 = .ok (.ireturn, 1) := by decide +kernel
theorem dX3_empty_0 : decode cX3_empty 0 = .ok (.aload_n 0, 1) := by decide +kernel
theorem dX3_empty_1 : decode cX3_empty 1 = .ok (.iconst 0, 1) := by decide +kernel
theorem dX3_empty_2 : decode cX3_empty 2 = .ok (.putfield 22, 3) := by decide +kernel
theorem dX3_empty_5 : decode cX3_empty 5 = .ok (.return_, 1) := by decide +kernel
theorem dX3_readOrders_0 : decode cX3_readOrders 0 = .ok (.aload_n 0, 1) := by decide +kernel
theorem dX3_readOrders_1 : decode cX3_readOrders 1 = .ok (.iconst 0, 1) := by decide +kernel
theorem dX3_readOrders_2 : decode cX3_readOrders 2 = .ok (.putfield 26, 3) := by decide +kernel
theorem dX3_readOrders_5 : decode cX3_readOrders 5 = .ok (.aload_n 0, 1) := by decide +kernel
theorem dX3_readOrders_6 : decode cX3_readOrders 6 = .ok (.iconst 0, 1) := by decide +kernel
theorem dX3_readOrders_7 : decode cX3_readOrders 7 = .ok (.putfield 29, 3) := by decide +kernel
theorem dX3_readOrders_10 : decode cX3_readOrders 10 = .ok (.iconst 0, 1) := by decide +kernel
theorem dX3_readOrders_11 : decode cX3_readOrders 11 = .ok (.istore_n 1, 1) := by decide +kernel
theorem dX3_readOrders_12 : decode cX3_readOrders 12 = .ok (.iload_n 1, 1) := by decide +kernel
theorem dX3_readOrders_13 : decode cX3_readOrders 13 = .ok (.bipush 20, 2) := by decide +kernel
theorem dX3_readOrders_15 : decode cX3_readOrders 15 = .ok (.if_icmp .ge 64, 3) := by decide +kernel
theorem dX3_readOrders_18 : decode cX3_readOrders 18 = .ok (.aload_n 0, 1) := by decide +kernel
theorem dX3_readOrders_19 : decode cX3_readOrders 19 = .ok (.aload_n 0, 1) := by decide +kernel
theorem dX3_readOrders_20 : decode cX3_readOrders 20 = .ok (.getfield 17, 3) := by decide +kernel
theorem dX3_readOrders_23 : decode cX3_readOrders 23 = .ok (.iload_n 1, 1) := by decide +kernel
theorem dX3_readOrders_24 : decode cX3_readOrders 24 = .ok (.aaload, 1) := by decide +kernel
theorem dX3_readOrders_25 : decode cX3_readOrders 25 = .ok (.invokevirtual 32, 3) := by decide +kernel
theorem dX3_readOrders_28 : decode cX3_readOrders 28 = .ok (.ifCond .ne 8, 3) := by decide +kernel
theorem dX3_readOrders_31 : decode cX3_readOrders 31 = .ok (.aload_n 0, 1) := by decide +kernel
theorem dX3_readOrders_32 : decode cX3_readOrders 32 = .ok (.getfield 29, 3) := by decide +kernel
theorem dX3_readOrders_35 : decode cX3_readOrders 35 = .ok (.ireturn, 1) := by decide +kernel
theorem dX3_readOrders_36 : decode cX3_readOrders 36 = .ok (.aload_n 0, 1) := by decide +kernel
theorem dX3_readOrders_37 : decode cX3_readOrders 37 = .ok (.dup, 1) := by decide +kernel
theorem dX3_readOrders_38 : decode cX3_readOrders 38 = .ok (.getfield 26, 3) := by decide +kernel
theorem dX3_readOrders_41 : decode cX3_readOrders 41 = .ok (.iconst 1, 1) := by decide +kernel
theorem dX3_readOrders_42 : decode cX3_readOrders 42 = .ok (.iadd, 1) := by decide +kernel
theorem dX3_readOrders_43 : decode cX3_readOrders 43 = .ok (.putfield 26, 3) := by decide +kernel
theorem dX3_readOrders_46 : decode cX3_readOrders 46 = .ok (.aload_n 0, 1) := by decide +kernel
theorem dX3_readOrders_47 : decode cX3_readOrders 47 = .ok (.getfield 29, 3) := by decide +kernel
theorem dX3_readOrders_50 : decode cX3_readOrders 50 = .ok (.aload_n 0, 1) := by decide +kernel
theorem dX3_readOrders_51 : decode cX3_readOrders 51 = .ok (.getfield 22, 3) := by decide +kernel
theorem dX3_readOrders_54 : decode cX3_readOrders 54 = .ok (.if_icmp .ne 5, 3) := by decide +kernel
theorem dX3_readOrders_57 : decode cX3_readOrders 57 = .ok (.iconst (-1), 1) := by decide +kernel
theorem dX3_readOrders_58 : decode cX3_readOrders 58 = .ok (.ireturn, 1) := by decide +kernel
theorem dX3_readOrders_59 : decode cX3_readOrders 59 = .ok (.aload_n 0, 1) := by decide +kernel
theorem dX3_readOrders_60 : decode cX3_readOrders 60 = .ok (.bipush 59, 2) := by decide +kernel
theorem dX3_readOrders_62 : decode cX3_readOrders 62 = .ok (.invokevirtual 36, 3) := by decide +kernel
theorem dX3_readOrders_65 : decode cX3_readOrders 65 = .ok (.ifCond .ne 8, 3) := by decide +kernel
theorem dX3_readOrders_68 : decode cX3_readOrders 68 = .ok (.aload_n 0, 1) := by decide +kernel
theorem dX3_readOrders_69 : decode cX3_readOrders 69 = .ok (.getfield 29, 3) := by decide +kernel
theorem dX3_readOrders_72 : decode cX3_readOrders 72 = .ok (.ireturn, 1) := by decide +kernel
theorem dX3_readOrders_73 : decode cX3_readOrders 73 = .ok (.iinc 1 1, 3) := by decide +kernel
theorem dX3_readOrders_76 : decode cX3_readOrders 76 = .ok (.goto (-64), 3) := by decide +kernel
theorem dX3_readOrders_79 : decode cX3_readOrders 79 = .ok (.aload_n 0, 1) := by decide +kernel
theorem dX3_readOrders_80 : decode cX3_readOrders 80 = .ok (.getfield 29, 3) := by decide +kernel
theorem dX3_readOrders_83 : decode cX3_readOrders 83 = .ok (.ireturn, 1) := by decide +kernel
theorem dX3_readOrder_0 : decode cX3_readOrder 0 = .ok (.aload_n 0, 1) := by decide +kernel
theorem dX3_readOrder_1 : decode cX3_readOrder 1 = .ok (.getfield 29, 3) := by decide +kernel
theorem dX3_readOrder_4 : decode cX3_readOrder 4 = .ok (.aload_n 0, 1) := by decide +kernel
theorem dX3_readOrder_5 : decode cX3_readOrder 5 = .ok (.getfield 22, 3) := by decide +kernel
theorem dX3_readOrder_8 : decode cX3_readOrder 8 = .ok (.if_icmp .lt 5, 3) := by decide +kernel
theorem dX3_readOrder_11 : decode cX3_readOrder 11 = .ok (.iconst 0, 1) := by decide +kernel
theorem dX3_readOrder_12 : decode cX3_readOrder 12 = .ok (.ireturn, 1) := by decide +kernel
theorem dX3_readOrder_13 : decode cX3_readOrder 13 = .ok (.aload_n 0, 1) := by decide +kernel
theorem dX3_readOrder_14 : decode cX3_readOrder 14 = .ok (.getfield 9, 3) := by decide +kernel
theorem dX3_readOrder_17 : decode cX3_readOrder 17 = .ok (.aload_n 0, 1) := by decide +kernel
theorem dX3_readOrder_18 : decode cX3_readOrder 18 = .ok (.getfield 29, 3) := by decide +kernel
theorem dX3_readOrder_21 : decode cX3_readOrder 21 = .ok (.caload, 1) := by decide +kernel
theorem dX3_readOrder_22 : decode cX3_readOrder 22 = .ok (.istore_n 2, 1) := by decide +kernel
theorem dX3_readOrder_23 : decode cX3_readOrder 23 = .ok (.iload_n 2, 1) := by decide +kernel
theorem dX3_readOrder_24 : decode cX3_readOrder 24 = .ok (.invokestatic 40, 3) := by decide +kernel
theorem dX3_readOrder_27 : decode cX3_readOrder 27 = .ok (.astore_n 3, 1) := by decide +kernel
theorem dX3_readOrder_28 : decode cX3_readOrder 28 = .ok (.aload_n 3, 1) := by decide +kernel
theorem dX3_readOrder_29 : decode cX3_readOrder 29 = .ok (.invokevirtual 44, 3) := by decide +kernel
theorem dX3_readOrder_32 : decode cX3_readOrder 32 = .ok (.ifCond .eq 5, 3) := by decide +kernel
theorem dX3_readOrder_35 : decode cX3_readOrder 35 = .ok (.iconst 0, 1) := by decide +kernel
theorem dX3_readOrder_36 : decode cX3_readOrder 36 = .ok (.ireturn, 1) := by decide +kernel
theorem dX3_readOrder_37 : decode cX3_readOrder 37 = .ok (.aload_n 0, 1) := by decide +kernel
theorem dX3_readOrder_38 : decode cX3_readOrder 38 = .ok (.dup, 1) := by decide +kernel
theorem dX3_readOrder_39 : decode cX3_readOrder 39 = .ok (.getfield 29, 3) := by decide +kernel
theorem dX3_readOrder_42 : decode cX3_readOrder 42 = .ok (.iconst 1, 1) := by decide +kernel
theorem dX3_readOrder_43 : decode cX3_readOrder 43 = .ok (.iadd, 1) := by decide +kernel
theorem dX3_readOrder_44 : decode cX3_readOrder 44 = .ok (.putfield 29, 3) := by decide +kernel
theorem dX3_readOrder_47 : decode cX3_readOrder 47 = .ok (.aload_n 1, 1) := by decide +kernel
theorem dX3_readOrder_48 : decode cX3_readOrder 48 = .ok (.iload_n 2, 1) := by decide +kernel
theorem dX3_readOrder_49 : decode cX3_readOrder 49 = .ok (.invokevirtual 50, 3) := by decide +kernel
theorem dX3_readOrder_52 : decode cX3_readOrder 52 = .ok (.iconst 0, 1) := by decide +kernel
theorem dX3_readOrder_53 : decode cX3_readOrder 53 = .ok (.istore 4, 2) := by decide +kernel
theorem dX3_readOrder_55 : decode cX3_readOrder 55 = .ok (.iload 4, 2) := by decide +kernel
theorem dX3_readOrder_57 : decode cX3_readOrder 57 = .ok (.aload_n 3, 1) := by decide +kernel
theorem dX3_readOrder_58 : decode cX3_readOrder 58 = .ok (.invokevirtual 54, 3) := by decide +kernel
theorem dX3_readOrder_61 : decode cX3_readOrder 61 = .ok (.if_icmp .ge 25, 3) := by decide +kernel
theorem dX3_readOrder_64 : decode cX3_readOrder 64 = .ok (.aload_n 0, 1) := by decide +kernel
theorem dX3_readOrder_65 : decode cX3_readOrder 65 = .ok (.aload_n 1, 1) := by decide +kernel
theorem dX3_readOrder_66 : decode cX3_readOrder 66 = .ok (.aload_n 3, 1) := by decide +kernel
theorem dX3_readOrder_67 : decode cX3_readOrder 67 = .ok (.iload 4, 2) := by decide +kernel
theorem dX3_readOrder_69 : decode cX3_readOrder 69 = .ok (.invokevirtual 57, 3) := by decide +kernel
theorem dX3_readOrder_72 : decode cX3_readOrder 72 = .ok (.invokevirtual 61, 3) := by decide +kernel
theorem dX3_readOrder_75 : decode cX3_readOrder 75 = .ok (.ifCond .ne 5, 3) := by decide +kernel
theorem dX3_readOrder_78 : decode cX3_readOrder 78 = .ok (.iconst 0, 1) := by decide +kernel
theorem dX3_readOrder_79 : decode cX3_readOrder 79 = .ok (.ireturn, 1) := by decide +kernel
theorem dX3_readOrder_80 : decode cX3_readOrder 80 = .ok (.iinc 4 1, 3) := by decide +kernel
theorem dX3_readOrder_83 : decode cX3_readOrder 83 = .ok (.goto (-28), 3) := by decide +kernel
theorem dX3_readOrder_86 : decode cX3_readOrder 86 = .ok (.iconst 1, 1) := by decide +kernel
theorem dX3_readOrder_87 : decode cX3_readOrder 87 = .ok (.ireturn, 1) := by decide +kernel
theorem dX3_shapeOf_0 : decode cX3_shapeOf 0 = .ok (.iload_n 0, 1) := by decide +kernel
theorem dX3_shapeOf_1 : decode cX3_shapeOf 1 = .ok (.tableswitch 128 99 121 #[125, 128, 128, 128, 128, 128, 128, 128, 128, 128, 128, 119, 128, 107, 128, 113, 122, 128, 128, 128, 110, 128, 116], 107) := by decide +kernel
theorem dX3_shapeOf_108 : decode cX3_shapeOf 108 = .ok (.ldc 65, 2) := by decide +kernel
theorem dX3_shapeOf_110 : decode cX3_shapeOf 110 = .ok (.areturn, 1) := by decide +kernel
theorem dX3_shapeOf_111 : decode cX3_shapeOf 111 = .ok (.ldc 67, 2) := by decide +kernel
theorem dX3_shapeOf_113 : decode cX3_shapeOf 113 = .ok (.areturn, 1) := by decide +kernel
theorem dX3_shapeOf_114 : decode cX3_shapeOf 114 = .ok (.ldc 67, 2) := by decide +kernel
theorem dX3_shapeOf_116 : decode cX3_shapeOf 116 = .ok (.areturn, 1) := by decide +kernel
theorem dX3_shapeOf_117 : decode cX3_shapeOf 117 = .ok (.ldc 69, 2) := by decide +kernel
theorem dX3_shapeOf_119 : decode cX3_shapeOf 119 = .ok (.areturn, 1) := by decide +kernel
theorem dX3_shapeOf_120 : decode cX3_shapeOf 120 = .ok (.ldc 67, 2) := by decide +kernel
theorem dX3_shapeOf_122 : decode cX3_shapeOf 122 = .ok (.areturn, 1) := by decide +kernel
theorem dX3_shapeOf_123 : decode cX3_shapeOf 123 = .ok (.ldc 71, 2) := by decide +kernel
theorem dX3_shapeOf_125 : decode cX3_shapeOf 125 = .ok (.areturn, 1) := by decide +kernel
theorem dX3_shapeOf_126 : decode cX3_shapeOf 126 = .ok (.ldc 73, 2) := by decide +kernel
theorem dX3_shapeOf_128 : decode cX3_shapeOf 128 = .ok (.areturn, 1) := by decide +kernel
theorem dX3_shapeOf_129 : decode cX3_shapeOf 129 = .ok (.ldc 75, 2) := by decide +kernel
theorem dX3_shapeOf_131 : decode cX3_shapeOf 131 = .ok (.areturn, 1) := by decide +kernel
theorem dX3_readPart_0 : decode cX3_readPart 0 = .ok (.iload_n 2, 1) := by decide +kernel
theorem dX3_readPart_1 : decode cX3_readPart 1 = .ok (.invokestatic 77, 3) := by decide +kernel
theorem dX3_readPart_4 : decode cX3_readPart 4 = .ok (.ifCond .ne 9, 3) := by decide +kernel
theorem dX3_readPart_7 : decode cX3_readPart 7 = .ok (.aload_n 0, 1) := by decide +kernel
theorem dX3_readPart_8 : decode cX3_readPart 8 = .ok (.iload_n 2, 1) := by decide +kernel
theorem dX3_readPart_9 : decode cX3_readPart 9 = .ok (.invokevirtual 36, 3) := by decide +kernel
theorem dX3_readPart_12 : decode cX3_readPart 12 = .ok (.ireturn, 1) := by decide +kernel
theorem dX3_readPart_13 : decode cX3_readPart 13 = .ok (.aload_n 0, 1) := by decide +kernel
theorem dX3_readPart_14 : decode cX3_readPart 14 = .ok (.iload_n 2, 1) := by decide +kernel
theorem dX3_readPart_15 : decode cX3_readPart 15 = .ok (.bipush 48, 2) := by decide +kernel
theorem dX3_readPart_17 : decode cX3_readPart 17 = .ok (.isub, 1) := by decide +kernel
theorem dX3_readPart_18 : decode cX3_readPart 18 = .ok (.invokevirtual 80, 3) := by decide +kernel
theorem dX3_readPart_21 : decode cX3_readPart 21 = .ok (.istore_n 3, 1) := by decide +kernel
theorem dX3_readPart_22 : decode cX3_readPart 22 = .ok (.iload_n 3, 1) := by decide +kernel
theorem dX3_readPart_23 : decode cX3_readPart 23 = .ok (.iconst (-1), 1) := by decide +kernel
theorem dX3_readPart_24 : decode cX3_readPart 24 = .ok (.if_icmp .ne 5, 3) := by decide +kernel
theorem dX3_readPart_27 : decode cX3_readPart 27 = .ok (.iconst 0, 1) := by decide +kernel
theorem dX3_readPart_28 : decode cX3_readPart 28 = .ok (.ireturn, 1) := by decide +kernel
theorem dX3_readPart_29 : decode cX3_readPart 29 = .ok (.aload_n 1, 1) := by decide +kernel
theorem dX3_readPart_30 : decode cX3_readPart 30 = .ok (.iload_n 3, 1) := by decide +kernel
theorem dX3_readPart_31 : decode cX3_readPart 31 = .ok (.invokevirtual 84, 3) := by decide +kernel
theorem dX3_readPart_34 : decode cX3_readPart 34 = .ok (.iconst 1, 1) := by decide +kernel
theorem dX3_readPart_35 : decode cX3_readPart 35 = .ok (.ireturn, 1) := by decide +kernel
theorem dX3_readNumber_0 : decode cX3_readNumber 0 = .ok (.iconst (-1), 1) := by decide +kernel
theorem dX3_readNumber_1 : decode cX3_readNumber 1 = .ok (.istore_n 2, 1) := by decide +kernel
theorem dX3_readNumber_2 : decode cX3_readNumber 2 = .ok (.iconst 0, 1) := by decide +kernel
theorem dX3_readNumber_3 : decode cX3_readNumber 3 = .ok (.istore_n 3, 1) := by decide +kernel
theorem dX3_readNumber_4 : decode cX3_readNumber 4 = .ok (.iload_n 3, 1) := by decide +kernel
theorem dX3_readNumber_5 : decode cX3_readNumber 5 = .ok (.iload_n 1, 1) := by decide +kernel
theorem dX3_readNumber_6 : decode cX3_readNumber 6 = .ok (.if_icmp .ge 71, 3) := by decide +kernel
theorem dX3_readNumber_9 : decode cX3_readNumber 9 = .ok (.aload_n 0, 1) := by decide +kernel
theorem dX3_readNumber_10 : decode cX3_readNumber 10 = .ok (.getfield 29, 3) := by decide +kernel
theorem dX3_readNumber_13 : decode cX3_readNumber 13 = .ok (.aload_n 0, 1) := by decide +kernel
theorem dX3_readNumber_14 : decode cX3_readNumber 14 = .ok (.getfield 22, 3) := by decide +kernel
theorem dX3_readNumber_17 : decode cX3_readNumber 17 = .ok (.if_icmp .ge 60, 3) := by decide +kernel
theorem dX3_readNumber_20 : decode cX3_readNumber 20 = .ok (.aload_n 0, 1) := by decide +kernel
theorem dX3_readNumber_21 : decode cX3_readNumber 21 = .ok (.getfield 9, 3) := by decide +kernel
theorem dX3_readNumber_24 : decode cX3_readNumber 24 = .ok (.aload_n 0, 1) := by decide +kernel
theorem dX3_readNumber_25 : decode cX3_readNumber 25 = .ok (.getfield 29, 3) := by decide +kernel
theorem dX3_readNumber_28 : decode cX3_readNumber 28 = .ok (.caload, 1) := by decide +kernel
theorem dX3_readNumber_29 : decode cX3_readNumber 29 = .ok (.invokestatic 77, 3) := by decide +kernel
theorem dX3_readNumber_32 : decode cX3_readNumber 32 = .ok (.ifCond .eq 45, 3) := by decide +kernel
theorem dX3_readNumber_35 : decode cX3_readNumber 35 = .ok (.iload_n 3, 1) := by decide +kernel
theorem dX3_readNumber_36 : decode cX3_readNumber 36 = .ok (.ifCond .ne 7, 3) := by decide +kernel
theorem dX3_readNumber_39 : decode cX3_readNumber 39 = .ok (.iconst 0, 1) := by decide +kernel
theorem dX3_readNumber_40 : decode cX3_readNumber 40 = .ok (.goto 7, 3) := by decide +kernel
theorem dX3_readNumber_43 : decode cX3_readNumber 43 = .ok (.iload_n 2, 1) := by decide +kernel
theorem dX3_readNumber_44 : decode cX3_readNumber 44 = .ok (.bipush 10, 2) := by decide +kernel
theorem dX3_readNumber_46 : decode cX3_readNumber 46 = .ok (.imul, 1) := by decide +kernel
theorem dX3_readNumber_47 : decode cX3_readNumber 47 = .ok (.aload_n 0, 1) := by decide +kernel
theorem dX3_readNumber_48 : decode cX3_readNumber 48 = .ok (.getfield 9, 3) := by decide +kernel
theorem dX3_readNumber_51 : decode cX3_readNumber 51 = .ok (.aload_n 0, 1) := by decide +kernel
theorem dX3_readNumber_52 : decode cX3_readNumber 52 = .ok (.getfield 29, 3) := by decide +kernel
theorem dX3_readNumber_55 : decode cX3_readNumber 55 = .ok (.caload, 1) := by decide +kernel
theorem dX3_readNumber_56 : decode cX3_readNumber 56 = .ok (.bipush 48, 2) := by decide +kernel
theorem dX3_readNumber_58 : decode cX3_readNumber 58 = .ok (.isub, 1) := by decide +kernel
theorem dX3_readNumber_59 : decode cX3_readNumber 59 = .ok (.iadd, 1) := by decide +kernel
theorem dX3_readNumber_60 : decode cX3_readNumber 60 = .ok (.istore_n 2, 1) := by decide +kernel
theorem dX3_readNumber_61 : decode cX3_readNumber 61 = .ok (.aload_n 0, 1) := by decide +kernel
theorem dX3_readNumber_62 : decode cX3_readNumber 62 = .ok (.dup, 1) := by decide +kernel
theorem dX3_readNumber_63 : decode cX3_readNumber 63 = .ok (.getfield 29, 3) := by decide +kernel
theorem dX3_readNumber_66 : decode cX3_readNumber 66 = .ok (.iconst 1, 1) := by decide +kernel
theorem dX3_readNumber_67 : decode cX3_readNumber 67 = .ok (.iadd, 1) := by decide +kernel
theorem dX3_readNumber_68 : decode cX3_readNumber 68 = .ok (.putfield 29, 3) := by decide +kernel
theorem dX3_readNumber_71 : decode cX3_readNumber 71 = .ok (.iinc 3 1, 3) := by decide +kernel
theorem dX3_readNumber_74 : decode cX3_readNumber 74 = .ok (.goto (-70), 3) := by decide +kernel
theorem dX3_readNumber_77 : decode cX3_readNumber 77 = .ok (.iload_n 2, 1) := by decide +kernel
theorem dX3_readNumber_78 : decode cX3_readNumber 78 = .ok (.ireturn, 1) := by decide +kernel
theorem dX3_readSign_0 : decode cX3_readSign 0 = .ok (.aload_n 0, 1) := by decide +kernel
theorem dX3_readSign_1 : decode cX3_readSign 1 = .ok (.getfield 29, 3) := by decide +kernel
theorem dX3_readSign_4 : decode cX3_readSign 4 = .ok (.aload_n 0, 1) := by decide +kernel
theorem dX3_readSign_5 : decode cX3_readSign 5 = .ok (.getfield 22, 3) := by decide +kernel
theorem dX3_readSign_8 : decode cX3_readSign 8 = .ok (.if_icmp .ge 16, 3) := by decide +kernel
theorem dX3_readSign_11 : decode cX3_readSign 11 = .ok (.aload_n 0, 1) := by decide +kernel
theorem dX3_readSign_12 : decode cX3_readSign 12 = .ok (.getfield 9, 3) := by decide +kernel
theorem dX3_readSign_15 : decode cX3_readSign 15 = .ok (.aload_n 0, 1) := by decide +kernel
theorem dX3_readSign_16 : decode cX3_readSign 16 = .ok (.getfield 29, 3) := by decide +kernel
theorem dX3_readSign_19 : decode cX3_readSign 19 = .ok (.caload, 1) := by decide +kernel
theorem dX3_readSign_20 : decode cX3_readSign 20 = .ok (.iload_n 1, 1) := by decide +kernel
theorem dX3_readSign_21 : decode cX3_readSign 21 = .ok (.if_icmp .eq 5, 3) := by decide +kernel
theorem dX3_readSign_24 : decode cX3_readSign 24 = .ok (.iconst 0, 1) := by decide +kernel
theorem dX3_readSign_25 : decode cX3_readSign 25 = .ok (.ireturn, 1) := by decide +kernel
theorem dX3_readSign_26 : decode cX3_readSign 26 = .ok (.aload_n 0, 1) := by decide +kernel
theorem dX3_readSign_27 : decode cX3_readSign 27 = .ok (.dup, 1) := by decide +kernel
theorem dX3_readSign_28 : decode cX3_readSign 28 = .ok (.getfield 29, 3) := by decide +kernel
theorem dX3_readSign_31 : decode cX3_readSign 31 = .ok (.iconst 1, 1) := by decide +kernel
theorem dX3_readSign_32 : decode cX3_readSign 32 = .ok (.iadd, 1) := by decide +kernel
theorem dX3_readSign_33 : decode cX3_readSign 33 = .ok (.putfield 29, 3) := by decide +kernel
theorem dX3_readSign_36 : decode cX3_readSign 36 = .ok (.iconst 1, 1) := by decide +kernel
theorem dX3_readSign_37 : decode cX3_readSign 37 = .ok (.ireturn, 1) := by decide +kernel
theorem dX3_isDigit_0 : decode cX3_isDigit 0 = .ok (.iload_n 0, 1) := by decide +kernel
theorem dX3_isDigit_1 : decode cX3_isDigit 1 = .ok (.bipush 48, 2) := by decide +kernel
theorem dX3_isDigit_3 : decode cX3_isDigit 3 = .ok (.if_icmp .lt 13, 3) := by decide +kernel
theorem dX3_isDigit_6 : decode cX3_isDigit 6 = .ok (.iload_n 0, 1) := by decide +kernel
theorem dX3_isDigit_7 : decode cX3_isDigit 7 = .ok (.bipush 57, 2) := by decide +kernel
theorem dX3_isDigit_9 : decode cX3_isDigit 9 = .ok (.if_icmp .gt 7, 3) := by decide +kernel
theorem dX3_isDigit_12 : decode cX3_isDigit 12 = .ok (.iconst 1, 1) := by decide +kernel
theorem dX3_isDigit_13 : decode cX3_isDigit 13 = .ok (.goto 4, 3) := by decide +kernel
theorem dX3_isDigit_16 : decode cX3_isDigit 16 = .ok (.iconst 0, 1) := by decide +kernel
theorem dX3_isDigit_17 : decode cX3_isDigit 17 = .ok (.ireturn, 1) := by decide +kernel
theorem dX4_init_0 : decode cX4_init 0 = .ok (.aload_n 0, 1) := by decide +kernel
theorem dX4_init_1 : decode cX4_init 1 = .ok (.invokespecial 1, 3) := by decide +kernel
theorem dX4_init_4 : decode cX4_init 4 = .ok (.return_, 1) := by decide +kernel
theorem dX4_begin_0 : decode cX4_begin 0 = .ok (.aload_n 0, 1) := by decide +kernel
theorem dX4_begin_1 : decode cX4_begin 1 = .ok (.iload_n 1, 1) := by decide +kernel
theorem dX4_begin_2 : decode cX4_begin 2 = .ok (.putfield 7, 3) := by decide +kernel
theorem dX4_begin_5 : decode cX4_begin 5 = .ok (.aload_n 0, 1) := by decide +kernel
theorem dX4_begin_6 : decode cX4_begin 6 = .ok (.iconst 0, 1) := by decide +kernel
theorem dX4_begin_7 : decode cX4_begin 7 = .ok (.putfield 13, 3) := by decide +kernel
theorem dX4_begin_10 : decode cX4_begin 10 = .ok (.aload_n 0, 1) := by decide +kernel
theorem dX4_begin_11 : decode cX4_begin 11 = .ok (.iconst 0, 1) := by decide +kernel
theorem dX4_begin_12 : decode cX4_begin 12 = .ok (.putfield 17, 3) := by decide +kernel
theorem dX4_begin_15 : decode cX4_begin 15 = .ok (.aload_n 0, 1) := by decide +kernel
theorem dX4_begin_16 : decode cX4_begin 16 = .ok (.iconst 0, 1) := by decide +kernel
theorem dX4_begin_17 : decode cX4_begin 17 = .ok (.putfield 20, 3) := by decide +kernel
theorem dX4_begin_20 : decode cX4_begin 20 = .ok (.aload_n 0, 1) := by decide +kernel
theorem dX4_begin_21 : decode cX4_begin 21 = .ok (.iconst 0, 1) := by decide +kernel
theorem dX4_begin_22 : decode cX4_begin 22 = .ok (.putfield 23, 3) := by decide +kernel
theorem dX4_begin_25 : decode cX4_begin 25 = .ok (.return_, 1) := by decide +kernel
theorem dX4_add_0 : decode cX4_add 0 = .ok (.aload_n 0, 1) := by decide +kernel
theorem dX4_add_1 : decode cX4_add 1 = .ok (.getfield 23, 3) := by decide +kernel
theorem dX4_add_4 : decode cX4_add 4 = .ok (.lookupswitch 44 #[(0, 28), (1, 36)], 28) := by decide +kernel
theorem dX4_add_32 : decode cX4_add 32 = .ok (.aload_n 0, 1) := by decide +kernel
theorem dX4_add_33 : decode cX4_add 33 = .ok (.iload_n 1, 1) := by decide +kernel
theorem dX4_add_34 : decode cX4_add 34 = .ok (.putfield 13, 3) := by decide +kernel
theorem dX4_add_37 : decode cX4_add 37 = .ok (.goto 16, 3) := by decide +kernel
theorem dX4_add_40 : decode cX4_add 40 = .ok (.aload_n 0, 1) := by decide +kernel
theorem dX4_add_41 : decode cX4_add 41 = .ok (.iload_n 1, 1) := by decide +kernel
theorem dX4_add_42 : decode cX4_add 42 = .ok (.putfield 17, 3) := by decide +kernel
theorem dX4_add_45 : decode cX4_add 45 = .ok (.goto 8, 3) := by decide +kernel
theorem dX4_add_48 : decode cX4_add 48 = .ok (.aload_n 0, 1) := by decide +kernel
theorem dX4_add_49 : decode cX4_add 49 = .ok (.iload_n 1, 1) := by decide +kernel
theorem dX4_add_50 : decode cX4_add 50 = .ok (.putfield 20, 3) := by decide +kernel
theorem dX4_add_53 : decode cX4_add 53 = .ok (.aload_n 0, 1) := by decide +kernel
theorem dX4_add_54 : decode cX4_add 54 = .ok (.dup, 1) := by decide +kernel
theorem dX4_add_55 : decode cX4_add 55 = .ok (.getfield 23, 3) := by decide +kernel
theorem dX4_add_58 : decode cX4_add 58 = .ok (.iconst 1, 1) := by decide +kernel
theorem dX4_add_59 : decode cX4_add 59 = .ok (.iadd, 1) := by decide +kernel
theorem dX4_add_60 : decode cX4_add 60 = .ok (.putfield 23, 3) := by decide +kernel
theorem dX4_add_63 : decode cX4_add 63 = .ok (.return_, 1) := by decide +kernel
theorem dX5_init_0 : decode cX5_init 0 = .ok (.aload_n 0, 1) := by decide +kernel
theorem dX5_init_1 : decode cX5_init 1 = .ok (.invokespecial 3, 3) := by decide +kernel
theorem dX5_init_4 : decode cX5_init 4 = .ok (.return_, 1) := by decide +kernel
theorem dX5_begin_0 : decode cX5_begin 0 = .ok (.aload_n 0, 1) := by decide +kernel
theorem dX5_begin_1 : decode cX5_begin 1 = .ok (.aload_n 1, 1) := by decide +kernel
theorem dX5_begin_2 : decode cX5_begin 2 = .ok (.getfield 9, 3) := by decide +kernel
theorem dX5_begin_5 : decode cX5_begin 5 = .ok (.putfield 15, 3) := by decide +kernel
theorem dX5_begin_8 : decode cX5_begin 8 = .ok (.aload_n 0, 1) := by decide +kernel
theorem dX5_begin_9 : decode cX5_begin 9 = .ok (.aload_n 1, 1) := by decide +kernel
theorem dX5_begin_10 : decode cX5_begin 10 = .ok (.getfield 20, 3) := by decide +kernel
theorem dX5_begin_13 : decode cX5_begin 13 = .ok (.putfield 23, 3) := by decide +kernel
theorem dX5_begin_16 : decode cX5_begin 16 = .ok (.aload_n 0, 1) := by decide +kernel
theorem dX5_begin_17 : decode cX5_begin 17 = .ok (.aload_n 1, 1) := by decide +kernel
theorem dX5_begin_18 : decode cX5_begin 18 = .ok (.getfield 26, 3) := by decide +kernel
theorem dX5_begin_21 : decode cX5_begin 21 = .ok (.putfield 29, 3) := by decide +kernel
theorem dX5_begin_24 : decode cX5_begin 24 = .ok (.aload_n 0, 1) := by decide +kernel
theorem dX5_begin_25 : decode cX5_begin 25 = .ok (.aload_n 1, 1) := by decide +kernel
theorem dX5_begin_26 : decode cX5_begin 26 = .ok (.getfield 26, 3) := by decide +kernel
theorem dX5_begin_29 : decode cX5_begin 29 = .ok (.putfield 32, 3) := by decide +kernel
theorem dX5_begin_32 : decode cX5_begin 32 = .ok (.aload_n 0, 1) := by decide +kernel
theorem dX5_begin_33 : decode cX5_begin 33 = .ok (.iconst 0, 1) := by decide +kernel
theorem dX5_begin_34 : decode cX5_begin 34 = .ok (.putfield 35, 3) := by decide +kernel
theorem dX5_begin_37 : decode cX5_begin 37 = .ok (.aload_n 0, 1) := by decide +kernel
theorem dX5_begin_38 : decode cX5_begin 38 = .ok (.iconst 0, 1) := by decide +kernel
theorem dX5_begin_39 : decode cX5_begin 39 = .ok (.putfield 38, 3) := by decide +kernel
theorem dX5_begin_42 : decode cX5_begin 42 = .ok (.aload_n 0, 1) := by decide +kernel
theorem dX5_begin_43 : decode cX5_begin 43 = .ok (.iload_n 3, 1) := by decide +kernel
theorem dX5_begin_44 : decode cX5_begin 44 = .ok (.putfield 41, 3) := by decide +kernel
theorem dX5_begin_47 : decode cX5_begin 47 = .ok (.aload_n 0, 1) := by decide +kernel
theorem dX5_begin_48 : decode cX5_begin 48 = .ok (.iload_n 2, 1) := by decide +kernel
theorem dX5_begin_49 : decode cX5_begin 49 = .ok (.putfield 44, 3) := by decide +kernel
theorem dX5_begin_52 : decode cX5_begin 52 = .ok (.aload_n 0, 1) := by decide +kernel
theorem dX5_begin_53 : decode cX5_begin 53 = .ok (.iconst 0, 1) := by decide +kernel
theorem dX5_begin_54 : decode cX5_begin 54 = .ok (.putfield 47, 3) := by decide +kernel
theorem dX5_begin_57 : decode cX5_begin 57 = .ok (.aload_n 0, 1) := by decide +kernel
theorem dX5_begin_58 : decode cX5_begin 58 = .ok (.iconst 0, 1) := by decide +kernel
theorem dX5_begin_59 : decode cX5_begin 59 = .ok (.putfield 50, 3) := by decide +kernel
theorem dX5_begin_62 : decode cX5_begin 62 = .ok (.aload_n 0, 1) := by decide +kernel
theorem dX5_begin_63 : decode cX5_begin 63 = .ok (.iconst 0, 1) := by decide +kernel
theorem dX5_begin_64 : decode cX5_begin 64 = .ok (.putfield 53, 3) := by decide +kernel
theorem dX5_begin_67 : decode cX5_begin 67 = .ok (.aload_n 0, 1) := by decide +kernel
theorem dX5_begin_68 : decode cX5_begin 68 = .ok (.iconst 0, 1) := by decide +kernel
theorem dX5_begin_69 : decode cX5_begin 69 = .ok (.putfield 56, 3) := by decide +kernel
theorem dX5_begin_72 : decode cX5_begin 72 = .ok (.return_, 1) := by decide +kernel
theorem dX5_copyFrom_0 : decode cX5_copyFrom 0 = .ok (.aload_n 0, 1) := by decide +kernel
theorem dX5_copyFrom_1 : decode cX5_copyFrom 1 = .ok (.aload_n 1, 1) := by decide +kernel
theorem dX5_copyFrom_2 : decode cX5_copyFrom 2 = .ok (.getfield 15, 3) := by decide +kernel
theorem dX5_copyFrom_5 : decode cX5_copyFrom 5 = .ok (.putfield 15, 3) := by decide +kernel
theorem dX5_copyFrom_8 : decode cX5_copyFrom 8 = .ok (.aload_n 0, 1) := by decide +kernel
theorem dX5_copyFrom_9 : decode cX5_copyFrom 9 = .ok (.aload_n 1, 1) := by decide +kernel
theorem dX5_copyFrom_10 : decode cX5_copyFrom 10 = .ok (.getfield 23, 3) := by decide +kernel
theorem dX5_copyFrom_13 : decode cX5_copyFrom 13 = .ok (.putfield 23, 3) := by decide +kernel
theorem dX5_copyFrom_16 : decode cX5_copyFrom 16 = .ok (.aload_n 0, 1) := by decide +kernel
theorem dX5_copyFrom_17 : decode cX5_copyFrom 17 = .ok (.aload_n 1, 1) := by decide +kernel
theorem dX5_copyFrom_18 : decode cX5_copyFrom 18 = .ok (.getfield 29, 3) := by decide +kernel
theorem dX5_copyFrom_21 : decode cX5_copyFrom 21 = .ok (.putfield 29, 3) := by decide +kernel
theorem dX5_copyFrom_24 : decode cX5_copyFrom 24 = .ok (.aload_n 0, 1) := by decide +kernel
theorem dX5_copyFrom_25 : decode cX5_copyFrom 25 = .ok (.aload_n 1, 1) := by decide +kernel
theorem dX5_copyFrom_26 : decode cX5_copyFrom 26 = .ok (.getfield 32, 3) := by decide +kernel
theorem dX5_copyFrom_29 : decode cX5_copyFrom 29 = .ok (.putfield 32, 3) := by decide +kernel
theorem dX5_copyFrom_32 : decode cX5_copyFrom 32 = .ok (.aload_n 0, 1) := by decide +kernel
theorem dX5_copyFrom_33 : decode cX5_copyFrom 33 = .ok (.aload_n 1, 1) := by decide +kernel
theorem dX5_copyFrom_34 : decode cX5_copyFrom 34 = .ok (.getfield 35, 3) := by decide +kernel
theorem dX5_copyFrom_37 : decode cX5_copyFrom 37 = .ok (.putfield 35, 3) := by decide +kernel
theorem dX5_copyFrom_40 : decode cX5_copyFrom 40 = .ok (.aload_n 0, 1) := by decide +kernel
theorem dX5_copyFrom_41 : decode cX5_copyFrom 41 = .ok (.aload_n 1, 1) := by decide +kernel
theorem dX5_copyFrom_42 : decode cX5_copyFrom 42 = .ok (.getfield 38, 3) := by decide +kernel
theorem dX5_copyFrom_45 : decode cX5_copyFrom 45 = .ok (.putfield 38, 3) := by decide +kernel
theorem dX5_copyFrom_48 : decode cX5_copyFrom 48 = .ok (.aload_n 0, 1) := by decide +kernel
theorem dX5_copyFrom_49 : decode cX5_copyFrom 49 = .ok (.aload_n 1, 1) := by decide +kernel
theorem dX5_copyFrom_50 : decode cX5_copyFrom 50 = .ok (.getfield 41, 3) := by decide +kernel
theorem dX5_copyFrom_53 : decode cX5_copyFrom 53 = .ok (.putfield 41, 3) := by decide +kernel
theorem dX5_copyFrom_56 : decode cX5_copyFrom 56 = .ok (.aload_n 0, 1) := by decide +kernel
theorem dX5_copyFrom_57 : decode cX5_copyFrom 57 = .ok (.aload_n 1, 1) := by decide +kernel
theorem dX5_copyFrom_58 : decode cX5_copyFrom 58 = .ok (.getfield 44, 3) := by decide +kernel
theorem dX5_copyFrom_61 : decode cX5_copyFrom 61 = .ok (.putfield 44, 3) := by decide +kernel
theorem dX5_copyFrom_64 : decode cX5_copyFrom 64 = .ok (.aload_n 0, 1) := by decide +kernel
theorem dX5_copyFrom_65 : decode cX5_copyFrom 65 = .ok (.aload_n 1, 1) := by decide +kernel
theorem dX5_copyFrom_66 : decode cX5_copyFrom 66 = .ok (.getfield 47, 3) := by decide +kernel
theorem dX5_copyFrom_69 : decode cX5_copyFrom 69 = .ok (.putfield 47, 3) := by decide +kernel
theorem dX5_copyFrom_72 : decode cX5_copyFrom 72 = .ok (.aload_n 0, 1) := by decide +kernel
theorem dX5_copyFrom_73 : decode cX5_copyFrom 73 = .ok (.aload_n 1, 1) := by decide +kernel
theorem dX5_copyFrom_74 : decode cX5_copyFrom 74 = .ok (.getfield 50, 3) := by decide +kernel
theorem dX5_copyFrom_77 : decode cX5_copyFrom 77 = .ok (.putfield 50, 3) := by decide +kernel
theorem dX5_copyFrom_80 : decode cX5_copyFrom 80 = .ok (.aload_n 0, 1) := by decide +kernel
theorem dX5_copyFrom_81 : decode cX5_copyFrom 81 = .ok (.aload_n 1, 1) := by decide +kernel
theorem dX5_copyFrom_82 : decode cX5_copyFrom 82 = .ok (.getfield 53, 3) := by decide +kernel
theorem dX5_copyFrom_85 : decode cX5_copyFrom 85 = .ok (.putfield 53, 3) := by decide +kernel
theorem dX5_copyFrom_88 : decode cX5_copyFrom 88 = .ok (.aload_n 0, 1) := by decide +kernel
theorem dX5_copyFrom_89 : decode cX5_copyFrom 89 = .ok (.aload_n 1, 1) := by decide +kernel
theorem dX5_copyFrom_90 : decode cX5_copyFrom 90 = .ok (.getfield 56, 3) := by decide +kernel
theorem dX5_copyFrom_93 : decode cX5_copyFrom 93 = .ok (.putfield 56, 3) := by decide +kernel
theorem dX5_copyFrom_96 : decode cX5_copyFrom 96 = .ok (.return_, 1) := by decide +kernel
theorem dX5_number_0 : decode cX5_number 0 = .ok (.iload_n 1, 1) := by decide +kernel
theorem dX5_number_1 : decode cX5_number 1 = .ok (.tableswitch 87 0 7 #[47, 52, 57, 62, 67, 72, 77, 82], 47) := by decide +kernel
theorem dX5_number_48 : decode cX5_number 48 = .ok (.aload_n 0, 1) := by decide +kernel
theorem dX5_number_49 : decode cX5_number 49 = .ok (.getfield 15, 3) := by decide +kernel
theorem dX5_number_52 : decode cX5_number 52 = .ok (.ireturn, 1) := by decide +kernel
theorem dX5_number_53 : decode cX5_number 53 = .ok (.aload_n 0, 1) := by decide +kernel
theorem dX5_number_54 : decode cX5_number 54 = .ok (.getfield 23, 3) := by decide +kernel
theorem dX5_number_57 : decode cX5_number 57 = .ok (.ireturn, 1) := by decide +kernel
theorem dX5_number_58 : decode cX5_number 58 = .ok (.aload_n 0, 1) := by decide +kernel
theorem dX5_number_59 : decode cX5_number 59 = .ok (.getfield 32, 3) := by decide +kernel
theorem dX5_number_62 : decode cX5_number 62 = .ok (.ireturn, 1) := by decide +kernel
theorem dX5_number_63 : decode cX5_number 63 = .ok (.aload_n 0, 1) := by decide +kernel
theorem dX5_number_64 : decode cX5_number 64 = .ok (.getfield 35, 3) := by decide +kernel
theorem dX5_number_67 : decode cX5_number 67 = .ok (.ireturn, 1) := by decide +kernel
theorem dX5_number_68 : decode cX5_number 68 = .ok (.aload_n 0, 1) := by decide +kernel
theorem dX5_number_69 : decode cX5_number 69 = .ok (.getfield 38, 3) := by decide +kernel
theorem dX5_number_72 : decode cX5_number 72 = .ok (.ireturn, 1) := by decide +kernel
theorem dX5_number_73 : decode cX5_number 73 = .ok (.aload_n 0, 1) := by decide +kernel
theorem dX5_number_74 : decode cX5_number 74 = .ok (.getfield 41, 3) := by decide +kernel
theorem dX5_number_77 : decode cX5_number 77 = .ok (.ireturn, 1) := by decide +kernel
theorem dX5_number_78 : decode cX5_number 78 = .ok (.aload_n 0, 1) := by decide +kernel
theorem dX5_number_79 : decode cX5_number 79 = .ok (.getfield 44, 3) := by decide +kernel
theorem dX5_number_82 : decode cX5_number 82 = .ok (.ireturn, 1) := by decide +kernel
theorem dX5_number_83 : decode cX5_number 83 = .ok (.aload_n 0, 1) := by decide +kernel
theorem dX5_number_84 : decode cX5_number 84 = .ok (.getfield 47, 3) := by decide +kernel
theorem dX5_number_87 : decode cX5_number 87 = .ok (.ireturn, 1) := by decide +kernel
theorem dX5_number_88 : decode cX5_number 88 = .ok (.aload_n 0, 1) := by decide +kernel
theorem dX5_number_89 : decode cX5_number 89 = .ok (.getfield 50, 3) := by decide +kernel
theorem dX5_number_92 : decode cX5_number 92 = .ok (.ireturn, 1) := by decide +kernel
theorem dX5_owed_0 : decode cX5_owed 0 = .ok (.aload_n 0, 1) := by decide +kernel
theorem dX5_owed_1 : decode cX5_owed 1 = .ok (.getfield 32, 3) := by decide +kernel
theorem dX5_owed_4 : decode cX5_owed 4 = .ok (.aload_n 0, 1) := by decide +kernel
theorem dX5_owed_5 : decode cX5_owed 5 = .ok (.getfield 35, 3) := by decide +kernel
theorem dX5_owed_8 : decode cX5_owed 8 = .ok (.iadd, 1) := by decide +kernel
theorem dX5_owed_9 : decode cX5_owed 9 = .ok (.ireturn, 1) := by decide +kernel
theorem dX5_weeklyInterest_0 : decode cX5_weeklyInterest 0 = .ok (.aload_n 0, 1) := by decide +kernel
theorem dX5_weeklyInterest_1 : decode cX5_weeklyInterest 1 = .ok (.getfield 32, 3) := by decide +kernel
theorem dX5_weeklyInterest_4 : decode cX5_weeklyInterest 4 = .ok (.aload_n 0, 1) := by decide +kernel
theorem dX5_weeklyInterest_5 : decode cX5_weeklyInterest 5 = .ok (.getfield 44, 3) := by decide +kernel
theorem dX5_weeklyInterest_8 : decode cX5_weeklyInterest 8 = .ok (.imul, 1) := by decide +kernel
theorem dX5_weeklyInterest_9 : decode cX5_weeklyInterest 9 = .ok (.sipush 999, 3) := by decide +kernel
theorem dX5_weeklyInterest_12 : decode cX5_weeklyInterest 12 = .ok (.iadd, 1) := by decide +kernel
theorem dX5_weeklyInterest_13 : decode cX5_weeklyInterest 13 = .ok (.sipush 1000, 3) := by decide +kernel
theorem dX5_weeklyInterest_16 : decode cX5_weeklyInterest 16 = .ok (.idiv, 1) := by decide +kernel
theorem dX5_weeklyInterest_17 : decode cX5_weeklyInterest 17 = .ok (.ireturn, 1) := by decide +kernel
theorem dX5_isRunningIn_0 : decode cX5_isRunningIn 0 = .ok (.aload_n 0, 1) := by decide +kernel
theorem dX5_isRunningIn_1 : decode cX5_isRunningIn 1 = .ok (.getfield 38, 3) := by decide +kernel
theorem dX5_isRunningIn_4 : decode cX5_isRunningIn 4 = .ok (.ifCond .ne 18, 3) := by decide +kernel
theorem dX5_isRunningIn_7 : decode cX5_isRunningIn 7 = .ok (.iload_n 1, 1) := by decide +kernel
theorem dX5_isRunningIn_8 : decode cX5_isRunningIn 8 = .ok (.aload_n 0, 1) := by decide +kernel
theorem dX5_isRunningIn_9 : decode cX5_isRunningIn 9 = .ok (.getfield 41, 3) := by decide +kernel
theorem dX5_isRunningIn_12 : decode cX5_isRunningIn 12 = .ok (.bipush 9, 2) := by decide +kernel
theorem dX5_isRunningIn_14 : decode cX5_isRunningIn 14 = .ok (.iadd, 1) := by decide +kernel
theorem dX5_isRunningIn_15 : decode cX5_isRunningIn 15 = .ok (.if_icmp .ge 7, 3) := by decide +kernel
theorem dX5_isRunningIn_18 : decode cX5_isRunningIn 18 = .ok (.iconst 1, 1) := by decide +kernel
theorem dX5_isRunningIn_19 : decode cX5_isRunningIn 19 = .ok (.goto 4, 3) := by decide +kernel
theorem dX5_isRunningIn_22 : decode cX5_isRunningIn 22 = .ok (.iconst 0, 1) := by decide +kernel
theorem dX5_isRunningIn_23 : decode cX5_isRunningIn 23 = .ok (.ireturn, 1) := by decide +kernel
theorem dX5_costBehind_0 : decode cX5_costBehind 0 = .ok (.aload_n 0, 1) := by decide +kernel
theorem dX5_costBehind_1 : decode cX5_costBehind 1 = .ok (.invokevirtual 59, 3) := by decide +kernel
theorem dX5_costBehind_4 : decode cX5_costBehind 4 = .ok (.aload_n 0, 1) := by decide +kernel
theorem dX5_costBehind_5 : decode cX5_costBehind 5 = .ok (.invokevirtual 63, 3) := by decide +kernel
theorem dX5_costBehind_8 : decode cX5_costBehind 8 = .ok (.iload_n 1, 1) := by decide +kernel
theorem dX5_costBehind_9 : decode cX5_costBehind 9 = .ok (.imul, 1) := by decide +kernel
theorem dX5_costBehind_10 : decode cX5_costBehind 10 = .ok (.iadd, 1) := by decide +kernel
theorem dX5_costBehind_11 : decode cX5_costBehind 11 = .ok (.ireturn, 1) := by decide +kernel
theorem dX5_costWeekByWeek_0 : decode cX5_costWeekByWeek 0 = .ok (.aload_n 0, 1) := by decide +kernel
theorem dX5_costWeekByWeek_1 : decode cX5_costWeekByWeek 1 = .ok (.getfield 38, 3) := by decide +kernel
theorem dX5_costWeekByWeek_4 : decode cX5_costWeekByWeek 4 = .ok (.ifCond .eq 5, 3) := by decide +kernel
theorem dX5_costWeekByWeek_7 : decode cX5_costWeekByWeek 7 = .ok (.iconst (-1), 1) := by decide +kernel
theorem dX5_costWeekByWeek_8 : decode cX5_costWeekByWeek 8 = .ok (.ireturn, 1) := by decide +kernel
theorem dX5_costWeekByWeek_9 : decode cX5_costWeekByWeek 9 = .ok (.aload_n 0, 1) := by decide +kernel
theorem dX5_costWeekByWeek_10 : decode cX5_costWeekByWeek 10 = .ok (.invokevirtual 59, 3) := by decide +kernel
theorem dX5_costWeekByWeek_13 : decode cX5_costWeekByWeek 13 = .ok (.istore_n 3, 1) := by decide +kernel
theorem dX5_costWeekByWeek_14 : decode cX5_costWeekByWeek 14 = .ok (.iconst 1, 1) := by decide +kernel
theorem dX5_costWeekByWeek_15 : decode cX5_costWeekByWeek 15 = .ok (.istore 4, 2) := by decide +kernel
theorem dX5_costWeekByWeek_17 : decode cX5_costWeekByWeek 17 = .ok (.iload 4, 2) := by decide +kernel
theorem dX5_costWeekByWeek_19 : decode cX5_costWeekByWeek 19 = .ok (.iload_n 2, 1) := by decide +kernel
theorem dX5_costWeekByWeek_20 : decode cX5_costWeekByWeek 20 = .ok (.if_icmp .gt 32, 3) := by decide +kernel
theorem dX5_costWeekByWeek_23 : decode cX5_costWeekByWeek 23 = .ok (.iload_n 3, 1) := by decide +kernel
theorem dX5_costWeekByWeek_24 : decode cX5_costWeekByWeek 24 = .ok (.aload_n 0, 1) := by decide +kernel
theorem dX5_costWeekByWeek_25 : decode cX5_costWeekByWeek 25 = .ok (.invokevirtual 63, 3) := by decide +kernel
theorem dX5_costWeekByWeek_28 : decode cX5_costWeekByWeek 28 = .ok (.iadd, 1) := by decide +kernel
theorem dX5_costWeekByWeek_29 : decode cX5_costWeekByWeek 29 = .ok (.istore_n 3, 1) := by decide +kernel
theorem dX5_costWeekByWeek_30 : decode cX5_costWeekByWeek 30 = .ok (.iload_n 1, 1) := by decide +kernel
theorem dX5_costWeekByWeek_31 : decode cX5_costWeekByWeek 31 = .ok (.iload 4, 2) := by decide +kernel
theorem dX5_costWeekByWeek_33 : decode cX5_costWeekByWeek 33 = .ok (.iadd, 1) := by decide +kernel
theorem dX5_costWeekByWeek_34 : decode cX5_costWeekByWeek 34 = .ok (.aload_n 0, 1) := by decide +kernel
theorem dX5_costWeekByWeek_35 : decode cX5_costWeekByWeek 35 = .ok (.getfield 41, 3) := by decide +kernel
theorem dX5_costWeekByWeek_38 : decode cX5_costWeekByWeek 38 = .ok (.isub, 1) := by decide +kernel
theorem dX5_costWeekByWeek_39 : decode cX5_costWeekByWeek 39 = .ok (.bipush 9, 2) := by decide +kernel
theorem dX5_costWeekByWeek_41 : decode cX5_costWeekByWeek 41 = .ok (.if_icmp .lt 5, 3) := by decide +kernel
theorem dX5_costWeekByWeek_44 : decode cX5_costWeekByWeek 44 = .ok (.iconst (-1), 1) := by decide +kernel
theorem dX5_costWeekByWeek_45 : decode cX5_costWeekByWeek 45 = .ok (.ireturn, 1) := by decide +kernel
theorem dX5_costWeekByWeek_46 : decode cX5_costWeekByWeek 46 = .ok (.iinc 4 1, 3) := by decide +kernel
theorem dX5_costWeekByWeek_49 : decode cX5_costWeekByWeek 49 = .ok (.goto (-32), 3) := by decide +kernel
theorem dX5_costWeekByWeek_52 : decode cX5_costWeekByWeek 52 = .ok (.iload_n 3, 1) := by decide +kernel
theorem dX5_costWeekByWeek_53 : decode cX5_costWeekByWeek 53 = .ok (.ireturn, 1) := by decide +kernel
theorem dX5_reserveBehind_0 : decode cX5_reserveBehind 0 = .ok (.aload_n 0, 1) := by decide +kernel
theorem dX5_reserveBehind_1 : decode cX5_reserveBehind 1 = .ok (.getfield 47, 3) := by decide +kernel
theorem dX5_reserveBehind_4 : decode cX5_reserveBehind 4 = .ok (.istore_n 2, 1) := by decide +kernel
theorem dX5_reserveBehind_5 : decode cX5_reserveBehind 5 = .ok (.iconst 0, 1) := by decide +kernel
theorem dX5_reserveBehind_6 : decode cX5_reserveBehind 6 = .ok (.istore_n 3, 1) := by decide +kernel
theorem dX5_reserveBehind_7 : decode cX5_reserveBehind 7 = .ok (.iload_n 3, 1) := by decide +kernel
theorem dX5_reserveBehind_8 : decode cX5_reserveBehind 8 = .ok (.iload_n 1, 1) := by decide +kernel
theorem dX5_reserveBehind_9 : decode cX5_reserveBehind 9 = .ok (.if_icmp .ge 16, 3) := by decide +kernel
theorem dX5_reserveBehind_12 : decode cX5_reserveBehind 12 = .ok (.iload_n 2, 1) := by decide +kernel
theorem dX5_reserveBehind_13 : decode cX5_reserveBehind 13 = .ok (.iload_n 2, 1) := by decide +kernel
theorem dX5_reserveBehind_14 : decode cX5_reserveBehind 14 = .ok (.bipush 10, 2) := by decide +kernel
theorem dX5_reserveBehind_16 : decode cX5_reserveBehind 16 = .ok (.idiv, 1) := by decide +kernel
theorem dX5_reserveBehind_17 : decode cX5_reserveBehind 17 = .ok (.isub, 1) := by decide +kernel
theorem dX5_reserveBehind_18 : decode cX5_reserveBehind 18 = .ok (.istore_n 2, 1) := by decide +kernel
theorem dX5_reserveBehind_19 : decode cX5_reserveBehind 19 = .ok (.iinc 3 1, 3) := by decide +kernel
theorem dX5_reserveBehind_22 : decode cX5_reserveBehind 22 = .ok (.goto (-15), 3) := by decide +kernel
theorem dX5_reserveBehind_25 : decode cX5_reserveBehind 25 = .ok (.iload_n 2, 1) := by decide +kernel
theorem dX5_reserveBehind_26 : decode cX5_reserveBehind 26 = .ok (.ireturn, 1) := by decide +kernel
theorem dX5_becomesLotAtEndOf_0 : decode cX5_becomesLotAtEndOf 0 = .ok (.aload_n 0, 1) := by decide +kernel
theorem dX5_becomesLotAtEndOf_1 : decode cX5_becomesLotAtEndOf 1 = .ok (.getfield 38, 3) := by decide +kernel
theorem dX5_becomesLotAtEndOf_4 : decode cX5_becomesLotAtEndOf 4 = .ok (.iconst 1, 1) := by decide +kernel
theorem dX5_becomesLotAtEndOf_5 : decode cX5_becomesLotAtEndOf 5 = .ok (.if_icmp .ne 14, 3) := by decide +kernel
theorem dX5_becomesLotAtEndOf_8 : decode cX5_becomesLotAtEndOf 8 = .ok (.aload_n 0, 1) := by decide +kernel
theorem dX5_becomesLotAtEndOf_9 : decode cX5_becomesLotAtEndOf 9 = .ok (.aload_n 0, 1) := by decide +kernel
theorem dX5_becomesLotAtEndOf_10 : decode cX5_becomesLotAtEndOf 10 = .ok (.iconst 1, 1) := by decide +kernel
theorem dX5_becomesLotAtEndOf_11 : decode cX5_becomesLotAtEndOf 11 = .ok (.invokevirtual 66, 3) := by decide +kernel
theorem dX5_becomesLotAtEndOf_14 : decode cX5_becomesLotAtEndOf 14 = .ok (.putfield 47, 3) := by decide +kernel
theorem dX5_becomesLotAtEndOf_17 : decode cX5_becomesLotAtEndOf 17 = .ok (.iconst 0, 1) := by decide +kernel
theorem dX5_becomesLotAtEndOf_18 : decode cX5_becomesLotAtEndOf 18 = .ok (.ireturn, 1) := by decide +kernel
theorem dX5_becomesLotAtEndOf_19 : decode cX5_becomesLotAtEndOf 19 = .ok (.aload_n 0, 1) := by decide +kernel
theorem dX5_becomesLotAtEndOf_20 : decode cX5_becomesLotAtEndOf 20 = .ok (.getfield 38, 3) := by decide +kernel
theorem dX5_becomesLotAtEndOf_23 : decode cX5_becomesLotAtEndOf 23 = .ok (.ifCond .eq 5, 3) := by decide +kernel
theorem dX5_becomesLotAtEndOf_26 : decode cX5_becomesLotAtEndOf 26 = .ok (.iconst 0, 1) := by decide +kernel
theorem dX5_becomesLotAtEndOf_27 : decode cX5_becomesLotAtEndOf 27 = .ok (.ireturn, 1) := by decide +kernel
theorem dX5_becomesLotAtEndOf_28 : decode cX5_becomesLotAtEndOf 28 = .ok (.aload_n 0, 1) := by decide +kernel
theorem dX5_becomesLotAtEndOf_29 : decode cX5_becomesLotAtEndOf 29 = .ok (.dup, 1) := by decide +kernel
theorem dX5_becomesLotAtEndOf_30 : decode cX5_becomesLotAtEndOf 30 = .ok (.getfield 35, 3) := by decide +kernel
theorem dX5_becomesLotAtEndOf_33 : decode cX5_becomesLotAtEndOf 33 = .ok (.aload_n 0, 1) := by decide +kernel
theorem dX5_becomesLotAtEndOf_34 : decode cX5_becomesLotAtEndOf 34 = .ok (.invokevirtual 63, 3) := by decide +kernel
theorem dX5_becomesLotAtEndOf_37 : decode cX5_becomesLotAtEndOf 37 = .ok (.iadd, 1) := by decide +kernel
theorem dX5_becomesLotAtEndOf_38 : decode cX5_becomesLotAtEndOf 38 = .ok (.putfield 35, 3) := by decide +kernel
theorem dX5_becomesLotAtEndOf_41 : decode cX5_becomesLotAtEndOf 41 = .ok (.aload_n 0, 1) := by decide +kernel
theorem dX5_becomesLotAtEndOf_42 : decode cX5_becomesLotAtEndOf 42 = .ok (.iload_n 1, 1) := by decide +kernel
theorem dX5_becomesLotAtEndOf_43 : decode cX5_becomesLotAtEndOf 43 = .ok (.invokevirtual 70, 3) := by decide +kernel
theorem dX5_becomesLotAtEndOf_46 : decode cX5_becomesLotAtEndOf 46 = .ok (.ifCond .eq 5, 3) := by decide +kernel
theorem dX5_becomesLotAtEndOf_49 : decode cX5_becomesLotAtEndOf 49 = .ok (.iconst 0, 1) := by decide +kernel
theorem dX5_becomesLotAtEndOf_50 : decode cX5_becomesLotAtEndOf 50 = .ok (.ireturn, 1) := by decide +kernel
theorem dX5_becomesLotAtEndOf_51 : decode cX5_becomesLotAtEndOf 51 = .ok (.aload_n 0, 1) := by decide +kernel
theorem dX5_becomesLotAtEndOf_52 : decode cX5_becomesLotAtEndOf 52 = .ok (.iconst 1, 1) := by decide +kernel
theorem dX5_becomesLotAtEndOf_53 : decode cX5_becomesLotAtEndOf 53 = .ok (.putfield 38, 3) := by decide +kernel
theorem dX5_becomesLotAtEndOf_56 : decode cX5_becomesLotAtEndOf 56 = .ok (.aload_n 0, 1) := by decide +kernel
theorem dX5_becomesLotAtEndOf_57 : decode cX5_becomesLotAtEndOf 57 = .ok (.aload_n 0, 1) := by decide +kernel
theorem dX5_becomesLotAtEndOf_58 : decode cX5_becomesLotAtEndOf 58 = .ok (.invokevirtual 59, 3) := by decide +kernel
theorem dX5_becomesLotAtEndOf_61 : decode cX5_becomesLotAtEndOf 61 = .ok (.iload_n 2, 1) := by decide +kernel
theorem dX5_becomesLotAtEndOf_62 : decode cX5_becomesLotAtEndOf 62 = .ok (.iadd, 1) := by decide +kernel
theorem dX5_becomesLotAtEndOf_63 : decode cX5_becomesLotAtEndOf 63 = .ok (.putfield 53, 3) := by decide +kernel
theorem dX5_becomesLotAtEndOf_66 : decode cX5_becomesLotAtEndOf 66 = .ok (.aload_n 0, 1) := by decide +kernel
theorem dX5_becomesLotAtEndOf_67 : decode cX5_becomesLotAtEndOf 67 = .ok (.aload_n 0, 1) := by decide +kernel
theorem dX5_becomesLotAtEndOf_68 : decode cX5_becomesLotAtEndOf 68 = .ok (.getfield 53, 3) := by decide +kernel
theorem dX5_becomesLotAtEndOf_71 : decode cX5_becomesLotAtEndOf 71 = .ok (.putfield 47, 3) := by decide +kernel
theorem dX5_becomesLotAtEndOf_74 : decode cX5_becomesLotAtEndOf 74 = .ok (.iconst 1, 1) := by decide +kernel
theorem dX5_becomesLotAtEndOf_75 : decode cX5_becomesLotAtEndOf 75 = .ok (.ireturn, 1) := by decide +kernel
theorem dX5_payBack_0 : decode cX5_payBack 0 = .ok (.iload_n 1, 1) := by decide +kernel
theorem dX5_payBack_1 : decode cX5_payBack 1 = .ok (.aload_n 0, 1) := by decide +kernel
theorem dX5_payBack_2 : decode cX5_payBack 2 = .ok (.getfield 35, 3) := by decide +kernel
theorem dX5_payBack_5 : decode cX5_payBack 5 = .ok (.if_icmp .ge 7, 3) := by decide +kernel
theorem dX5_payBack_8 : decode cX5_payBack 8 = .ok (.iload_n 1, 1) := by decide +kernel
theorem dX5_payBack_9 : decode cX5_payBack 9 = .ok (.goto 7, 3) := by decide +kernel
theorem dX5_payBack_12 : decode cX5_payBack 12 = .ok (.aload_n 0, 1) := by decide +kernel
theorem dX5_payBack_13 : decode cX5_payBack 13 = .ok (.getfield 35, 3) := by decide +kernel
theorem dX5_payBack_16 : decode cX5_payBack 16 = .ok (.istore_n 2, 1) := by decide +kernel
theorem dX5_payBack_17 : decode cX5_payBack 17 = .ok (.aload_n 0, 1) := by decide +kernel
theorem dX5_payBack_18 : decode cX5_payBack 18 = .ok (.dup, 1) := by decide +kernel
theorem dX5_payBack_19 : decode cX5_payBack 19 = .ok (.getfield 35, 3) := by decide +kernel
theorem dX5_payBack_22 : decode cX5_payBack 22 = .ok (.iload_n 2, 1) := by decide +kernel
theorem dX5_payBack_23 : decode cX5_payBack 23 = .ok (.isub, 1) := by decide +kernel
theorem dX5_payBack_24 : decode cX5_payBack 24 = .ok (.putfield 35, 3) := by decide +kernel
theorem dX5_payBack_27 : decode cX5_payBack 27 = .ok (.aload_n 0, 1) := by decide +kernel
theorem dX5_payBack_28 : decode cX5_payBack 28 = .ok (.dup, 1) := by decide +kernel
theorem dX5_payBack_29 : decode cX5_payBack 29 = .ok (.getfield 32, 3) := by decide +kernel
theorem dX5_payBack_32 : decode cX5_payBack 32 = .ok (.iload_n 1, 1) := by decide +kernel
theorem dX5_payBack_33 : decode cX5_payBack 33 = .ok (.iload_n 2, 1) := by decide +kernel
theorem dX5_payBack_34 : decode cX5_payBack 34 = .ok (.isub, 1) := by decide +kernel
theorem dX5_payBack_35 : decode cX5_payBack 35 = .ok (.isub, 1) := by decide +kernel
theorem dX5_payBack_36 : decode cX5_payBack 36 = .ok (.putfield 32, 3) := by decide +kernel
theorem dX5_payBack_39 : decode cX5_payBack 39 = .ok (.aload_n 0, 1) := by decide +kernel
theorem dX5_payBack_40 : decode cX5_payBack 40 = .ok (.dup, 1) := by decide +kernel
theorem dX5_payBack_41 : decode cX5_payBack 41 = .ok (.getfield 50, 3) := by decide +kernel
theorem dX5_payBack_44 : decode cX5_payBack 44 = .ok (.iload_n 1, 1) := by decide +kernel
theorem dX5_payBack_45 : decode cX5_payBack 45 = .ok (.iadd, 1) := by decide +kernel
theorem dX5_payBack_46 : decode cX5_payBack 46 = .ok (.putfield 50, 3) := by decide +kernel
theorem dX5_payBack_49 : decode cX5_payBack 49 = .ok (.aload_n 0, 1) := by decide +kernel
theorem dX5_payBack_50 : decode cX5_payBack 50 = .ok (.invokevirtual 59, 3) := by decide +kernel
theorem dX5_payBack_53 : decode cX5_payBack 53 = .ok (.ireturn, 1) := by decide +kernel
theorem dX5_sellFor_0 : decode cX5_sellFor 0 = .ok (.aload_n 0, 1) := by decide +kernel
theorem dX5_sellFor_1 : decode cX5_sellFor 1 = .ok (.iconst 3, 1) := by decide +kernel
theorem dX5_sellFor_2 : decode cX5_sellFor 2 = .ok (.putfield 38, 3) := by decide +kernel
theorem dX5_sellFor_5 : decode cX5_sellFor 5 = .ok (.aload_n 0, 1) := by decide +kernel
theorem dX5_sellFor_6 : decode cX5_sellFor 6 = .ok (.iconst 0, 1) := by decide +kernel
theorem dX5_sellFor_7 : decode cX5_sellFor 7 = .ok (.putfield 47, 3) := by decide +kernel
theorem dX5_sellFor_10 : decode cX5_sellFor 10 = .ok (.aload_n 0, 1) := by decide +kernel
theorem dX5_sellFor_11 : decode cX5_sellFor 11 = .ok (.iload_n 1, 1) := by decide +kernel
theorem dX5_sellFor_12 : decode cX5_sellFor 12 = .ok (.putfield 56, 3) := by decide +kernel
theorem dX5_sellFor_15 : decode cX5_sellFor 15 = .ok (.iload_n 1, 1) := by decide +kernel
theorem dX5_sellFor_16 : decode cX5_sellFor 16 = .ok (.aload_n 0, 1) := by decide +kernel
theorem dX5_sellFor_17 : decode cX5_sellFor 17 = .ok (.getfield 53, 3) := by decide +kernel
theorem dX5_sellFor_20 : decode cX5_sellFor 20 = .ok (.if_icmp .le 12, 3) := by decide +kernel
theorem dX5_sellFor_23 : decode cX5_sellFor 23 = .ok (.iload_n 1, 1) := by decide +kernel
theorem dX5_sellFor_24 : decode cX5_sellFor 24 = .ok (.aload_n 0, 1) := by decide +kernel
theorem dX5_sellFor_25 : decode cX5_sellFor 25 = .ok (.getfield 53, 3) := by decide +kernel
theorem dX5_sellFor_28 : decode cX5_sellFor 28 = .ok (.isub, 1) := by decide +kernel
theorem dX5_sellFor_29 : decode cX5_sellFor 29 = .ok (.goto 4, 3) := by decide +kernel
theorem dX5_sellFor_32 : decode cX5_sellFor 32 = .ok (.iconst 0, 1) := by decide +kernel
theorem dX5_sellFor_33 : decode cX5_sellFor 33 = .ok (.ireturn, 1) := by decide +kernel
theorem dX5_loss_0 : decode cX5_loss 0 = .ok (.aload_n 0, 1) := by decide +kernel
theorem dX5_loss_1 : decode cX5_loss 1 = .ok (.getfield 38, 3) := by decide +kernel
theorem dX5_loss_4 : decode cX5_loss 4 = .ok (.iconst 3, 1) := by decide +kernel
theorem dX5_loss_5 : decode cX5_loss 5 = .ok (.if_icmp .ne 26, 3) := by decide +kernel
theorem dX5_loss_8 : decode cX5_loss 8 = .ok (.aload_n 0, 1) := by decide +kernel
theorem dX5_loss_9 : decode cX5_loss 9 = .ok (.getfield 56, 3) := by decide +kernel
theorem dX5_loss_12 : decode cX5_loss 12 = .ok (.aload_n 0, 1) := by decide +kernel
theorem dX5_loss_13 : decode cX5_loss 13 = .ok (.getfield 53, 3) := by decide +kernel
theorem dX5_loss_16 : decode cX5_loss 16 = .ok (.if_icmp .ge 15, 3) := by decide +kernel
theorem dX5_loss_19 : decode cX5_loss 19 = .ok (.aload_n 0, 1) := by decide +kernel
theorem dX5_loss_20 : decode cX5_loss 20 = .ok (.getfield 53, 3) := by decide +kernel
theorem dX5_loss_23 : decode cX5_loss 23 = .ok (.aload_n 0, 1) := by decide +kernel
theorem dX5_loss_24 : decode cX5_loss 24 = .ok (.getfield 56, 3) := by decide +kernel
theorem dX5_loss_27 : decode cX5_loss 27 = .ok (.isub, 1) := by decide +kernel
theorem dX5_loss_28 : decode cX5_loss 28 = .ok (.goto 4, 3) := by decide +kernel
theorem dX5_loss_31 : decode cX5_loss 31 = .ok (.iconst 0, 1) := by decide +kernel
theorem dX5_loss_32 : decode cX5_loss 32 = .ok (.ireturn, 1) := by decide +kernel
theorem dX5_writeTo_0 : decode cX5_writeTo 0 = .ok (.aload_n 1, 1) := by decide +kernel
theorem dX5_writeTo_1 : decode cX5_writeTo 1 = .ok (.bipush 32, 2) := by decide +kernel
theorem dX5_writeTo_3 : decode cX5_writeTo 3 = .ok (.invokevirtual 74, 3) := by decide +kernel
theorem dX5_writeTo_6 : decode cX5_writeTo 6 = .ok (.pop, 1) := by decide +kernel
theorem dX5_writeTo_7 : decode cX5_writeTo 7 = .ok (.aload_n 1, 1) := by decide +kernel
theorem dX5_writeTo_8 : decode cX5_writeTo 8 = .ok (.aload_n 0, 1) := by decide +kernel
theorem dX5_writeTo_9 : decode cX5_writeTo 9 = .ok (.getfield 23, 3) := by decide +kernel
theorem dX5_writeTo_12 : decode cX5_writeTo 12 = .ok (.invokevirtual 80, 3) := by decide +kernel
theorem dX5_writeTo_15 : decode cX5_writeTo 15 = .ok (.pop, 1) := by decide +kernel
theorem dX5_writeTo_16 : decode cX5_writeTo 16 = .ok (.aload_n 1, 1) := by decide +kernel
theorem dX5_writeTo_17 : decode cX5_writeTo 17 = .ok (.bipush 47, 2) := by decide +kernel
theorem dX5_writeTo_19 : decode cX5_writeTo 19 = .ok (.invokevirtual 74, 3) := by decide +kernel
theorem dX5_writeTo_22 : decode cX5_writeTo 22 = .ok (.pop, 1) := by decide +kernel
theorem dX5_writeTo_23 : decode cX5_writeTo 23 = .ok (.aload_n 1, 1) := by decide +kernel
theorem dX5_writeTo_24 : decode cX5_writeTo 24 = .ok (.aload_n 0, 1) := by decide +kernel
theorem dX5_writeTo_25 : decode cX5_writeTo 25 = .ok (.getfield 32, 3) := by decide +kernel
theorem dX5_writeTo_28 : decode cX5_writeTo 28 = .ok (.invokevirtual 80, 3) := by decide +kernel
theorem dX5_writeTo_31 : decode cX5_writeTo 31 = .ok (.pop, 1) := by decide +kernel
theorem dX5_writeTo_32 : decode cX5_writeTo 32 = .ok (.aload_n 1, 1) := by decide +kernel
theorem dX5_writeTo_33 : decode cX5_writeTo 33 = .ok (.bipush 43, 2) := by decide +kernel
theorem dX5_writeTo_35 : decode cX5_writeTo 35 = .ok (.invokevirtual 74, 3) := by decide +kernel
theorem dX5_writeTo_38 : decode cX5_writeTo 38 = .ok (.pop, 1) := by decide +kernel
theorem dX5_writeTo_39 : decode cX5_writeTo 39 = .ok (.aload_n 1, 1) := by decide +kernel
theorem dX5_writeTo_40 : decode cX5_writeTo 40 = .ok (.aload_n 0, 1) := by decide +kernel
theorem dX5_writeTo_41 : decode cX5_writeTo 41 = .ok (.getfield 35, 3) := by decide +kernel
theorem dX5_writeTo_44 : decode cX5_writeTo 44 = .ok (.invokevirtual 80, 3) := by decide +kernel
theorem dX5_writeTo_47 : decode cX5_writeTo 47 = .ok (.pop, 1) := by decide +kernel
theorem dX5_writeTo_48 : decode cX5_writeTo 48 = .ok (.aload_n 1, 1) := by decide +kernel
theorem dX5_writeTo_49 : decode cX5_writeTo 49 = .ok (.bipush 32, 2) := by decide +kernel
theorem dX5_writeTo_51 : decode cX5_writeTo 51 = .ok (.invokevirtual 74, 3) := by decide +kernel
theorem dX5_writeTo_54 : decode cX5_writeTo 54 = .ok (.pop, 1) := by decide +kernel
theorem dX5_writeTo_55 : decode cX5_writeTo 55 = .ok (.aload_n 1, 1) := by decide +kernel
theorem dX5_writeTo_56 : decode cX5_writeTo 56 = .ok (.aload_n 0, 1) := by decide +kernel
theorem dX5_writeTo_57 : decode cX5_writeTo 57 = .ok (.invokevirtual 83, 3) := by decide +kernel
theorem dX5_writeTo_60 : decode cX5_writeTo 60 = .ok (.invokevirtual 74, 3) := by decide +kernel
theorem dX5_writeTo_63 : decode cX5_writeTo 63 = .ok (.pop, 1) := by decide +kernel
theorem dX5_writeTo_64 : decode cX5_writeTo 64 = .ok (.return_, 1) := by decide +kernel
theorem dX5_letter_0 : decode cX5_letter 0 = .ok (.aload_n 0, 1) := by decide +kernel
theorem dX5_letter_1 : decode cX5_letter 1 = .ok (.getfield 38, 3) := by decide +kernel
theorem dX5_letter_4 : decode cX5_letter 4 = .ok (.tableswitch 37 0 2 #[28, 31, 34], 28) := by decide +kernel
theorem dX5_letter_32 : decode cX5_letter 32 = .ok (.bipush 112, 2) := by decide +kernel
theorem dX5_letter_34 : decode cX5_letter 34 = .ok (.ireturn, 1) := by decide +kernel
theorem dX5_letter_35 : decode cX5_letter 35 = .ok (.bipush 108, 2) := by decide +kernel
theorem dX5_letter_37 : decode cX5_letter 37 = .ok (.ireturn, 1) := by decide +kernel
theorem dX5_letter_38 : decode cX5_letter 38 = .ok (.bipush 114, 2) := by decide +kernel
theorem dX5_letter_40 : decode cX5_letter 40 = .ok (.ireturn, 1) := by decide +kernel
theorem dX5_letter_41 : decode cX5_letter 41 = .ok (.bipush 115, 2) := by decide +kernel
theorem dX5_letter_43 : decode cX5_letter 43 = .ok (.ireturn, 1) := by decide +kernel
theorem dX6_init_0 : decode cX6_init 0 = .ok (.aload_n 0, 1) := by decide +kernel
theorem dX6_init_1 : decode cX6_init 1 = .ok (.invokespecial 1, 3) := by decide +kernel
theorem dX6_init_4 : decode cX6_init 4 = .ok (.return_, 1) := by decide +kernel
theorem dX6_keep_0 : decode cX6_keep 0 = .ok (.aload_n 0, 1) := by decide +kernel
theorem dX6_keep_1 : decode cX6_keep 1 = .ok (.iload_n 1, 1) := by decide +kernel
theorem dX6_keep_2 : decode cX6_keep 2 = .ok (.putfield 7, 3) := by decide +kernel
theorem dX6_keep_5 : decode cX6_keep 5 = .ok (.aload_n 0, 1) := by decide +kernel
theorem dX6_keep_6 : decode cX6_keep 6 = .ok (.iload_n 2, 1) := by decide +kernel
theorem dX6_keep_7 : decode cX6_keep 7 = .ok (.putfield 13, 3) := by decide +kernel
theorem dX6_keep_10 : decode cX6_keep 10 = .ok (.return_, 1) := by decide +kernel
theorem dX6_keepCause_0 : decode cX6_keepCause 0 = .ok (.aload_n 0, 1) := by decide +kernel
theorem dX6_keepCause_1 : decode cX6_keepCause 1 = .ok (.iload_n 1, 1) := by decide +kernel
theorem dX6_keepCause_2 : decode cX6_keepCause 2 = .ok (.putfield 16, 3) := by decide +kernel
theorem dX6_keepCause_5 : decode cX6_keepCause 5 = .ok (.aload_n 0, 1) := by decide +kernel
theorem dX6_keepCause_6 : decode cX6_keepCause 6 = .ok (.iload_n 2, 1) := by decide +kernel
theorem dX6_keepCause_7 : decode cX6_keepCause 7 = .ok (.putfield 19, 3) := by decide +kernel
theorem dX6_keepCause_10 : decode cX6_keepCause 10 = .ok (.return_, 1) := by decide +kernel
theorem dX7_init_0 : decode cX7_init 0 = .ok (.aload_n 0, 1) := by decide +kernel
theorem dX7_init_1 : decode cX7_init 1 = .ok (.invokespecial 1, 3) := by decide +kernel
theorem dX7_init_4 : decode cX7_init 4 = .ok (.aload_n 0, 1) := by decide +kernel
theorem dX7_init_5 : decode cX7_init 5 = .ok (.new 7, 3) := by decide +kernel
theorem dX7_init_8 : decode cX7_init 8 = .ok (.dup, 1) := by decide +kernel
theorem dX7_init_9 : decode cX7_init 9 = .ok (.invokespecial 9, 3) := by decide +kernel
theorem dX7_init_12 : decode cX7_init 12 = .ok (.putfield 10, 3) := by decide +kernel
theorem dX7_init_15 : decode cX7_init 15 = .ok (.aload_n 0, 1) := by decide +kernel
theorem dX7_init_16 : decode cX7_init 16 = .ok (.new 7, 3) := by decide +kernel
theorem dX7_init_19 : decode cX7_init 19 = .ok (.dup, 1) := by decide +kernel
theorem dX7_init_20 : decode cX7_init 20 = .ok (.invokespecial 9, 3) := by decide +kernel
theorem dX7_init_23 : decode cX7_init 23 = .ok (.putfield 16, 3) := by decide +kernel
theorem dX7_init_26 : decode cX7_init 26 = .ok (.aload_n 0, 1) := by decide +kernel
theorem dX7_init_27 : decode cX7_init 27 = .ok (.new 7, 3) := by decide +kernel
theorem dX7_init_30 : decode cX7_init 30 = .ok (.dup, 1) := by decide +kernel
theorem dX7_init_31 : decode cX7_init 31 = .ok (.invokespecial 9, 3) := by decide +kernel
theorem dX7_init_34 : decode cX7_init 34 = .ok (.putfield 19, 3) := by decide +kernel
theorem dX7_init_37 : decode cX7_init 37 = .ok (.aload_n 0, 1) := by decide +kernel
theorem dX7_init_38 : decode cX7_init 38 = .ok (.iconst 0, 1) := by decide +kernel
theorem dX7_init_39 : decode cX7_init 39 = .ok (.putfield 22, 3) := by decide +kernel
theorem dX7_init_42 : decode cX7_init 42 = .ok (.aload_n 0, 1) := by decide +kernel
theorem dX7_init_43 : decode cX7_init 43 = .ok (.new 26, 3) := by decide +kernel
theorem dX7_init_46 : decode cX7_init 46 = .ok (.dup, 1) := by decide +kernel
theorem dX7_init_47 : decode cX7_init 47 = .ok (.invokespecial 28, 3) := by decide +kernel
theorem dX7_init_50 : decode cX7_init 50 = .ok (.putfield 29, 3) := by decide +kernel
theorem dX7_init_53 : decode cX7_init 53 = .ok (.aload_n 0, 1) := by decide +kernel
theorem dX7_init_54 : decode cX7_init 54 = .ok (.new 33, 3) := by decide +kernel
theorem dX7_init_57 : decode cX7_init 57 = .ok (.dup, 1) := by decide +kernel
theorem dX7_init_58 : decode cX7_init 58 = .ok (.invokespecial 35, 3) := by decide +kernel
theorem dX7_init_61 : decode cX7_init 61 = .ok (.putfield 36, 3) := by decide +kernel
theorem dX7_init_64 : decode cX7_init 64 = .ok (.aload_n 0, 1) := by decide +kernel
theorem dX7_init_65 : decode cX7_init 65 = .ok (.new 40, 3) := by decide +kernel
theorem dX7_init_68 : decode cX7_init 68 = .ok (.dup, 1) := by decide +kernel
theorem dX7_init_69 : decode cX7_init 69 = .ok (.invokespecial 42, 3) := by decide +kernel
theorem dX7_init_72 : decode cX7_init 72 = .ok (.putfield 43, 3) := by decide +kernel
theorem dX7_init_75 : decode cX7_init 75 = .ok (.aload_n 0, 1) := by decide +kernel
theorem dX7_init_76 : decode cX7_init 76 = .ok (.new 47, 3) := by decide +kernel
theorem dX7_init_79 : decode cX7_init 79 = .ok (.dup, 1) := by decide +kernel
theorem dX7_init_80 : decode cX7_init 80 = .ok (.invokespecial 49, 3) := by decide +kernel
theorem dX7_init_83 : decode cX7_init 83 = .ok (.putfield 50, 3) := by decide +kernel
theorem dX7_init_86 : decode cX7_init 86 = .ok (.aload_n 0, 1) := by decide +kernel
theorem dX7_init_87 : decode cX7_init 87 = .ok (.new 54, 3) := by decide +kernel
theorem dX7_init_90 : decode cX7_init 90 = .ok (.dup, 1) := by decide +kernel
theorem dX7_init_91 : decode cX7_init 91 = .ok (.invokespecial 56, 3) := by decide +kernel
theorem dX7_init_94 : decode cX7_init 94 = .ok (.putfield 57, 3) := by decide +kernel
theorem dX7_init_97 : decode cX7_init 97 = .ok (.aload_n 0, 1) := by decide +kernel
theorem dX7_init_98 : decode cX7_init 98 = .ok (.new 61, 3) := by decide +kernel
theorem dX7_init_101 : decode cX7_init 101 = .ok (.dup, 1) := by decide +kernel
theorem dX7_init_102 : decode cX7_init 102 = .ok (.invokespecial 63, 3) := by decide +kernel
theorem dX7_init_105 : decode cX7_init 105 = .ok (.putfield 64, 3) := by decide +kernel
theorem dX7_init_108 : decode cX7_init 108 = .ok (.aload_n 0, 1) := by decide +kernel
theorem dX7_init_109 : decode cX7_init 109 = .ok (.iconst (-1), 1) := by decide +kernel
theorem dX7_init_110 : decode cX7_init 110 = .ok (.putfield 68, 3) := by decide +kernel
theorem dX7_init_113 : decode cX7_init 113 = .ok (.return_, 1) := by decide +kernel
theorem dX7_pledge_0 : decode cX7_pledge 0 = .ok (.aload_n 0, 1) := by decide +kernel
theorem dX7_pledge_1 : decode cX7_pledge 1 = .ok (.bipush 112, 2) := by decide +kernel
theorem dX7_pledge_3 : decode cX7_pledge 3 = .ok (.iload_n 1, 1) := by decide +kernel
theorem dX7_pledge_4 : decode cX7_pledge 4 = .ok (.iload_n 2, 1) := by decide +kernel
theorem dX7_pledge_5 : decode cX7_pledge 5 = .ok (.iload_n 3, 1) := by decide +kernel
theorem dX7_pledge_6 : decode cX7_pledge 6 = .ok (.invokevirtual 72, 3) := by decide +kernel
theorem dX7_pledge_9 : decode cX7_pledge 9 = .ok (.ireturn, 1) := by decide +kernel
theorem dX7_rate_0 : decode cX7_rate 0 = .ok (.aload_n 0, 1) := by decide +kernel
theorem dX7_rate_1 : decode cX7_rate 1 = .ok (.bipush 37, 2) := by decide +kernel
theorem dX7_rate_3 : decode cX7_rate 3 = .ok (.iload_n 1, 1) := by decide +kernel
theorem dX7_rate_4 : decode cX7_rate 4 = .ok (.iconst 0, 1) := by decide +kernel
theorem dX7_rate_5 : decode cX7_rate 5 = .ok (.iconst 0, 1) := by decide +kernel
theorem dX7_rate_6 : decode cX7_rate 6 = .ok (.invokevirtual 72, 3) := by decide +kernel
theorem dX7_rate_9 : decode cX7_rate 9 = .ok (.ireturn, 1) := by decide +kernel
theorem dX7_fee_0 : decode cX7_fee 0 = .ok (.aload_n 0, 1) := by decide +kernel
theorem dX7_fee_1 : decode cX7_fee 1 = .ok (.bipush 102, 2) := by decide +kernel
theorem dX7_fee_3 : decode cX7_fee 3 = .ok (.iload_n 1, 1) := by decide +kernel
theorem dX7_fee_4 : decode cX7_fee 4 = .ok (.iconst 0, 1) := by decide +kernel
theorem dX7_fee_5 : decode cX7_fee 5 = .ok (.iconst 0, 1) := by decide +kernel
theorem dX7_fee_6 : decode cX7_fee 6 = .ok (.invokevirtual 72, 3) := by decide +kernel
theorem dX7_fee_9 : decode cX7_fee 9 = .ok (.ireturn, 1) := by decide +kernel
theorem dX7_pass_0 : decode cX7_pass 0 = .ok (.aload_n 0, 1) := by decide +kernel
theorem dX7_pass_1 : decode cX7_pass 1 = .ok (.bipush 119, 2) := by decide +kernel
theorem dX7_pass_3 : decode cX7_pass 3 = .ok (.iload_n 1, 1) := by decide +kernel
theorem dX7_pass_4 : decode cX7_pass 4 = .ok (.iconst 0, 1) := by decide +kernel
theorem dX7_pass_5 : decode cX7_pass 5 = .ok (.iconst 0, 1) := by decide +kernel
theorem dX7_pass_6 : decode cX7_pass 6 = .ok (.invokevirtual 72, 3) := by decide +kernel
theorem dX7_pass_9 : decode cX7_pass 9 = .ok (.ireturn, 1) := by decide +kernel
theorem dX7_redeem_0 : decode cX7_redeem 0 = .ok (.aload_n 0, 1) := by decide +kernel
theorem dX7_redeem_1 : decode cX7_redeem 1 = .ok (.bipush 114, 2) := by decide +kernel
theorem dX7_redeem_3 : decode cX7_redeem 3 = .ok (.iload_n 1, 1) := by decide +kernel
theorem dX7_redeem_4 : decode cX7_redeem 4 = .ok (.iconst 0, 1) := by decide +kernel
theorem dX7_redeem_5 : decode cX7_redeem 5 = .ok (.iconst 0, 1) := by decide +kernel
theorem dX7_redeem_6 : decode cX7_redeem 6 = .ok (.invokevirtual 72, 3) := by decide +kernel
theorem dX7_redeem_9 : decode cX7_redeem 9 = .ok (.ireturn, 1) := by decide +kernel
theorem dX7_pay_0 : decode cX7_pay 0 = .ok (.aload_n 0, 1) := by decide +kernel
theorem dX7_pay_1 : decode cX7_pay 1 = .ok (.bipush 121, 2) := by decide +kernel
theorem dX7_pay_3 : decode cX7_pay 3 = .ok (.iload_n 1, 1) := by decide +kernel
theorem dX7_pay_4 : decode cX7_pay 4 = .ok (.iload_n 2, 1) := by decide +kernel
theorem dX7_pay_5 : decode cX7_pay 5 = .ok (.iconst 0, 1) := by decide +kernel
theorem dX7_pay_6 : decode cX7_pay 6 = .ok (.invokevirtual 72, 3) := by decide +kernel
theorem dX7_pay_9 : decode cX7_pay 9 = .ok (.ireturn, 1) := by decide +kernel
theorem dX7_renew_0 : decode cX7_renew 0 = .ok (.aload_n 0, 1) := by decide +kernel
theorem dX7_renew_1 : decode cX7_renew 1 = .ok (.bipush 110, 2) := by decide +kernel
theorem dX7_renew_3 : decode cX7_renew 3 = .ok (.iload_n 1, 1) := by decide +kernel
theorem dX7_renew_4 : decode cX7_renew 4 = .ok (.iconst 0, 1) := by decide +kernel
theorem dX7_renew_5 : decode cX7_renew 5 = .ok (.iconst 0, 1) := by decide +kernel
theorem dX7_renew_6 : decode cX7_renew 6 = .ok (.invokevirtual 72, 3) := by decide +kernel
theorem dX7_renew_9 : decode cX7_renew 9 = .ok (.ireturn, 1) := by decide +kernel
theorem dX7_pledgeOf_0 : decode cX7_pledgeOf 0 = .ok (.aload_n 0, 1) := by decide +kernel
theorem dX7_pledgeOf_1 : decode cX7_pledgeOf 1 = .ok (.iload_n 1, 1) := by decide +kernel
theorem dX7_pledgeOf_2 : decode cX7_pledgeOf 2 = .ok (.invokevirtual 76, 3) := by decide +kernel
theorem dX7_pledgeOf_5 : decode cX7_pledgeOf 5 = .ok (.iload_n 2, 1) := by decide +kernel
theorem dX7_pledgeOf_6 : decode cX7_pledgeOf 6 = .ok (.iconst 0, 1) := by decide +kernel
theorem dX7_pledgeOf_7 : decode cX7_pledgeOf 7 = .ok (.bipush 8, 2) := by decide +kernel
theorem dX7_pledgeOf_9 : decode cX7_pledgeOf 9 = .ok (.invokestatic 80, 3) := by decide +kernel
theorem dX7_pledgeOf_12 : decode cX7_pledgeOf 12 = .ok (.aload_n 0, 1) := by decide +kernel
theorem dX7_pledgeOf_13 : decode cX7_pledgeOf 13 = .ok (.getfield 10, 3) := by decide +kernel
theorem dX7_pledgeOf_16 : decode cX7_pledgeOf 16 = .ok (.getfield 84, 3) := by decide +kernel
theorem dX7_pledgeOf_19 : decode cX7_pledgeOf 19 = .ok (.iload_n 1, 1) := by decide +kernel
theorem dX7_pledgeOf_20 : decode cX7_pledgeOf 20 = .ok (.aaload, 1) := by decide +kernel
theorem dX7_pledgeOf_21 : decode cX7_pledgeOf 21 = .ok (.iload_n 2, 1) := by decide +kernel
theorem dX7_pledgeOf_22 : decode cX7_pledgeOf 22 = .ok (.invokevirtual 88, 3) := by decide +kernel
theorem dX7_pledgeOf_25 : decode cX7_pledgeOf 25 = .ok (.ireturn, 1) := by decide +kernel
theorem dX7_sell_0 : decode cX7_sell 0 = .ok (.aload_n 0, 1) := by decide +kernel
theorem dX7_sell_1 : decode cX7_sell 1 = .ok (.bipush 115, 2) := by decide +kernel
theorem dX7_sell_3 : decode cX7_sell 3 = .ok (.iload_n 1, 1) := by decide +kernel
theorem dX7_sell_4 : decode cX7_sell 4 = .ok (.iload_n 2, 1) := by decide +kernel
theorem dX7_sell_5 : decode cX7_sell 5 = .ok (.iconst 0, 1) := by decide +kernel
theorem dX7_sell_6 : decode cX7_sell 6 = .ok (.invokevirtual 72, 3) := by decide +kernel
theorem dX7_sell_9 : decode cX7_sell 9 = .ok (.ireturn, 1) := by decide +kernel
theorem dX7_claim_0 : decode cX7_claim 0 = .ok (.aload_n 0, 1) := by decide +kernel
theorem dX7_claim_1 : decode cX7_claim 1 = .ok (.bipush 99, 2) := by decide +kernel
theorem dX7_claim_3 : decode cX7_claim 3 = .ok (.iload_n 1, 1) := by decide +kernel
theorem dX7_claim_4 : decode cX7_claim 4 = .ok (.iconst 0, 1) := by decide +kernel
theorem dX7_claim_5 : decode cX7_claim 5 = .ok (.iconst 0, 1) := by decide +kernel
theorem dX7_claim_6 : decode cX7_claim 6 = .ok (.invokevirtual 72, 3) := by decide +kernel
theorem dX7_claim_9 : decode cX7_claim 9 = .ok (.ireturn, 1) := by decide +kernel
theorem dX7_lotAt_0 : decode cX7_lotAt 0 = .ok (.aload_n 0, 1) := by decide +kernel
theorem dX7_lotAt_1 : decode cX7_lotAt 1 = .ok (.getfield 10, 3) := by decide +kernel
theorem dX7_lotAt_4 : decode cX7_lotAt 4 = .ok (.iload_n 1, 1) := by decide +kernel
theorem dX7_lotAt_5 : decode cX7_lotAt 5 = .ok (.iconst 0, 1) := by decide +kernel
theorem dX7_lotAt_6 : decode cX7_lotAt 6 = .ok (.invokevirtual 94, 3) := by decide +kernel
theorem dX7_lotAt_9 : decode cX7_lotAt 9 = .ok (.invokestatic 98, 3) := by decide +kernel
theorem dX7_lotAt_12 : decode cX7_lotAt 12 = .ok (.ireturn, 1) := by decide +kernel
theorem dX7_ranked_0 : decode cX7_ranked 0 = .ok (.aload_n 0, 1) := by decide +kernel
theorem dX7_ranked_1 : decode cX7_ranked 1 = .ok (.getfield 10, 3) := by decide +kernel
theorem dX7_ranked_4 : decode cX7_ranked 4 = .ok (.iload_n 1, 1) := by decide +kernel
theorem dX7_ranked_5 : decode cX7_ranked 5 = .ok (.iconst 1, 1) := by decide +kernel
theorem dX7_ranked_6 : decode cX7_ranked 6 = .ok (.invokevirtual 94, 3) := by decide +kernel
theorem dX7_ranked_9 : decode cX7_ranked 9 = .ok (.invokestatic 98, 3) := by decide +kernel
theorem dX7_ranked_12 : decode cX7_ranked 12 = .ok (.ireturn, 1) := by decide +kernel
theorem dX7_quote_0 : decode cX7_quote 0 = .ok (.aload_n 0, 1) := by decide +kernel
theorem dX7_quote_1 : decode cX7_quote 1 = .ok (.iload_n 1, 1) := by decide +kernel
theorem dX7_quote_2 : decode cX7_quote 2 = .ok (.invokevirtual 76, 3) := by decide +kernel
theorem dX7_quote_5 : decode cX7_quote 5 = .ok (.iload_n 2, 1) := by decide +kernel
theorem dX7_quote_6 : decode cX7_quote 6 = .ok (.iconst 0, 1) := by decide +kernel
theorem dX7_quote_7 : decode cX7_quote 7 = .ok (.bipush 20, 2) := by decide +kernel
theorem dX7_quote_9 : decode cX7_quote 9 = .ok (.invokestatic 80, 3) := by decide +kernel
theorem dX7_quote_12 : decode cX7_quote 12 = .ok (.aload_n 0, 1) := by decide +kernel
theorem dX7_quote_13 : decode cX7_quote 13 = .ok (.getfield 10, 3) := by decide +kernel
theorem dX7_quote_16 : decode cX7_quote 16 = .ok (.getfield 84, 3) := by decide +kernel
theorem dX7_quote_19 : decode cX7_quote 19 = .ok (.iload_n 1, 1) := by decide +kernel
theorem dX7_quote_20 : decode cX7_quote 20 = .ok (.aaload, 1) := by decide +kernel
theorem dX7_quote_21 : decode cX7_quote 21 = .ok (.aload_n 0, 1) := by decide +kernel
theorem dX7_quote_22 : decode cX7_quote 22 = .ok (.getfield 10, 3) := by decide +kernel
theorem dX7_quote_25 : decode cX7_quote 25 = .ok (.getfield 101, 3) := by decide +kernel
theorem dX7_quote_28 : decode cX7_quote 28 = .ok (.iload_n 2, 1) := by decide +kernel
theorem dX7_quote_29 : decode cX7_quote 29 = .ok (.iadd, 1) := by decide +kernel
theorem dX7_quote_30 : decode cX7_quote 30 = .ok (.invokevirtual 104, 3) := by decide +kernel
theorem dX7_quote_33 : decode cX7_quote 33 = .ok (.invokestatic 108, 3) := by decide +kernel
theorem dX7_quote_36 : decode cX7_quote 36 = .ok (.aload_n 0, 1) := by decide +kernel
theorem dX7_quote_37 : decode cX7_quote 37 = .ok (.getfield 10, 3) := by decide +kernel
theorem dX7_quote_40 : decode cX7_quote 40 = .ok (.getfield 84, 3) := by decide +kernel
theorem dX7_quote_43 : decode cX7_quote 43 = .ok (.iload_n 1, 1) := by decide +kernel
theorem dX7_quote_44 : decode cX7_quote 44 = .ok (.aaload, 1) := by decide +kernel
theorem dX7_quote_45 : decode cX7_quote 45 = .ok (.iload_n 2, 1) := by decide +kernel
theorem dX7_quote_46 : decode cX7_quote 46 = .ok (.invokevirtual 112, 3) := by decide +kernel
theorem dX7_quote_49 : decode cX7_quote 49 = .ok (.ireturn, 1) := by decide +kernel
theorem dX7_quoteAgain_0 : decode cX7_quoteAgain 0 = .ok (.aload_n 0, 1) := by decide +kernel
theorem dX7_quoteAgain_1 : decode cX7_quoteAgain 1 = .ok (.iload_n 1, 1) := by decide +kernel
theorem dX7_quoteAgain_2 : decode cX7_quoteAgain 2 = .ok (.invokevirtual 76, 3) := by decide +kernel
theorem dX7_quoteAgain_5 : decode cX7_quoteAgain 5 = .ok (.iload_n 2, 1) := by decide +kernel
theorem dX7_quoteAgain_6 : decode cX7_quoteAgain 6 = .ok (.iconst 0, 1) := by decide +kernel
theorem dX7_quoteAgain_7 : decode cX7_quoteAgain 7 = .ok (.bipush 20, 2) := by decide +kernel
theorem dX7_quoteAgain_9 : decode cX7_quoteAgain 9 = .ok (.invokestatic 80, 3) := by decide +kernel
theorem dX7_quoteAgain_12 : decode cX7_quoteAgain 12 = .ok (.aload_n 0, 1) := by decide +kernel
theorem dX7_quoteAgain_13 : decode cX7_quoteAgain 13 = .ok (.getfield 10, 3) := by decide +kernel
theorem dX7_quoteAgain_16 : decode cX7_quoteAgain 16 = .ok (.getfield 84, 3) := by decide +kernel
theorem dX7_quoteAgain_19 : decode cX7_quoteAgain 19 = .ok (.iload_n 1, 1) := by decide +kernel
theorem dX7_quoteAgain_20 : decode cX7_quoteAgain 20 = .ok (.aaload, 1) := by decide +kernel
theorem dX7_quoteAgain_21 : decode cX7_quoteAgain 21 = .ok (.aload_n 0, 1) := by decide +kernel
theorem dX7_quoteAgain_22 : decode cX7_quoteAgain 22 = .ok (.getfield 10, 3) := by decide +kernel
theorem dX7_quoteAgain_25 : decode cX7_quoteAgain 25 = .ok (.getfield 101, 3) := by decide +kernel
theorem dX7_quoteAgain_28 : decode cX7_quoteAgain 28 = .ok (.iload_n 2, 1) := by decide +kernel
theorem dX7_quoteAgain_29 : decode cX7_quoteAgain 29 = .ok (.invokevirtual 115, 3) := by decide +kernel
theorem dX7_quoteAgain_32 : decode cX7_quoteAgain 32 = .ok (.istore_n 3, 1) := by decide +kernel
theorem dX7_quoteAgain_33 : decode cX7_quoteAgain 33 = .ok (.iload_n 3, 1) := by decide +kernel
theorem dX7_quoteAgain_34 : decode cX7_quoteAgain 34 = .ok (.iconst (-1), 1) := by decide +kernel
theorem dX7_quoteAgain_35 : decode cX7_quoteAgain 35 = .ok (.if_icmp .eq 7, 3) := by decide +kernel
theorem dX7_quoteAgain_38 : decode cX7_quoteAgain 38 = .ok (.iconst 1, 1) := by decide +kernel
theorem dX7_quoteAgain_39 : decode cX7_quoteAgain 39 = .ok (.goto 4, 3) := by decide +kernel
theorem dX7_quoteAgain_42 : decode cX7_quoteAgain 42 = .ok (.iconst 0, 1) := by decide +kernel
theorem dX7_quoteAgain_43 : decode cX7_quoteAgain 43 = .ok (.invokestatic 108, 3) := by decide +kernel
theorem dX7_quoteAgain_46 : decode cX7_quoteAgain 46 = .ok (.iload_n 3, 1) := by decide +kernel
theorem dX7_quoteAgain_47 : decode cX7_quoteAgain 47 = .ok (.ireturn, 1) := by decide +kernel
theorem dX7_willBeLots_0 : decode cX7_willBeLots 0 = .ok (.iload_n 1, 1) := by decide +kernel
theorem dX7_willBeLots_1 : decode cX7_willBeLots 1 = .ok (.iconst 0, 1) := by decide +kernel
theorem dX7_willBeLots_2 : decode cX7_willBeLots 2 = .ok (.bipush 20, 2) := by decide +kernel
theorem dX7_willBeLots_4 : decode cX7_willBeLots 4 = .ok (.invokestatic 80, 3) := by decide +kernel
theorem dX7_willBeLots_7 : decode cX7_willBeLots 7 = .ok (.aload_n 0, 1) := by decide +kernel
theorem dX7_willBeLots_8 : decode cX7_willBeLots 8 = .ok (.getfield 10, 3) := by decide +kernel
theorem dX7_willBeLots_11 : decode cX7_willBeLots 11 = .ok (.iload_n 1, 1) := by decide +kernel
theorem dX7_willBeLots_12 : decode cX7_willBeLots 12 = .ok (.invokevirtual 119, 3) := by decide +kernel
theorem dX7_willBeLots_15 : decode cX7_willBeLots 15 = .ok (.ireturn, 1) := by decide +kernel
theorem dX7_willBeLotsAgain_0 : decode cX7_willBeLotsAgain 0 = .ok (.iload_n 1, 1) := by decide +kernel
theorem dX7_willBeLotsAgain_1 : decode cX7_willBeLotsAgain 1 = .ok (.iconst 0, 1) := by decide +kernel
theorem dX7_willBeLotsAgain_2 : decode cX7_willBeLotsAgain 2 = .ok (.bipush 20, 2) := by decide +kernel
theorem dX7_willBeLotsAgain_4 : decode cX7_willBeLotsAgain 4 = .ok (.invokestatic 80, 3) := by decide +kernel
theorem dX7_willBeLotsAgain_7 : decode cX7_willBeLotsAgain 7 = .ok (.aload_n 0, 1) := by decide +kernel
theorem dX7_willBeLotsAgain_8 : decode cX7_willBeLotsAgain 8 = .ok (.getfield 10, 3) := by decide +kernel
theorem dX7_willBeLotsAgain_11 : decode cX7_willBeLotsAgain 11 = .ok (.iload_n 1, 1) := by decide +kernel
theorem dX7_willBeLotsAgain_12 : decode cX7_willBeLotsAgain 12 = .ok (.invokevirtual 122, 3) := by decide +kernel
theorem dX7_willBeLotsAgain_15 : decode cX7_willBeLotsAgain 15 = .ok (.ireturn, 1) := by decide +kernel
theorem dX7_willReserve_0 : decode cX7_willReserve 0 = .ok (.aload_n 0, 1) := by decide +kernel
theorem dX7_willReserve_1 : decode cX7_willReserve 1 = .ok (.iload_n 1, 1) := by decide +kernel
theorem dX7_willReserve_2 : decode cX7_willReserve 2 = .ok (.invokevirtual 76, 3) := by decide +kernel
theorem dX7_willReserve_5 : decode cX7_willReserve 5 = .ok (.iload_n 2, 1) := by decide +kernel
theorem dX7_willReserve_6 : decode cX7_willReserve 6 = .ok (.iconst 0, 1) := by decide +kernel
theorem dX7_willReserve_7 : decode cX7_willReserve 7 = .ok (.bipush 20, 2) := by decide +kernel
theorem dX7_willReserve_9 : decode cX7_willReserve 9 = .ok (.invokestatic 80, 3) := by decide +kernel
theorem dX7_willReserve_12 : decode cX7_willReserve 12 = .ok (.aload_n 0, 1) := by decide +kernel
theorem dX7_willReserve_13 : decode cX7_willReserve 13 = .ok (.getfield 10, 3) := by decide +kernel
theorem dX7_willReserve_16 : decode cX7_willReserve 16 = .ok (.getfield 84, 3) := by decide +kernel
theorem dX7_willReserve_19 : decode cX7_willReserve 19 = .ok (.iload_n 1, 1) := by decide +kernel
theorem dX7_willReserve_20 : decode cX7_willReserve 20 = .ok (.aaload, 1) := by decide +kernel
theorem dX7_willReserve_21 : decode cX7_willReserve 21 = .ok (.getfield 125, 3) := by decide +kernel
theorem dX7_willReserve_24 : decode cX7_willReserve 24 = .ok (.iconst 1, 1) := by decide +kernel
theorem dX7_willReserve_25 : decode cX7_willReserve 25 = .ok (.if_icmp .ne 7, 3) := by decide +kernel
theorem dX7_willReserve_28 : decode cX7_willReserve 28 = .ok (.iconst 1, 1) := by decide +kernel
theorem dX7_willReserve_29 : decode cX7_willReserve 29 = .ok (.goto 4, 3) := by decide +kernel
theorem dX7_willReserve_32 : decode cX7_willReserve 32 = .ok (.iconst 0, 1) := by decide +kernel
theorem dX7_willReserve_33 : decode cX7_willReserve 33 = .ok (.invokestatic 108, 3) := by decide +kernel
theorem dX7_willReserve_36 : decode cX7_willReserve 36 = .ok (.aload_n 0, 1) := by decide +kernel
theorem dX7_willReserve_37 : decode cX7_willReserve 37 = .ok (.getfield 10, 3) := by decide +kernel
theorem dX7_willReserve_40 : decode cX7_willReserve 40 = .ok (.getfield 84, 3) := by decide +kernel
theorem dX7_willReserve_43 : decode cX7_willReserve 43 = .ok (.iload_n 1, 1) := by decide +kernel
theorem dX7_willReserve_44 : decode cX7_willReserve 44 = .ok (.aaload, 1) := by decide +kernel
theorem dX7_willReserve_45 : decode cX7_willReserve 45 = .ok (.iload_n 2, 1) := by decide +kernel
theorem dX7_willReserve_46 : decode cX7_willReserve 46 = .ok (.invokevirtual 128, 3) := by decide +kernel
theorem dX7_willReserve_49 : decode cX7_willReserve 49 = .ok (.ireturn, 1) := by decide +kernel
theorem dX7_ownerOf_0 : decode cX7_ownerOf 0 = .ok (.iload_n 1, 1) := by decide +kernel
theorem dX7_ownerOf_1 : decode cX7_ownerOf 1 = .ok (.invokestatic 131, 3) := by decide +kernel
theorem dX7_ownerOf_4 : decode cX7_ownerOf 4 = .ok (.ifCond .ne 13, 3) := by decide +kernel
theorem dX7_ownerOf_7 : decode cX7_ownerOf 7 = .ok (.new 134, 3) := by decide +kernel
theorem dX7_ownerOf_10 : decode cX7_ownerOf 10 = .ok (.dup, 1) := by decide +kernel
theorem dX7_ownerOf_11 : decode cX7_ownerOf 11 = .ok (.ldc 136, 2) := by decide +kernel
theorem dX7_ownerOf_13 : decode cX7_ownerOf 13 = .ok (.invokespecial 138, 3) := by decide +kernel
theorem dX7_ownerOf_16 : decode cX7_ownerOf 16 = .ok (.athrow, 1) := by decide +kernel
theorem dX7_ownerOf_17 : decode cX7_ownerOf 17 = .ok (.iload_n 2, 1) := by decide +kernel
theorem dX7_ownerOf_18 : decode cX7_ownerOf 18 = .ok (.iconst 0, 1) := by decide +kernel
theorem dX7_ownerOf_19 : decode cX7_ownerOf 19 = .ok (.bipush 6, 2) := by decide +kernel
theorem dX7_ownerOf_21 : decode cX7_ownerOf 21 = .ok (.invokestatic 80, 3) := by decide +kernel
theorem dX7_ownerOf_24 : decode cX7_ownerOf 24 = .ok (.iload_n 2, 1) := by decide +kernel
theorem dX7_ownerOf_25 : decode cX7_ownerOf 25 = .ok (.tableswitch 98 0 5 #[39, 49, 58, 68, 78, 88], 39) := by decide +kernel
theorem dX7_ownerOf_64 : decode cX7_ownerOf 64 = .ok (.aload_n 0, 1) := by decide +kernel
theorem dX7_ownerOf_65 : decode cX7_ownerOf 65 = .ok (.getfield 10, 3) := by decide +kernel
theorem dX7_ownerOf_68 : decode cX7_ownerOf 68 = .ok (.iload_n 1, 1) := by decide +kernel
theorem dX7_ownerOf_69 : decode cX7_ownerOf 69 = .ok (.iconst 0, 1) := by decide +kernel
theorem dX7_ownerOf_70 : decode cX7_ownerOf 70 = .ok (.invokevirtual 141, 3) := by decide +kernel
theorem dX7_ownerOf_73 : decode cX7_ownerOf 73 = .ok (.ireturn, 1) := by decide +kernel
theorem dX7_ownerOf_74 : decode cX7_ownerOf 74 = .ok (.aload_n 0, 1) := by decide +kernel
theorem dX7_ownerOf_75 : decode cX7_ownerOf 75 = .ok (.getfield 10, 3) := by decide +kernel
theorem dX7_ownerOf_78 : decode cX7_ownerOf 78 = .ok (.iload_n 1, 1) := by decide +kernel
theorem dX7_ownerOf_79 : decode cX7_ownerOf 79 = .ok (.invokevirtual 144, 3) := by decide +kernel
theorem dX7_ownerOf_82 : decode cX7_ownerOf 82 = .ok (.ireturn, 1) := by decide +kernel
theorem dX7_ownerOf_83 : decode cX7_ownerOf 83 = .ok (.aload_n 0, 1) := by decide +kernel
theorem dX7_ownerOf_84 : decode cX7_ownerOf 84 = .ok (.getfield 10, 3) := by decide +kernel
theorem dX7_ownerOf_87 : decode cX7_ownerOf 87 = .ok (.iload_n 1, 1) := by decide +kernel
theorem dX7_ownerOf_88 : decode cX7_ownerOf 88 = .ok (.iconst 1, 1) := by decide +kernel
theorem dX7_ownerOf_89 : decode cX7_ownerOf 89 = .ok (.invokevirtual 141, 3) := by decide +kernel
theorem dX7_ownerOf_92 : decode cX7_ownerOf 92 = .ok (.ireturn, 1) := by decide +kernel
theorem dX7_ownerOf_93 : decode cX7_ownerOf 93 = .ok (.aload_n 0, 1) := by decide +kernel
theorem dX7_ownerOf_94 : decode cX7_ownerOf 94 = .ok (.getfield 10, 3) := by decide +kernel
theorem dX7_ownerOf_97 : decode cX7_ownerOf 97 = .ok (.iload_n 1, 1) := by decide +kernel
theorem dX7_ownerOf_98 : decode cX7_ownerOf 98 = .ok (.iconst 2, 1) := by decide +kernel
theorem dX7_ownerOf_99 : decode cX7_ownerOf 99 = .ok (.invokevirtual 141, 3) := by decide +kernel
theorem dX7_ownerOf_102 : decode cX7_ownerOf 102 = .ok (.ireturn, 1) := by decide +kernel
theorem dX7_ownerOf_103 : decode cX7_ownerOf 103 = .ok (.aload_n 0, 1) := by decide +kernel
theorem dX7_ownerOf_104 : decode cX7_ownerOf 104 = .ok (.getfield 10, 3) := by decide +kernel
theorem dX7_ownerOf_107 : decode cX7_ownerOf 107 = .ok (.iload_n 1, 1) := by decide +kernel
theorem dX7_ownerOf_108 : decode cX7_ownerOf 108 = .ok (.iconst 3, 1) := by decide +kernel
theorem dX7_ownerOf_109 : decode cX7_ownerOf 109 = .ok (.invokevirtual 141, 3) := by decide +kernel
theorem dX7_ownerOf_112 : decode cX7_ownerOf 112 = .ok (.ireturn, 1) := by decide +kernel
theorem dX7_ownerOf_113 : decode cX7_ownerOf 113 = .ok (.aload_n 0, 1) := by decide +kernel
theorem dX7_ownerOf_114 : decode cX7_ownerOf 114 = .ok (.getfield 10, 3) := by decide +kernel
theorem dX7_ownerOf_117 : decode cX7_ownerOf 117 = .ok (.getfield 147, 3) := by decide +kernel
theorem dX7_ownerOf_120 : decode cX7_ownerOf 120 = .ok (.iload_n 1, 1) := by decide +kernel
theorem dX7_ownerOf_121 : decode cX7_ownerOf 121 = .ok (.iaload, 1) := by decide +kernel
theorem dX7_ownerOf_122 : decode cX7_ownerOf 122 = .ok (.ireturn, 1) := by decide +kernel
theorem dX7_ownerOf_123 : decode cX7_ownerOf 123 = .ok (.aload_n 0, 1) := by decide +kernel
theorem dX7_ownerOf_124 : decode cX7_ownerOf 124 = .ok (.getfield 10, 3) := by decide +kernel
theorem dX7_ownerOf_127 : decode cX7_ownerOf 127 = .ok (.getfield 151, 3) := by decide +kernel
theorem dX7_ownerOf_130 : decode cX7_ownerOf 130 = .ok (.iload_n 1, 1) := by decide +kernel
theorem dX7_ownerOf_131 : decode cX7_ownerOf 131 = .ok (.iaload, 1) := by decide +kernel
theorem dX7_ownerOf_132 : decode cX7_ownerOf 132 = .ok (.ireturn, 1) := by decide +kernel
theorem dX7_cash_0 : decode cX7_cash 0 = .ok (.iload_n 1, 1) := by decide +kernel
theorem dX7_cash_1 : decode cX7_cash 1 = .ok (.ifCond .eq 13, 3) := by decide +kernel
theorem dX7_cash_4 : decode cX7_cash 4 = .ok (.aload_n 0, 1) := by decide +kernel
theorem dX7_cash_5 : decode cX7_cash 5 = .ok (.getfield 10, 3) := by decide +kernel
theorem dX7_cash_8 : decode cX7_cash 8 = .ok (.invokevirtual 154, 3) := by decide +kernel
theorem dX7_cash_11 : decode cX7_cash 11 = .ok (.goto 10, 3) := by decide +kernel
theorem dX7_cash_14 : decode cX7_cash 14 = .ok (.aload_n 0, 1) := by decide +kernel
theorem dX7_cash_15 : decode cX7_cash 15 = .ok (.getfield 10, 3) := by decide +kernel
theorem dX7_cash_18 : decode cX7_cash 18 = .ok (.getfield 158, 3) := by decide +kernel
theorem dX7_cash_21 : decode cX7_cash 21 = .ok (.ireturn, 1) := by decide +kernel
theorem dX7_isWell_0 : decode cX7_isWell 0 = .ok (.aload_n 0, 1) := by decide +kernel
theorem dX7_isWell_1 : decode cX7_isWell 1 = .ok (.getfield 10, 3) := by decide +kernel
theorem dX7_isWell_4 : decode cX7_isWell 4 = .ok (.getfield 158, 3) := by decide +kernel
theorem dX7_isWell_7 : decode cX7_isWell 7 = .ok (.aload_n 0, 1) := by decide +kernel
theorem dX7_isWell_8 : decode cX7_isWell 8 = .ok (.getfield 10, 3) := by decide +kernel
theorem dX7_isWell_11 : decode cX7_isWell 11 = .ok (.invokevirtual 154, 3) := by decide +kernel
theorem dX7_isWell_14 : decode cX7_isWell 14 = .ok (.if_icmp .ne 39, 3) := by decide +kernel
theorem dX7_isWell_17 : decode cX7_isWell 17 = .ok (.aload_n 0, 1) := by decide +kernel
theorem dX7_isWell_18 : decode cX7_isWell 18 = .ok (.getfield 10, 3) := by decide +kernel
theorem dX7_isWell_21 : decode cX7_isWell 21 = .ok (.iconst 2, 1) := by decide +kernel
theorem dX7_isWell_22 : decode cX7_isWell 22 = .ok (.invokevirtual 161, 3) := by decide +kernel
theorem dX7_isWell_25 : decode cX7_isWell 25 = .ok (.ifCond .eq 28, 3) := by decide +kernel
theorem dX7_isWell_28 : decode cX7_isWell 28 = .ok (.aload_n 0, 1) := by decide +kernel
theorem dX7_isWell_29 : decode cX7_isWell 29 = .ok (.getfield 10, 3) := by decide +kernel
theorem dX7_isWell_32 : decode cX7_isWell 32 = .ok (.bipush 20, 2) := by decide +kernel
theorem dX7_isWell_34 : decode cX7_isWell 34 = .ok (.invokevirtual 119, 3) := by decide +kernel
theorem dX7_isWell_37 : decode cX7_isWell 37 = .ok (.aload_n 0, 1) := by decide +kernel
theorem dX7_isWell_38 : decode cX7_isWell 38 = .ok (.getfield 10, 3) := by decide +kernel
theorem dX7_isWell_41 : decode cX7_isWell 41 = .ok (.bipush 20, 2) := by decide +kernel
theorem dX7_isWell_43 : decode cX7_isWell 43 = .ok (.invokevirtual 122, 3) := by decide +kernel
theorem dX7_isWell_46 : decode cX7_isWell 46 = .ok (.if_icmp .ne 7, 3) := by decide +kernel
theorem dX7_isWell_49 : decode cX7_isWell 49 = .ok (.iconst 1, 1) := by decide +kernel
theorem dX7_isWell_50 : decode cX7_isWell 50 = .ok (.goto 4, 3) := by decide +kernel
theorem dX7_isWell_53 : decode cX7_isWell 53 = .ok (.iconst 0, 1) := by decide +kernel
theorem dX7_isWell_54 : decode cX7_isWell 54 = .ok (.ireturn, 1) := by decide +kernel
theorem dX7_line_0 : decode cX7_line 0 = .ok (.aload_n 0, 1) := by decide +kernel
theorem dX7_line_1 : decode cX7_line 1 = .ok (.iload_n 1, 1) := by decide +kernel
theorem dX7_line_2 : decode cX7_line 2 = .ok (.invokevirtual 76, 3) := by decide +kernel
theorem dX7_line_5 : decode cX7_line 5 = .ok (.aload_n 0, 1) := by decide +kernel
theorem dX7_line_6 : decode cX7_line 6 = .ok (.getfield 64, 3) := by decide +kernel
theorem dX7_line_9 : decode cX7_line 9 = .ok (.iconst 0, 1) := by decide +kernel
theorem dX7_line_10 : decode cX7_line 10 = .ok (.invokevirtual 164, 3) := by decide +kernel
theorem dX7_line_13 : decode cX7_line 13 = .ok (.aload_n 0, 1) := by decide +kernel
theorem dX7_line_14 : decode cX7_line 14 = .ok (.getfield 64, 3) := by decide +kernel
theorem dX7_line_17 : decode cX7_line 17 = .ok (.bipush 35, 2) := by decide +kernel
theorem dX7_line_19 : decode cX7_line 19 = .ok (.invokevirtual 167, 3) := by decide +kernel
theorem dX7_line_22 : decode cX7_line 22 = .ok (.pop, 1) := by decide +kernel
theorem dX7_line_23 : decode cX7_line 23 = .ok (.aload_n 0, 1) := by decide +kernel
theorem dX7_line_24 : decode cX7_line 24 = .ok (.getfield 64, 3) := by decide +kernel
theorem dX7_line_27 : decode cX7_line 27 = .ok (.iload_n 1, 1) := by decide +kernel
theorem dX7_line_28 : decode cX7_line 28 = .ok (.invokevirtual 171, 3) := by decide +kernel
theorem dX7_line_31 : decode cX7_line 31 = .ok (.pop, 1) := by decide +kernel
theorem dX7_line_32 : decode cX7_line 32 = .ok (.aload_n 0, 1) := by decide +kernel
theorem dX7_line_33 : decode cX7_line 33 = .ok (.getfield 10, 3) := by decide +kernel
theorem dX7_line_36 : decode cX7_line 36 = .ok (.getfield 84, 3) := by decide +kernel
theorem dX7_line_39 : decode cX7_line 39 = .ok (.iload_n 1, 1) := by decide +kernel
theorem dX7_line_40 : decode cX7_line 40 = .ok (.aaload, 1) := by decide +kernel
theorem dX7_line_41 : decode cX7_line 41 = .ok (.aload_n 0, 1) := by decide +kernel
theorem dX7_line_42 : decode cX7_line 42 = .ok (.getfield 64, 3) := by decide +kernel
theorem dX7_line_45 : decode cX7_line 45 = .ok (.invokevirtual 174, 3) := by decide +kernel
theorem dX7_line_48 : decode cX7_line 48 = .ok (.aload_n 0, 1) := by decide +kernel
theorem dX7_line_49 : decode cX7_line 49 = .ok (.getfield 64, 3) := by decide +kernel
theorem dX7_line_52 : decode cX7_line 52 = .ok (.invokevirtual 178, 3) := by decide +kernel
theorem dX7_line_55 : decode cX7_line 55 = .ok (.ireturn, 1) := by decide +kernel
theorem dX7_character_0 : decode cX7_character 0 = .ok (.iload_n 1, 1) := by decide +kernel
theorem dX7_character_1 : decode cX7_character 1 = .ok (.ifCond .lt 14, 3) := by decide +kernel
theorem dX7_character_4 : decode cX7_character 4 = .ok (.iload_n 1, 1) := by decide +kernel
theorem dX7_character_5 : decode cX7_character 5 = .ok (.aload_n 0, 1) := by decide +kernel
theorem dX7_character_6 : decode cX7_character 6 = .ok (.getfield 64, 3) := by decide +kernel
theorem dX7_character_9 : decode cX7_character 9 = .ok (.invokevirtual 178, 3) := by decide +kernel
theorem dX7_character_12 : decode cX7_character 12 = .ok (.if_icmp .lt 13, 3) := by decide +kernel
theorem dX7_character_15 : decode cX7_character 15 = .ok (.new 134, 3) := by decide +kernel
theorem dX7_character_18 : decode cX7_character 18 = .ok (.dup, 1) := by decide +kernel
theorem dX7_character_19 : decode cX7_character 19 = .ok (.ldc 181, 2) := by decide +kernel
theorem dX7_character_21 : decode cX7_character 21 = .ok (.invokespecial 138, 3) := by decide +kernel
theorem dX7_character_24 : decode cX7_character 24 = .ok (.athrow, 1) := by decide +kernel
theorem dX7_character_25 : decode cX7_character 25 = .ok (.aload_n 0, 1) := by decide +kernel
theorem dX7_character_26 : decode cX7_character 26 = .ok (.getfield 64, 3) := by decide +kernel
theorem dX7_character_29 : decode cX7_character 29 = .ok (.iload_n 1, 1) := by decide +kernel
theorem dX7_character_30 : decode cX7_character 30 = .ok (.invokevirtual 183, 3) := by decide +kernel
theorem dX7_character_33 : decode cX7_character 33 = .ok (.ireturn, 1) := by decide +kernel
theorem dX7_append_0 : decode cX7_append 0 = .ok (.aload_n 0, 1) := by decide +kernel
theorem dX7_append_1 : decode cX7_append 1 = .ok (.getfield 50, 3) := by decide +kernel
theorem dX7_append_4 : decode cX7_append 4 = .ok (.iload_n 1, 1) := by decide +kernel
theorem dX7_append_5 : decode cX7_append 5 = .ok (.invokevirtual 187, 3) := by decide +kernel
theorem dX7_append_8 : decode cX7_append 8 = .ok (.invokestatic 108, 3) := by decide +kernel
theorem dX7_append_11 : decode cX7_append 11 = .ok (.aload_n 0, 1) := by decide +kernel
theorem dX7_append_12 : decode cX7_append 12 = .ok (.getfield 50, 3) := by decide +kernel
theorem dX7_append_15 : decode cX7_append 15 = .ok (.getfield 191, 3) := by decide +kernel
theorem dX7_append_18 : decode cX7_append 18 = .ok (.ireturn, 1) := by decide +kernel
theorem dX7_run_0 : decode cX7_run 0 = .ok (.aload_n 0, 1) := by decide +kernel
theorem dX7_run_1 : decode cX7_run 1 = .ok (.aload_n 0, 1) := by decide +kernel
theorem dX7_run_2 : decode cX7_run 2 = .ok (.getfield 50, 3) := by decide +kernel
theorem dX7_run_5 : decode cX7_run 5 = .ok (.invokevirtual 193, 3) := by decide +kernel
theorem dX7_run_8 : decode cX7_run 8 = .ok (.putfield 68, 3) := by decide +kernel
theorem dX7_run_11 : decode cX7_run 11 = .ok (.aload_n 0, 1) := by decide +kernel
theorem dX7_run_12 : decode cX7_run 12 = .ok (.getfield 50, 3) := by decide +kernel
theorem dX7_run_15 : decode cX7_run 15 = .ok (.invokevirtual 196, 3) := by decide +kernel
theorem dX7_run_18 : decode cX7_run 18 = .ok (.aload_n 0, 1) := by decide +kernel
theorem dX7_run_19 : decode cX7_run 19 = .ok (.getfield 68, 3) := by decide +kernel
theorem dX7_run_22 : decode cX7_run 22 = .ok (.iconst (-1), 1) := by decide +kernel
theorem dX7_run_23 : decode cX7_run 23 = .ok (.if_icmp .eq 13, 3) := by decide +kernel
theorem dX7_run_26 : decode cX7_run 26 = .ok (.new 199, 3) := by decide +kernel
theorem dX7_run_29 : decode cX7_run 29 = .ok (.dup, 1) := by decide +kernel
theorem dX7_run_30 : decode cX7_run 30 = .ok (.ldc 201, 2) := by decide +kernel
theorem dX7_run_32 : decode cX7_run 32 = .ok (.invokespecial 203, 3) := by decide +kernel
theorem dX7_run_35 : decode cX7_run 35 = .ok (.athrow, 1) := by decide +kernel
theorem dX7_run_36 : decode cX7_run 36 = .ok (.aload_n 0, 1) := by decide +kernel
theorem dX7_run_37 : decode cX7_run 37 = .ok (.invokevirtual 204, 3) := by decide +kernel
theorem dX7_run_40 : decode cX7_run 40 = .ok (.istore_n 1, 1) := by decide +kernel
theorem dX7_run_41 : decode cX7_run 41 = .ok (.iload_n 1, 1) := by decide +kernel
theorem dX7_run_42 : decode cX7_run 42 = .ok (.iconst (-1), 1) := by decide +kernel
theorem dX7_run_43 : decode cX7_run 43 = .ok (.if_icmp .eq 13, 3) := by decide +kernel
theorem dX7_run_46 : decode cX7_run 46 = .ok (.new 207, 3) := by decide +kernel
theorem dX7_run_49 : decode cX7_run 49 = .ok (.dup, 1) := by decide +kernel
theorem dX7_run_50 : decode cX7_run 50 = .ok (.ldc 209, 2) := by decide +kernel
theorem dX7_run_52 : decode cX7_run 52 = .ok (.invokespecial 211, 3) := by decide +kernel
theorem dX7_run_55 : decode cX7_run 55 = .ok (.athrow, 1) := by decide +kernel
theorem dX7_run_56 : decode cX7_run 56 = .ok (.aload_n 0, 1) := by decide +kernel
theorem dX7_run_57 : decode cX7_run 57 = .ok (.getfield 29, 3) := by decide +kernel
theorem dX7_run_60 : decode cX7_run 60 = .ok (.aload_n 0, 1) := by decide +kernel
theorem dX7_run_61 : decode cX7_run 61 = .ok (.getfield 10, 3) := by decide +kernel
theorem dX7_run_64 : decode cX7_run 64 = .ok (.invokevirtual 212, 3) := by decide +kernel
theorem dX7_run_67 : decode cX7_run 67 = .ok (.aload_n 0, 1) := by decide +kernel
theorem dX7_run_68 : decode cX7_run 68 = .ok (.getfield 10, 3) := by decide +kernel
theorem dX7_run_71 : decode cX7_run 71 = .ok (.aload_n 0, 1) := by decide +kernel
theorem dX7_run_72 : decode cX7_run 72 = .ok (.getfield 19, 3) := by decide +kernel
theorem dX7_run_75 : decode cX7_run 75 = .ok (.invokevirtual 216, 3) := by decide +kernel
theorem dX7_run_78 : decode cX7_run 78 = .ok (.aload_n 0, 1) := by decide +kernel
theorem dX7_run_79 : decode cX7_run 79 = .ok (.getfield 50, 3) := by decide +kernel
theorem dX7_run_82 : decode cX7_run 82 = .ok (.getfield 219, 3) := by decide +kernel
theorem dX7_run_85 : decode cX7_run 85 = .ok (.ireturn, 1) := by decide +kernel
theorem dX7_errorPosition_0 : decode cX7_errorPosition 0 = .ok (.aload_n 0, 1) := by decide +kernel
theorem dX7_errorPosition_1 : decode cX7_errorPosition 1 = .ok (.getfield 68, 3) := by decide +kernel
theorem dX7_errorPosition_4 : decode cX7_errorPosition 4 = .ok (.ireturn, 1) := by decide +kernel
theorem dX7_refusal_0 : decode cX7_refusal 0 = .ok (.aload_n 0, 1) := by decide +kernel
theorem dX7_refusal_1 : decode cX7_refusal 1 = .ok (.getfield 57, 3) := by decide +kernel
theorem dX7_refusal_4 : decode cX7_refusal 4 = .ok (.getfield 222, 3) := by decide +kernel
theorem dX7_refusal_7 : decode cX7_refusal 7 = .ok (.ifCond .eq 19, 3) := by decide +kernel
theorem dX7_refusal_10 : decode cX7_refusal 10 = .ok (.iload_n 1, 1) := by decide +kernel
theorem dX7_refusal_11 : decode cX7_refusal 11 = .ok (.ifCond .eq 25, 3) := by decide +kernel
theorem dX7_refusal_14 : decode cX7_refusal 14 = .ok (.aload_n 0, 1) := by decide +kernel
theorem dX7_refusal_15 : decode cX7_refusal 15 = .ok (.getfield 57, 3) := by decide +kernel
theorem dX7_refusal_18 : decode cX7_refusal 18 = .ok (.getfield 222, 3) := by decide +kernel
theorem dX7_refusal_21 : decode cX7_refusal 21 = .ok (.bipush 11, 2) := by decide +kernel
theorem dX7_refusal_23 : decode cX7_refusal 23 = .ok (.if_icmp .eq 13, 3) := by decide +kernel
theorem dX7_refusal_26 : decode cX7_refusal 26 = .ok (.new 225, 3) := by decide +kernel
theorem dX7_refusal_29 : decode cX7_refusal 29 = .ok (.dup, 1) := by decide +kernel
theorem dX7_refusal_30 : decode cX7_refusal 30 = .ok (.ldc 227, 2) := by decide +kernel
theorem dX7_refusal_32 : decode cX7_refusal 32 = .ok (.invokespecial 229, 3) := by decide +kernel
theorem dX7_refusal_35 : decode cX7_refusal 35 = .ok (.athrow, 1) := by decide +kernel
theorem dX7_refusal_36 : decode cX7_refusal 36 = .ok (.iload_n 1, 1) := by decide +kernel
theorem dX7_refusal_37 : decode cX7_refusal 37 = .ok (.ifCond .eq 25, 3) := by decide +kernel
theorem dX7_refusal_40 : decode cX7_refusal 40 = .ok (.iload_n 2, 1) := by decide +kernel
theorem dX7_refusal_41 : decode cX7_refusal 41 = .ok (.ifCond .eq 13, 3) := by decide +kernel
theorem dX7_refusal_44 : decode cX7_refusal 44 = .ok (.aload_n 0, 1) := by decide +kernel
theorem dX7_refusal_45 : decode cX7_refusal 45 = .ok (.getfield 57, 3) := by decide +kernel
theorem dX7_refusal_48 : decode cX7_refusal 48 = .ok (.getfield 230, 3) := by decide +kernel
theorem dX7_refusal_51 : decode cX7_refusal 51 = .ok (.goto 10, 3) := by decide +kernel
theorem dX7_refusal_54 : decode cX7_refusal 54 = .ok (.aload_n 0, 1) := by decide +kernel
theorem dX7_refusal_55 : decode cX7_refusal 55 = .ok (.getfield 57, 3) := by decide +kernel
theorem dX7_refusal_58 : decode cX7_refusal 58 = .ok (.getfield 233, 3) := by decide +kernel
theorem dX7_refusal_61 : decode cX7_refusal 61 = .ok (.ireturn, 1) := by decide +kernel
theorem dX7_refusal_62 : decode cX7_refusal 62 = .ok (.iload_n 2, 1) := by decide +kernel
theorem dX7_refusal_63 : decode cX7_refusal 63 = .ok (.ifCond .eq 13, 3) := by decide +kernel
theorem dX7_refusal_66 : decode cX7_refusal 66 = .ok (.aload_n 0, 1) := by decide +kernel
theorem dX7_refusal_67 : decode cX7_refusal 67 = .ok (.getfield 57, 3) := by decide +kernel
theorem dX7_refusal_70 : decode cX7_refusal 70 = .ok (.getfield 236, 3) := by decide +kernel
theorem dX7_refusal_73 : decode cX7_refusal 73 = .ok (.goto 10, 3) := by decide +kernel
theorem dX7_refusal_76 : decode cX7_refusal 76 = .ok (.aload_n 0, 1) := by decide +kernel
theorem dX7_refusal_77 : decode cX7_refusal 77 = .ok (.getfield 57, 3) := by decide +kernel
theorem dX7_refusal_80 : decode cX7_refusal 80 = .ok (.getfield 222, 3) := by decide +kernel
theorem dX7_refusal_83 : decode cX7_refusal 83 = .ok (.ireturn, 1) := by decide +kernel
theorem dX7_account_0 : decode cX7_account 0 = .ok (.iload_n 1, 1) := by decide +kernel
theorem dX7_account_1 : decode cX7_account 1 = .ok (.iconst 0, 1) := by decide +kernel
theorem dX7_account_2 : decode cX7_account 2 = .ok (.bipush 15, 2) := by decide +kernel
theorem dX7_account_4 : decode cX7_account 4 = .ok (.invokestatic 80, 3) := by decide +kernel
theorem dX7_account_7 : decode cX7_account 7 = .ok (.iload_n 1, 1) := by decide +kernel
theorem dX7_account_8 : decode cX7_account 8 = .ok (.tableswitch 204 0 14 #[76, 84, 92, 102, 112, 122, 132, 140, 148, 156, 164, 172, 180, 188, 196], 76) := by decide +kernel
theorem dX7_account_84 : decode cX7_account 84 = .ok (.aload_n 0, 1) := by decide +kernel
theorem dX7_account_85 : decode cX7_account 85 = .ok (.getfield 10, 3) := by decide +kernel
theorem dX7_account_88 : decode cX7_account 88 = .ok (.getfield 101, 3) := by decide +kernel
theorem dX7_account_91 : decode cX7_account 91 = .ok (.ireturn, 1) := by decide +kernel
theorem dX7_account_92 : decode cX7_account 92 = .ok (.aload_n 0, 1) := by decide +kernel
theorem dX7_account_93 : decode cX7_account 93 = .ok (.getfield 10, 3) := by decide +kernel
theorem dX7_account_96 : decode cX7_account 96 = .ok (.getfield 239, 3) := by decide +kernel
theorem dX7_account_99 : decode cX7_account 99 = .ok (.ireturn, 1) := by decide +kernel
theorem dX7_account_100 : decode cX7_account 100 = .ok (.aload_n 0, 1) := by decide +kernel
theorem dX7_account_101 : decode cX7_account 101 = .ok (.getfield 10, 3) := by decide +kernel
theorem dX7_account_104 : decode cX7_account 104 = .ok (.iconst (-1), 1) := by decide +kernel
theorem dX7_account_105 : decode cX7_account 105 = .ok (.iconst 0, 1) := by decide +kernel
theorem dX7_account_106 : decode cX7_account 106 = .ok (.invokevirtual 141, 3) := by decide +kernel
theorem dX7_account_109 : decode cX7_account 109 = .ok (.ireturn, 1) := by decide +kernel
theorem dX7_account_110 : decode cX7_account 110 = .ok (.aload_n 0, 1) := by decide +kernel
theorem dX7_account_111 : decode cX7_account 111 = .ok (.getfield 10, 3) := by decide +kernel
theorem dX7_account_114 : decode cX7_account 114 = .ok (.iconst (-1), 1) := by decide +kernel
theorem dX7_account_115 : decode cX7_account 115 = .ok (.iconst 1, 1) := by decide +kernel
theorem dX7_account_116 : decode cX7_account 116 = .ok (.invokevirtual 141, 3) := by decide +kernel
theorem dX7_account_119 : decode cX7_account 119 = .ok (.ireturn, 1) := by decide +kernel
theorem dX7_account_120 : decode cX7_account 120 = .ok (.aload_n 0, 1) := by decide +kernel
theorem dX7_account_121 : decode cX7_account 121 = .ok (.getfield 10, 3) := by decide +kernel
theorem dX7_account_124 : decode cX7_account 124 = .ok (.iconst (-1), 1) := by decide +kernel
theorem dX7_account_125 : decode cX7_account 125 = .ok (.iconst 2, 1) := by decide +kernel
theorem dX7_account_126 : decode cX7_account 126 = .ok (.invokevirtual 141, 3) := by decide +kernel
theorem dX7_account_129 : decode cX7_account 129 = .ok (.ireturn, 1) := by decide +kernel
theorem dX7_account_130 : decode cX7_account 130 = .ok (.aload_n 0, 1) := by decide +kernel
theorem dX7_account_131 : decode cX7_account 131 = .ok (.getfield 10, 3) := by decide +kernel
theorem dX7_account_134 : decode cX7_account 134 = .ok (.iconst (-1), 1) := by decide +kernel
theorem dX7_account_135 : decode cX7_account 135 = .ok (.iconst 3, 1) := by decide +kernel
theorem dX7_account_136 : decode cX7_account 136 = .ok (.invokevirtual 141, 3) := by decide +kernel
theorem dX7_account_139 : decode cX7_account 139 = .ok (.ireturn, 1) := by decide +kernel
theorem dX7_account_140 : decode cX7_account 140 = .ok (.aload_n 0, 1) := by decide +kernel
theorem dX7_account_141 : decode cX7_account 141 = .ok (.getfield 10, 3) := by decide +kernel
theorem dX7_account_144 : decode cX7_account 144 = .ok (.invokevirtual 242, 3) := by decide +kernel
theorem dX7_account_147 : decode cX7_account 147 = .ok (.ireturn, 1) := by decide +kernel
theorem dX7_account_148 : decode cX7_account 148 = .ok (.aload_n 0, 1) := by decide +kernel
theorem dX7_account_149 : decode cX7_account 149 = .ok (.getfield 10, 3) := by decide +kernel
theorem dX7_account_152 : decode cX7_account 152 = .ok (.invokevirtual 245, 3) := by decide +kernel
theorem dX7_account_155 : decode cX7_account 155 = .ok (.ireturn, 1) := by decide +kernel
theorem dX7_account_156 : decode cX7_account 156 = .ok (.aload_n 0, 1) := by decide +kernel
theorem dX7_account_157 : decode cX7_account 157 = .ok (.getfield 10, 3) := by decide +kernel
theorem dX7_account_160 : decode cX7_account 160 = .ok (.invokevirtual 248, 3) := by decide +kernel
theorem dX7_account_163 : decode cX7_account 163 = .ok (.ireturn, 1) := by decide +kernel
theorem dX7_account_164 : decode cX7_account 164 = .ok (.aload_n 0, 1) := by decide +kernel
theorem dX7_account_165 : decode cX7_account 165 = .ok (.getfield 10, 3) := by decide +kernel
theorem dX7_account_168 : decode cX7_account 168 = .ok (.invokevirtual 251, 3) := by decide +kernel
theorem dX7_account_171 : decode cX7_account 171 = .ok (.ireturn, 1) := by decide +kernel
theorem dX7_account_172 : decode cX7_account 172 = .ok (.aload_n 0, 1) := by decide +kernel
theorem dX7_account_173 : decode cX7_account 173 = .ok (.getfield 10, 3) := by decide +kernel
theorem dX7_account_176 : decode cX7_account 176 = .ok (.invokevirtual 254, 3) := by decide +kernel
theorem dX7_account_179 : decode cX7_account 179 = .ok (.ireturn, 1) := by decide +kernel
theorem dX7_account_180 : decode cX7_account 180 = .ok (.aload_n 0, 1) := by decide +kernel
theorem dX7_account_181 : decode cX7_account 181 = .ok (.getfield 10, 3) := by decide +kernel
theorem dX7_account_184 : decode cX7_account 184 = .ok (.invokevirtual 257, 3) := by decide +kernel
theorem dX7_account_187 : decode cX7_account 187 = .ok (.ireturn, 1) := by decide +kernel
theorem dX7_account_188 : decode cX7_account 188 = .ok (.aload_n 0, 1) := by decide +kernel
theorem dX7_account_189 : decode cX7_account 189 = .ok (.getfield 10, 3) := by decide +kernel
theorem dX7_account_192 : decode cX7_account 192 = .ok (.getfield 260, 3) := by decide +kernel
theorem dX7_account_195 : decode cX7_account 195 = .ok (.ireturn, 1) := by decide +kernel
theorem dX7_account_196 : decode cX7_account 196 = .ok (.aload_n 0, 1) := by decide +kernel
theorem dX7_account_197 : decode cX7_account 197 = .ok (.getfield 10, 3) := by decide +kernel
theorem dX7_account_200 : decode cX7_account 200 = .ok (.getfield 263, 3) := by decide +kernel
theorem dX7_account_203 : decode cX7_account 203 = .ok (.ireturn, 1) := by decide +kernel
theorem dX7_account_204 : decode cX7_account 204 = .ok (.aload_n 0, 1) := by decide +kernel
theorem dX7_account_205 : decode cX7_account 205 = .ok (.getfield 50, 3) := by decide +kernel
theorem dX7_account_208 : decode cX7_account 208 = .ok (.getfield 191, 3) := by decide +kernel
theorem dX7_account_211 : decode cX7_account 211 = .ok (.ireturn, 1) := by decide +kernel
theorem dX7_account_212 : decode cX7_account 212 = .ok (.aload_n 0, 1) := by decide +kernel
theorem dX7_account_213 : decode cX7_account 213 = .ok (.getfield 29, 3) := by decide +kernel
theorem dX7_account_216 : decode cX7_account 216 = .ok (.getfield 266, 3) := by decide +kernel
theorem dX7_account_219 : decode cX7_account 219 = .ok (.ireturn, 1) := by decide +kernel
theorem dX7_meanLoan_0 : decode cX7_meanLoan 0 = .ok (.aload_n 0, 1) := by decide +kernel
theorem dX7_meanLoan_1 : decode cX7_meanLoan 1 = .ok (.getfield 10, 3) := by decide +kernel
theorem dX7_meanLoan_4 : decode cX7_meanLoan 4 = .ok (.iconst (-1), 1) := by decide +kernel
theorem dX7_meanLoan_5 : decode cX7_meanLoan 5 = .ok (.iconst 0, 1) := by decide +kernel
theorem dX7_meanLoan_6 : decode cX7_meanLoan 6 = .ok (.invokevirtual 141, 3) := by decide +kernel
theorem dX7_meanLoan_9 : decode cX7_meanLoan 9 = .ok (.istore_n 1, 1) := by decide +kernel
theorem dX7_meanLoan_10 : decode cX7_meanLoan 10 = .ok (.iload_n 1, 1) := by decide +kernel
theorem dX7_meanLoan_11 : decode cX7_meanLoan 11 = .ok (.ifCond .ne 14, 3) := by decide +kernel
theorem dX7_meanLoan_14 : decode cX7_meanLoan 14 = .ok (.new 269, 3) := by decide +kernel
theorem dX7_meanLoan_17 : decode cX7_meanLoan 17 = .ok (.dup, 1) := by decide +kernel
theorem dX7_meanLoan_18 : decode cX7_meanLoan 18 = .ok (.ldc_w 271, 3) := by decide +kernel
theorem dX7_meanLoan_21 : decode cX7_meanLoan 21 = .ok (.invokespecial 273, 3) := by decide +kernel
theorem dX7_meanLoan_24 : decode cX7_meanLoan 24 = .ok (.athrow, 1) := by decide +kernel
theorem dX7_meanLoan_25 : decode cX7_meanLoan 25 = .ok (.aload_n 0, 1) := by decide +kernel
theorem dX7_meanLoan_26 : decode cX7_meanLoan 26 = .ok (.getfield 10, 3) := by decide +kernel
theorem dX7_meanLoan_29 : decode cX7_meanLoan 29 = .ok (.invokevirtual 274, 3) := by decide +kernel
theorem dX7_meanLoan_32 : decode cX7_meanLoan 32 = .ok (.i2d, 1) := by decide +kernel
theorem dX7_meanLoan_33 : decode cX7_meanLoan 33 = .ok (.iload_n 1, 1) := by decide +kernel
theorem dX7_meanLoan_34 : decode cX7_meanLoan 34 = .ok (.i2d, 1) := by decide +kernel
theorem dX7_meanLoan_35 : decode cX7_meanLoan 35 = .ok (.ddiv, 1) := by decide +kernel
theorem dX7_meanLoan_36 : decode cX7_meanLoan 36 = .ok (.dreturn, 1) := by decide +kernel
theorem dX7_redeemedShare_0 : decode cX7_redeemedShare 0 = .ok (.aload_n 0, 1) := by decide +kernel
theorem dX7_redeemedShare_1 : decode cX7_redeemedShare 1 = .ok (.getfield 10, 3) := by decide +kernel
theorem dX7_redeemedShare_4 : decode cX7_redeemedShare 4 = .ok (.getfield 239, 3) := by decide +kernel
theorem dX7_redeemedShare_7 : decode cX7_redeemedShare 7 = .ok (.ifCond .ne 14, 3) := by decide +kernel
theorem dX7_redeemedShare_10 : decode cX7_redeemedShare 10 = .ok (.new 269, 3) := by decide +kernel
theorem dX7_redeemedShare_13 : decode cX7_redeemedShare 13 = .ok (.dup, 1) := by decide +kernel
theorem dX7_redeemedShare_14 : decode cX7_redeemedShare 14 = .ok (.ldc_w 277, 3) := by decide +kernel
theorem dX7_redeemedShare_17 : decode cX7_redeemedShare 17 = .ok (.invokespecial 273, 3) := by decide +kernel
theorem dX7_redeemedShare_20 : decode cX7_redeemedShare 20 = .ok (.athrow, 1) := by decide +kernel
theorem dX7_redeemedShare_21 : decode cX7_redeemedShare 21 = .ok (.aload_n 0, 1) := by decide +kernel
theorem dX7_redeemedShare_22 : decode cX7_redeemedShare 22 = .ok (.getfield 10, 3) := by decide +kernel
theorem dX7_redeemedShare_25 : decode cX7_redeemedShare 25 = .ok (.iconst (-1), 1) := by decide +kernel
theorem dX7_redeemedShare_26 : decode cX7_redeemedShare 26 = .ok (.iconst 2, 1) := by decide +kernel
theorem dX7_redeemedShare_27 : decode cX7_redeemedShare 27 = .ok (.invokevirtual 141, 3) := by decide +kernel
theorem dX7_redeemedShare_30 : decode cX7_redeemedShare 30 = .ok (.i2f, 1) := by decide +kernel
theorem dX7_redeemedShare_31 : decode cX7_redeemedShare 31 = .ok (.aload_n 0, 1) := by decide +kernel
theorem dX7_redeemedShare_32 : decode cX7_redeemedShare 32 = .ok (.getfield 10, 3) := by decide +kernel
theorem dX7_redeemedShare_35 : decode cX7_redeemedShare 35 = .ok (.getfield 239, 3) := by decide +kernel
theorem dX7_redeemedShare_38 : decode cX7_redeemedShare 38 = .ok (.i2f, 1) := by decide +kernel
theorem dX7_redeemedShare_39 : decode cX7_redeemedShare 39 = .ok (.fdiv, 1) := by decide +kernel
theorem dX7_redeemedShare_40 : decode cX7_redeemedShare 40 = .ok (.freturn, 1) := by decide +kernel
theorem dX7_undo_0 : decode cX7_undo 0 = .ok (.aload_n 0, 1) := by decide +kernel
theorem dX7_undo_1 : decode cX7_undo 1 = .ok (.getfield 29, 3) := by decide +kernel
theorem dX7_undo_4 : decode cX7_undo 4 = .ok (.getfield 266, 3) := by decide +kernel
theorem dX7_undo_7 : decode cX7_undo 7 = .ok (.ifCond .le 7, 3) := by decide +kernel
theorem dX7_undo_10 : decode cX7_undo 10 = .ok (.iconst 1, 1) := by decide +kernel
theorem dX7_undo_11 : decode cX7_undo 11 = .ok (.goto 4, 3) := by decide +kernel
theorem dX7_undo_14 : decode cX7_undo 14 = .ok (.iconst 0, 1) := by decide +kernel
theorem dX7_undo_15 : decode cX7_undo 15 = .ok (.invokestatic 108, 3) := by decide +kernel
theorem dX7_undo_18 : decode cX7_undo 18 = .ok (.aload_n 0, 1) := by decide +kernel
theorem dX7_undo_19 : decode cX7_undo 19 = .ok (.getfield 29, 3) := by decide +kernel
theorem dX7_undo_22 : decode cX7_undo 22 = .ok (.aload_n 0, 1) := by decide +kernel
theorem dX7_undo_23 : decode cX7_undo 23 = .ok (.getfield 10, 3) := by decide +kernel
theorem dX7_undo_26 : decode cX7_undo 26 = .ok (.invokevirtual 279, 3) := by decide +kernel
theorem dX7_undo_29 : decode cX7_undo 29 = .ok (.aload_n 0, 1) := by decide +kernel
theorem dX7_undo_30 : decode cX7_undo 30 = .ok (.getfield 29, 3) := by decide +kernel
theorem dX7_undo_33 : decode cX7_undo 33 = .ok (.getfield 266, 3) := by decide +kernel
theorem dX7_undo_36 : decode cX7_undo 36 = .ok (.ireturn, 1) := by decide +kernel
theorem dX7_save_0 : decode cX7_save 0 = .ok (.aload_n 0, 1) := by decide +kernel
theorem dX7_save_1 : decode cX7_save 1 = .ok (.getfield 16, 3) := by decide +kernel
theorem dX7_save_4 : decode cX7_save 4 = .ok (.aload_n 0, 1) := by decide +kernel
theorem dX7_save_5 : decode cX7_save 5 = .ok (.getfield 10, 3) := by decide +kernel
theorem dX7_save_8 : decode cX7_save 8 = .ok (.invokevirtual 216, 3) := by decide +kernel
theorem dX7_save_11 : decode cX7_save 11 = .ok (.aload_n 0, 1) := by decide +kernel
theorem dX7_save_12 : decode cX7_save 12 = .ok (.iconst 1, 1) := by decide +kernel
theorem dX7_save_13 : decode cX7_save 13 = .ok (.putfield 22, 3) := by decide +kernel
theorem dX7_save_16 : decode cX7_save 16 = .ok (.aload_n 0, 1) := by decide +kernel
theorem dX7_save_17 : decode cX7_save 17 = .ok (.getfield 10, 3) := by decide +kernel
theorem dX7_save_20 : decode cX7_save 20 = .ok (.getfield 101, 3) := by decide +kernel
theorem dX7_save_23 : decode cX7_save 23 = .ok (.ireturn, 1) := by decide +kernel
theorem dX7_restore_0 : decode cX7_restore 0 = .ok (.aload_n 0, 1) := by decide +kernel
theorem dX7_restore_1 : decode cX7_restore 1 = .ok (.getfield 22, 3) := by decide +kernel
theorem dX7_restore_4 : decode cX7_restore 4 = .ok (.invokestatic 108, 3) := by decide +kernel
theorem dX7_restore_7 : decode cX7_restore 7 = .ok (.aload_n 0, 1) := by decide +kernel
theorem dX7_restore_8 : decode cX7_restore 8 = .ok (.getfield 10, 3) := by decide +kernel
theorem dX7_restore_11 : decode cX7_restore 11 = .ok (.aload_n 0, 1) := by decide +kernel
theorem dX7_restore_12 : decode cX7_restore 12 = .ok (.getfield 16, 3) := by decide +kernel
theorem dX7_restore_15 : decode cX7_restore 15 = .ok (.invokevirtual 216, 3) := by decide +kernel
theorem dX7_restore_18 : decode cX7_restore 18 = .ok (.aload_n 0, 1) := by decide +kernel
theorem dX7_restore_19 : decode cX7_restore 19 = .ok (.getfield 29, 3) := by decide +kernel
theorem dX7_restore_22 : decode cX7_restore 22 = .ok (.invokevirtual 282, 3) := by decide +kernel
theorem dX7_restore_25 : decode cX7_restore 25 = .ok (.aload_n 0, 1) := by decide +kernel
theorem dX7_restore_26 : decode cX7_restore 26 = .ok (.getfield 10, 3) := by decide +kernel
theorem dX7_restore_29 : decode cX7_restore 29 = .ok (.getfield 101, 3) := by decide +kernel
theorem dX7_restore_32 : decode cX7_restore 32 = .ok (.ireturn, 1) := by decide +kernel
theorem dX7_change_0 : decode cX7_change 0 = .ok (.aload_n 0, 1) := by decide +kernel
theorem dX7_change_1 : decode cX7_change 1 = .ok (.getfield 43, 3) := by decide +kernel
theorem dX7_change_4 : decode cX7_change 4 = .ok (.iload_n 1, 1) := by decide +kernel
theorem dX7_change_5 : decode cX7_change 5 = .ok (.invokevirtual 285, 3) := by decide +kernel
theorem dX7_change_8 : decode cX7_change 8 = .ok (.aload_n 0, 1) := by decide +kernel
theorem dX7_change_9 : decode cX7_change 9 = .ok (.getfield 43, 3) := by decide +kernel
theorem dX7_change_12 : decode cX7_change 12 = .ok (.iload_n 2, 1) := by decide +kernel
theorem dX7_change_13 : decode cX7_change 13 = .ok (.invokevirtual 289, 3) := by decide +kernel
theorem dX7_change_16 : decode cX7_change 16 = .ok (.aload_n 0, 1) := by decide +kernel
theorem dX7_change_17 : decode cX7_change 17 = .ok (.getfield 43, 3) := by decide +kernel
theorem dX7_change_20 : decode cX7_change 20 = .ok (.iload_n 3, 1) := by decide +kernel
theorem dX7_change_21 : decode cX7_change 21 = .ok (.invokevirtual 289, 3) := by decide +kernel
theorem dX7_change_24 : decode cX7_change 24 = .ok (.aload_n 0, 1) := by decide +kernel
theorem dX7_change_25 : decode cX7_change 25 = .ok (.getfield 43, 3) := by decide +kernel
theorem dX7_change_28 : decode cX7_change 28 = .ok (.iload 4, 2) := by decide +kernel
theorem dX7_change_30 : decode cX7_change 30 = .ok (.invokevirtual 289, 3) := by decide +kernel
theorem dX7_change_33 : decode cX7_change 33 = .ok (.aload_n 0, 1) := by decide +kernel
theorem dX7_change_34 : decode cX7_change 34 = .ok (.aload_n 0, 1) := by decide +kernel
theorem dX7_change_35 : decode cX7_change 35 = .ok (.getfield 36, 3) := by decide +kernel
theorem dX7_change_38 : decode cX7_change 38 = .ok (.aload_n 0, 1) := by decide +kernel
theorem dX7_change_39 : decode cX7_change 39 = .ok (.getfield 10, 3) := by decide +kernel
theorem dX7_change_42 : decode cX7_change 42 = .ok (.aload_n 0, 1) := by decide +kernel
theorem dX7_change_43 : decode cX7_change 43 = .ok (.getfield 43, 3) := by decide +kernel
theorem dX7_change_46 : decode cX7_change 46 = .ok (.invokevirtual 292, 3) := by decide +kernel
theorem dX7_change_49 : decode cX7_change 49 = .ok (.invokevirtual 296, 3) := by decide +kernel
theorem dX7_change_52 : decode cX7_change 52 = .ok (.aload_n 0, 1) := by decide +kernel
theorem dX7_change_53 : decode cX7_change 53 = .ok (.getfield 29, 3) := by decide +kernel
theorem dX7_change_56 : decode cX7_change 56 = .ok (.aload_n 0, 1) := by decide +kernel
theorem dX7_change_57 : decode cX7_change 57 = .ok (.getfield 10, 3) := by decide +kernel
theorem dX7_change_60 : decode cX7_change 60 = .ok (.invokevirtual 212, 3) := by decide +kernel
theorem dX7_change_63 : decode cX7_change 63 = .ok (.aload_n 0, 1) := by decide +kernel
theorem dX7_change_64 : decode cX7_change 64 = .ok (.getfield 10, 3) := by decide +kernel
theorem dX7_change_67 : decode cX7_change 67 = .ok (.aload_n 0, 1) := by decide +kernel
theorem dX7_change_68 : decode cX7_change 68 = .ok (.getfield 43, 3) := by decide +kernel
theorem dX7_change_71 : decode cX7_change 71 = .ok (.invokevirtual 299, 3) := by decide +kernel
theorem dX7_change_74 : decode cX7_change 74 = .ok (.ireturn, 1) := by decide +kernel
theorem dX7_demandFine_0 : decode cX7_demandFine 0 = .ok (.iload_n 1, 1) := by decide +kernel
theorem dX7_demandFine_1 : decode cX7_demandFine 1 = .ok (.iconst (-1), 1) := by decide +kernel
theorem dX7_demandFine_2 : decode cX7_demandFine 2 = .ok (.if_icmp .ne 13, 3) := by decide +kernel
theorem dX7_demandFine_5 : decode cX7_demandFine 5 = .ok (.new 134, 3) := by decide +kernel
theorem dX7_demandFine_8 : decode cX7_demandFine 8 = .ok (.dup, 1) := by decide +kernel
theorem dX7_demandFine_9 : decode cX7_demandFine 9 = .ok (.ldc 136, 2) := by decide +kernel
theorem dX7_demandFine_11 : decode cX7_demandFine 11 = .ok (.invokespecial 138, 3) := by decide +kernel
theorem dX7_demandFine_14 : decode cX7_demandFine 14 = .ok (.athrow, 1) := by decide +kernel
theorem dX7_demandFine_15 : decode cX7_demandFine 15 = .ok (.iload_n 1, 1) := by decide +kernel
theorem dX7_demandFine_16 : decode cX7_demandFine 16 = .ok (.bipush (-3), 2) := by decide +kernel
theorem dX7_demandFine_18 : decode cX7_demandFine 18 = .ok (.if_icmp .ne 14, 3) := by decide +kernel
theorem dX7_demandFine_21 : decode cX7_demandFine 21 = .ok (.new 225, 3) := by decide +kernel
theorem dX7_demandFine_24 : decode cX7_demandFine 24 = .ok (.dup, 1) := by decide +kernel
theorem dX7_demandFine_25 : decode cX7_demandFine 25 = .ok (.ldc_w 303, 3) := by decide +kernel
theorem dX7_demandFine_28 : decode cX7_demandFine 28 = .ok (.invokespecial 229, 3) := by decide +kernel
theorem dX7_demandFine_31 : decode cX7_demandFine 31 = .ok (.athrow, 1) := by decide +kernel
theorem dX7_demandFine_32 : decode cX7_demandFine 32 = .ok (.iload_n 1, 1) := by decide +kernel
theorem dX7_demandFine_33 : decode cX7_demandFine 33 = .ok (.bipush (-2), 2) := by decide +kernel
theorem dX7_demandFine_35 : decode cX7_demandFine 35 = .ok (.if_icmp .ne 14, 3) := by decide +kernel
theorem dX7_demandFine_38 : decode cX7_demandFine 38 = .ok (.new 199, 3) := by decide +kernel
theorem dX7_demandFine_41 : decode cX7_demandFine 41 = .ok (.dup, 1) := by decide +kernel
theorem dX7_demandFine_42 : decode cX7_demandFine 42 = .ok (.ldc_w 305, 3) := by decide +kernel
theorem dX7_demandFine_45 : decode cX7_demandFine 45 = .ok (.invokespecial 203, 3) := by decide +kernel
theorem dX7_demandFine_48 : decode cX7_demandFine 48 = .ok (.athrow, 1) := by decide +kernel
theorem dX7_demandFine_49 : decode cX7_demandFine 49 = .ok (.iload_n 1, 1) := by decide +kernel
theorem dX7_demandFine_50 : decode cX7_demandFine 50 = .ok (.ifCond .eq 29, 3) := by decide +kernel
theorem dX7_demandFine_53 : decode cX7_demandFine 53 = .ok (.aload_n 0, 1) := by decide +kernel
theorem dX7_demandFine_54 : decode cX7_demandFine 54 = .ok (.getfield 57, 3) := by decide +kernel
theorem dX7_demandFine_57 : decode cX7_demandFine 57 = .ok (.iload_n 1, 1) := by decide +kernel
theorem dX7_demandFine_58 : decode cX7_demandFine 58 = .ok (.aload_n 0, 1) := by decide +kernel
theorem dX7_demandFine_59 : decode cX7_demandFine 59 = .ok (.getfield 36, 3) := by decide +kernel
theorem dX7_demandFine_62 : decode cX7_demandFine 62 = .ok (.getfield 307, 3) := by decide +kernel
theorem dX7_demandFine_65 : decode cX7_demandFine 65 = .ok (.invokevirtual 308, 3) := by decide +kernel
theorem dX7_demandFine_68 : decode cX7_demandFine 68 = .ok (.new 207, 3) := by decide +kernel
theorem dX7_demandFine_71 : decode cX7_demandFine 71 = .ok (.dup, 1) := by decide +kernel
theorem dX7_demandFine_72 : decode cX7_demandFine 72 = .ok (.ldc_w 311, 3) := by decide +kernel
theorem dX7_demandFine_75 : decode cX7_demandFine 75 = .ok (.invokespecial 211, 3) := by decide +kernel
theorem dX7_demandFine_78 : decode cX7_demandFine 78 = .ok (.athrow, 1) := by decide +kernel
theorem dX7_demandFine_79 : decode cX7_demandFine 79 = .ok (.return_, 1) := by decide +kernel
theorem dX7_tryOrders_0 : decode cX7_tryOrders 0 = .ok (.aload_n 0, 1) := by decide +kernel
theorem dX7_tryOrders_1 : decode cX7_tryOrders 1 = .ok (.getfield 19, 3) := by decide +kernel
theorem dX7_tryOrders_4 : decode cX7_tryOrders 4 = .ok (.aload_n 0, 1) := by decide +kernel
theorem dX7_tryOrders_5 : decode cX7_tryOrders 5 = .ok (.getfield 10, 3) := by decide +kernel
theorem dX7_tryOrders_8 : decode cX7_tryOrders 8 = .ok (.invokevirtual 216, 3) := by decide +kernel
theorem dX7_tryOrders_11 : decode cX7_tryOrders 11 = .ok (.iconst 0, 1) := by decide +kernel
theorem dX7_tryOrders_12 : decode cX7_tryOrders 12 = .ok (.istore_n 1, 1) := by decide +kernel
theorem dX7_tryOrders_13 : decode cX7_tryOrders 13 = .ok (.iload_n 1, 1) := by decide +kernel
theorem dX7_tryOrders_14 : decode cX7_tryOrders 14 = .ok (.aload_n 0, 1) := by decide +kernel
theorem dX7_tryOrders_15 : decode cX7_tryOrders 15 = .ok (.getfield 50, 3) := by decide +kernel
theorem dX7_tryOrders_18 : decode cX7_tryOrders 18 = .ok (.getfield 219, 3) := by decide +kernel
theorem dX7_tryOrders_21 : decode cX7_tryOrders 21 = .ok (.if_icmp .ge 94, 3) := by decide +kernel
theorem dX7_tryOrders_24 : decode cX7_tryOrders 24 = .ok (.aload_n 0, 1) := by decide +kernel
theorem dX7_tryOrders_25 : decode cX7_tryOrders 25 = .ok (.getfield 36, 3) := by decide +kernel
theorem dX7_tryOrders_28 : decode cX7_tryOrders 28 = .ok (.aload_n 0, 1) := by decide +kernel
theorem dX7_tryOrders_29 : decode cX7_tryOrders 29 = .ok (.getfield 19, 3) := by decide +kernel
theorem dX7_tryOrders_32 : decode cX7_tryOrders 32 = .ok (.aload_n 0, 1) := by decide +kernel
theorem dX7_tryOrders_33 : decode cX7_tryOrders 33 = .ok (.getfield 50, 3) := by decide +kernel
theorem dX7_tryOrders_36 : decode cX7_tryOrders 36 = .ok (.getfield 313, 3) := by decide +kernel
theorem dX7_tryOrders_39 : decode cX7_tryOrders 39 = .ok (.iload_n 1, 1) := by decide +kernel
theorem dX7_tryOrders_40 : decode cX7_tryOrders 40 = .ok (.aaload, 1) := by decide +kernel
theorem dX7_tryOrders_41 : decode cX7_tryOrders 41 = .ok (.invokevirtual 292, 3) := by decide +kernel
theorem dX7_tryOrders_44 : decode cX7_tryOrders 44 = .ok (.istore_n 2, 1) := by decide +kernel
theorem dX7_tryOrders_45 : decode cX7_tryOrders 45 = .ok (.iload_n 2, 1) := by decide +kernel
theorem dX7_tryOrders_46 : decode cX7_tryOrders 46 = .ok (.ifCond .eq 46, 3) := by decide +kernel
theorem dX7_tryOrders_49 : decode cX7_tryOrders 49 = .ok (.aload_n 0, 1) := by decide +kernel
theorem dX7_tryOrders_50 : decode cX7_tryOrders 50 = .ok (.getfield 57, 3) := by decide +kernel
theorem dX7_tryOrders_53 : decode cX7_tryOrders 53 = .ok (.bipush 11, 2) := by decide +kernel
theorem dX7_tryOrders_55 : decode cX7_tryOrders 55 = .ok (.iload_n 1, 1) := by decide +kernel
theorem dX7_tryOrders_56 : decode cX7_tryOrders 56 = .ok (.invokevirtual 308, 3) := by decide +kernel
theorem dX7_tryOrders_59 : decode cX7_tryOrders 59 = .ok (.aload_n 0, 1) := by decide +kernel
theorem dX7_tryOrders_60 : decode cX7_tryOrders 60 = .ok (.getfield 57, 3) := by decide +kernel
theorem dX7_tryOrders_63 : decode cX7_tryOrders 63 = .ok (.iload_n 2, 1) := by decide +kernel
theorem dX7_tryOrders_64 : decode cX7_tryOrders 64 = .ok (.ifCond .le 7, 3) := by decide +kernel
theorem dX7_tryOrders_67 : decode cX7_tryOrders 67 = .ok (.iload_n 2, 1) := by decide +kernel
theorem dX7_tryOrders_68 : decode cX7_tryOrders 68 = .ok (.goto 4, 3) := by decide +kernel
theorem dX7_tryOrders_71 : decode cX7_tryOrders 71 = .ok (.iconst 0, 1) := by decide +kernel
theorem dX7_tryOrders_72 : decode cX7_tryOrders 72 = .ok (.iload_n 2, 1) := by decide +kernel
theorem dX7_tryOrders_73 : decode cX7_tryOrders 73 = .ok (.ifCond .le 13, 3) := by decide +kernel
theorem dX7_tryOrders_76 : decode cX7_tryOrders 76 = .ok (.aload_n 0, 1) := by decide +kernel
theorem dX7_tryOrders_77 : decode cX7_tryOrders 77 = .ok (.getfield 36, 3) := by decide +kernel
theorem dX7_tryOrders_80 : decode cX7_tryOrders 80 = .ok (.getfield 307, 3) := by decide +kernel
theorem dX7_tryOrders_83 : decode cX7_tryOrders 83 = .ok (.goto 4, 3) := by decide +kernel
theorem dX7_tryOrders_86 : decode cX7_tryOrders 86 = .ok (.iconst 0, 1) := by decide +kernel
theorem dX7_tryOrders_87 : decode cX7_tryOrders 87 = .ok (.invokevirtual 317, 3) := by decide +kernel
theorem dX7_tryOrders_90 : decode cX7_tryOrders 90 = .ok (.iload_n 1, 1) := by decide +kernel
theorem dX7_tryOrders_91 : decode cX7_tryOrders 91 = .ok (.ireturn, 1) := by decide +kernel
theorem dX7_tryOrders_92 : decode cX7_tryOrders 92 = .ok (.aload_n 0, 1) := by decide +kernel
theorem dX7_tryOrders_93 : decode cX7_tryOrders 93 = .ok (.getfield 19, 3) := by decide +kernel
theorem dX7_tryOrders_96 : decode cX7_tryOrders 96 = .ok (.aload_n 0, 1) := by decide +kernel
theorem dX7_tryOrders_97 : decode cX7_tryOrders 97 = .ok (.getfield 50, 3) := by decide +kernel
theorem dX7_tryOrders_100 : decode cX7_tryOrders 100 = .ok (.getfield 313, 3) := by decide +kernel
theorem dX7_tryOrders_103 : decode cX7_tryOrders 103 = .ok (.iload_n 1, 1) := by decide +kernel
theorem dX7_tryOrders_104 : decode cX7_tryOrders 104 = .ok (.aaload, 1) := by decide +kernel
theorem dX7_tryOrders_105 : decode cX7_tryOrders 105 = .ok (.invokevirtual 299, 3) := by decide +kernel
theorem dX7_tryOrders_108 : decode cX7_tryOrders 108 = .ok (.pop, 1) := by decide +kernel
theorem dX7_tryOrders_109 : decode cX7_tryOrders 109 = .ok (.iinc 1 1, 3) := by decide +kernel
theorem dX7_tryOrders_112 : decode cX7_tryOrders 112 = .ok (.goto (-99), 3) := by decide +kernel
theorem dX7_tryOrders_115 : decode cX7_tryOrders 115 = .ok (.iconst (-1), 1) := by decide +kernel
theorem dX7_tryOrders_116 : decode cX7_tryOrders 116 = .ok (.ireturn, 1) := by decide +kernel
theorem dX7_demandTicket_0 : decode cX7_demandTicket 0 = .ok (.aload_n 0, 1) := by decide +kernel
theorem dX7_demandTicket_1 : decode cX7_demandTicket 1 = .ok (.getfield 10, 3) := by decide +kernel
theorem dX7_demandTicket_4 : decode cX7_demandTicket 4 = .ok (.iload_n 1, 1) := by decide +kernel
theorem dX7_demandTicket_5 : decode cX7_demandTicket 5 = .ok (.invokevirtual 320, 3) := by decide +kernel
theorem dX7_demandTicket_8 : decode cX7_demandTicket 8 = .ok (.ifCond .ne 14, 3) := by decide +kernel
theorem dX7_demandTicket_11 : decode cX7_demandTicket 11 = .ok (.new 225, 3) := by decide +kernel
theorem dX7_demandTicket_14 : decode cX7_demandTicket 14 = .ok (.dup, 1) := by decide +kernel
theorem dX7_demandTicket_15 : decode cX7_demandTicket 15 = .ok (.ldc_w 303, 3) := by decide +kernel
theorem dX7_demandTicket_18 : decode cX7_demandTicket 18 = .ok (.invokespecial 229, 3) := by decide +kernel
theorem dX7_demandTicket_21 : decode cX7_demandTicket 21 = .ok (.athrow, 1) := by decide +kernel
theorem dX7_demandTicket_22 : decode cX7_demandTicket 22 = .ok (.return_, 1) := by decide +kernel
theorem dX7_demandRange_0 : decode cX7_demandRange 0 = .ok (.iload_n 0, 1) := by decide +kernel
theorem dX7_demandRange_1 : decode cX7_demandRange 1 = .ok (.iload_n 1, 1) := by decide +kernel
theorem dX7_demandRange_2 : decode cX7_demandRange 2 = .ok (.if_icmp .lt 8, 3) := by decide +kernel
theorem dX7_demandRange_5 : decode cX7_demandRange 5 = .ok (.iload_n 0, 1) := by decide +kernel
theorem dX7_demandRange_6 : decode cX7_demandRange 6 = .ok (.iload_n 2, 1) := by decide +kernel
theorem dX7_demandRange_7 : decode cX7_demandRange 7 = .ok (.if_icmp .le 14, 3) := by decide +kernel
theorem dX7_demandRange_10 : decode cX7_demandRange 10 = .ok (.new 199, 3) := by decide +kernel
theorem dX7_demandRange_13 : decode cX7_demandRange 13 = .ok (.dup, 1) := by decide +kernel
theorem dX7_demandRange_14 : decode cX7_demandRange 14 = .ok (.ldc_w 305, 3) := by decide +kernel
theorem dX7_demandRange_17 : decode cX7_demandRange 17 = .ok (.invokespecial 203, 3) := by decide +kernel
theorem dX7_demandRange_20 : decode cX7_demandRange 20 = .ok (.athrow, 1) := by decide +kernel
theorem dX7_demandRange_21 : decode cX7_demandRange 21 = .ok (.return_, 1) := by decide +kernel
theorem dX7_demandState_0 : decode cX7_demandState 0 = .ok (.iload_n 0, 1) := by decide +kernel
theorem dX7_demandState_1 : decode cX7_demandState 1 = .ok (.ifCond .ne 14, 3) := by decide +kernel
theorem dX7_demandState_4 : decode cX7_demandState 4 = .ok (.new 323, 3) := by decide +kernel
theorem dX7_demandState_7 : decode cX7_demandState 7 = .ok (.dup, 1) := by decide +kernel
theorem dX7_demandState_8 : decode cX7_demandState 8 = .ok (.ldc_w 325, 3) := by decide +kernel
theorem dX7_demandState_11 : decode cX7_demandState 11 = .ok (.invokespecial 327, 3) := by decide +kernel
theorem dX7_demandState_14 : decode cX7_demandState 14 = .ok (.athrow, 1) := by decide +kernel
theorem dX7_demandState_15 : decode cX7_demandState 15 = .ok (.return_, 1) := by decide +kernel
theorem dX7_demandFound_0 : decode cX7_demandFound 0 = .ok (.iload_n 0, 1) := by decide +kernel
theorem dX7_demandFound_1 : decode cX7_demandFound 1 = .ok (.iconst (-1), 1) := by decide +kernel
theorem dX7_demandFound_2 : decode cX7_demandFound 2 = .ok (.if_icmp .ne 14, 3) := by decide +kernel
theorem dX7_demandFound_5 : decode cX7_demandFound 5 = .ok (.new 225, 3) := by decide +kernel
theorem dX7_demandFound_8 : decode cX7_demandFound 8 = .ok (.dup, 1) := by decide +kernel
theorem dX7_demandFound_9 : decode cX7_demandFound 9 = .ok (.ldc_w 328, 3) := by decide +kernel
theorem dX7_demandFound_12 : decode cX7_demandFound 12 = .ok (.invokespecial 229, 3) := by decide +kernel
theorem dX7_demandFound_15 : decode cX7_demandFound 15 = .ok (.athrow, 1) := by decide +kernel
theorem dX7_demandFound_16 : decode cX7_demandFound 16 = .ok (.iload_n 0, 1) := by decide +kernel
theorem dX7_demandFound_17 : decode cX7_demandFound 17 = .ok (.ireturn, 1) := by decide +kernel
theorem dX7_isOwner_0 : decode cX7_isOwner 0 = .ok (.iload_n 0, 1) := by decide +kernel
theorem dX7_isOwner_1 : decode cX7_isOwner 1 = .ok (.ifCond .lt 13, 3) := by decide +kernel
theorem dX7_isOwner_4 : decode cX7_isOwner 4 = .ok (.iload_n 0, 1) := by decide +kernel
theorem dX7_isOwner_5 : decode cX7_isOwner 5 = .ok (.bipush 6, 2) := by decide +kernel
theorem dX7_isOwner_7 : decode cX7_isOwner 7 = .ok (.if_icmp .ge 7, 3) := by decide +kernel
theorem dX7_isOwner_10 : decode cX7_isOwner 10 = .ok (.iconst 1, 1) := by decide +kernel
theorem dX7_isOwner_11 : decode cX7_isOwner 11 = .ok (.goto 4, 3) := by decide +kernel
theorem dX7_isOwner_14 : decode cX7_isOwner 14 = .ok (.iconst 0, 1) := by decide +kernel
theorem dX7_isOwner_15 : decode cX7_isOwner 15 = .ok (.ireturn, 1) := by decide +kernel
theorem dX8_init_0 : decode cX8_init 0 = .ok (.aload_n 0, 1) := by decide +kernel
theorem dX8_init_1 : decode cX8_init 1 = .ok (.invokespecial 1, 3) := by decide +kernel
theorem dX8_init_4 : decode cX8_init 4 = .ok (.aload_n 0, 1) := by decide +kernel
theorem dX8_init_5 : decode cX8_init 5 = .ok (.sipush 199, 3) := by decide +kernel
theorem dX8_init_8 : decode cX8_init 8 = .ok (.newarray .int, 2) := by decide +kernel
theorem dX8_init_10 : decode cX8_init 10 = .ok (.putfield 7, 3) := by decide +kernel
theorem dX8_init_13 : decode cX8_init 13 = .ok (.aload_n 0, 1) := by decide +kernel
theorem dX8_init_14 : decode cX8_init 14 = .ok (.sipush 1592, 3) := by decide +kernel
theorem dX8_init_17 : decode cX8_init 17 = .ok (.newarray .int, 2) := by decide +kernel
theorem dX8_init_19 : decode cX8_init 19 = .ok (.putfield 13, 3) := by decide +kernel
theorem dX8_init_22 : decode cX8_init 22 = .ok (.aload_n 0, 1) := by decide +kernel
theorem dX8_init_23 : decode cX8_init 23 = .ok (.sipush 199, 3) := by decide +kernel
theorem dX8_init_26 : decode cX8_init 26 = .ok (.newarray .int, 2) := by decide +kernel
theorem dX8_init_28 : decode cX8_init 28 = .ok (.putfield 16, 3) := by decide +kernel
theorem dX8_init_31 : decode cX8_init 31 = .ok (.aload_n 0, 1) := by decide +kernel
theorem dX8_init_32 : decode cX8_init 32 = .ok (.sipush 199, 3) := by decide +kernel
theorem dX8_init_35 : decode cX8_init 35 = .ok (.newarray .int, 2) := by decide +kernel
theorem dX8_init_37 : decode cX8_init 37 = .ok (.putfield 19, 3) := by decide +kernel
theorem dX8_init_40 : decode cX8_init 40 = .ok (.aload_n 0, 1) := by decide +kernel
theorem dX8_init_41 : decode cX8_init 41 = .ok (.iconst (-1), 1) := by decide +kernel
theorem dX8_init_42 : decode cX8_init 42 = .ok (.putfield 22, 3) := by decide +kernel
theorem dX8_init_45 : decode cX8_init 45 = .ok (.aload_n 0, 1) := by decide +kernel
theorem dX8_init_46 : decode cX8_init 46 = .ok (.bipush 60, 2) := by decide +kernel
theorem dX8_init_48 : decode cX8_init 48 = .ok (.newarray .int, 2) := by decide +kernel
theorem dX8_init_50 : decode cX8_init 50 = .ok (.putfield 26, 3) := by decide +kernel
theorem dX8_init_53 : decode cX8_init 53 = .ok (.aload_n 0, 1) := by decide +kernel
theorem dX8_init_54 : decode cX8_init 54 = .ok (.iconst (-1), 1) := by decide +kernel
theorem dX8_init_55 : decode cX8_init 55 = .ok (.putfield 29, 3) := by decide +kernel
theorem dX8_init_58 : decode cX8_init 58 = .ok (.aload_n 0, 1) := by decide +kernel
theorem dX8_init_59 : decode cX8_init 59 = .ok (.bipush 32, 2) := by decide +kernel
theorem dX8_init_61 : decode cX8_init 61 = .ok (.newarray .char, 2) := by decide +kernel
theorem dX8_init_63 : decode cX8_init 63 = .ok (.putfield 32, 3) := by decide +kernel
theorem dX8_init_66 : decode cX8_init 66 = .ok (.aload_n 0, 1) := by decide +kernel
theorem dX8_init_67 : decode cX8_init 67 = .ok (.bipush 124, 2) := by decide +kernel
theorem dX8_init_69 : decode cX8_init 69 = .ok (.newarray .int, 2) := by decide +kernel
theorem dX8_init_71 : decode cX8_init 71 = .ok (.putfield 36, 3) := by decide +kernel
theorem dX8_init_74 : decode cX8_init 74 = .ok (.aload_n 0, 1) := by decide +kernel
theorem dX8_init_75 : decode cX8_init 75 = .ok (.getfield 7, 3) := by decide +kernel
theorem dX8_init_78 : decode cX8_init 78 = .ok (.iconst 2, 1) := by decide +kernel
theorem dX8_init_79 : decode cX8_init 79 = .ok (.bipush 20, 2) := by decide +kernel
theorem dX8_init_81 : decode cX8_init 81 = .ok (.iastore, 1) := by decide +kernel
theorem dX8_init_82 : decode cX8_init 82 = .ok (.aload_n 0, 1) := by decide +kernel
theorem dX8_init_83 : decode cX8_init 83 = .ok (.getfield 7, 3) := by decide +kernel
theorem dX8_init_86 : decode cX8_init 86 = .ok (.iconst 3, 1) := by decide +kernel
theorem dX8_init_87 : decode cX8_init 87 = .ok (.iconst 5, 1) := by decide +kernel
theorem dX8_init_88 : decode cX8_init 88 = .ok (.iastore, 1) := by decide +kernel
theorem dX8_init_89 : decode cX8_init 89 = .ok (.aload_n 0, 1) := by decide +kernel
theorem dX8_init_90 : decode cX8_init 90 = .ok (.getfield 7, 3) := by decide +kernel
theorem dX8_init_93 : decode cX8_init 93 = .ok (.iconst 4, 1) := by decide +kernel
theorem dX8_init_94 : decode cX8_init 94 = .ok (.sipush 2000, 3) := by decide +kernel
theorem dX8_init_97 : decode cX8_init 97 = .ok (.iastore, 1) := by decide +kernel
theorem dX8_init_98 : decode cX8_init 98 = .ok (.return_, 1) := by decide +kernel
theorem dX8_thrown_0 : decode cX8_thrown 0 = .ok (.aload_n 0, 1) := by decide +kernel
theorem dX8_thrown_1 : decode cX8_thrown 1 = .ok (.getfield 39, 3) := by decide +kernel
theorem dX8_thrown_4 : decode cX8_thrown 4 = .ok (.ireturn, 1) := by decide +kernel
theorem dX8_fails_0 : decode cX8_fails 0 = .ok (.aload_n 0, 1) := by decide +kernel
theorem dX8_fails_1 : decode cX8_fails 1 = .ok (.iload_n 1, 1) := by decide +kernel
theorem dX8_fails_2 : decode cX8_fails 2 = .ok (.putfield 39, 3) := by decide +kernel
theorem dX8_fails_5 : decode cX8_fails 5 = .ok (.iload_n 1, 1) := by decide +kernel
theorem dX8_fails_6 : decode cX8_fails 6 = .ok (.ifCond .le 7, 3) := by decide +kernel
theorem dX8_fails_9 : decode cX8_fails 9 = .ok (.iconst 1, 1) := by decide +kernel
theorem dX8_fails_10 : decode cX8_fails 10 = .ok (.goto 4, 3) := by decide +kernel
theorem dX8_fails_13 : decode cX8_fails 13 = .ok (.iconst 0, 1) := by decide +kernel
theorem dX8_fails_14 : decode cX8_fails 14 = .ok (.ireturn, 1) := by decide +kernel
theorem dX8_refuses_0 : decode cX8_refuses 0 = .ok (.aload_n 0, 1) := by decide +kernel
theorem dX8_refuses_1 : decode cX8_refuses 1 = .ok (.iload_n 1, 1) := by decide +kernel
theorem dX8_refuses_2 : decode cX8_refuses 2 = .ok (.putfield 39, 3) := by decide +kernel
theorem dX8_refuses_5 : decode cX8_refuses 5 = .ok (.aload_n 0, 1) := by decide +kernel
theorem dX8_refuses_6 : decode cX8_refuses 6 = .ok (.iload_n 2, 1) := by decide +kernel
theorem dX8_refuses_7 : decode cX8_refuses 7 = .ok (.putfield 42, 3) := by decide +kernel
theorem dX8_refuses_10 : decode cX8_refuses 10 = .ok (.aload_n 0, 1) := by decide +kernel
theorem dX8_refuses_11 : decode cX8_refuses 11 = .ok (.iload_n 3, 1) := by decide +kernel
theorem dX8_refuses_12 : decode cX8_refuses 12 = .ok (.putfield 45, 3) := by decide +kernel
theorem dX8_refuses_15 : decode cX8_refuses 15 = .ok (.aload_n 0, 1) := by decide +kernel
theorem dX8_refuses_16 : decode cX8_refuses 16 = .ok (.iconst (-1), 1) := by decide +kernel
theorem dX8_refuses_17 : decode cX8_refuses 17 = .ok (.putfield 22, 3) := by decide +kernel
theorem dX8_refuses_20 : decode cX8_refuses 20 = .ok (.iconst 0, 1) := by decide +kernel
theorem dX8_refuses_21 : decode cX8_refuses 21 = .ok (.ireturn, 1) := by decide +kernel
theorem dX8_in_0 : decode cX8_in 0 = .ok (.iload_n 0, 1) := by decide +kernel
theorem dX8_in_1 : decode cX8_in 1 = .ok (.iload_n 1, 1) := by decide +kernel
theorem dX8_in_2 : decode cX8_in 2 = .ok (.if_icmp .lt 12, 3) := by decide +kernel
theorem dX8_in_5 : decode cX8_in 5 = .ok (.iload_n 0, 1) := by decide +kernel
theorem dX8_in_6 : decode cX8_in 6 = .ok (.iload_n 2, 1) := by decide +kernel
theorem dX8_in_7 : decode cX8_in 7 = .ok (.if_icmp .gt 7, 3) := by decide +kernel
theorem dX8_in_10 : decode cX8_in 10 = .ok (.iconst 1, 1) := by decide +kernel
theorem dX8_in_11 : decode cX8_in 11 = .ok (.goto 4, 3) := by decide +kernel
theorem dX8_in_14 : decode cX8_in 14 = .ok (.iconst 0, 1) := by decide +kernel
theorem dX8_in_15 : decode cX8_in 15 = .ok (.ireturn, 1) := by decide +kernel
theorem dX8_copies_0 : decode cX8_copies 0 = .ok (.iconst 0, 1) := by decide +kernel
theorem dX8_copies_1 : decode cX8_copies 1 = .ok (.istore 4, 2) := by decide +kernel
theorem dX8_copies_3 : decode cX8_copies 3 = .ok (.iload 4, 2) := by decide +kernel
theorem dX8_copies_5 : decode cX8_copies 5 = .ok (.sipush 199, 3) := by decide +kernel
theorem dX8_copies_8 : decode cX8_copies 8 = .ok (.if_icmp .ge 21, 3) := by decide +kernel
theorem dX8_copies_11 : decode cX8_copies 11 = .ok (.aload_n 2, 1) := by decide +kernel
theorem dX8_copies_12 : decode cX8_copies 12 = .ok (.iload_n 3, 1) := by decide +kernel
theorem dX8_copies_13 : decode cX8_copies 13 = .ok (.iload 4, 2) := by decide +kernel
theorem dX8_copies_15 : decode cX8_copies 15 = .ok (.iadd, 1) := by decide +kernel
theorem dX8_copies_16 : decode cX8_copies 16 = .ok (.aload_n 0, 1) := by decide +kernel
theorem dX8_copies_17 : decode cX8_copies 17 = .ok (.iload_n 1, 1) := by decide +kernel
theorem dX8_copies_18 : decode cX8_copies 18 = .ok (.iload 4, 2) := by decide +kernel
theorem dX8_copies_20 : decode cX8_copies 20 = .ok (.iadd, 1) := by decide +kernel
theorem dX8_copies_21 : decode cX8_copies 21 = .ok (.iaload, 1) := by decide +kernel
theorem dX8_copies_22 : decode cX8_copies 22 = .ok (.iastore, 1) := by decide +kernel
theorem dX8_copies_23 : decode cX8_copies 23 = .ok (.iinc 4 1, 3) := by decide +kernel
theorem dX8_copies_26 : decode cX8_copies 26 = .ok (.goto (-23), 3) := by decide +kernel
theorem dX8_copies_29 : decode cX8_copies 29 = .ok (.return_, 1) := by decide +kernel
theorem dX8_keeps_0 : decode cX8_keeps 0 = .ok (.aload_n 0, 1) := by decide +kernel
theorem dX8_keeps_1 : decode cX8_keeps 1 = .ok (.iconst 0, 1) := by decide +kernel
theorem dX8_keeps_2 : decode cX8_keeps 2 = .ok (.putfield 39, 3) := by decide +kernel
theorem dX8_keeps_5 : decode cX8_keeps 5 = .ok (.aload_n 0, 1) := by decide +kernel
theorem dX8_keeps_6 : decode cX8_keeps 6 = .ok (.getfield 48, 3) := by decide +kernel
theorem dX8_keeps_9 : decode cX8_keeps 9 = .ok (.ifCond .eq 4, 3) := by decide +kernel
theorem dX8_keeps_12 : decode cX8_keeps 12 = .ok (.return_, 1) := by decide +kernel
theorem dX8_keeps_13 : decode cX8_keeps 13 = .ok (.aload_n 0, 1) := by decide +kernel
theorem dX8_keeps_14 : decode cX8_keeps 14 = .ok (.getfield 52, 3) := by decide +kernel
theorem dX8_keeps_17 : decode cX8_keeps 17 = .ok (.bipush 8, 2) := by decide +kernel
theorem dX8_keeps_19 : decode cX8_keeps 19 = .ok (.if_icmp .ne 44, 3) := by decide +kernel
theorem dX8_keeps_22 : decode cX8_keeps 22 = .ok (.iconst 0, 1) := by decide +kernel
theorem dX8_keeps_23 : decode cX8_keeps 23 = .ok (.istore_n 2, 1) := by decide +kernel
theorem dX8_keeps_24 : decode cX8_keeps 24 = .ok (.iload_n 2, 1) := by decide +kernel
theorem dX8_keeps_25 : decode cX8_keeps 25 = .ok (.sipush 1393, 3) := by decide +kernel
theorem dX8_keeps_28 : decode cX8_keeps 28 = .ok (.if_icmp .ge 25, 3) := by decide +kernel
theorem dX8_keeps_31 : decode cX8_keeps 31 = .ok (.aload_n 0, 1) := by decide +kernel
theorem dX8_keeps_32 : decode cX8_keeps 32 = .ok (.getfield 13, 3) := by decide +kernel
theorem dX8_keeps_35 : decode cX8_keeps 35 = .ok (.iload_n 2, 1) := by decide +kernel
theorem dX8_keeps_36 : decode cX8_keeps 36 = .ok (.aload_n 0, 1) := by decide +kernel
theorem dX8_keeps_37 : decode cX8_keeps 37 = .ok (.getfield 13, 3) := by decide +kernel
theorem dX8_keeps_40 : decode cX8_keeps 40 = .ok (.iload_n 2, 1) := by decide +kernel
theorem dX8_keeps_41 : decode cX8_keeps 41 = .ok (.sipush 199, 3) := by decide +kernel
theorem dX8_keeps_44 : decode cX8_keeps 44 = .ok (.iadd, 1) := by decide +kernel
theorem dX8_keeps_45 : decode cX8_keeps 45 = .ok (.iaload, 1) := by decide +kernel
theorem dX8_keeps_46 : decode cX8_keeps 46 = .ok (.iastore, 1) := by decide +kernel
theorem dX8_keeps_47 : decode cX8_keeps 47 = .ok (.iinc 2 1, 3) := by decide +kernel
theorem dX8_keeps_50 : decode cX8_keeps 50 = .ok (.goto (-26), 3) := by decide +kernel
theorem dX8_keeps_53 : decode cX8_keeps 53 = .ok (.aload_n 0, 1) := by decide +kernel
theorem dX8_keeps_54 : decode cX8_keeps 54 = .ok (.dup, 1) := by decide +kernel
theorem dX8_keeps_55 : decode cX8_keeps 55 = .ok (.getfield 52, 3) := by decide +kernel
theorem dX8_keeps_58 : decode cX8_keeps 58 = .ok (.iconst 1, 1) := by decide +kernel
theorem dX8_keeps_59 : decode cX8_keeps 59 = .ok (.isub, 1) := by decide +kernel
theorem dX8_keeps_60 : decode cX8_keeps 60 = .ok (.putfield 52, 3) := by decide +kernel
theorem dX8_keeps_63 : decode cX8_keeps 63 = .ok (.aload_n 1, 1) := by decide +kernel
theorem dX8_keeps_64 : decode cX8_keeps 64 = .ok (.iconst 0, 1) := by decide +kernel
theorem dX8_keeps_65 : decode cX8_keeps 65 = .ok (.aload_n 0, 1) := by decide +kernel
theorem dX8_keeps_66 : decode cX8_keeps 66 = .ok (.getfield 13, 3) := by decide +kernel
theorem dX8_keeps_69 : decode cX8_keeps 69 = .ok (.sipush 199, 3) := by decide +kernel
theorem dX8_keeps_72 : decode cX8_keeps 72 = .ok (.aload_n 0, 1) := by decide +kernel
theorem dX8_keeps_73 : decode cX8_keeps 73 = .ok (.getfield 52, 3) := by decide +kernel
theorem dX8_keeps_76 : decode cX8_keeps 76 = .ok (.imul, 1) := by decide +kernel
theorem dX8_keeps_77 : decode cX8_keeps 77 = .ok (.invokestatic 55, 3) := by decide +kernel
theorem dX8_keeps_80 : decode cX8_keeps 80 = .ok (.aload_n 0, 1) := by decide +kernel
theorem dX8_keeps_81 : decode cX8_keeps 81 = .ok (.dup, 1) := by decide +kernel
theorem dX8_keeps_82 : decode cX8_keeps 82 = .ok (.getfield 52, 3) := by decide +kernel
theorem dX8_keeps_85 : decode cX8_keeps 85 = .ok (.iconst 1, 1) := by decide +kernel
theorem dX8_keeps_86 : decode cX8_keeps 86 = .ok (.iadd, 1) := by decide +kernel
theorem dX8_keeps_87 : decode cX8_keeps 87 = .ok (.putfield 52, 3) := by decide +kernel
theorem dX8_keeps_90 : decode cX8_keeps 90 = .ok (.return_, 1) := by decide +kernel
theorem dX8_isTicket_0 : decode cX8_isTicket 0 = .ok (.iload_n 1, 1) := by decide +kernel
theorem dX8_isTicket_1 : decode cX8_isTicket 1 = .ok (.iconst 0, 1) := by decide +kernel
theorem dX8_isTicket_2 : decode cX8_isTicket 2 = .ok (.aload_n 0, 1) := by decide +kernel
theorem dX8_isTicket_3 : decode cX8_isTicket 3 = .ok (.getfield 7, 3) := by decide +kernel
theorem dX8_isTicket_6 : decode cX8_isTicket 6 = .ok (.iconst 1, 1) := by decide +kernel
theorem dX8_isTicket_7 : decode cX8_isTicket 7 = .ok (.iaload, 1) := by decide +kernel
theorem dX8_isTicket_8 : decode cX8_isTicket 8 = .ok (.iconst 1, 1) := by decide +kernel
theorem dX8_isTicket_9 : decode cX8_isTicket 9 = .ok (.isub, 1) := by decide +kernel
theorem dX8_isTicket_10 : decode cX8_isTicket 10 = .ok (.invokestatic 59, 3) := by decide +kernel
theorem dX8_isTicket_13 : decode cX8_isTicket 13 = .ok (.ireturn, 1) := by decide +kernel
theorem dX8_of_0 : decode cX8_of 0 = .ok (.aload_n 0, 1) := by decide +kernel
theorem dX8_of_1 : decode cX8_of 1 = .ok (.getfield 7, 3) := by decide +kernel
theorem dX8_of_4 : decode cX8_of 4 = .ok (.bipush 11, 2) := by decide +kernel
theorem dX8_of_6 : decode cX8_of 6 = .ok (.bipush 11, 2) := by decide +kernel
theorem dX8_of_8 : decode cX8_of 8 = .ok (.iload_n 1, 1) := by decide +kernel
theorem dX8_of_9 : decode cX8_of 9 = .ok (.imul, 1) := by decide +kernel
theorem dX8_of_10 : decode cX8_of 10 = .ok (.iadd, 1) := by decide +kernel
theorem dX8_of_11 : decode cX8_of 11 = .ok (.iload_n 2, 1) := by decide +kernel
theorem dX8_of_12 : decode cX8_of 12 = .ok (.iadd, 1) := by decide +kernel
theorem dX8_of_13 : decode cX8_of 13 = .ok (.iaload, 1) := by decide +kernel
theorem dX8_of_14 : decode cX8_of 14 = .ok (.ireturn, 1) := by decide +kernel
theorem dX8_lays_0 : decode cX8_lays 0 = .ok (.aload_n 0, 1) := by decide +kernel
theorem dX8_lays_1 : decode cX8_lays 1 = .ok (.getfield 7, 3) := by decide +kernel
theorem dX8_lays_4 : decode cX8_lays 4 = .ok (.bipush 11, 2) := by decide +kernel
theorem dX8_lays_6 : decode cX8_lays 6 = .ok (.bipush 11, 2) := by decide +kernel
theorem dX8_lays_8 : decode cX8_lays 8 = .ok (.iload_n 1, 1) := by decide +kernel
theorem dX8_lays_9 : decode cX8_lays 9 = .ok (.imul, 1) := by decide +kernel
theorem dX8_lays_10 : decode cX8_lays 10 = .ok (.iadd, 1) := by decide +kernel
theorem dX8_lays_11 : decode cX8_lays 11 = .ok (.iload_n 2, 1) := by decide +kernel
theorem dX8_lays_12 : decode cX8_lays 12 = .ok (.iadd, 1) := by decide +kernel
theorem dX8_lays_13 : decode cX8_lays 13 = .ok (.iload_n 3, 1) := by decide +kernel
theorem dX8_lays_14 : decode cX8_lays 14 = .ok (.iastore, 1) := by decide +kernel
theorem dX8_lays_15 : decode cX8_lays 15 = .ok (.return_, 1) := by decide +kernel
theorem dX8_owed_0 : decode cX8_owed 0 = .ok (.aload_n 0, 1) := by decide +kernel
theorem dX8_owed_1 : decode cX8_owed 1 = .ok (.iload_n 1, 1) := by decide +kernel
theorem dX8_owed_2 : decode cX8_owed 2 = .ok (.iconst 2, 1) := by decide +kernel
theorem dX8_owed_3 : decode cX8_owed 3 = .ok (.invokevirtual 63, 3) := by decide +kernel
theorem dX8_owed_6 : decode cX8_owed 6 = .ok (.aload_n 0, 1) := by decide +kernel
theorem dX8_owed_7 : decode cX8_owed 7 = .ok (.iload_n 1, 1) := by decide +kernel
theorem dX8_owed_8 : decode cX8_owed 8 = .ok (.iconst 3, 1) := by decide +kernel
theorem dX8_owed_9 : decode cX8_owed 9 = .ok (.invokevirtual 63, 3) := by decide +kernel
theorem dX8_owed_12 : decode cX8_owed 12 = .ok (.iadd, 1) := by decide +kernel
theorem dX8_owed_13 : decode cX8_owed 13 = .ok (.ireturn, 1) := by decide +kernel
theorem dX8_weekly_0 : decode cX8_weekly 0 = .ok (.aload_n 0, 1) := by decide +kernel
theorem dX8_weekly_1 : decode cX8_weekly 1 = .ok (.iload_n 1, 1) := by decide +kernel
theorem dX8_weekly_2 : decode cX8_weekly 2 = .ok (.iconst 2, 1) := by decide +kernel
theorem dX8_weekly_3 : decode cX8_weekly 3 = .ok (.invokevirtual 63, 3) := by decide +kernel
theorem dX8_weekly_6 : decode cX8_weekly 6 = .ok (.aload_n 0, 1) := by decide +kernel
theorem dX8_weekly_7 : decode cX8_weekly 7 = .ok (.iload_n 1, 1) := by decide +kernel
theorem dX8_weekly_8 : decode cX8_weekly 8 = .ok (.bipush 6, 2) := by decide +kernel
theorem dX8_weekly_10 : decode cX8_weekly 10 = .ok (.invokevirtual 63, 3) := by decide +kernel
theorem dX8_weekly_13 : decode cX8_weekly 13 = .ok (.imul, 1) := by decide +kernel
theorem dX8_weekly_14 : decode cX8_weekly 14 = .ok (.sipush 999, 3) := by decide +kernel
theorem dX8_weekly_17 : decode cX8_weekly 17 = .ok (.iadd, 1) := by decide +kernel
theorem dX8_weekly_18 : decode cX8_weekly 18 = .ok (.sipush 1000, 3) := by decide +kernel
theorem dX8_weekly_21 : decode cX8_weekly 21 = .ok (.idiv, 1) := by decide +kernel
theorem dX8_weekly_22 : decode cX8_weekly 22 = .ok (.ireturn, 1) := by decide +kernel
theorem dX8_many_0 : decode cX8_many 0 = .ok (.iconst 0, 1) := by decide +kernel
theorem dX8_many_1 : decode cX8_many 1 = .ok (.istore_n 2, 1) := by decide +kernel
theorem dX8_many_2 : decode cX8_many 2 = .ok (.iconst 0, 1) := by decide +kernel
theorem dX8_many_3 : decode cX8_many 3 = .ok (.istore_n 3, 1) := by decide +kernel
theorem dX8_many_4 : decode cX8_many 4 = .ok (.iload_n 3, 1) := by decide +kernel
theorem dX8_many_5 : decode cX8_many 5 = .ok (.aload_n 0, 1) := by decide +kernel
theorem dX8_many_6 : decode cX8_many 6 = .ok (.getfield 7, 3) := by decide +kernel
theorem dX8_many_9 : decode cX8_many 9 = .ok (.iconst 1, 1) := by decide +kernel
theorem dX8_many_10 : decode cX8_many 10 = .ok (.iaload, 1) := by decide +kernel
theorem dX8_many_11 : decode cX8_many 11 = .ok (.if_icmp .ge 27, 3) := by decide +kernel
theorem dX8_many_14 : decode cX8_many 14 = .ok (.iload_n 2, 1) := by decide +kernel
theorem dX8_many_15 : decode cX8_many 15 = .ok (.aload_n 0, 1) := by decide +kernel
theorem dX8_many_16 : decode cX8_many 16 = .ok (.iload_n 3, 1) := by decide +kernel
theorem dX8_many_17 : decode cX8_many 17 = .ok (.iconst 4, 1) := by decide +kernel
theorem dX8_many_18 : decode cX8_many 18 = .ok (.invokevirtual 63, 3) := by decide +kernel
theorem dX8_many_21 : decode cX8_many 21 = .ok (.iload_n 1, 1) := by decide +kernel
theorem dX8_many_22 : decode cX8_many 22 = .ok (.if_icmp .ne 7, 3) := by decide +kernel
theorem dX8_many_25 : decode cX8_many 25 = .ok (.iconst 1, 1) := by decide +kernel
theorem dX8_many_26 : decode cX8_many 26 = .ok (.goto 4, 3) := by decide +kernel
theorem dX8_many_29 : decode cX8_many 29 = .ok (.iconst 0, 1) := by decide +kernel
theorem dX8_many_30 : decode cX8_many 30 = .ok (.iadd, 1) := by decide +kernel
theorem dX8_many_31 : decode cX8_many 31 = .ok (.istore_n 2, 1) := by decide +kernel
theorem dX8_many_32 : decode cX8_many 32 = .ok (.iinc 3 1, 3) := by decide +kernel
theorem dX8_many_35 : decode cX8_many 35 = .ok (.goto (-31), 3) := by decide +kernel
theorem dX8_many_38 : decode cX8_many 38 = .ok (.iload_n 2, 1) := by decide +kernel
theorem dX8_many_39 : decode cX8_many 39 = .ok (.ireturn, 1) := by decide +kernel
theorem dX8_pledge_0 : decode cX8_pledge 0 = .ok (.aload_n 0, 1) := by decide +kernel
theorem dX8_pledge_1 : decode cX8_pledge 1 = .ok (.iload_n 1, 1) := by decide +kernel
theorem dX8_pledge_2 : decode cX8_pledge 2 = .ok (.iconst 0, 1) := by decide +kernel
theorem dX8_pledge_3 : decode cX8_pledge 3 = .ok (.iconst 5, 1) := by decide +kernel
theorem dX8_pledge_4 : decode cX8_pledge 4 = .ok (.invokestatic 59, 3) := by decide +kernel
theorem dX8_pledge_7 : decode cX8_pledge 7 = .ok (.ifCond .ne 7, 3) := by decide +kernel
theorem dX8_pledge_10 : decode cX8_pledge 10 = .ok (.iconst 1, 1) := by decide +kernel
theorem dX8_pledge_11 : decode cX8_pledge 11 = .ok (.goto 24, 3) := by decide +kernel
theorem dX8_pledge_14 : decode cX8_pledge 14 = .ok (.iload_n 2, 1) := by decide +kernel
theorem dX8_pledge_15 : decode cX8_pledge 15 = .ok (.iconst 1, 1) := by decide +kernel
theorem dX8_pledge_16 : decode cX8_pledge 16 = .ok (.sipush 999, 3) := by decide +kernel
theorem dX8_pledge_19 : decode cX8_pledge 19 = .ok (.invokestatic 59, 3) := by decide +kernel
theorem dX8_pledge_22 : decode cX8_pledge 22 = .ok (.ifCond .eq 12, 3) := by decide +kernel
theorem dX8_pledge_25 : decode cX8_pledge 25 = .ok (.iload_n 3, 1) := by decide +kernel
theorem dX8_pledge_26 : decode cX8_pledge 26 = .ok (.iconst 1, 1) := by decide +kernel
theorem dX8_pledge_27 : decode cX8_pledge 27 = .ok (.if_icmp .lt 7, 3) := by decide +kernel
theorem dX8_pledge_30 : decode cX8_pledge 30 = .ok (.iconst 0, 1) := by decide +kernel
theorem dX8_pledge_31 : decode cX8_pledge 31 = .ok (.goto 4, 3) := by decide +kernel
theorem dX8_pledge_34 : decode cX8_pledge 34 = .ok (.iconst 2, 1) := by decide +kernel
theorem dX8_pledge_35 : decode cX8_pledge 35 = .ok (.invokevirtual 67, 3) := by decide +kernel
theorem dX8_pledge_38 : decode cX8_pledge 38 = .ok (.ifCond .eq 5, 3) := by decide +kernel
theorem dX8_pledge_41 : decode cX8_pledge 41 = .ok (.iconst 0, 1) := by decide +kernel
theorem dX8_pledge_42 : decode cX8_pledge 42 = .ok (.ireturn, 1) := by decide +kernel
theorem dX8_pledge_43 : decode cX8_pledge 43 = .ok (.iload_n 3, 1) := by decide +kernel
theorem dX8_pledge_44 : decode cX8_pledge 44 = .ok (.iload_n 2, 1) := by decide +kernel
theorem dX8_pledge_45 : decode cX8_pledge 45 = .ok (.bipush 60, 2) := by decide +kernel
theorem dX8_pledge_47 : decode cX8_pledge 47 = .ok (.imul, 1) := by decide +kernel
theorem dX8_pledge_48 : decode cX8_pledge 48 = .ok (.bipush 100, 2) := by decide +kernel
theorem dX8_pledge_50 : decode cX8_pledge 50 = .ok (.idiv, 1) := by decide +kernel
theorem dX8_pledge_51 : decode cX8_pledge 51 = .ok (.if_icmp .le 17, 3) := by decide +kernel
theorem dX8_pledge_54 : decode cX8_pledge 54 = .ok (.aload_n 0, 1) := by decide +kernel
theorem dX8_pledge_55 : decode cX8_pledge 55 = .ok (.iconst 3, 1) := by decide +kernel
theorem dX8_pledge_56 : decode cX8_pledge 56 = .ok (.iconst 2, 1) := by decide +kernel
theorem dX8_pledge_57 : decode cX8_pledge 57 = .ok (.iload_n 2, 1) := by decide +kernel
theorem dX8_pledge_58 : decode cX8_pledge 58 = .ok (.bipush 60, 2) := by decide +kernel
theorem dX8_pledge_60 : decode cX8_pledge 60 = .ok (.imul, 1) := by decide +kernel
theorem dX8_pledge_61 : decode cX8_pledge 61 = .ok (.bipush 100, 2) := by decide +kernel
theorem dX8_pledge_63 : decode cX8_pledge 63 = .ok (.idiv, 1) := by decide +kernel
theorem dX8_pledge_64 : decode cX8_pledge 64 = .ok (.invokevirtual 71, 3) := by decide +kernel
theorem dX8_pledge_67 : decode cX8_pledge 67 = .ok (.ireturn, 1) := by decide +kernel
theorem dX8_pledge_68 : decode cX8_pledge 68 = .ok (.aload_n 0, 1) := by decide +kernel
theorem dX8_pledge_69 : decode cX8_pledge 69 = .ok (.getfield 7, 3) := by decide +kernel
theorem dX8_pledge_72 : decode cX8_pledge 72 = .ok (.iconst 1, 1) := by decide +kernel
theorem dX8_pledge_73 : decode cX8_pledge 73 = .ok (.iaload, 1) := by decide +kernel
theorem dX8_pledge_74 : decode cX8_pledge 74 = .ok (.bipush 16, 2) := by decide +kernel
theorem dX8_pledge_76 : decode cX8_pledge 76 = .ok (.if_icmp .ne 12, 3) := by decide +kernel
theorem dX8_pledge_79 : decode cX8_pledge 79 = .ok (.aload_n 0, 1) := by decide +kernel
theorem dX8_pledge_80 : decode cX8_pledge 80 = .ok (.iconst 3, 1) := by decide +kernel
theorem dX8_pledge_81 : decode cX8_pledge 81 = .ok (.iconst 1, 1) := by decide +kernel
theorem dX8_pledge_82 : decode cX8_pledge 82 = .ok (.bipush 16, 2) := by decide +kernel
theorem dX8_pledge_84 : decode cX8_pledge 84 = .ok (.invokevirtual 71, 3) := by decide +kernel
theorem dX8_pledge_87 : decode cX8_pledge 87 = .ok (.ireturn, 1) := by decide +kernel
theorem dX8_pledge_88 : decode cX8_pledge 88 = .ok (.iload_n 3, 1) := by decide +kernel
theorem dX8_pledge_89 : decode cX8_pledge 89 = .ok (.aload_n 0, 1) := by decide +kernel
theorem dX8_pledge_90 : decode cX8_pledge 90 = .ok (.getfield 7, 3) := by decide +kernel
theorem dX8_pledge_93 : decode cX8_pledge 93 = .ok (.iconst 4, 1) := by decide +kernel
theorem dX8_pledge_94 : decode cX8_pledge 94 = .ok (.iaload, 1) := by decide +kernel
theorem dX8_pledge_95 : decode cX8_pledge 95 = .ok (.if_icmp .le 16, 3) := by decide +kernel
theorem dX8_pledge_98 : decode cX8_pledge 98 = .ok (.aload_n 0, 1) := by decide +kernel
theorem dX8_pledge_99 : decode cX8_pledge 99 = .ok (.iconst 3, 1) := by decide +kernel
theorem dX8_pledge_100 : decode cX8_pledge 100 = .ok (.iconst 3, 1) := by decide +kernel
theorem dX8_pledge_101 : decode cX8_pledge 101 = .ok (.aload_n 0, 1) := by decide +kernel
theorem dX8_pledge_102 : decode cX8_pledge 102 = .ok (.getfield 7, 3) := by decide +kernel
theorem dX8_pledge_105 : decode cX8_pledge 105 = .ok (.iconst 4, 1) := by decide +kernel
theorem dX8_pledge_106 : decode cX8_pledge 106 = .ok (.iaload, 1) := by decide +kernel
theorem dX8_pledge_107 : decode cX8_pledge 107 = .ok (.invokevirtual 71, 3) := by decide +kernel
theorem dX8_pledge_110 : decode cX8_pledge 110 = .ok (.ireturn, 1) := by decide +kernel
theorem dX8_pledge_111 : decode cX8_pledge 111 = .ok (.aload_n 0, 1) := by decide +kernel
theorem dX8_pledge_112 : decode cX8_pledge 112 = .ok (.aload_n 0, 1) := by decide +kernel
theorem dX8_pledge_113 : decode cX8_pledge 113 = .ok (.getfield 7, 3) := by decide +kernel
theorem dX8_pledge_116 : decode cX8_pledge 116 = .ok (.invokevirtual 75, 3) := by decide +kernel
theorem dX8_pledge_119 : decode cX8_pledge 119 = .ok (.aload_n 0, 1) := by decide +kernel
theorem dX8_pledge_120 : decode cX8_pledge 120 = .ok (.getfield 7, 3) := by decide +kernel
theorem dX8_pledge_123 : decode cX8_pledge 123 = .ok (.iconst 1, 1) := by decide +kernel
theorem dX8_pledge_124 : decode cX8_pledge 124 = .ok (.iaload, 1) := by decide +kernel
theorem dX8_pledge_125 : decode cX8_pledge 125 = .ok (.istore 4, 2) := by decide +kernel
theorem dX8_pledge_127 : decode cX8_pledge 127 = .ok (.aload_n 0, 1) := by decide +kernel
theorem dX8_pledge_128 : decode cX8_pledge 128 = .ok (.getfield 7, 3) := by decide +kernel
theorem dX8_pledge_131 : decode cX8_pledge 131 = .ok (.iconst 1, 1) := by decide +kernel
theorem dX8_pledge_132 : decode cX8_pledge 132 = .ok (.dup2, 1) := by decide +kernel
theorem dX8_pledge_133 : decode cX8_pledge 133 = .ok (.iaload, 1) := by decide +kernel
theorem dX8_pledge_134 : decode cX8_pledge 134 = .ok (.iconst 1, 1) := by decide +kernel
theorem dX8_pledge_135 : decode cX8_pledge 135 = .ok (.iadd, 1) := by decide +kernel
theorem dX8_pledge_136 : decode cX8_pledge 136 = .ok (.iastore, 1) := by decide +kernel
theorem dX8_pledge_137 : decode cX8_pledge 137 = .ok (.iconst 0, 1) := by decide +kernel
theorem dX8_pledge_138 : decode cX8_pledge 138 = .ok (.istore 5, 2) := by decide +kernel
theorem dX8_pledge_140 : decode cX8_pledge 140 = .ok (.iload 5, 2) := by decide +kernel
theorem dX8_pledge_142 : decode cX8_pledge 142 = .ok (.bipush 11, 2) := by decide +kernel
theorem dX8_pledge_144 : decode cX8_pledge 144 = .ok (.if_icmp .ge 18, 3) := by decide +kernel
theorem dX8_pledge_147 : decode cX8_pledge 147 = .ok (.aload_n 0, 1) := by decide +kernel
theorem dX8_pledge_148 : decode cX8_pledge 148 = .ok (.iload 4, 2) := by decide +kernel
theorem dX8_pledge_150 : decode cX8_pledge 150 = .ok (.iload 5, 2) := by decide +kernel
theorem dX8_pledge_152 : decode cX8_pledge 152 = .ok (.iconst 0, 1) := by decide +kernel
theorem dX8_pledge_153 : decode cX8_pledge 153 = .ok (.invokevirtual 79, 3) := by decide +kernel
theorem dX8_pledge_156 : decode cX8_pledge 156 = .ok (.iinc 5 1, 3) := by decide +kernel
theorem dX8_pledge_159 : decode cX8_pledge 159 = .ok (.goto (-19), 3) := by decide +kernel
theorem dX8_pledge_162 : decode cX8_pledge 162 = .ok (.aload_n 0, 1) := by decide +kernel
theorem dX8_pledge_163 : decode cX8_pledge 163 = .ok (.iload 4, 2) := by decide +kernel
theorem dX8_pledge_165 : decode cX8_pledge 165 = .ok (.iconst 0, 1) := by decide +kernel
theorem dX8_pledge_166 : decode cX8_pledge 166 = .ok (.iload_n 1, 1) := by decide +kernel
theorem dX8_pledge_167 : decode cX8_pledge 167 = .ok (.invokevirtual 79, 3) := by decide +kernel
theorem dX8_pledge_170 : decode cX8_pledge 170 = .ok (.aload_n 0, 1) := by decide +kernel
theorem dX8_pledge_171 : decode cX8_pledge 171 = .ok (.iload 4, 2) := by decide +kernel
theorem dX8_pledge_173 : decode cX8_pledge 173 = .ok (.iconst 1, 1) := by decide +kernel
theorem dX8_pledge_174 : decode cX8_pledge 174 = .ok (.iload_n 2, 1) := by decide +kernel
theorem dX8_pledge_175 : decode cX8_pledge 175 = .ok (.invokevirtual 79, 3) := by decide +kernel
theorem dX8_pledge_178 : decode cX8_pledge 178 = .ok (.aload_n 0, 1) := by decide +kernel
theorem dX8_pledge_179 : decode cX8_pledge 179 = .ok (.iload 4, 2) := by decide +kernel
theorem dX8_pledge_181 : decode cX8_pledge 181 = .ok (.iconst 2, 1) := by decide +kernel
theorem dX8_pledge_182 : decode cX8_pledge 182 = .ok (.iload_n 3, 1) := by decide +kernel
theorem dX8_pledge_183 : decode cX8_pledge 183 = .ok (.invokevirtual 79, 3) := by decide +kernel
theorem dX8_pledge_186 : decode cX8_pledge 186 = .ok (.aload_n 0, 1) := by decide +kernel
theorem dX8_pledge_187 : decode cX8_pledge 187 = .ok (.iload 4, 2) := by decide +kernel
theorem dX8_pledge_189 : decode cX8_pledge 189 = .ok (.iconst 5, 1) := by decide +kernel
theorem dX8_pledge_190 : decode cX8_pledge 190 = .ok (.aload_n 0, 1) := by decide +kernel
theorem dX8_pledge_191 : decode cX8_pledge 191 = .ok (.getfield 7, 3) := by decide +kernel
theorem dX8_pledge_194 : decode cX8_pledge 194 = .ok (.iconst 0, 1) := by decide +kernel
theorem dX8_pledge_195 : decode cX8_pledge 195 = .ok (.iaload, 1) := by decide +kernel
theorem dX8_pledge_196 : decode cX8_pledge 196 = .ok (.invokevirtual 79, 3) := by decide +kernel
theorem dX8_pledge_199 : decode cX8_pledge 199 = .ok (.aload_n 0, 1) := by decide +kernel
theorem dX8_pledge_200 : decode cX8_pledge 200 = .ok (.iload 4, 2) := by decide +kernel
theorem dX8_pledge_202 : decode cX8_pledge 202 = .ok (.bipush 6, 2) := by decide +kernel
theorem dX8_pledge_204 : decode cX8_pledge 204 = .ok (.aload_n 0, 1) := by decide +kernel
theorem dX8_pledge_205 : decode cX8_pledge 205 = .ok (.getfield 7, 3) := by decide +kernel
theorem dX8_pledge_208 : decode cX8_pledge 208 = .ok (.iconst 2, 1) := by decide +kernel
theorem dX8_pledge_209 : decode cX8_pledge 209 = .ok (.iaload, 1) := by decide +kernel
theorem dX8_pledge_210 : decode cX8_pledge 210 = .ok (.invokevirtual 79, 3) := by decide +kernel
theorem dX8_pledge_213 : decode cX8_pledge 213 = .ok (.aload_n 0, 1) := by decide +kernel
theorem dX8_pledge_214 : decode cX8_pledge 214 = .ok (.getfield 7, 3) := by decide +kernel
theorem dX8_pledge_217 : decode cX8_pledge 217 = .ok (.iconst 4, 1) := by decide +kernel
theorem dX8_pledge_218 : decode cX8_pledge 218 = .ok (.dup2, 1) := by decide +kernel
theorem dX8_pledge_219 : decode cX8_pledge 219 = .ok (.iaload, 1) := by decide +kernel
theorem dX8_pledge_220 : decode cX8_pledge 220 = .ok (.iload_n 3, 1) := by decide +kernel
theorem dX8_pledge_221 : decode cX8_pledge 221 = .ok (.isub, 1) := by decide +kernel
theorem dX8_pledge_222 : decode cX8_pledge 222 = .ok (.iastore, 1) := by decide +kernel
theorem dX8_pledge_223 : decode cX8_pledge 223 = .ok (.aload_n 0, 1) := by decide +kernel
theorem dX8_pledge_224 : decode cX8_pledge 224 = .ok (.getfield 7, 3) := by decide +kernel
theorem dX8_pledge_227 : decode cX8_pledge 227 = .ok (.iconst 5, 1) := by decide +kernel
theorem dX8_pledge_228 : decode cX8_pledge 228 = .ok (.dup2, 1) := by decide +kernel
theorem dX8_pledge_229 : decode cX8_pledge 229 = .ok (.iaload, 1) := by decide +kernel
theorem dX8_pledge_230 : decode cX8_pledge 230 = .ok (.iload_n 3, 1) := by decide +kernel
theorem dX8_pledge_231 : decode cX8_pledge 231 = .ok (.iadd, 1) := by decide +kernel
theorem dX8_pledge_232 : decode cX8_pledge 232 = .ok (.iastore, 1) := by decide +kernel
theorem dX8_pledge_233 : decode cX8_pledge 233 = .ok (.iload 4, 2) := by decide +kernel
theorem dX8_pledge_235 : decode cX8_pledge 235 = .ok (.ireturn, 1) := by decide +kernel
theorem dX8_rate_0 : decode cX8_rate 0 = .ok (.aload_n 0, 1) := by decide +kernel
theorem dX8_rate_1 : decode cX8_rate 1 = .ok (.iload_n 1, 1) := by decide +kernel
theorem dX8_rate_2 : decode cX8_rate 2 = .ok (.iconst 1, 1) := by decide +kernel
theorem dX8_rate_3 : decode cX8_rate 3 = .ok (.bipush 60, 2) := by decide +kernel
theorem dX8_rate_5 : decode cX8_rate 5 = .ok (.invokestatic 59, 3) := by decide +kernel
theorem dX8_rate_8 : decode cX8_rate 8 = .ok (.ifCond .eq 7, 3) := by decide +kernel
theorem dX8_rate_11 : decode cX8_rate 11 = .ok (.iconst 0, 1) := by decide +kernel
theorem dX8_rate_12 : decode cX8_rate 12 = .ok (.goto 4, 3) := by decide +kernel
theorem dX8_rate_15 : decode cX8_rate 15 = .ok (.iconst 1, 1) := by decide +kernel
theorem dX8_rate_16 : decode cX8_rate 16 = .ok (.invokevirtual 67, 3) := by decide +kernel
theorem dX8_rate_19 : decode cX8_rate 19 = .ok (.ifCond .eq 5, 3) := by decide +kernel
theorem dX8_rate_22 : decode cX8_rate 22 = .ok (.iconst 0, 1) := by decide +kernel
theorem dX8_rate_23 : decode cX8_rate 23 = .ok (.ireturn, 1) := by decide +kernel
theorem dX8_rate_24 : decode cX8_rate 24 = .ok (.iload_n 1, 1) := by decide +kernel
theorem dX8_rate_25 : decode cX8_rate 25 = .ok (.aload_n 0, 1) := by decide +kernel
theorem dX8_rate_26 : decode cX8_rate 26 = .ok (.getfield 7, 3) := by decide +kernel
theorem dX8_rate_29 : decode cX8_rate 29 = .ok (.iconst 2, 1) := by decide +kernel
theorem dX8_rate_30 : decode cX8_rate 30 = .ok (.iaload, 1) := by decide +kernel
theorem dX8_rate_31 : decode cX8_rate 31 = .ok (.if_icmp .ne 12, 3) := by decide +kernel
theorem dX8_rate_34 : decode cX8_rate 34 = .ok (.aload_n 0, 1) := by decide +kernel
theorem dX8_rate_35 : decode cX8_rate 35 = .ok (.iconst 2, 1) := by decide +kernel
theorem dX8_rate_36 : decode cX8_rate 36 = .ok (.bipush 10, 2) := by decide +kernel
theorem dX8_rate_38 : decode cX8_rate 38 = .ok (.iload_n 1, 1) := by decide +kernel
theorem dX8_rate_39 : decode cX8_rate 39 = .ok (.invokevirtual 71, 3) := by decide +kernel
theorem dX8_rate_42 : decode cX8_rate 42 = .ok (.ireturn, 1) := by decide +kernel
theorem dX8_rate_43 : decode cX8_rate 43 = .ok (.aload_n 0, 1) := by decide +kernel
theorem dX8_rate_44 : decode cX8_rate 44 = .ok (.aload_n 0, 1) := by decide +kernel
theorem dX8_rate_45 : decode cX8_rate 45 = .ok (.getfield 7, 3) := by decide +kernel
theorem dX8_rate_48 : decode cX8_rate 48 = .ok (.invokevirtual 75, 3) := by decide +kernel
theorem dX8_rate_51 : decode cX8_rate 51 = .ok (.aload_n 0, 1) := by decide +kernel
theorem dX8_rate_52 : decode cX8_rate 52 = .ok (.getfield 7, 3) := by decide +kernel
theorem dX8_rate_55 : decode cX8_rate 55 = .ok (.iconst 2, 1) := by decide +kernel
theorem dX8_rate_56 : decode cX8_rate 56 = .ok (.iaload, 1) := by decide +kernel
theorem dX8_rate_57 : decode cX8_rate 57 = .ok (.istore_n 2, 1) := by decide +kernel
theorem dX8_rate_58 : decode cX8_rate 58 = .ok (.aload_n 0, 1) := by decide +kernel
theorem dX8_rate_59 : decode cX8_rate 59 = .ok (.getfield 7, 3) := by decide +kernel
theorem dX8_rate_62 : decode cX8_rate 62 = .ok (.iconst 2, 1) := by decide +kernel
theorem dX8_rate_63 : decode cX8_rate 63 = .ok (.iload_n 1, 1) := by decide +kernel
theorem dX8_rate_64 : decode cX8_rate 64 = .ok (.iastore, 1) := by decide +kernel
theorem dX8_rate_65 : decode cX8_rate 65 = .ok (.iload_n 2, 1) := by decide +kernel
theorem dX8_rate_66 : decode cX8_rate 66 = .ok (.ireturn, 1) := by decide +kernel
theorem dX8_fee_0 : decode cX8_fee 0 = .ok (.aload_n 0, 1) := by decide +kernel
theorem dX8_fee_1 : decode cX8_fee 1 = .ok (.iload_n 1, 1) := by decide +kernel
theorem dX8_fee_2 : decode cX8_fee 2 = .ok (.iconst 0, 1) := by decide +kernel
theorem dX8_fee_3 : decode cX8_fee 3 = .ok (.bipush 20, 2) := by decide +kernel
theorem dX8_fee_5 : decode cX8_fee 5 = .ok (.invokestatic 59, 3) := by decide +kernel
theorem dX8_fee_8 : decode cX8_fee 8 = .ok (.ifCond .eq 7, 3) := by decide +kernel
theorem dX8_fee_11 : decode cX8_fee 11 = .ok (.iconst 0, 1) := by decide +kernel
theorem dX8_fee_12 : decode cX8_fee 12 = .ok (.goto 4, 3) := by decide +kernel
theorem dX8_fee_15 : decode cX8_fee 15 = .ok (.iconst 1, 1) := by decide +kernel
theorem dX8_fee_16 : decode cX8_fee 16 = .ok (.invokevirtual 67, 3) := by decide +kernel
theorem dX8_fee_19 : decode cX8_fee 19 = .ok (.ifCond .eq 5, 3) := by decide +kernel
theorem dX8_fee_22 : decode cX8_fee 22 = .ok (.iconst 0, 1) := by decide +kernel
theorem dX8_fee_23 : decode cX8_fee 23 = .ok (.ireturn, 1) := by decide +kernel
theorem dX8_fee_24 : decode cX8_fee 24 = .ok (.iload_n 1, 1) := by decide +kernel
theorem dX8_fee_25 : decode cX8_fee 25 = .ok (.aload_n 0, 1) := by decide +kernel
theorem dX8_fee_26 : decode cX8_fee 26 = .ok (.getfield 7, 3) := by decide +kernel
theorem dX8_fee_29 : decode cX8_fee 29 = .ok (.iconst 3, 1) := by decide +kernel
theorem dX8_fee_30 : decode cX8_fee 30 = .ok (.iaload, 1) := by decide +kernel
theorem dX8_fee_31 : decode cX8_fee 31 = .ok (.if_icmp .ne 12, 3) := by decide +kernel
theorem dX8_fee_34 : decode cX8_fee 34 = .ok (.aload_n 0, 1) := by decide +kernel
theorem dX8_fee_35 : decode cX8_fee 35 = .ok (.iconst 2, 1) := by decide +kernel
theorem dX8_fee_36 : decode cX8_fee 36 = .ok (.bipush 10, 2) := by decide +kernel
theorem dX8_fee_38 : decode cX8_fee 38 = .ok (.iload_n 1, 1) := by decide +kernel
theorem dX8_fee_39 : decode cX8_fee 39 = .ok (.invokevirtual 71, 3) := by decide +kernel
theorem dX8_fee_42 : decode cX8_fee 42 = .ok (.ireturn, 1) := by decide +kernel
theorem dX8_fee_43 : decode cX8_fee 43 = .ok (.aload_n 0, 1) := by decide +kernel
theorem dX8_fee_44 : decode cX8_fee 44 = .ok (.aload_n 0, 1) := by decide +kernel
theorem dX8_fee_45 : decode cX8_fee 45 = .ok (.getfield 7, 3) := by decide +kernel
theorem dX8_fee_48 : decode cX8_fee 48 = .ok (.invokevirtual 75, 3) := by decide +kernel
theorem dX8_fee_51 : decode cX8_fee 51 = .ok (.aload_n 0, 1) := by decide +kernel
theorem dX8_fee_52 : decode cX8_fee 52 = .ok (.getfield 7, 3) := by decide +kernel
theorem dX8_fee_55 : decode cX8_fee 55 = .ok (.iconst 3, 1) := by decide +kernel
theorem dX8_fee_56 : decode cX8_fee 56 = .ok (.iaload, 1) := by decide +kernel
theorem dX8_fee_57 : decode cX8_fee 57 = .ok (.istore_n 2, 1) := by decide +kernel
theorem dX8_fee_58 : decode cX8_fee 58 = .ok (.aload_n 0, 1) := by decide +kernel
theorem dX8_fee_59 : decode cX8_fee 59 = .ok (.getfield 7, 3) := by decide +kernel
theorem dX8_fee_62 : decode cX8_fee 62 = .ok (.iconst 3, 1) := by decide +kernel
theorem dX8_fee_63 : decode cX8_fee 63 = .ok (.iload_n 1, 1) := by decide +kernel
theorem dX8_fee_64 : decode cX8_fee 64 = .ok (.iastore, 1) := by decide +kernel
theorem dX8_fee_65 : decode cX8_fee 65 = .ok (.iload_n 2, 1) := by decide +kernel
theorem dX8_fee_66 : decode cX8_fee 66 = .ok (.ireturn, 1) := by decide +kernel
theorem dX8_goesBy_0 : decode cX8_goesBy 0 = .ok (.iconst 0, 1) := by decide +kernel
theorem dX8_goesBy_1 : decode cX8_goesBy 1 = .ok (.istore_n 1, 1) := by decide +kernel
theorem dX8_goesBy_2 : decode cX8_goesBy 2 = .ok (.aload_n 0, 1) := by decide +kernel
theorem dX8_goesBy_3 : decode cX8_goesBy 3 = .ok (.getfield 7, 3) := by decide +kernel
theorem dX8_goesBy_6 : decode cX8_goesBy 6 = .ok (.iconst 0, 1) := by decide +kernel
theorem dX8_goesBy_7 : decode cX8_goesBy 7 = .ok (.dup2, 1) := by decide +kernel
theorem dX8_goesBy_8 : decode cX8_goesBy 8 = .ok (.iaload, 1) := by decide +kernel
theorem dX8_goesBy_9 : decode cX8_goesBy 9 = .ok (.iconst 1, 1) := by decide +kernel
theorem dX8_goesBy_10 : decode cX8_goesBy 10 = .ok (.iadd, 1) := by decide +kernel
theorem dX8_goesBy_11 : decode cX8_goesBy 11 = .ok (.iastore, 1) := by decide +kernel
theorem dX8_goesBy_12 : decode cX8_goesBy 12 = .ok (.iconst 0, 1) := by decide +kernel
theorem dX8_goesBy_13 : decode cX8_goesBy 13 = .ok (.istore_n 2, 1) := by decide +kernel
theorem dX8_goesBy_14 : decode cX8_goesBy 14 = .ok (.iload_n 2, 1) := by decide +kernel
theorem dX8_goesBy_15 : decode cX8_goesBy 15 = .ok (.aload_n 0, 1) := by decide +kernel
theorem dX8_goesBy_16 : decode cX8_goesBy 16 = .ok (.getfield 7, 3) := by decide +kernel
theorem dX8_goesBy_19 : decode cX8_goesBy 19 = .ok (.iconst 1, 1) := by decide +kernel
theorem dX8_goesBy_20 : decode cX8_goesBy 20 = .ok (.iaload, 1) := by decide +kernel
theorem dX8_goesBy_21 : decode cX8_goesBy 21 = .ok (.if_icmp .ge 163, 3) := by decide +kernel
theorem dX8_goesBy_24 : decode cX8_goesBy 24 = .ok (.aload_n 0, 1) := by decide +kernel
theorem dX8_goesBy_25 : decode cX8_goesBy 25 = .ok (.iload_n 2, 1) := by decide +kernel
theorem dX8_goesBy_26 : decode cX8_goesBy 26 = .ok (.iconst 4, 1) := by decide +kernel
theorem dX8_goesBy_27 : decode cX8_goesBy 27 = .ok (.invokevirtual 63, 3) := by decide +kernel
theorem dX8_goesBy_30 : decode cX8_goesBy 30 = .ok (.iconst 1, 1) := by decide +kernel
theorem dX8_goesBy_31 : decode cX8_goesBy 31 = .ok (.if_icmp .ne 28, 3) := by decide +kernel
theorem dX8_goesBy_34 : decode cX8_goesBy 34 = .ok (.aload_n 0, 1) := by decide +kernel
theorem dX8_goesBy_35 : decode cX8_goesBy 35 = .ok (.iload_n 2, 1) := by decide +kernel
theorem dX8_goesBy_36 : decode cX8_goesBy 36 = .ok (.bipush 7, 2) := by decide +kernel
theorem dX8_goesBy_38 : decode cX8_goesBy 38 = .ok (.aload_n 0, 1) := by decide +kernel
theorem dX8_goesBy_39 : decode cX8_goesBy 39 = .ok (.iload_n 2, 1) := by decide +kernel
theorem dX8_goesBy_40 : decode cX8_goesBy 40 = .ok (.bipush 7, 2) := by decide +kernel
theorem dX8_goesBy_42 : decode cX8_goesBy 42 = .ok (.invokevirtual 63, 3) := by decide +kernel
theorem dX8_goesBy_45 : decode cX8_goesBy 45 = .ok (.aload_n 0, 1) := by decide +kernel
theorem dX8_goesBy_46 : decode cX8_goesBy 46 = .ok (.iload_n 2, 1) := by decide +kernel
theorem dX8_goesBy_47 : decode cX8_goesBy 47 = .ok (.bipush 7, 2) := by decide +kernel
theorem dX8_goesBy_49 : decode cX8_goesBy 49 = .ok (.invokevirtual 63, 3) := by decide +kernel
theorem dX8_goesBy_52 : decode cX8_goesBy 52 = .ok (.bipush 10, 2) := by decide +kernel
theorem dX8_goesBy_54 : decode cX8_goesBy 54 = .ok (.idiv, 1) := by decide +kernel
theorem dX8_goesBy_55 : decode cX8_goesBy 55 = .ok (.isub, 1) := by decide +kernel
theorem dX8_goesBy_56 : decode cX8_goesBy 56 = .ok (.invokevirtual 79, 3) := by decide +kernel
theorem dX8_goesBy_59 : decode cX8_goesBy 59 = .ok (.aload_n 0, 1) := by decide +kernel
theorem dX8_goesBy_60 : decode cX8_goesBy 60 = .ok (.iload_n 2, 1) := by decide +kernel
theorem dX8_goesBy_61 : decode cX8_goesBy 61 = .ok (.iconst 4, 1) := by decide +kernel
theorem dX8_goesBy_62 : decode cX8_goesBy 62 = .ok (.invokevirtual 63, 3) := by decide +kernel
theorem dX8_goesBy_65 : decode cX8_goesBy 65 = .ok (.ifCond .eq 6, 3) := by decide +kernel
theorem dX8_goesBy_68 : decode cX8_goesBy 68 = .ok (.goto 110, 3) := by decide +kernel
theorem dX8_goesBy_71 : decode cX8_goesBy 71 = .ok (.aload_n 0, 1) := by decide +kernel
theorem dX8_goesBy_72 : decode cX8_goesBy 72 = .ok (.iload_n 2, 1) := by decide +kernel
theorem dX8_goesBy_73 : decode cX8_goesBy 73 = .ok (.iconst 3, 1) := by decide +kernel
theorem dX8_goesBy_74 : decode cX8_goesBy 74 = .ok (.aload_n 0, 1) := by decide +kernel
theorem dX8_goesBy_75 : decode cX8_goesBy 75 = .ok (.iload_n 2, 1) := by decide +kernel
theorem dX8_goesBy_76 : decode cX8_goesBy 76 = .ok (.iconst 3, 1) := by decide +kernel
theorem dX8_goesBy_77 : decode cX8_goesBy 77 = .ok (.invokevirtual 63, 3) := by decide +kernel
theorem dX8_goesBy_80 : decode cX8_goesBy 80 = .ok (.aload_n 0, 1) := by decide +kernel
theorem dX8_goesBy_81 : decode cX8_goesBy 81 = .ok (.iload_n 2, 1) := by decide +kernel
theorem dX8_goesBy_82 : decode cX8_goesBy 82 = .ok (.invokevirtual 83, 3) := by decide +kernel
theorem dX8_goesBy_85 : decode cX8_goesBy 85 = .ok (.iadd, 1) := by decide +kernel
theorem dX8_goesBy_86 : decode cX8_goesBy 86 = .ok (.invokevirtual 79, 3) := by decide +kernel
theorem dX8_goesBy_89 : decode cX8_goesBy 89 = .ok (.aload_n 0, 1) := by decide +kernel
theorem dX8_goesBy_90 : decode cX8_goesBy 90 = .ok (.getfield 7, 3) := by decide +kernel
theorem dX8_goesBy_93 : decode cX8_goesBy 93 = .ok (.iconst 0, 1) := by decide +kernel
theorem dX8_goesBy_94 : decode cX8_goesBy 94 = .ok (.iaload, 1) := by decide +kernel
theorem dX8_goesBy_95 : decode cX8_goesBy 95 = .ok (.aload_n 0, 1) := by decide +kernel
theorem dX8_goesBy_96 : decode cX8_goesBy 96 = .ok (.iload_n 2, 1) := by decide +kernel
theorem dX8_goesBy_97 : decode cX8_goesBy 97 = .ok (.iconst 5, 1) := by decide +kernel
theorem dX8_goesBy_98 : decode cX8_goesBy 98 = .ok (.invokevirtual 63, 3) := by decide +kernel
theorem dX8_goesBy_101 : decode cX8_goesBy 101 = .ok (.isub, 1) := by decide +kernel
theorem dX8_goesBy_102 : decode cX8_goesBy 102 = .ok (.bipush 9, 2) := by decide +kernel
theorem dX8_goesBy_104 : decode cX8_goesBy 104 = .ok (.if_icmp .ge 6, 3) := by decide +kernel
theorem dX8_goesBy_107 : decode cX8_goesBy 107 = .ok (.goto 71, 3) := by decide +kernel
theorem dX8_goesBy_110 : decode cX8_goesBy 110 = .ok (.aload_n 0, 1) := by decide +kernel
theorem dX8_goesBy_111 : decode cX8_goesBy 111 = .ok (.iload_n 2, 1) := by decide +kernel
theorem dX8_goesBy_112 : decode cX8_goesBy 112 = .ok (.iconst 4, 1) := by decide +kernel
theorem dX8_goesBy_113 : decode cX8_goesBy 113 = .ok (.iconst 1, 1) := by decide +kernel
theorem dX8_goesBy_114 : decode cX8_goesBy 114 = .ok (.invokevirtual 79, 3) := by decide +kernel
theorem dX8_goesBy_117 : decode cX8_goesBy 117 = .ok (.aload_n 0, 1) := by decide +kernel
theorem dX8_goesBy_118 : decode cX8_goesBy 118 = .ok (.iload_n 2, 1) := by decide +kernel
theorem dX8_goesBy_119 : decode cX8_goesBy 119 = .ok (.bipush 9, 2) := by decide +kernel
theorem dX8_goesBy_121 : decode cX8_goesBy 121 = .ok (.aload_n 0, 1) := by decide +kernel
theorem dX8_goesBy_122 : decode cX8_goesBy 122 = .ok (.iload_n 2, 1) := by decide +kernel
theorem dX8_goesBy_123 : decode cX8_goesBy 123 = .ok (.invokevirtual 87, 3) := by decide +kernel
theorem dX8_goesBy_126 : decode cX8_goesBy 126 = .ok (.aload_n 0, 1) := by decide +kernel
theorem dX8_goesBy_127 : decode cX8_goesBy 127 = .ok (.getfield 7, 3) := by decide +kernel
theorem dX8_goesBy_130 : decode cX8_goesBy 130 = .ok (.iconst 3, 1) := by decide +kernel
theorem dX8_goesBy_131 : decode cX8_goesBy 131 = .ok (.iaload, 1) := by decide +kernel
theorem dX8_goesBy_132 : decode cX8_goesBy 132 = .ok (.iadd, 1) := by decide +kernel
theorem dX8_goesBy_133 : decode cX8_goesBy 133 = .ok (.invokevirtual 79, 3) := by decide +kernel
theorem dX8_goesBy_136 : decode cX8_goesBy 136 = .ok (.aload_n 0, 1) := by decide +kernel
theorem dX8_goesBy_137 : decode cX8_goesBy 137 = .ok (.iload_n 2, 1) := by decide +kernel
theorem dX8_goesBy_138 : decode cX8_goesBy 138 = .ok (.bipush 7, 2) := by decide +kernel
theorem dX8_goesBy_140 : decode cX8_goesBy 140 = .ok (.aload_n 0, 1) := by decide +kernel
theorem dX8_goesBy_141 : decode cX8_goesBy 141 = .ok (.iload_n 2, 1) := by decide +kernel
theorem dX8_goesBy_142 : decode cX8_goesBy 142 = .ok (.bipush 9, 2) := by decide +kernel
theorem dX8_goesBy_144 : decode cX8_goesBy 144 = .ok (.invokevirtual 63, 3) := by decide +kernel
theorem dX8_goesBy_147 : decode cX8_goesBy 147 = .ok (.invokevirtual 79, 3) := by decide +kernel
theorem dX8_goesBy_150 : decode cX8_goesBy 150 = .ok (.aload_n 0, 1) := by decide +kernel
theorem dX8_goesBy_151 : decode cX8_goesBy 151 = .ok (.iload_n 2, 1) := by decide +kernel
theorem dX8_goesBy_152 : decode cX8_goesBy 152 = .ok (.bipush 10, 2) := by decide +kernel
theorem dX8_goesBy_154 : decode cX8_goesBy 154 = .ok (.aload_n 0, 1) := by decide +kernel
theorem dX8_goesBy_155 : decode cX8_goesBy 155 = .ok (.getfield 7, 3) := by decide +kernel
theorem dX8_goesBy_158 : decode cX8_goesBy 158 = .ok (.bipush 10, 2) := by decide +kernel
theorem dX8_goesBy_160 : decode cX8_goesBy 160 = .ok (.iaload, 1) := by decide +kernel
theorem dX8_goesBy_161 : decode cX8_goesBy 161 = .ok (.invokevirtual 79, 3) := by decide +kernel
theorem dX8_goesBy_164 : decode cX8_goesBy 164 = .ok (.aload_n 0, 1) := by decide +kernel
theorem dX8_goesBy_165 : decode cX8_goesBy 165 = .ok (.getfield 7, 3) := by decide +kernel
theorem dX8_goesBy_168 : decode cX8_goesBy 168 = .ok (.bipush 10, 2) := by decide +kernel
theorem dX8_goesBy_170 : decode cX8_goesBy 170 = .ok (.dup2, 1) := by decide +kernel
theorem dX8_goesBy_171 : decode cX8_goesBy 171 = .ok (.iaload, 1) := by decide +kernel
theorem dX8_goesBy_172 : decode cX8_goesBy 172 = .ok (.iconst 1, 1) := by decide +kernel
theorem dX8_goesBy_173 : decode cX8_goesBy 173 = .ok (.iadd, 1) := by decide +kernel
theorem dX8_goesBy_174 : decode cX8_goesBy 174 = .ok (.iastore, 1) := by decide +kernel
theorem dX8_goesBy_175 : decode cX8_goesBy 175 = .ok (.iinc 1 1, 3) := by decide +kernel
theorem dX8_goesBy_178 : decode cX8_goesBy 178 = .ok (.iinc 2 1, 3) := by decide +kernel
theorem dX8_goesBy_181 : decode cX8_goesBy 181 = .ok (.goto (-167), 3) := by decide +kernel
theorem dX8_goesBy_184 : decode cX8_goesBy 184 = .ok (.iload_n 1, 1) := by decide +kernel
theorem dX8_goesBy_185 : decode cX8_goesBy 185 = .ok (.ireturn, 1) := by decide +kernel
theorem dX8_pass_0 : decode cX8_pass 0 = .ok (.aload_n 0, 1) := by decide +kernel
theorem dX8_pass_1 : decode cX8_pass 1 = .ok (.iload_n 1, 1) := by decide +kernel
theorem dX8_pass_2 : decode cX8_pass 2 = .ok (.iconst 1, 1) := by decide +kernel
theorem dX8_pass_3 : decode cX8_pass 3 = .ok (.bipush 20, 2) := by decide +kernel
theorem dX8_pass_5 : decode cX8_pass 5 = .ok (.invokestatic 59, 3) := by decide +kernel
theorem dX8_pass_8 : decode cX8_pass 8 = .ok (.ifCond .eq 7, 3) := by decide +kernel
theorem dX8_pass_11 : decode cX8_pass 11 = .ok (.iconst 0, 1) := by decide +kernel
theorem dX8_pass_12 : decode cX8_pass 12 = .ok (.goto 4, 3) := by decide +kernel
theorem dX8_pass_15 : decode cX8_pass 15 = .ok (.iconst 1, 1) := by decide +kernel
theorem dX8_pass_16 : decode cX8_pass 16 = .ok (.invokevirtual 67, 3) := by decide +kernel
theorem dX8_pass_19 : decode cX8_pass 19 = .ok (.ifCond .eq 5, 3) := by decide +kernel
theorem dX8_pass_22 : decode cX8_pass 22 = .ok (.iconst 0, 1) := by decide +kernel
theorem dX8_pass_23 : decode cX8_pass 23 = .ok (.ireturn, 1) := by decide +kernel
theorem dX8_pass_24 : decode cX8_pass 24 = .ok (.aload_n 0, 1) := by decide +kernel
theorem dX8_pass_25 : decode cX8_pass 25 = .ok (.aload_n 0, 1) := by decide +kernel
theorem dX8_pass_26 : decode cX8_pass 26 = .ok (.getfield 7, 3) := by decide +kernel
theorem dX8_pass_29 : decode cX8_pass 29 = .ok (.invokevirtual 75, 3) := by decide +kernel
theorem dX8_pass_32 : decode cX8_pass 32 = .ok (.iconst 0, 1) := by decide +kernel
theorem dX8_pass_33 : decode cX8_pass 33 = .ok (.istore_n 2, 1) := by decide +kernel
theorem dX8_pass_34 : decode cX8_pass 34 = .ok (.iconst 0, 1) := by decide +kernel
theorem dX8_pass_35 : decode cX8_pass 35 = .ok (.istore_n 3, 1) := by decide +kernel
theorem dX8_pass_36 : decode cX8_pass 36 = .ok (.iload_n 3, 1) := by decide +kernel
theorem dX8_pass_37 : decode cX8_pass 37 = .ok (.iload_n 1, 1) := by decide +kernel
theorem dX8_pass_38 : decode cX8_pass 38 = .ok (.if_icmp .ge 16, 3) := by decide +kernel
theorem dX8_pass_41 : decode cX8_pass 41 = .ok (.iload_n 2, 1) := by decide +kernel
theorem dX8_pass_42 : decode cX8_pass 42 = .ok (.aload_n 0, 1) := by decide +kernel
theorem dX8_pass_43 : decode cX8_pass 43 = .ok (.invokevirtual 90, 3) := by decide +kernel
theorem dX8_pass_46 : decode cX8_pass 46 = .ok (.iadd, 1) := by decide +kernel
theorem dX8_pass_47 : decode cX8_pass 47 = .ok (.istore_n 2, 1) := by decide +kernel
theorem dX8_pass_48 : decode cX8_pass 48 = .ok (.iinc 3 1, 3) := by decide +kernel
theorem dX8_pass_51 : decode cX8_pass 51 = .ok (.goto (-15), 3) := by decide +kernel
theorem dX8_pass_54 : decode cX8_pass 54 = .ok (.iload_n 2, 1) := by decide +kernel
theorem dX8_pass_55 : decode cX8_pass 55 = .ok (.ireturn, 1) := by decide +kernel
theorem dX8_comes_0 : decode cX8_comes 0 = .ok (.aload_n 0, 1) := by decide +kernel
theorem dX8_comes_1 : decode cX8_comes 1 = .ok (.getfield 7, 3) := by decide +kernel
theorem dX8_comes_4 : decode cX8_comes 4 = .ok (.iconst 4, 1) := by decide +kernel
theorem dX8_comes_5 : decode cX8_comes 5 = .ok (.dup2, 1) := by decide +kernel
theorem dX8_comes_6 : decode cX8_comes 6 = .ok (.iaload, 1) := by decide +kernel
theorem dX8_comes_7 : decode cX8_comes 7 = .ok (.iload_n 2, 1) := by decide +kernel
theorem dX8_comes_8 : decode cX8_comes 8 = .ok (.iadd, 1) := by decide +kernel
theorem dX8_comes_9 : decode cX8_comes 9 = .ok (.iastore, 1) := by decide +kernel
theorem dX8_comes_10 : decode cX8_comes 10 = .ok (.aload_n 0, 1) := by decide +kernel
theorem dX8_comes_11 : decode cX8_comes 11 = .ok (.getfield 7, 3) := by decide +kernel
theorem dX8_comes_14 : decode cX8_comes 14 = .ok (.bipush 6, 2) := by decide +kernel
theorem dX8_comes_16 : decode cX8_comes 16 = .ok (.dup2, 1) := by decide +kernel
theorem dX8_comes_17 : decode cX8_comes 17 = .ok (.iaload, 1) := by decide +kernel
theorem dX8_comes_18 : decode cX8_comes 18 = .ok (.iload_n 2, 1) := by decide +kernel
theorem dX8_comes_19 : decode cX8_comes 19 = .ok (.iadd, 1) := by decide +kernel
theorem dX8_comes_20 : decode cX8_comes 20 = .ok (.iastore, 1) := by decide +kernel
theorem dX8_comes_21 : decode cX8_comes 21 = .ok (.aload_n 0, 1) := by decide +kernel
theorem dX8_comes_22 : decode cX8_comes 22 = .ok (.iload_n 1, 1) := by decide +kernel
theorem dX8_comes_23 : decode cX8_comes 23 = .ok (.bipush 8, 2) := by decide +kernel
theorem dX8_comes_25 : decode cX8_comes 25 = .ok (.aload_n 0, 1) := by decide +kernel
theorem dX8_comes_26 : decode cX8_comes 26 = .ok (.iload_n 1, 1) := by decide +kernel
theorem dX8_comes_27 : decode cX8_comes 27 = .ok (.bipush 8, 2) := by decide +kernel
theorem dX8_comes_29 : decode cX8_comes 29 = .ok (.invokevirtual 63, 3) := by decide +kernel
theorem dX8_comes_32 : decode cX8_comes 32 = .ok (.iload_n 2, 1) := by decide +kernel
theorem dX8_comes_33 : decode cX8_comes 33 = .ok (.iadd, 1) := by decide +kernel
theorem dX8_comes_34 : decode cX8_comes 34 = .ok (.invokevirtual 79, 3) := by decide +kernel
theorem dX8_comes_37 : decode cX8_comes 37 = .ok (.return_, 1) := by decide +kernel
theorem dX8_redeem_0 : decode cX8_redeem 0 = .ok (.aload_n 0, 1) := by decide +kernel
theorem dX8_redeem_1 : decode cX8_redeem 1 = .ok (.aload_n 0, 1) := by decide +kernel
theorem dX8_redeem_2 : decode cX8_redeem 2 = .ok (.iload_n 1, 1) := by decide +kernel
theorem dX8_redeem_3 : decode cX8_redeem 3 = .ok (.invokevirtual 94, 3) := by decide +kernel
theorem dX8_redeem_6 : decode cX8_redeem 6 = .ok (.ifCond .eq 7, 3) := by decide +kernel
theorem dX8_redeem_9 : decode cX8_redeem 9 = .ok (.iconst 0, 1) := by decide +kernel
theorem dX8_redeem_10 : decode cX8_redeem 10 = .ok (.goto 4, 3) := by decide +kernel
theorem dX8_redeem_13 : decode cX8_redeem 13 = .ok (.iconst 1, 1) := by decide +kernel
theorem dX8_redeem_14 : decode cX8_redeem 14 = .ok (.invokevirtual 67, 3) := by decide +kernel
theorem dX8_redeem_17 : decode cX8_redeem 17 = .ok (.ifCond .eq 5, 3) := by decide +kernel
theorem dX8_redeem_20 : decode cX8_redeem 20 = .ok (.iconst 0, 1) := by decide +kernel
theorem dX8_redeem_21 : decode cX8_redeem 21 = .ok (.ireturn, 1) := by decide +kernel
theorem dX8_redeem_22 : decode cX8_redeem 22 = .ok (.aload_n 0, 1) := by decide +kernel
theorem dX8_redeem_23 : decode cX8_redeem 23 = .ok (.iload_n 1, 1) := by decide +kernel
theorem dX8_redeem_24 : decode cX8_redeem 24 = .ok (.iconst 4, 1) := by decide +kernel
theorem dX8_redeem_25 : decode cX8_redeem 25 = .ok (.invokevirtual 63, 3) := by decide +kernel
theorem dX8_redeem_28 : decode cX8_redeem 28 = .ok (.ifCond .eq 16, 3) := by decide +kernel
theorem dX8_redeem_31 : decode cX8_redeem 31 = .ok (.aload_n 0, 1) := by decide +kernel
theorem dX8_redeem_32 : decode cX8_redeem 32 = .ok (.iconst 2, 1) := by decide +kernel
theorem dX8_redeem_33 : decode cX8_redeem 33 = .ok (.iconst 4, 1) := by decide +kernel
theorem dX8_redeem_34 : decode cX8_redeem 34 = .ok (.aload_n 0, 1) := by decide +kernel
theorem dX8_redeem_35 : decode cX8_redeem 35 = .ok (.iload_n 1, 1) := by decide +kernel
theorem dX8_redeem_36 : decode cX8_redeem 36 = .ok (.iconst 4, 1) := by decide +kernel
theorem dX8_redeem_37 : decode cX8_redeem 37 = .ok (.invokevirtual 63, 3) := by decide +kernel
theorem dX8_redeem_40 : decode cX8_redeem 40 = .ok (.invokevirtual 71, 3) := by decide +kernel
theorem dX8_redeem_43 : decode cX8_redeem 43 = .ok (.ireturn, 1) := by decide +kernel
theorem dX8_redeem_44 : decode cX8_redeem 44 = .ok (.aload_n 0, 1) := by decide +kernel
theorem dX8_redeem_45 : decode cX8_redeem 45 = .ok (.aload_n 0, 1) := by decide +kernel
theorem dX8_redeem_46 : decode cX8_redeem 46 = .ok (.getfield 7, 3) := by decide +kernel
theorem dX8_redeem_49 : decode cX8_redeem 49 = .ok (.invokevirtual 75, 3) := by decide +kernel
theorem dX8_redeem_52 : decode cX8_redeem 52 = .ok (.aload_n 0, 1) := by decide +kernel
theorem dX8_redeem_53 : decode cX8_redeem 53 = .ok (.iload_n 1, 1) := by decide +kernel
theorem dX8_redeem_54 : decode cX8_redeem 54 = .ok (.invokevirtual 87, 3) := by decide +kernel
theorem dX8_redeem_57 : decode cX8_redeem 57 = .ok (.istore_n 2, 1) := by decide +kernel
theorem dX8_redeem_58 : decode cX8_redeem 58 = .ok (.aload_n 0, 1) := by decide +kernel
theorem dX8_redeem_59 : decode cX8_redeem 59 = .ok (.iload_n 1, 1) := by decide +kernel
theorem dX8_redeem_60 : decode cX8_redeem 60 = .ok (.iload_n 2, 1) := by decide +kernel
theorem dX8_redeem_61 : decode cX8_redeem 61 = .ok (.invokevirtual 97, 3) := by decide +kernel
theorem dX8_redeem_64 : decode cX8_redeem 64 = .ok (.aload_n 0, 1) := by decide +kernel
theorem dX8_redeem_65 : decode cX8_redeem 65 = .ok (.iload_n 1, 1) := by decide +kernel
theorem dX8_redeem_66 : decode cX8_redeem 66 = .ok (.iconst 2, 1) := by decide +kernel
theorem dX8_redeem_67 : decode cX8_redeem 67 = .ok (.iconst 0, 1) := by decide +kernel
theorem dX8_redeem_68 : decode cX8_redeem 68 = .ok (.invokevirtual 79, 3) := by decide +kernel
theorem dX8_redeem_71 : decode cX8_redeem 71 = .ok (.aload_n 0, 1) := by decide +kernel
theorem dX8_redeem_72 : decode cX8_redeem 72 = .ok (.iload_n 1, 1) := by decide +kernel
theorem dX8_redeem_73 : decode cX8_redeem 73 = .ok (.iconst 3, 1) := by decide +kernel
theorem dX8_redeem_74 : decode cX8_redeem 74 = .ok (.iconst 0, 1) := by decide +kernel
theorem dX8_redeem_75 : decode cX8_redeem 75 = .ok (.invokevirtual 79, 3) := by decide +kernel
theorem dX8_redeem_78 : decode cX8_redeem 78 = .ok (.aload_n 0, 1) := by decide +kernel
theorem dX8_redeem_79 : decode cX8_redeem 79 = .ok (.iload_n 1, 1) := by decide +kernel
theorem dX8_redeem_80 : decode cX8_redeem 80 = .ok (.iconst 4, 1) := by decide +kernel
theorem dX8_redeem_81 : decode cX8_redeem 81 = .ok (.iconst 2, 1) := by decide +kernel
theorem dX8_redeem_82 : decode cX8_redeem 82 = .ok (.invokevirtual 79, 3) := by decide +kernel
theorem dX8_redeem_85 : decode cX8_redeem 85 = .ok (.iload_n 2, 1) := by decide +kernel
theorem dX8_redeem_86 : decode cX8_redeem 86 = .ok (.ireturn, 1) := by decide +kernel
theorem dX8_pay_0 : decode cX8_pay 0 = .ok (.aload_n 0, 1) := by decide +kernel
theorem dX8_pay_1 : decode cX8_pay 1 = .ok (.aload_n 0, 1) := by decide +kernel
theorem dX8_pay_2 : decode cX8_pay 2 = .ok (.iload_n 1, 1) := by decide +kernel
theorem dX8_pay_3 : decode cX8_pay 3 = .ok (.invokevirtual 94, 3) := by decide +kernel
theorem dX8_pay_6 : decode cX8_pay 6 = .ok (.ifCond .ne 7, 3) := by decide +kernel
theorem dX8_pay_9 : decode cX8_pay 9 = .ok (.iconst 1, 1) := by decide +kernel
theorem dX8_pay_10 : decode cX8_pay 10 = .ok (.goto 13, 3) := by decide +kernel
theorem dX8_pay_13 : decode cX8_pay 13 = .ok (.iload_n 2, 1) := by decide +kernel
theorem dX8_pay_14 : decode cX8_pay 14 = .ok (.iconst 1, 1) := by decide +kernel
theorem dX8_pay_15 : decode cX8_pay 15 = .ok (.if_icmp .lt 7, 3) := by decide +kernel
theorem dX8_pay_18 : decode cX8_pay 18 = .ok (.iconst 0, 1) := by decide +kernel
theorem dX8_pay_19 : decode cX8_pay 19 = .ok (.goto 4, 3) := by decide +kernel
theorem dX8_pay_22 : decode cX8_pay 22 = .ok (.iconst 2, 1) := by decide +kernel
theorem dX8_pay_23 : decode cX8_pay 23 = .ok (.invokevirtual 67, 3) := by decide +kernel
theorem dX8_pay_26 : decode cX8_pay 26 = .ok (.ifCond .eq 5, 3) := by decide +kernel
theorem dX8_pay_29 : decode cX8_pay 29 = .ok (.iconst 0, 1) := by decide +kernel
theorem dX8_pay_30 : decode cX8_pay 30 = .ok (.ireturn, 1) := by decide +kernel
theorem dX8_pay_31 : decode cX8_pay 31 = .ok (.aload_n 0, 1) := by decide +kernel
theorem dX8_pay_32 : decode cX8_pay 32 = .ok (.iload_n 1, 1) := by decide +kernel
theorem dX8_pay_33 : decode cX8_pay 33 = .ok (.iconst 4, 1) := by decide +kernel
theorem dX8_pay_34 : decode cX8_pay 34 = .ok (.invokevirtual 63, 3) := by decide +kernel
theorem dX8_pay_37 : decode cX8_pay 37 = .ok (.ifCond .eq 16, 3) := by decide +kernel
theorem dX8_pay_40 : decode cX8_pay 40 = .ok (.aload_n 0, 1) := by decide +kernel
theorem dX8_pay_41 : decode cX8_pay 41 = .ok (.iconst 3, 1) := by decide +kernel
theorem dX8_pay_42 : decode cX8_pay 42 = .ok (.iconst 4, 1) := by decide +kernel
theorem dX8_pay_43 : decode cX8_pay 43 = .ok (.aload_n 0, 1) := by decide +kernel
theorem dX8_pay_44 : decode cX8_pay 44 = .ok (.iload_n 1, 1) := by decide +kernel
theorem dX8_pay_45 : decode cX8_pay 45 = .ok (.iconst 4, 1) := by decide +kernel
theorem dX8_pay_46 : decode cX8_pay 46 = .ok (.invokevirtual 63, 3) := by decide +kernel
theorem dX8_pay_49 : decode cX8_pay 49 = .ok (.invokevirtual 71, 3) := by decide +kernel
theorem dX8_pay_52 : decode cX8_pay 52 = .ok (.ireturn, 1) := by decide +kernel
theorem dX8_pay_53 : decode cX8_pay 53 = .ok (.iload_n 2, 1) := by decide +kernel
theorem dX8_pay_54 : decode cX8_pay 54 = .ok (.aload_n 0, 1) := by decide +kernel
theorem dX8_pay_55 : decode cX8_pay 55 = .ok (.iload_n 1, 1) := by decide +kernel
theorem dX8_pay_56 : decode cX8_pay 56 = .ok (.invokevirtual 87, 3) := by decide +kernel
theorem dX8_pay_59 : decode cX8_pay 59 = .ok (.if_icmp .lt 15, 3) := by decide +kernel
theorem dX8_pay_62 : decode cX8_pay 62 = .ok (.aload_n 0, 1) := by decide +kernel
theorem dX8_pay_63 : decode cX8_pay 63 = .ok (.iconst 3, 1) := by decide +kernel
theorem dX8_pay_64 : decode cX8_pay 64 = .ok (.iconst 5, 1) := by decide +kernel
theorem dX8_pay_65 : decode cX8_pay 65 = .ok (.aload_n 0, 1) := by decide +kernel
theorem dX8_pay_66 : decode cX8_pay 66 = .ok (.iload_n 1, 1) := by decide +kernel
theorem dX8_pay_67 : decode cX8_pay 67 = .ok (.invokevirtual 87, 3) := by decide +kernel
theorem dX8_pay_70 : decode cX8_pay 70 = .ok (.invokevirtual 71, 3) := by decide +kernel
theorem dX8_pay_73 : decode cX8_pay 73 = .ok (.ireturn, 1) := by decide +kernel
theorem dX8_pay_74 : decode cX8_pay 74 = .ok (.aload_n 0, 1) := by decide +kernel
theorem dX8_pay_75 : decode cX8_pay 75 = .ok (.aload_n 0, 1) := by decide +kernel
theorem dX8_pay_76 : decode cX8_pay 76 = .ok (.getfield 7, 3) := by decide +kernel
theorem dX8_pay_79 : decode cX8_pay 79 = .ok (.invokevirtual 75, 3) := by decide +kernel
theorem dX8_pay_82 : decode cX8_pay 82 = .ok (.iload_n 2, 1) := by decide +kernel
theorem dX8_pay_83 : decode cX8_pay 83 = .ok (.aload_n 0, 1) := by decide +kernel
theorem dX8_pay_84 : decode cX8_pay 84 = .ok (.iload_n 1, 1) := by decide +kernel
theorem dX8_pay_85 : decode cX8_pay 85 = .ok (.iconst 3, 1) := by decide +kernel
theorem dX8_pay_86 : decode cX8_pay 86 = .ok (.invokevirtual 63, 3) := by decide +kernel
theorem dX8_pay_89 : decode cX8_pay 89 = .ok (.if_icmp .ge 7, 3) := by decide +kernel
theorem dX8_pay_92 : decode cX8_pay 92 = .ok (.iload_n 2, 1) := by decide +kernel
theorem dX8_pay_93 : decode cX8_pay 93 = .ok (.goto 9, 3) := by decide +kernel
theorem dX8_pay_96 : decode cX8_pay 96 = .ok (.aload_n 0, 1) := by decide +kernel
theorem dX8_pay_97 : decode cX8_pay 97 = .ok (.iload_n 1, 1) := by decide +kernel
theorem dX8_pay_98 : decode cX8_pay 98 = .ok (.iconst 3, 1) := by decide +kernel
theorem dX8_pay_99 : decode cX8_pay 99 = .ok (.invokevirtual 63, 3) := by decide +kernel
theorem dX8_pay_102 : decode cX8_pay 102 = .ok (.istore_n 3, 1) := by decide +kernel
theorem dX8_pay_103 : decode cX8_pay 103 = .ok (.aload_n 0, 1) := by decide +kernel
theorem dX8_pay_104 : decode cX8_pay 104 = .ok (.iload_n 1, 1) := by decide +kernel
theorem dX8_pay_105 : decode cX8_pay 105 = .ok (.iload_n 2, 1) := by decide +kernel
theorem dX8_pay_106 : decode cX8_pay 106 = .ok (.invokevirtual 97, 3) := by decide +kernel
theorem dX8_pay_109 : decode cX8_pay 109 = .ok (.aload_n 0, 1) := by decide +kernel
theorem dX8_pay_110 : decode cX8_pay 110 = .ok (.iload_n 1, 1) := by decide +kernel
theorem dX8_pay_111 : decode cX8_pay 111 = .ok (.iconst 3, 1) := by decide +kernel
theorem dX8_pay_112 : decode cX8_pay 112 = .ok (.aload_n 0, 1) := by decide +kernel
theorem dX8_pay_113 : decode cX8_pay 113 = .ok (.iload_n 1, 1) := by decide +kernel
theorem dX8_pay_114 : decode cX8_pay 114 = .ok (.iconst 3, 1) := by decide +kernel
theorem dX8_pay_115 : decode cX8_pay 115 = .ok (.invokevirtual 63, 3) := by decide +kernel
theorem dX8_pay_118 : decode cX8_pay 118 = .ok (.iload_n 3, 1) := by decide +kernel
theorem dX8_pay_119 : decode cX8_pay 119 = .ok (.isub, 1) := by decide +kernel
theorem dX8_pay_120 : decode cX8_pay 120 = .ok (.invokevirtual 79, 3) := by decide +kernel
theorem dX8_pay_123 : decode cX8_pay 123 = .ok (.aload_n 0, 1) := by decide +kernel
theorem dX8_pay_124 : decode cX8_pay 124 = .ok (.iload_n 1, 1) := by decide +kernel
theorem dX8_pay_125 : decode cX8_pay 125 = .ok (.iconst 2, 1) := by decide +kernel
theorem dX8_pay_126 : decode cX8_pay 126 = .ok (.aload_n 0, 1) := by decide +kernel
theorem dX8_pay_127 : decode cX8_pay 127 = .ok (.iload_n 1, 1) := by decide +kernel
theorem dX8_pay_128 : decode cX8_pay 128 = .ok (.iconst 2, 1) := by decide +kernel
theorem dX8_pay_129 : decode cX8_pay 129 = .ok (.invokevirtual 63, 3) := by decide +kernel
theorem dX8_pay_132 : decode cX8_pay 132 = .ok (.iload_n 2, 1) := by decide +kernel
theorem dX8_pay_133 : decode cX8_pay 133 = .ok (.iload_n 3, 1) := by decide +kernel
theorem dX8_pay_134 : decode cX8_pay 134 = .ok (.isub, 1) := by decide +kernel
theorem dX8_pay_135 : decode cX8_pay 135 = .ok (.isub, 1) := by decide +kernel
theorem dX8_pay_136 : decode cX8_pay 136 = .ok (.invokevirtual 79, 3) := by decide +kernel
theorem dX8_pay_139 : decode cX8_pay 139 = .ok (.aload_n 0, 1) := by decide +kernel
theorem dX8_pay_140 : decode cX8_pay 140 = .ok (.iload_n 1, 1) := by decide +kernel
theorem dX8_pay_141 : decode cX8_pay 141 = .ok (.invokevirtual 87, 3) := by decide +kernel
theorem dX8_pay_144 : decode cX8_pay 144 = .ok (.ireturn, 1) := by decide +kernel
theorem dX8_renew_0 : decode cX8_renew 0 = .ok (.aload_n 0, 1) := by decide +kernel
theorem dX8_renew_1 : decode cX8_renew 1 = .ok (.aload_n 0, 1) := by decide +kernel
theorem dX8_renew_2 : decode cX8_renew 2 = .ok (.iload_n 1, 1) := by decide +kernel
theorem dX8_renew_3 : decode cX8_renew 3 = .ok (.invokevirtual 94, 3) := by decide +kernel
theorem dX8_renew_6 : decode cX8_renew 6 = .ok (.ifCond .eq 7, 3) := by decide +kernel
theorem dX8_renew_9 : decode cX8_renew 9 = .ok (.iconst 0, 1) := by decide +kernel
theorem dX8_renew_10 : decode cX8_renew 10 = .ok (.goto 4, 3) := by decide +kernel
theorem dX8_renew_13 : decode cX8_renew 13 = .ok (.iconst 1, 1) := by decide +kernel
theorem dX8_renew_14 : decode cX8_renew 14 = .ok (.invokevirtual 67, 3) := by decide +kernel
theorem dX8_renew_17 : decode cX8_renew 17 = .ok (.ifCond .eq 5, 3) := by decide +kernel
theorem dX8_renew_20 : decode cX8_renew 20 = .ok (.iconst 0, 1) := by decide +kernel
theorem dX8_renew_21 : decode cX8_renew 21 = .ok (.ireturn, 1) := by decide +kernel
theorem dX8_renew_22 : decode cX8_renew 22 = .ok (.aload_n 0, 1) := by decide +kernel
theorem dX8_renew_23 : decode cX8_renew 23 = .ok (.iload_n 1, 1) := by decide +kernel
theorem dX8_renew_24 : decode cX8_renew 24 = .ok (.iconst 4, 1) := by decide +kernel
theorem dX8_renew_25 : decode cX8_renew 25 = .ok (.invokevirtual 63, 3) := by decide +kernel
theorem dX8_renew_28 : decode cX8_renew 28 = .ok (.ifCond .eq 16, 3) := by decide +kernel
theorem dX8_renew_31 : decode cX8_renew 31 = .ok (.aload_n 0, 1) := by decide +kernel
theorem dX8_renew_32 : decode cX8_renew 32 = .ok (.iconst 2, 1) := by decide +kernel
theorem dX8_renew_33 : decode cX8_renew 33 = .ok (.iconst 4, 1) := by decide +kernel
theorem dX8_renew_34 : decode cX8_renew 34 = .ok (.aload_n 0, 1) := by decide +kernel
theorem dX8_renew_35 : decode cX8_renew 35 = .ok (.iload_n 1, 1) := by decide +kernel
theorem dX8_renew_36 : decode cX8_renew 36 = .ok (.iconst 4, 1) := by decide +kernel
theorem dX8_renew_37 : decode cX8_renew 37 = .ok (.invokevirtual 63, 3) := by decide +kernel
theorem dX8_renew_40 : decode cX8_renew 40 = .ok (.invokevirtual 71, 3) := by decide +kernel
theorem dX8_renew_43 : decode cX8_renew 43 = .ok (.ireturn, 1) := by decide +kernel
theorem dX8_renew_44 : decode cX8_renew 44 = .ok (.aload_n 0, 1) := by decide +kernel
theorem dX8_renew_45 : decode cX8_renew 45 = .ok (.iload_n 1, 1) := by decide +kernel
theorem dX8_renew_46 : decode cX8_renew 46 = .ok (.iconst 3, 1) := by decide +kernel
theorem dX8_renew_47 : decode cX8_renew 47 = .ok (.invokevirtual 63, 3) := by decide +kernel
theorem dX8_renew_50 : decode cX8_renew 50 = .ok (.ifCond .ne 17, 3) := by decide +kernel
theorem dX8_renew_53 : decode cX8_renew 53 = .ok (.aload_n 0, 1) := by decide +kernel
theorem dX8_renew_54 : decode cX8_renew 54 = .ok (.iconst 2, 1) := by decide +kernel
theorem dX8_renew_55 : decode cX8_renew 55 = .ok (.bipush 6, 2) := by decide +kernel
theorem dX8_renew_57 : decode cX8_renew 57 = .ok (.aload_n 0, 1) := by decide +kernel
theorem dX8_renew_58 : decode cX8_renew 58 = .ok (.iload_n 1, 1) := by decide +kernel
theorem dX8_renew_59 : decode cX8_renew 59 = .ok (.iconst 2, 1) := by decide +kernel
theorem dX8_renew_60 : decode cX8_renew 60 = .ok (.invokevirtual 63, 3) := by decide +kernel
theorem dX8_renew_63 : decode cX8_renew 63 = .ok (.invokevirtual 71, 3) := by decide +kernel
theorem dX8_renew_66 : decode cX8_renew 66 = .ok (.ireturn, 1) := by decide +kernel
theorem dX8_renew_67 : decode cX8_renew 67 = .ok (.aload_n 0, 1) := by decide +kernel
theorem dX8_renew_68 : decode cX8_renew 68 = .ok (.aload_n 0, 1) := by decide +kernel
theorem dX8_renew_69 : decode cX8_renew 69 = .ok (.getfield 7, 3) := by decide +kernel
theorem dX8_renew_72 : decode cX8_renew 72 = .ok (.invokevirtual 75, 3) := by decide +kernel
theorem dX8_renew_75 : decode cX8_renew 75 = .ok (.aload_n 0, 1) := by decide +kernel
theorem dX8_renew_76 : decode cX8_renew 76 = .ok (.iload_n 1, 1) := by decide +kernel
theorem dX8_renew_77 : decode cX8_renew 77 = .ok (.iconst 3, 1) := by decide +kernel
theorem dX8_renew_78 : decode cX8_renew 78 = .ok (.invokevirtual 63, 3) := by decide +kernel
theorem dX8_renew_81 : decode cX8_renew 81 = .ok (.istore_n 2, 1) := by decide +kernel
theorem dX8_renew_82 : decode cX8_renew 82 = .ok (.aload_n 0, 1) := by decide +kernel
theorem dX8_renew_83 : decode cX8_renew 83 = .ok (.iload_n 1, 1) := by decide +kernel
theorem dX8_renew_84 : decode cX8_renew 84 = .ok (.iload_n 2, 1) := by decide +kernel
theorem dX8_renew_85 : decode cX8_renew 85 = .ok (.invokevirtual 97, 3) := by decide +kernel
theorem dX8_renew_88 : decode cX8_renew 88 = .ok (.aload_n 0, 1) := by decide +kernel
theorem dX8_renew_89 : decode cX8_renew 89 = .ok (.iload_n 1, 1) := by decide +kernel
theorem dX8_renew_90 : decode cX8_renew 90 = .ok (.iconst 3, 1) := by decide +kernel
theorem dX8_renew_91 : decode cX8_renew 91 = .ok (.iconst 0, 1) := by decide +kernel
theorem dX8_renew_92 : decode cX8_renew 92 = .ok (.invokevirtual 79, 3) := by decide +kernel
theorem dX8_renew_95 : decode cX8_renew 95 = .ok (.aload_n 0, 1) := by decide +kernel
theorem dX8_renew_96 : decode cX8_renew 96 = .ok (.iload_n 1, 1) := by decide +kernel
theorem dX8_renew_97 : decode cX8_renew 97 = .ok (.iconst 5, 1) := by decide +kernel
theorem dX8_renew_98 : decode cX8_renew 98 = .ok (.aload_n 0, 1) := by decide +kernel
theorem dX8_renew_99 : decode cX8_renew 99 = .ok (.getfield 7, 3) := by decide +kernel
theorem dX8_renew_102 : decode cX8_renew 102 = .ok (.iconst 0, 1) := by decide +kernel
theorem dX8_renew_103 : decode cX8_renew 103 = .ok (.iaload, 1) := by decide +kernel
theorem dX8_renew_104 : decode cX8_renew 104 = .ok (.invokevirtual 79, 3) := by decide +kernel
theorem dX8_renew_107 : decode cX8_renew 107 = .ok (.iload_n 2, 1) := by decide +kernel
theorem dX8_renew_108 : decode cX8_renew 108 = .ok (.ireturn, 1) := by decide +kernel
theorem dX8_pledgeOf_0 : decode cX8_pledgeOf 0 = .ok (.aload_n 0, 1) := by decide +kernel
theorem dX8_pledgeOf_1 : decode cX8_pledgeOf 1 = .ok (.aload_n 0, 1) := by decide +kernel
theorem dX8_pledgeOf_2 : decode cX8_pledgeOf 2 = .ok (.iload_n 1, 1) := by decide +kernel
theorem dX8_pledgeOf_3 : decode cX8_pledgeOf 3 = .ok (.invokevirtual 94, 3) := by decide +kernel
theorem dX8_pledgeOf_6 : decode cX8_pledgeOf 6 = .ok (.ifCond .ne 7, 3) := by decide +kernel
theorem dX8_pledgeOf_9 : decode cX8_pledgeOf 9 = .ok (.iconst 1, 1) := by decide +kernel
theorem dX8_pledgeOf_10 : decode cX8_pledgeOf 10 = .ok (.goto 18, 3) := by decide +kernel
theorem dX8_pledgeOf_13 : decode cX8_pledgeOf 13 = .ok (.iload_n 2, 1) := by decide +kernel
theorem dX8_pledgeOf_14 : decode cX8_pledgeOf 14 = .ok (.iconst 0, 1) := by decide +kernel
theorem dX8_pledgeOf_15 : decode cX8_pledgeOf 15 = .ok (.bipush 8, 2) := by decide +kernel
theorem dX8_pledgeOf_17 : decode cX8_pledgeOf 17 = .ok (.invokestatic 59, 3) := by decide +kernel
theorem dX8_pledgeOf_20 : decode cX8_pledgeOf 20 = .ok (.ifCond .eq 7, 3) := by decide +kernel
theorem dX8_pledgeOf_23 : decode cX8_pledgeOf 23 = .ok (.iconst 0, 1) := by decide +kernel
theorem dX8_pledgeOf_24 : decode cX8_pledgeOf 24 = .ok (.goto 4, 3) := by decide +kernel
theorem dX8_pledgeOf_27 : decode cX8_pledgeOf 27 = .ok (.iconst 2, 1) := by decide +kernel
theorem dX8_pledgeOf_28 : decode cX8_pledgeOf 28 = .ok (.invokevirtual 67, 3) := by decide +kernel
theorem dX8_pledgeOf_31 : decode cX8_pledgeOf 31 = .ok (.ifCond .eq 5, 3) := by decide +kernel
theorem dX8_pledgeOf_34 : decode cX8_pledgeOf 34 = .ok (.iconst 0, 1) := by decide +kernel
theorem dX8_pledgeOf_35 : decode cX8_pledgeOf 35 = .ok (.ireturn, 1) := by decide +kernel
theorem dX8_pledgeOf_36 : decode cX8_pledgeOf 36 = .ok (.iload_n 2, 1) := by decide +kernel
theorem dX8_pledgeOf_37 : decode cX8_pledgeOf 37 = .ok (.bipush 7, 2) := by decide +kernel
theorem dX8_pledgeOf_39 : decode cX8_pledgeOf 39 = .ok (.if_icmp .ne 17, 3) := by decide +kernel
theorem dX8_pledgeOf_42 : decode cX8_pledgeOf 42 = .ok (.aload_n 0, 1) := by decide +kernel
theorem dX8_pledgeOf_43 : decode cX8_pledgeOf 43 = .ok (.iload_n 1, 1) := by decide +kernel
theorem dX8_pledgeOf_44 : decode cX8_pledgeOf 44 = .ok (.iconst 4, 1) := by decide +kernel
theorem dX8_pledgeOf_45 : decode cX8_pledgeOf 45 = .ok (.invokevirtual 63, 3) := by decide +kernel
theorem dX8_pledgeOf_48 : decode cX8_pledgeOf 48 = .ok (.iconst 1, 1) := by decide +kernel
theorem dX8_pledgeOf_49 : decode cX8_pledgeOf 49 = .ok (.if_icmp .eq 7, 3) := by decide +kernel
theorem dX8_pledgeOf_52 : decode cX8_pledgeOf 52 = .ok (.iconst 0, 1) := by decide +kernel
theorem dX8_pledgeOf_53 : decode cX8_pledgeOf 53 = .ok (.goto 9, 3) := by decide +kernel
theorem dX8_pledgeOf_56 : decode cX8_pledgeOf 56 = .ok (.aload_n 0, 1) := by decide +kernel
theorem dX8_pledgeOf_57 : decode cX8_pledgeOf 57 = .ok (.iload_n 1, 1) := by decide +kernel
theorem dX8_pledgeOf_58 : decode cX8_pledgeOf 58 = .ok (.iload_n 2, 1) := by decide +kernel
theorem dX8_pledgeOf_59 : decode cX8_pledgeOf 59 = .ok (.invokevirtual 63, 3) := by decide +kernel
theorem dX8_pledgeOf_62 : decode cX8_pledgeOf 62 = .ok (.ireturn, 1) := by decide +kernel
theorem dX8_sell_0 : decode cX8_sell 0 = .ok (.aload_n 0, 1) := by decide +kernel
theorem dX8_sell_1 : decode cX8_sell 1 = .ok (.aload_n 0, 1) := by decide +kernel
theorem dX8_sell_2 : decode cX8_sell 2 = .ok (.iload_n 1, 1) := by decide +kernel
theorem dX8_sell_3 : decode cX8_sell 3 = .ok (.invokevirtual 94, 3) := by decide +kernel
theorem dX8_sell_6 : decode cX8_sell 6 = .ok (.ifCond .ne 7, 3) := by decide +kernel
theorem dX8_sell_9 : decode cX8_sell 9 = .ok (.iconst 1, 1) := by decide +kernel
theorem dX8_sell_10 : decode cX8_sell 10 = .ok (.goto 19, 3) := by decide +kernel
theorem dX8_sell_13 : decode cX8_sell 13 = .ok (.iload_n 2, 1) := by decide +kernel
theorem dX8_sell_14 : decode cX8_sell 14 = .ok (.iconst 1, 1) := by decide +kernel
theorem dX8_sell_15 : decode cX8_sell 15 = .ok (.sipush 9999, 3) := by decide +kernel
theorem dX8_sell_18 : decode cX8_sell 18 = .ok (.invokestatic 59, 3) := by decide +kernel
theorem dX8_sell_21 : decode cX8_sell 21 = .ok (.ifCond .eq 7, 3) := by decide +kernel
theorem dX8_sell_24 : decode cX8_sell 24 = .ok (.iconst 0, 1) := by decide +kernel
theorem dX8_sell_25 : decode cX8_sell 25 = .ok (.goto 4, 3) := by decide +kernel
theorem dX8_sell_28 : decode cX8_sell 28 = .ok (.iconst 2, 1) := by decide +kernel
theorem dX8_sell_29 : decode cX8_sell 29 = .ok (.invokevirtual 67, 3) := by decide +kernel
theorem dX8_sell_32 : decode cX8_sell 32 = .ok (.ifCond .eq 5, 3) := by decide +kernel
theorem dX8_sell_35 : decode cX8_sell 35 = .ok (.iconst 0, 1) := by decide +kernel
theorem dX8_sell_36 : decode cX8_sell 36 = .ok (.ireturn, 1) := by decide +kernel
theorem dX8_sell_37 : decode cX8_sell 37 = .ok (.aload_n 0, 1) := by decide +kernel
theorem dX8_sell_38 : decode cX8_sell 38 = .ok (.iload_n 1, 1) := by decide +kernel
theorem dX8_sell_39 : decode cX8_sell 39 = .ok (.iconst 4, 1) := by decide +kernel
theorem dX8_sell_40 : decode cX8_sell 40 = .ok (.invokevirtual 63, 3) := by decide +kernel
theorem dX8_sell_43 : decode cX8_sell 43 = .ok (.iconst 1, 1) := by decide +kernel
theorem dX8_sell_44 : decode cX8_sell 44 = .ok (.if_icmp .eq 17, 3) := by decide +kernel
theorem dX8_sell_47 : decode cX8_sell 47 = .ok (.aload_n 0, 1) := by decide +kernel
theorem dX8_sell_48 : decode cX8_sell 48 = .ok (.iconst 3, 1) := by decide +kernel
theorem dX8_sell_49 : decode cX8_sell 49 = .ok (.bipush 7, 2) := by decide +kernel
theorem dX8_sell_51 : decode cX8_sell 51 = .ok (.aload_n 0, 1) := by decide +kernel
theorem dX8_sell_52 : decode cX8_sell 52 = .ok (.iload_n 1, 1) := by decide +kernel
theorem dX8_sell_53 : decode cX8_sell 53 = .ok (.iconst 4, 1) := by decide +kernel
theorem dX8_sell_54 : decode cX8_sell 54 = .ok (.invokevirtual 63, 3) := by decide +kernel
theorem dX8_sell_57 : decode cX8_sell 57 = .ok (.invokevirtual 71, 3) := by decide +kernel
theorem dX8_sell_60 : decode cX8_sell 60 = .ok (.ireturn, 1) := by decide +kernel
theorem dX8_sell_61 : decode cX8_sell 61 = .ok (.iload_n 2, 1) := by decide +kernel
theorem dX8_sell_62 : decode cX8_sell 62 = .ok (.aload_n 0, 1) := by decide +kernel
theorem dX8_sell_63 : decode cX8_sell 63 = .ok (.iload_n 1, 1) := by decide +kernel
theorem dX8_sell_64 : decode cX8_sell 64 = .ok (.bipush 7, 2) := by decide +kernel
theorem dX8_sell_66 : decode cX8_sell 66 = .ok (.invokevirtual 63, 3) := by decide +kernel
theorem dX8_sell_69 : decode cX8_sell 69 = .ok (.if_icmp .ge 18, 3) := by decide +kernel
theorem dX8_sell_72 : decode cX8_sell 72 = .ok (.aload_n 0, 1) := by decide +kernel
theorem dX8_sell_73 : decode cX8_sell 73 = .ok (.iconst 3, 1) := by decide +kernel
theorem dX8_sell_74 : decode cX8_sell 74 = .ok (.bipush 8, 2) := by decide +kernel
theorem dX8_sell_76 : decode cX8_sell 76 = .ok (.aload_n 0, 1) := by decide +kernel
theorem dX8_sell_77 : decode cX8_sell 77 = .ok (.iload_n 1, 1) := by decide +kernel
theorem dX8_sell_78 : decode cX8_sell 78 = .ok (.bipush 7, 2) := by decide +kernel
theorem dX8_sell_80 : decode cX8_sell 80 = .ok (.invokevirtual 63, 3) := by decide +kernel
theorem dX8_sell_83 : decode cX8_sell 83 = .ok (.invokevirtual 71, 3) := by decide +kernel
theorem dX8_sell_86 : decode cX8_sell 86 = .ok (.ireturn, 1) := by decide +kernel
theorem dX8_sell_87 : decode cX8_sell 87 = .ok (.aload_n 0, 1) := by decide +kernel
theorem dX8_sell_88 : decode cX8_sell 88 = .ok (.aload_n 0, 1) := by decide +kernel
theorem dX8_sell_89 : decode cX8_sell 89 = .ok (.getfield 7, 3) := by decide +kernel
theorem dX8_sell_92 : decode cX8_sell 92 = .ok (.invokevirtual 75, 3) := by decide +kernel
theorem dX8_sell_95 : decode cX8_sell 95 = .ok (.iload_n 2, 1) := by decide +kernel
theorem dX8_sell_96 : decode cX8_sell 96 = .ok (.aload_n 0, 1) := by decide +kernel
theorem dX8_sell_97 : decode cX8_sell 97 = .ok (.iload_n 1, 1) := by decide +kernel
theorem dX8_sell_98 : decode cX8_sell 98 = .ok (.bipush 9, 2) := by decide +kernel
theorem dX8_sell_100 : decode cX8_sell 100 = .ok (.invokevirtual 63, 3) := by decide +kernel
theorem dX8_sell_103 : decode cX8_sell 103 = .ok (.isub, 1) := by decide +kernel
theorem dX8_sell_104 : decode cX8_sell 104 = .ok (.istore_n 3, 1) := by decide +kernel
theorem dX8_sell_105 : decode cX8_sell 105 = .ok (.aload_n 0, 1) := by decide +kernel
theorem dX8_sell_106 : decode cX8_sell 106 = .ok (.iload_n 1, 1) := by decide +kernel
theorem dX8_sell_107 : decode cX8_sell 107 = .ok (.iconst 4, 1) := by decide +kernel
theorem dX8_sell_108 : decode cX8_sell 108 = .ok (.iconst 3, 1) := by decide +kernel
theorem dX8_sell_109 : decode cX8_sell 109 = .ok (.invokevirtual 79, 3) := by decide +kernel
theorem dX8_sell_112 : decode cX8_sell 112 = .ok (.aload_n 0, 1) := by decide +kernel
theorem dX8_sell_113 : decode cX8_sell 113 = .ok (.getfield 7, 3) := by decide +kernel
theorem dX8_sell_116 : decode cX8_sell 116 = .ok (.iconst 4, 1) := by decide +kernel
theorem dX8_sell_117 : decode cX8_sell 117 = .ok (.dup2, 1) := by decide +kernel
theorem dX8_sell_118 : decode cX8_sell 118 = .ok (.iaload, 1) := by decide +kernel
theorem dX8_sell_119 : decode cX8_sell 119 = .ok (.iload_n 2, 1) := by decide +kernel
theorem dX8_sell_120 : decode cX8_sell 120 = .ok (.iadd, 1) := by decide +kernel
theorem dX8_sell_121 : decode cX8_sell 121 = .ok (.iastore, 1) := by decide +kernel
theorem dX8_sell_122 : decode cX8_sell 122 = .ok (.aload_n 0, 1) := by decide +kernel
theorem dX8_sell_123 : decode cX8_sell 123 = .ok (.getfield 7, 3) := by decide +kernel
theorem dX8_sell_126 : decode cX8_sell 126 = .ok (.bipush 7, 2) := by decide +kernel
theorem dX8_sell_128 : decode cX8_sell 128 = .ok (.dup2, 1) := by decide +kernel
theorem dX8_sell_129 : decode cX8_sell 129 = .ok (.iaload, 1) := by decide +kernel
theorem dX8_sell_130 : decode cX8_sell 130 = .ok (.iload_n 2, 1) := by decide +kernel
theorem dX8_sell_131 : decode cX8_sell 131 = .ok (.iadd, 1) := by decide +kernel
theorem dX8_sell_132 : decode cX8_sell 132 = .ok (.iastore, 1) := by decide +kernel
theorem dX8_sell_133 : decode cX8_sell 133 = .ok (.iload_n 3, 1) := by decide +kernel
theorem dX8_sell_134 : decode cX8_sell 134 = .ok (.ifCond .ge 14, 3) := by decide +kernel
theorem dX8_sell_137 : decode cX8_sell 137 = .ok (.aload_n 0, 1) := by decide +kernel
theorem dX8_sell_138 : decode cX8_sell 138 = .ok (.getfield 7, 3) := by decide +kernel
theorem dX8_sell_141 : decode cX8_sell 141 = .ok (.bipush 9, 2) := by decide +kernel
theorem dX8_sell_143 : decode cX8_sell 143 = .ok (.dup2, 1) := by decide +kernel
theorem dX8_sell_144 : decode cX8_sell 144 = .ok (.iaload, 1) := by decide +kernel
theorem dX8_sell_145 : decode cX8_sell 145 = .ok (.iload_n 3, 1) := by decide +kernel
theorem dX8_sell_146 : decode cX8_sell 146 = .ok (.isub, 1) := by decide +kernel
theorem dX8_sell_147 : decode cX8_sell 147 = .ok (.iastore, 1) := by decide +kernel
theorem dX8_sell_148 : decode cX8_sell 148 = .ok (.iload_n 3, 1) := by decide +kernel
theorem dX8_sell_149 : decode cX8_sell 149 = .ok (.ifCond .le 7, 3) := by decide +kernel
theorem dX8_sell_152 : decode cX8_sell 152 = .ok (.iload_n 3, 1) := by decide +kernel
theorem dX8_sell_153 : decode cX8_sell 153 = .ok (.goto 4, 3) := by decide +kernel
theorem dX8_sell_156 : decode cX8_sell 156 = .ok (.iconst 0, 1) := by decide +kernel
theorem dX8_sell_157 : decode cX8_sell 157 = .ok (.istore_n 3, 1) := by decide +kernel
theorem dX8_sell_158 : decode cX8_sell 158 = .ok (.aload_n 0, 1) := by decide +kernel
theorem dX8_sell_159 : decode cX8_sell 159 = .ok (.getfield 7, 3) := by decide +kernel
theorem dX8_sell_162 : decode cX8_sell 162 = .ok (.sipush 187, 3) := by decide +kernel
theorem dX8_sell_165 : decode cX8_sell 165 = .ok (.aload_n 0, 1) := by decide +kernel
theorem dX8_sell_166 : decode cX8_sell 166 = .ok (.iload_n 1, 1) := by decide +kernel
theorem dX8_sell_167 : decode cX8_sell 167 = .ok (.iconst 0, 1) := by decide +kernel
theorem dX8_sell_168 : decode cX8_sell 168 = .ok (.invokevirtual 63, 3) := by decide +kernel
theorem dX8_sell_171 : decode cX8_sell 171 = .ok (.iadd, 1) := by decide +kernel
theorem dX8_sell_172 : decode cX8_sell 172 = .ok (.dup2, 1) := by decide +kernel
theorem dX8_sell_173 : decode cX8_sell 173 = .ok (.iaload, 1) := by decide +kernel
theorem dX8_sell_174 : decode cX8_sell 174 = .ok (.iload_n 3, 1) := by decide +kernel
theorem dX8_sell_175 : decode cX8_sell 175 = .ok (.iadd, 1) := by decide +kernel
theorem dX8_sell_176 : decode cX8_sell 176 = .ok (.iastore, 1) := by decide +kernel
theorem dX8_sell_177 : decode cX8_sell 177 = .ok (.iload_n 3, 1) := by decide +kernel
theorem dX8_sell_178 : decode cX8_sell 178 = .ok (.ireturn, 1) := by decide +kernel
theorem dX8_ofOwner_0 : decode cX8_ofOwner 0 = .ok (.iconst 0, 1) := by decide +kernel
theorem dX8_ofOwner_1 : decode cX8_ofOwner 1 = .ok (.istore_n 3, 1) := by decide +kernel
theorem dX8_ofOwner_2 : decode cX8_ofOwner 2 = .ok (.iconst 0, 1) := by decide +kernel
theorem dX8_ofOwner_3 : decode cX8_ofOwner 3 = .ok (.istore 4, 2) := by decide +kernel
theorem dX8_ofOwner_5 : decode cX8_ofOwner 5 = .ok (.iload 4, 2) := by decide +kernel
theorem dX8_ofOwner_7 : decode cX8_ofOwner 7 = .ok (.aload_n 0, 1) := by decide +kernel
theorem dX8_ofOwner_8 : decode cX8_ofOwner 8 = .ok (.getfield 7, 3) := by decide +kernel
theorem dX8_ofOwner_11 : decode cX8_ofOwner 11 = .ok (.iconst 1, 1) := by decide +kernel
theorem dX8_ofOwner_12 : decode cX8_ofOwner 12 = .ok (.iaload, 1) := by decide +kernel
theorem dX8_ofOwner_13 : decode cX8_ofOwner 13 = .ok (.if_icmp .ge 39, 3) := by decide +kernel
theorem dX8_ofOwner_16 : decode cX8_ofOwner 16 = .ok (.iload_n 3, 1) := by decide +kernel
theorem dX8_ofOwner_17 : decode cX8_ofOwner 17 = .ok (.aload_n 0, 1) := by decide +kernel
theorem dX8_ofOwner_18 : decode cX8_ofOwner 18 = .ok (.iload 4, 2) := by decide +kernel
theorem dX8_ofOwner_20 : decode cX8_ofOwner 20 = .ok (.iconst 0, 1) := by decide +kernel
theorem dX8_ofOwner_21 : decode cX8_ofOwner 21 = .ok (.invokevirtual 63, 3) := by decide +kernel
theorem dX8_ofOwner_24 : decode cX8_ofOwner 24 = .ok (.iload_n 1, 1) := by decide +kernel
theorem dX8_ofOwner_25 : decode cX8_ofOwner 25 = .ok (.if_icmp .ne 18, 3) := by decide +kernel
theorem dX8_ofOwner_28 : decode cX8_ofOwner 28 = .ok (.aload_n 0, 1) := by decide +kernel
theorem dX8_ofOwner_29 : decode cX8_ofOwner 29 = .ok (.iload 4, 2) := by decide +kernel
theorem dX8_ofOwner_31 : decode cX8_ofOwner 31 = .ok (.iconst 4, 1) := by decide +kernel
theorem dX8_ofOwner_32 : decode cX8_ofOwner 32 = .ok (.invokevirtual 63, 3) := by decide +kernel
theorem dX8_ofOwner_35 : decode cX8_ofOwner 35 = .ok (.iload_n 2, 1) := by decide +kernel
theorem dX8_ofOwner_36 : decode cX8_ofOwner 36 = .ok (.if_icmp .ne 7, 3) := by decide +kernel
theorem dX8_ofOwner_39 : decode cX8_ofOwner 39 = .ok (.iconst 1, 1) := by decide +kernel
theorem dX8_ofOwner_40 : decode cX8_ofOwner 40 = .ok (.goto 4, 3) := by decide +kernel
theorem dX8_ofOwner_43 : decode cX8_ofOwner 43 = .ok (.iconst 0, 1) := by decide +kernel
theorem dX8_ofOwner_44 : decode cX8_ofOwner 44 = .ok (.iadd, 1) := by decide +kernel
theorem dX8_ofOwner_45 : decode cX8_ofOwner 45 = .ok (.istore_n 3, 1) := by decide +kernel
theorem dX8_ofOwner_46 : decode cX8_ofOwner 46 = .ok (.iinc 4 1, 3) := by decide +kernel
theorem dX8_ofOwner_49 : decode cX8_ofOwner 49 = .ok (.goto (-44), 3) := by decide +kernel
theorem dX8_ofOwner_52 : decode cX8_ofOwner 52 = .ok (.iload_n 3, 1) := by decide +kernel
theorem dX8_ofOwner_53 : decode cX8_ofOwner 53 = .ok (.ireturn, 1) := by decide +kernel
theorem dX8_claim_0 : decode cX8_claim 0 = .ok (.aload_n 0, 1) := by decide +kernel
theorem dX8_claim_1 : decode cX8_claim 1 = .ok (.iload_n 1, 1) := by decide +kernel
theorem dX8_claim_2 : decode cX8_claim 2 = .ok (.iconst 0, 1) := by decide +kernel
theorem dX8_claim_3 : decode cX8_claim 3 = .ok (.iconst 5, 1) := by decide +kernel
theorem dX8_claim_4 : decode cX8_claim 4 = .ok (.invokestatic 59, 3) := by decide +kernel
theorem dX8_claim_7 : decode cX8_claim 7 = .ok (.ifCond .eq 7, 3) := by decide +kernel
theorem dX8_claim_10 : decode cX8_claim 10 = .ok (.iconst 0, 1) := by decide +kernel
theorem dX8_claim_11 : decode cX8_claim 11 = .ok (.goto 4, 3) := by decide +kernel
theorem dX8_claim_14 : decode cX8_claim 14 = .ok (.iconst 1, 1) := by decide +kernel
theorem dX8_claim_15 : decode cX8_claim 15 = .ok (.invokevirtual 67, 3) := by decide +kernel
theorem dX8_claim_18 : decode cX8_claim 18 = .ok (.ifCond .eq 5, 3) := by decide +kernel
theorem dX8_claim_21 : decode cX8_claim 21 = .ok (.iconst 0, 1) := by decide +kernel
theorem dX8_claim_22 : decode cX8_claim 22 = .ok (.ireturn, 1) := by decide +kernel
theorem dX8_claim_23 : decode cX8_claim 23 = .ok (.aload_n 0, 1) := by decide +kernel
theorem dX8_claim_24 : decode cX8_claim 24 = .ok (.getfield 7, 3) := by decide +kernel
theorem dX8_claim_27 : decode cX8_claim 27 = .ok (.sipush 187, 3) := by decide +kernel
theorem dX8_claim_30 : decode cX8_claim 30 = .ok (.iload_n 1, 1) := by decide +kernel
theorem dX8_claim_31 : decode cX8_claim 31 = .ok (.iadd, 1) := by decide +kernel
theorem dX8_claim_32 : decode cX8_claim 32 = .ok (.iaload, 1) := by decide +kernel
theorem dX8_claim_33 : decode cX8_claim 33 = .ok (.istore_n 2, 1) := by decide +kernel
theorem dX8_claim_34 : decode cX8_claim 34 = .ok (.iload_n 2, 1) := by decide +kernel
theorem dX8_claim_35 : decode cX8_claim 35 = .ok (.ifCond .ne 17, 3) := by decide +kernel
theorem dX8_claim_38 : decode cX8_claim 38 = .ok (.aload_n 0, 1) := by decide +kernel
theorem dX8_claim_39 : decode cX8_claim 39 = .ok (.iconst 2, 1) := by decide +kernel
theorem dX8_claim_40 : decode cX8_claim 40 = .ok (.bipush 9, 2) := by decide +kernel
theorem dX8_claim_42 : decode cX8_claim 42 = .ok (.aload_n 0, 1) := by decide +kernel
theorem dX8_claim_43 : decode cX8_claim 43 = .ok (.iload_n 1, 1) := by decide +kernel
theorem dX8_claim_44 : decode cX8_claim 44 = .ok (.iconst 3, 1) := by decide +kernel
theorem dX8_claim_45 : decode cX8_claim 45 = .ok (.invokevirtual 101, 3) := by decide +kernel
theorem dX8_claim_48 : decode cX8_claim 48 = .ok (.invokevirtual 71, 3) := by decide +kernel
theorem dX8_claim_51 : decode cX8_claim 51 = .ok (.ireturn, 1) := by decide +kernel
theorem dX8_claim_52 : decode cX8_claim 52 = .ok (.iload_n 2, 1) := by decide +kernel
theorem dX8_claim_53 : decode cX8_claim 53 = .ok (.aload_n 0, 1) := by decide +kernel
theorem dX8_claim_54 : decode cX8_claim 54 = .ok (.getfield 7, 3) := by decide +kernel
theorem dX8_claim_57 : decode cX8_claim 57 = .ok (.iconst 4, 1) := by decide +kernel
theorem dX8_claim_58 : decode cX8_claim 58 = .ok (.iaload, 1) := by decide +kernel
theorem dX8_claim_59 : decode cX8_claim 59 = .ok (.if_icmp .le 16, 3) := by decide +kernel
theorem dX8_claim_62 : decode cX8_claim 62 = .ok (.aload_n 0, 1) := by decide +kernel
theorem dX8_claim_63 : decode cX8_claim 63 = .ok (.iconst 2, 1) := by decide +kernel
theorem dX8_claim_64 : decode cX8_claim 64 = .ok (.iconst 3, 1) := by decide +kernel
theorem dX8_claim_65 : decode cX8_claim 65 = .ok (.aload_n 0, 1) := by decide +kernel
theorem dX8_claim_66 : decode cX8_claim 66 = .ok (.getfield 7, 3) := by decide +kernel
theorem dX8_claim_69 : decode cX8_claim 69 = .ok (.iconst 4, 1) := by decide +kernel
theorem dX8_claim_70 : decode cX8_claim 70 = .ok (.iaload, 1) := by decide +kernel
theorem dX8_claim_71 : decode cX8_claim 71 = .ok (.invokevirtual 71, 3) := by decide +kernel
theorem dX8_claim_74 : decode cX8_claim 74 = .ok (.ireturn, 1) := by decide +kernel
theorem dX8_claim_75 : decode cX8_claim 75 = .ok (.aload_n 0, 1) := by decide +kernel
theorem dX8_claim_76 : decode cX8_claim 76 = .ok (.aload_n 0, 1) := by decide +kernel
theorem dX8_claim_77 : decode cX8_claim 77 = .ok (.getfield 7, 3) := by decide +kernel
theorem dX8_claim_80 : decode cX8_claim 80 = .ok (.invokevirtual 75, 3) := by decide +kernel
theorem dX8_claim_83 : decode cX8_claim 83 = .ok (.aload_n 0, 1) := by decide +kernel
theorem dX8_claim_84 : decode cX8_claim 84 = .ok (.getfield 7, 3) := by decide +kernel
theorem dX8_claim_87 : decode cX8_claim 87 = .ok (.sipush 187, 3) := by decide +kernel
theorem dX8_claim_90 : decode cX8_claim 90 = .ok (.iload_n 1, 1) := by decide +kernel
theorem dX8_claim_91 : decode cX8_claim 91 = .ok (.iadd, 1) := by decide +kernel
theorem dX8_claim_92 : decode cX8_claim 92 = .ok (.iconst 0, 1) := by decide +kernel
theorem dX8_claim_93 : decode cX8_claim 93 = .ok (.iastore, 1) := by decide +kernel
theorem dX8_claim_94 : decode cX8_claim 94 = .ok (.aload_n 0, 1) := by decide +kernel
theorem dX8_claim_95 : decode cX8_claim 95 = .ok (.getfield 7, 3) := by decide +kernel
theorem dX8_claim_98 : decode cX8_claim 98 = .ok (.sipush 193, 3) := by decide +kernel
theorem dX8_claim_101 : decode cX8_claim 101 = .ok (.iload_n 1, 1) := by decide +kernel
theorem dX8_claim_102 : decode cX8_claim 102 = .ok (.iadd, 1) := by decide +kernel
theorem dX8_claim_103 : decode cX8_claim 103 = .ok (.dup2, 1) := by decide +kernel
theorem dX8_claim_104 : decode cX8_claim 104 = .ok (.iaload, 1) := by decide +kernel
theorem dX8_claim_105 : decode cX8_claim 105 = .ok (.iload_n 2, 1) := by decide +kernel
theorem dX8_claim_106 : decode cX8_claim 106 = .ok (.iadd, 1) := by decide +kernel
theorem dX8_claim_107 : decode cX8_claim 107 = .ok (.iastore, 1) := by decide +kernel
theorem dX8_claim_108 : decode cX8_claim 108 = .ok (.aload_n 0, 1) := by decide +kernel
theorem dX8_claim_109 : decode cX8_claim 109 = .ok (.getfield 7, 3) := by decide +kernel
theorem dX8_claim_112 : decode cX8_claim 112 = .ok (.iconst 4, 1) := by decide +kernel
theorem dX8_claim_113 : decode cX8_claim 113 = .ok (.dup2, 1) := by decide +kernel
theorem dX8_claim_114 : decode cX8_claim 114 = .ok (.iaload, 1) := by decide +kernel
theorem dX8_claim_115 : decode cX8_claim 115 = .ok (.iload_n 2, 1) := by decide +kernel
theorem dX8_claim_116 : decode cX8_claim 116 = .ok (.isub, 1) := by decide +kernel
theorem dX8_claim_117 : decode cX8_claim 117 = .ok (.iastore, 1) := by decide +kernel
theorem dX8_claim_118 : decode cX8_claim 118 = .ok (.aload_n 0, 1) := by decide +kernel
theorem dX8_claim_119 : decode cX8_claim 119 = .ok (.getfield 7, 3) := by decide +kernel
theorem dX8_claim_122 : decode cX8_claim 122 = .ok (.bipush 8, 2) := by decide +kernel
theorem dX8_claim_124 : decode cX8_claim 124 = .ok (.dup2, 1) := by decide +kernel
theorem dX8_claim_125 : decode cX8_claim 125 = .ok (.iaload, 1) := by decide +kernel
theorem dX8_claim_126 : decode cX8_claim 126 = .ok (.iload_n 2, 1) := by decide +kernel
theorem dX8_claim_127 : decode cX8_claim 127 = .ok (.iadd, 1) := by decide +kernel
theorem dX8_claim_128 : decode cX8_claim 128 = .ok (.iastore, 1) := by decide +kernel
theorem dX8_claim_129 : decode cX8_claim 129 = .ok (.iload_n 2, 1) := by decide +kernel
theorem dX8_claim_130 : decode cX8_claim 130 = .ok (.ireturn, 1) := by decide +kernel
theorem dX8_lotAt_0 : decode cX8_lotAt 0 = .ok (.iconst 0, 1) := by decide +kernel
theorem dX8_lotAt_1 : decode cX8_lotAt 1 = .ok (.istore_n 2, 1) := by decide +kernel
theorem dX8_lotAt_2 : decode cX8_lotAt 2 = .ok (.iload_n 2, 1) := by decide +kernel
theorem dX8_lotAt_3 : decode cX8_lotAt 3 = .ok (.aload_n 0, 1) := by decide +kernel
theorem dX8_lotAt_4 : decode cX8_lotAt 4 = .ok (.getfield 7, 3) := by decide +kernel
theorem dX8_lotAt_7 : decode cX8_lotAt 7 = .ok (.iconst 1, 1) := by decide +kernel
theorem dX8_lotAt_8 : decode cX8_lotAt 8 = .ok (.iaload, 1) := by decide +kernel
theorem dX8_lotAt_9 : decode cX8_lotAt 9 = .ok (.if_icmp .ge 96, 3) := by decide +kernel
theorem dX8_lotAt_12 : decode cX8_lotAt 12 = .ok (.aload_n 0, 1) := by decide +kernel
theorem dX8_lotAt_13 : decode cX8_lotAt 13 = .ok (.iload_n 2, 1) := by decide +kernel
theorem dX8_lotAt_14 : decode cX8_lotAt 14 = .ok (.iconst 4, 1) := by decide +kernel
theorem dX8_lotAt_15 : decode cX8_lotAt 15 = .ok (.invokevirtual 63, 3) := by decide +kernel
theorem dX8_lotAt_18 : decode cX8_lotAt 18 = .ok (.iconst 1, 1) := by decide +kernel
theorem dX8_lotAt_19 : decode cX8_lotAt 19 = .ok (.if_icmp .eq 6, 3) := by decide +kernel
theorem dX8_lotAt_22 : decode cX8_lotAt 22 = .ok (.goto 77, 3) := by decide +kernel
theorem dX8_lotAt_25 : decode cX8_lotAt 25 = .ok (.iconst 0, 1) := by decide +kernel
theorem dX8_lotAt_26 : decode cX8_lotAt 26 = .ok (.istore_n 3, 1) := by decide +kernel
theorem dX8_lotAt_27 : decode cX8_lotAt 27 = .ok (.iconst 0, 1) := by decide +kernel
theorem dX8_lotAt_28 : decode cX8_lotAt 28 = .ok (.istore 4, 2) := by decide +kernel
theorem dX8_lotAt_30 : decode cX8_lotAt 30 = .ok (.iload 4, 2) := by decide +kernel
theorem dX8_lotAt_32 : decode cX8_lotAt 32 = .ok (.aload_n 0, 1) := by decide +kernel
theorem dX8_lotAt_33 : decode cX8_lotAt 33 = .ok (.getfield 7, 3) := by decide +kernel
theorem dX8_lotAt_36 : decode cX8_lotAt 36 = .ok (.iconst 1, 1) := by decide +kernel
theorem dX8_lotAt_37 : decode cX8_lotAt 37 = .ok (.iaload, 1) := by decide +kernel
theorem dX8_lotAt_38 : decode cX8_lotAt 38 = .ok (.if_icmp .ge 46, 3) := by decide +kernel
theorem dX8_lotAt_41 : decode cX8_lotAt 41 = .ok (.iload_n 3, 1) := by decide +kernel
theorem dX8_lotAt_42 : decode cX8_lotAt 42 = .ok (.aload_n 0, 1) := by decide +kernel
theorem dX8_lotAt_43 : decode cX8_lotAt 43 = .ok (.iload 4, 2) := by decide +kernel
theorem dX8_lotAt_45 : decode cX8_lotAt 45 = .ok (.iconst 4, 1) := by decide +kernel
theorem dX8_lotAt_46 : decode cX8_lotAt 46 = .ok (.invokevirtual 63, 3) := by decide +kernel
theorem dX8_lotAt_49 : decode cX8_lotAt 49 = .ok (.iconst 1, 1) := by decide +kernel
theorem dX8_lotAt_50 : decode cX8_lotAt 50 = .ok (.if_icmp .ne 25, 3) := by decide +kernel
theorem dX8_lotAt_53 : decode cX8_lotAt 53 = .ok (.aload_n 0, 1) := by decide +kernel
theorem dX8_lotAt_54 : decode cX8_lotAt 54 = .ok (.iload 4, 2) := by decide +kernel
theorem dX8_lotAt_56 : decode cX8_lotAt 56 = .ok (.bipush 10, 2) := by decide +kernel
theorem dX8_lotAt_58 : decode cX8_lotAt 58 = .ok (.invokevirtual 63, 3) := by decide +kernel
theorem dX8_lotAt_61 : decode cX8_lotAt 61 = .ok (.aload_n 0, 1) := by decide +kernel
theorem dX8_lotAt_62 : decode cX8_lotAt 62 = .ok (.iload_n 2, 1) := by decide +kernel
theorem dX8_lotAt_63 : decode cX8_lotAt 63 = .ok (.bipush 10, 2) := by decide +kernel
theorem dX8_lotAt_65 : decode cX8_lotAt 65 = .ok (.invokevirtual 63, 3) := by decide +kernel
theorem dX8_lotAt_68 : decode cX8_lotAt 68 = .ok (.if_icmp .ge 7, 3) := by decide +kernel
theorem dX8_lotAt_71 : decode cX8_lotAt 71 = .ok (.iconst 1, 1) := by decide +kernel
theorem dX8_lotAt_72 : decode cX8_lotAt 72 = .ok (.goto 4, 3) := by decide +kernel
theorem dX8_lotAt_75 : decode cX8_lotAt 75 = .ok (.iconst 0, 1) := by decide +kernel
theorem dX8_lotAt_76 : decode cX8_lotAt 76 = .ok (.iadd, 1) := by decide +kernel
theorem dX8_lotAt_77 : decode cX8_lotAt 77 = .ok (.istore_n 3, 1) := by decide +kernel
theorem dX8_lotAt_78 : decode cX8_lotAt 78 = .ok (.iinc 4 1, 3) := by decide +kernel
theorem dX8_lotAt_81 : decode cX8_lotAt 81 = .ok (.goto (-51), 3) := by decide +kernel
theorem dX8_lotAt_84 : decode cX8_lotAt 84 = .ok (.iload_n 3, 1) := by decide +kernel
theorem dX8_lotAt_85 : decode cX8_lotAt 85 = .ok (.iload_n 1, 1) := by decide +kernel
theorem dX8_lotAt_86 : decode cX8_lotAt 86 = .ok (.if_icmp .eq 6, 3) := by decide +kernel
theorem dX8_lotAt_89 : decode cX8_lotAt 89 = .ok (.goto 10, 3) := by decide +kernel
theorem dX8_lotAt_92 : decode cX8_lotAt 92 = .ok (.aload_n 0, 1) := by decide +kernel
theorem dX8_lotAt_93 : decode cX8_lotAt 93 = .ok (.iconst 0, 1) := by decide +kernel
theorem dX8_lotAt_94 : decode cX8_lotAt 94 = .ok (.putfield 39, 3) := by decide +kernel
theorem dX8_lotAt_97 : decode cX8_lotAt 97 = .ok (.iload_n 2, 1) := by decide +kernel
theorem dX8_lotAt_98 : decode cX8_lotAt 98 = .ok (.ireturn, 1) := by decide +kernel
theorem dX8_lotAt_99 : decode cX8_lotAt 99 = .ok (.iinc 2 1, 3) := by decide +kernel
theorem dX8_lotAt_102 : decode cX8_lotAt 102 = .ok (.goto (-100), 3) := by decide +kernel
theorem dX8_lotAt_105 : decode cX8_lotAt 105 = .ok (.aload_n 0, 1) := by decide +kernel
theorem dX8_lotAt_106 : decode cX8_lotAt 106 = .ok (.iconst 1, 1) := by decide +kernel
theorem dX8_lotAt_107 : decode cX8_lotAt 107 = .ok (.putfield 39, 3) := by decide +kernel
theorem dX8_lotAt_110 : decode cX8_lotAt 110 = .ok (.iconst 0, 1) := by decide +kernel
theorem dX8_lotAt_111 : decode cX8_lotAt 111 = .ok (.ireturn, 1) := by decide +kernel
theorem dX8_ranked_0 : decode cX8_ranked 0 = .ok (.iconst 0, 1) := by decide +kernel
theorem dX8_ranked_1 : decode cX8_ranked 1 = .ok (.istore_n 2, 1) := by decide +kernel
theorem dX8_ranked_2 : decode cX8_ranked 2 = .ok (.iload_n 2, 1) := by decide +kernel
theorem dX8_ranked_3 : decode cX8_ranked 3 = .ok (.aload_n 0, 1) := by decide +kernel
theorem dX8_ranked_4 : decode cX8_ranked 4 = .ok (.getfield 7, 3) := by decide +kernel
theorem dX8_ranked_7 : decode cX8_ranked 7 = .ok (.iconst 1, 1) := by decide +kernel
theorem dX8_ranked_8 : decode cX8_ranked 8 = .ok (.iaload, 1) := by decide +kernel
theorem dX8_ranked_9 : decode cX8_ranked 9 = .ok (.if_icmp .ge 120, 3) := by decide +kernel
theorem dX8_ranked_12 : decode cX8_ranked 12 = .ok (.aload_n 0, 1) := by decide +kernel
theorem dX8_ranked_13 : decode cX8_ranked 13 = .ok (.iload_n 2, 1) := by decide +kernel
theorem dX8_ranked_14 : decode cX8_ranked 14 = .ok (.iconst 4, 1) := by decide +kernel
theorem dX8_ranked_15 : decode cX8_ranked 15 = .ok (.invokevirtual 63, 3) := by decide +kernel
theorem dX8_ranked_18 : decode cX8_ranked 18 = .ok (.iconst 1, 1) := by decide +kernel
theorem dX8_ranked_19 : decode cX8_ranked 19 = .ok (.if_icmp .eq 6, 3) := by decide +kernel
theorem dX8_ranked_22 : decode cX8_ranked 22 = .ok (.goto 101, 3) := by decide +kernel
theorem dX8_ranked_25 : decode cX8_ranked 25 = .ok (.iconst 0, 1) := by decide +kernel
theorem dX8_ranked_26 : decode cX8_ranked 26 = .ok (.istore_n 3, 1) := by decide +kernel
theorem dX8_ranked_27 : decode cX8_ranked 27 = .ok (.iconst 0, 1) := by decide +kernel
theorem dX8_ranked_28 : decode cX8_ranked 28 = .ok (.istore 4, 2) := by decide +kernel
theorem dX8_ranked_30 : decode cX8_ranked 30 = .ok (.iload 4, 2) := by decide +kernel
theorem dX8_ranked_32 : decode cX8_ranked 32 = .ok (.aload_n 0, 1) := by decide +kernel
theorem dX8_ranked_33 : decode cX8_ranked 33 = .ok (.getfield 7, 3) := by decide +kernel
theorem dX8_ranked_36 : decode cX8_ranked 36 = .ok (.iconst 1, 1) := by decide +kernel
theorem dX8_ranked_37 : decode cX8_ranked 37 = .ok (.iaload, 1) := by decide +kernel
theorem dX8_ranked_38 : decode cX8_ranked 38 = .ok (.if_icmp .ge 70, 3) := by decide +kernel
theorem dX8_ranked_41 : decode cX8_ranked 41 = .ok (.iload_n 3, 1) := by decide +kernel
theorem dX8_ranked_42 : decode cX8_ranked 42 = .ok (.aload_n 0, 1) := by decide +kernel
theorem dX8_ranked_43 : decode cX8_ranked 43 = .ok (.iload 4, 2) := by decide +kernel
theorem dX8_ranked_45 : decode cX8_ranked 45 = .ok (.iconst 4, 1) := by decide +kernel
theorem dX8_ranked_46 : decode cX8_ranked 46 = .ok (.invokevirtual 63, 3) := by decide +kernel
theorem dX8_ranked_49 : decode cX8_ranked 49 = .ok (.iconst 1, 1) := by decide +kernel
theorem dX8_ranked_50 : decode cX8_ranked 50 = .ok (.if_icmp .ne 49, 3) := by decide +kernel
theorem dX8_ranked_53 : decode cX8_ranked 53 = .ok (.aload_n 0, 1) := by decide +kernel
theorem dX8_ranked_54 : decode cX8_ranked 54 = .ok (.iload 4, 2) := by decide +kernel
theorem dX8_ranked_56 : decode cX8_ranked 56 = .ok (.bipush 7, 2) := by decide +kernel
theorem dX8_ranked_58 : decode cX8_ranked 58 = .ok (.invokevirtual 63, 3) := by decide +kernel
theorem dX8_ranked_61 : decode cX8_ranked 61 = .ok (.aload_n 0, 1) := by decide +kernel
theorem dX8_ranked_62 : decode cX8_ranked 62 = .ok (.iload_n 2, 1) := by decide +kernel
theorem dX8_ranked_63 : decode cX8_ranked 63 = .ok (.bipush 7, 2) := by decide +kernel
theorem dX8_ranked_65 : decode cX8_ranked 65 = .ok (.invokevirtual 63, 3) := by decide +kernel
theorem dX8_ranked_68 : decode cX8_ranked 68 = .ok (.if_icmp .gt 27, 3) := by decide +kernel
theorem dX8_ranked_71 : decode cX8_ranked 71 = .ok (.aload_n 0, 1) := by decide +kernel
theorem dX8_ranked_72 : decode cX8_ranked 72 = .ok (.iload 4, 2) := by decide +kernel
theorem dX8_ranked_74 : decode cX8_ranked 74 = .ok (.bipush 7, 2) := by decide +kernel
theorem dX8_ranked_76 : decode cX8_ranked 76 = .ok (.invokevirtual 63, 3) := by decide +kernel
theorem dX8_ranked_79 : decode cX8_ranked 79 = .ok (.aload_n 0, 1) := by decide +kernel
theorem dX8_ranked_80 : decode cX8_ranked 80 = .ok (.iload_n 2, 1) := by decide +kernel
theorem dX8_ranked_81 : decode cX8_ranked 81 = .ok (.bipush 7, 2) := by decide +kernel
theorem dX8_ranked_83 : decode cX8_ranked 83 = .ok (.invokevirtual 63, 3) := by decide +kernel
theorem dX8_ranked_86 : decode cX8_ranked 86 = .ok (.if_icmp .ne 13, 3) := by decide +kernel
theorem dX8_ranked_89 : decode cX8_ranked 89 = .ok (.iload 4, 2) := by decide +kernel
theorem dX8_ranked_91 : decode cX8_ranked 91 = .ok (.iload_n 2, 1) := by decide +kernel
theorem dX8_ranked_92 : decode cX8_ranked 92 = .ok (.if_icmp .ge 7, 3) := by decide +kernel
theorem dX8_ranked_95 : decode cX8_ranked 95 = .ok (.iconst 1, 1) := by decide +kernel
theorem dX8_ranked_96 : decode cX8_ranked 96 = .ok (.goto 4, 3) := by decide +kernel
theorem dX8_ranked_99 : decode cX8_ranked 99 = .ok (.iconst 0, 1) := by decide +kernel
theorem dX8_ranked_100 : decode cX8_ranked 100 = .ok (.iadd, 1) := by decide +kernel
theorem dX8_ranked_101 : decode cX8_ranked 101 = .ok (.istore_n 3, 1) := by decide +kernel
theorem dX8_ranked_102 : decode cX8_ranked 102 = .ok (.iinc 4 1, 3) := by decide +kernel
theorem dX8_ranked_105 : decode cX8_ranked 105 = .ok (.goto (-75), 3) := by decide +kernel
theorem dX8_ranked_108 : decode cX8_ranked 108 = .ok (.iload_n 3, 1) := by decide +kernel
theorem dX8_ranked_109 : decode cX8_ranked 109 = .ok (.iload_n 1, 1) := by decide +kernel
theorem dX8_ranked_110 : decode cX8_ranked 110 = .ok (.if_icmp .eq 6, 3) := by decide +kernel
theorem dX8_ranked_113 : decode cX8_ranked 113 = .ok (.goto 10, 3) := by decide +kernel
theorem dX8_ranked_116 : decode cX8_ranked 116 = .ok (.aload_n 0, 1) := by decide +kernel
theorem dX8_ranked_117 : decode cX8_ranked 117 = .ok (.iconst 0, 1) := by decide +kernel
theorem dX8_ranked_118 : decode cX8_ranked 118 = .ok (.putfield 39, 3) := by decide +kernel
theorem dX8_ranked_121 : decode cX8_ranked 121 = .ok (.iload_n 2, 1) := by decide +kernel
theorem dX8_ranked_122 : decode cX8_ranked 122 = .ok (.ireturn, 1) := by decide +kernel
theorem dX8_ranked_123 : decode cX8_ranked 123 = .ok (.iinc 2 1, 3) := by decide +kernel
theorem dX8_ranked_126 : decode cX8_ranked 126 = .ok (.goto (-124), 3) := by decide +kernel
theorem dX8_ranked_129 : decode cX8_ranked 129 = .ok (.aload_n 0, 1) := by decide +kernel
theorem dX8_ranked_130 : decode cX8_ranked 130 = .ok (.iconst 1, 1) := by decide +kernel
theorem dX8_ranked_131 : decode cX8_ranked 131 = .ok (.putfield 39, 3) := by decide +kernel
theorem dX8_ranked_134 : decode cX8_ranked 134 = .ok (.iconst 0, 1) := by decide +kernel
theorem dX8_ranked_135 : decode cX8_ranked 135 = .ok (.ireturn, 1) := by decide +kernel
theorem dX8_isOver_0 : decode cX8_isOver 0 = .ok (.aload_n 0, 1) := by decide +kernel
theorem dX8_isOver_1 : decode cX8_isOver 1 = .ok (.getfield 7, 3) := by decide +kernel
theorem dX8_isOver_4 : decode cX8_isOver 4 = .ok (.iconst 0, 1) := by decide +kernel
theorem dX8_isOver_5 : decode cX8_isOver 5 = .ok (.iaload, 1) := by decide +kernel
theorem dX8_isOver_6 : decode cX8_isOver 6 = .ok (.iload_n 2, 1) := by decide +kernel
theorem dX8_isOver_7 : decode cX8_isOver 7 = .ok (.iadd, 1) := by decide +kernel
theorem dX8_isOver_8 : decode cX8_isOver 8 = .ok (.aload_n 0, 1) := by decide +kernel
theorem dX8_isOver_9 : decode cX8_isOver 9 = .ok (.iload_n 1, 1) := by decide +kernel
theorem dX8_isOver_10 : decode cX8_isOver 10 = .ok (.iconst 5, 1) := by decide +kernel
theorem dX8_isOver_11 : decode cX8_isOver 11 = .ok (.invokevirtual 63, 3) := by decide +kernel
theorem dX8_isOver_14 : decode cX8_isOver 14 = .ok (.isub, 1) := by decide +kernel
theorem dX8_isOver_15 : decode cX8_isOver 15 = .ok (.bipush 9, 2) := by decide +kernel
theorem dX8_isOver_17 : decode cX8_isOver 17 = .ok (.if_icmp .lt 7, 3) := by decide +kernel
theorem dX8_isOver_20 : decode cX8_isOver 20 = .ok (.iconst 1, 1) := by decide +kernel
theorem dX8_isOver_21 : decode cX8_isOver 21 = .ok (.goto 4, 3) := by decide +kernel
theorem dX8_isOver_24 : decode cX8_isOver 24 = .ok (.iconst 0, 1) := by decide +kernel
theorem dX8_isOver_25 : decode cX8_isOver 25 = .ok (.ireturn, 1) := by decide +kernel
theorem dX8_isNoQuote_0 : decode cX8_isNoQuote 0 = .ok (.aload_n 0, 1) := by decide +kernel
theorem dX8_isNoQuote_1 : decode cX8_isNoQuote 1 = .ok (.aload_n 0, 1) := by decide +kernel
theorem dX8_isNoQuote_2 : decode cX8_isNoQuote 2 = .ok (.iload_n 1, 1) := by decide +kernel
theorem dX8_isNoQuote_3 : decode cX8_isNoQuote 3 = .ok (.invokevirtual 94, 3) := by decide +kernel
theorem dX8_isNoQuote_6 : decode cX8_isNoQuote 6 = .ok (.ifCond .ne 7, 3) := by decide +kernel
theorem dX8_isNoQuote_9 : decode cX8_isNoQuote 9 = .ok (.iconst 1, 1) := by decide +kernel
theorem dX8_isNoQuote_10 : decode cX8_isNoQuote 10 = .ok (.goto 44, 3) := by decide +kernel
theorem dX8_isNoQuote_13 : decode cX8_isNoQuote 13 = .ok (.iload_n 2, 1) := by decide +kernel
theorem dX8_isNoQuote_14 : decode cX8_isNoQuote 14 = .ok (.iconst 0, 1) := by decide +kernel
theorem dX8_isNoQuote_15 : decode cX8_isNoQuote 15 = .ok (.bipush 20, 2) := by decide +kernel
theorem dX8_isNoQuote_17 : decode cX8_isNoQuote 17 = .ok (.invokestatic 59, 3) := by decide +kernel
theorem dX8_isNoQuote_20 : decode cX8_isNoQuote 20 = .ok (.ifCond .ne 7, 3) := by decide +kernel
theorem dX8_isNoQuote_23 : decode cX8_isNoQuote 23 = .ok (.iconst 2, 1) := by decide +kernel
theorem dX8_isNoQuote_24 : decode cX8_isNoQuote 24 = .ok (.goto 30, 3) := by decide +kernel
theorem dX8_isNoQuote_27 : decode cX8_isNoQuote 27 = .ok (.aload_n 0, 1) := by decide +kernel
theorem dX8_isNoQuote_28 : decode cX8_isNoQuote 28 = .ok (.iload_n 1, 1) := by decide +kernel
theorem dX8_isNoQuote_29 : decode cX8_isNoQuote 29 = .ok (.iconst 4, 1) := by decide +kernel
theorem dX8_isNoQuote_30 : decode cX8_isNoQuote 30 = .ok (.invokevirtual 63, 3) := by decide +kernel
theorem dX8_isNoQuote_33 : decode cX8_isNoQuote 33 = .ok (.ifCond .ne 16, 3) := by decide +kernel
theorem dX8_isNoQuote_36 : decode cX8_isNoQuote 36 = .ok (.iload_n 2, 1) := by decide +kernel
theorem dX8_isNoQuote_37 : decode cX8_isNoQuote 37 = .ok (.ifCond .le 16, 3) := by decide +kernel
theorem dX8_isNoQuote_40 : decode cX8_isNoQuote 40 = .ok (.aload_n 0, 1) := by decide +kernel
theorem dX8_isNoQuote_41 : decode cX8_isNoQuote 41 = .ok (.iload_n 1, 1) := by decide +kernel
theorem dX8_isNoQuote_42 : decode cX8_isNoQuote 42 = .ok (.iload_n 2, 1) := by decide +kernel
theorem dX8_isNoQuote_43 : decode cX8_isNoQuote 43 = .ok (.invokevirtual 104, 3) := by decide +kernel
theorem dX8_isNoQuote_46 : decode cX8_isNoQuote 46 = .ok (.ifCond .eq 7, 3) := by decide +kernel
theorem dX8_isNoQuote_49 : decode cX8_isNoQuote 49 = .ok (.iconst 3, 1) := by decide +kernel
theorem dX8_isNoQuote_50 : decode cX8_isNoQuote 50 = .ok (.goto 4, 3) := by decide +kernel
theorem dX8_isNoQuote_53 : decode cX8_isNoQuote 53 = .ok (.iconst 0, 1) := by decide +kernel
theorem dX8_isNoQuote_54 : decode cX8_isNoQuote 54 = .ok (.invokevirtual 67, 3) := by decide +kernel
theorem dX8_isNoQuote_57 : decode cX8_isNoQuote 57 = .ok (.ireturn, 1) := by decide +kernel
theorem dX8_quote_0 : decode cX8_quote 0 = .ok (.aload_n 0, 1) := by decide +kernel
theorem dX8_quote_1 : decode cX8_quote 1 = .ok (.iload_n 1, 1) := by decide +kernel
theorem dX8_quote_2 : decode cX8_quote 2 = .ok (.iload_n 2, 1) := by decide +kernel
theorem dX8_quote_3 : decode cX8_quote 3 = .ok (.invokevirtual 108, 3) := by decide +kernel
theorem dX8_quote_6 : decode cX8_quote 6 = .ok (.ifCond .eq 7, 3) := by decide +kernel
theorem dX8_quote_9 : decode cX8_quote 9 = .ok (.iconst 0, 1) := by decide +kernel
theorem dX8_quote_10 : decode cX8_quote 10 = .ok (.goto 16, 3) := by decide +kernel
theorem dX8_quote_13 : decode cX8_quote 13 = .ok (.aload_n 0, 1) := by decide +kernel
theorem dX8_quote_14 : decode cX8_quote 14 = .ok (.iload_n 1, 1) := by decide +kernel
theorem dX8_quote_15 : decode cX8_quote 15 = .ok (.invokevirtual 87, 3) := by decide +kernel
theorem dX8_quote_18 : decode cX8_quote 18 = .ok (.iload_n 2, 1) := by decide +kernel
theorem dX8_quote_19 : decode cX8_quote 19 = .ok (.aload_n 0, 1) := by decide +kernel
theorem dX8_quote_20 : decode cX8_quote 20 = .ok (.iload_n 1, 1) := by decide +kernel
theorem dX8_quote_21 : decode cX8_quote 21 = .ok (.invokevirtual 83, 3) := by decide +kernel
theorem dX8_quote_24 : decode cX8_quote 24 = .ok (.imul, 1) := by decide +kernel
theorem dX8_quote_25 : decode cX8_quote 25 = .ok (.iadd, 1) := by decide +kernel
theorem dX8_quote_26 : decode cX8_quote 26 = .ok (.ireturn, 1) := by decide +kernel
theorem dX8_quoteAgain_0 : decode cX8_quoteAgain 0 = .ok (.aload_n 0, 1) := by decide +kernel
theorem dX8_quoteAgain_1 : decode cX8_quoteAgain 1 = .ok (.iload_n 1, 1) := by decide +kernel
theorem dX8_quoteAgain_2 : decode cX8_quoteAgain 2 = .ok (.iload_n 2, 1) := by decide +kernel
theorem dX8_quoteAgain_3 : decode cX8_quoteAgain 3 = .ok (.invokevirtual 108, 3) := by decide +kernel
theorem dX8_quoteAgain_6 : decode cX8_quoteAgain 6 = .ok (.ifCond .eq 5, 3) := by decide +kernel
theorem dX8_quoteAgain_9 : decode cX8_quoteAgain 9 = .ok (.iconst 0, 1) := by decide +kernel
theorem dX8_quoteAgain_10 : decode cX8_quoteAgain 10 = .ok (.ireturn, 1) := by decide +kernel
theorem dX8_quoteAgain_11 : decode cX8_quoteAgain 11 = .ok (.aload_n 0, 1) := by decide +kernel
theorem dX8_quoteAgain_12 : decode cX8_quoteAgain 12 = .ok (.iload_n 1, 1) := by decide +kernel
theorem dX8_quoteAgain_13 : decode cX8_quoteAgain 13 = .ok (.invokevirtual 87, 3) := by decide +kernel
theorem dX8_quoteAgain_16 : decode cX8_quoteAgain 16 = .ok (.istore_n 3, 1) := by decide +kernel
theorem dX8_quoteAgain_17 : decode cX8_quoteAgain 17 = .ok (.iconst 0, 1) := by decide +kernel
theorem dX8_quoteAgain_18 : decode cX8_quoteAgain 18 = .ok (.istore 4, 2) := by decide +kernel
theorem dX8_quoteAgain_20 : decode cX8_quoteAgain 20 = .ok (.iload 4, 2) := by decide +kernel
theorem dX8_quoteAgain_22 : decode cX8_quoteAgain 22 = .ok (.iload_n 2, 1) := by decide +kernel
theorem dX8_quoteAgain_23 : decode cX8_quoteAgain 23 = .ok (.if_icmp .ge 17, 3) := by decide +kernel
theorem dX8_quoteAgain_26 : decode cX8_quoteAgain 26 = .ok (.iload_n 3, 1) := by decide +kernel
theorem dX8_quoteAgain_27 : decode cX8_quoteAgain 27 = .ok (.aload_n 0, 1) := by decide +kernel
theorem dX8_quoteAgain_28 : decode cX8_quoteAgain 28 = .ok (.iload_n 1, 1) := by decide +kernel
theorem dX8_quoteAgain_29 : decode cX8_quoteAgain 29 = .ok (.invokevirtual 83, 3) := by decide +kernel
theorem dX8_quoteAgain_32 : decode cX8_quoteAgain 32 = .ok (.iadd, 1) := by decide +kernel
theorem dX8_quoteAgain_33 : decode cX8_quoteAgain 33 = .ok (.istore_n 3, 1) := by decide +kernel
theorem dX8_quoteAgain_34 : decode cX8_quoteAgain 34 = .ok (.iinc 4 1, 3) := by decide +kernel
theorem dX8_quoteAgain_37 : decode cX8_quoteAgain 37 = .ok (.goto (-17), 3) := by decide +kernel
theorem dX8_quoteAgain_40 : decode cX8_quoteAgain 40 = .ok (.iload_n 3, 1) := by decide +kernel
theorem dX8_quoteAgain_41 : decode cX8_quoteAgain 41 = .ok (.ireturn, 1) := by decide +kernel
theorem dX8_lotsIn_0 : decode cX8_lotsIn 0 = .ok (.iconst 0, 1) := by decide +kernel
theorem dX8_lotsIn_1 : decode cX8_lotsIn 1 = .ok (.istore_n 2, 1) := by decide +kernel
theorem dX8_lotsIn_2 : decode cX8_lotsIn 2 = .ok (.iconst 0, 1) := by decide +kernel
theorem dX8_lotsIn_3 : decode cX8_lotsIn 3 = .ok (.istore_n 3, 1) := by decide +kernel
theorem dX8_lotsIn_4 : decode cX8_lotsIn 4 = .ok (.iload_n 3, 1) := by decide +kernel
theorem dX8_lotsIn_5 : decode cX8_lotsIn 5 = .ok (.aload_n 0, 1) := by decide +kernel
theorem dX8_lotsIn_6 : decode cX8_lotsIn 6 = .ok (.getfield 7, 3) := by decide +kernel
theorem dX8_lotsIn_9 : decode cX8_lotsIn 9 = .ok (.iconst 1, 1) := by decide +kernel
theorem dX8_lotsIn_10 : decode cX8_lotsIn 10 = .ok (.iaload, 1) := by decide +kernel
theorem dX8_lotsIn_11 : decode cX8_lotsIn 11 = .ok (.if_icmp .ge 35, 3) := by decide +kernel
theorem dX8_lotsIn_14 : decode cX8_lotsIn 14 = .ok (.iload_n 2, 1) := by decide +kernel
theorem dX8_lotsIn_15 : decode cX8_lotsIn 15 = .ok (.aload_n 0, 1) := by decide +kernel
theorem dX8_lotsIn_16 : decode cX8_lotsIn 16 = .ok (.iload_n 3, 1) := by decide +kernel
theorem dX8_lotsIn_17 : decode cX8_lotsIn 17 = .ok (.iconst 4, 1) := by decide +kernel
theorem dX8_lotsIn_18 : decode cX8_lotsIn 18 = .ok (.invokevirtual 63, 3) := by decide +kernel
theorem dX8_lotsIn_21 : decode cX8_lotsIn 21 = .ok (.ifCond .ne 16, 3) := by decide +kernel
theorem dX8_lotsIn_24 : decode cX8_lotsIn 24 = .ok (.aload_n 0, 1) := by decide +kernel
theorem dX8_lotsIn_25 : decode cX8_lotsIn 25 = .ok (.iload_n 3, 1) := by decide +kernel
theorem dX8_lotsIn_26 : decode cX8_lotsIn 26 = .ok (.iload_n 1, 1) := by decide +kernel
theorem dX8_lotsIn_27 : decode cX8_lotsIn 27 = .ok (.invokevirtual 104, 3) := by decide +kernel
theorem dX8_lotsIn_30 : decode cX8_lotsIn 30 = .ok (.ifCond .eq 7, 3) := by decide +kernel
theorem dX8_lotsIn_33 : decode cX8_lotsIn 33 = .ok (.iconst 1, 1) := by decide +kernel
theorem dX8_lotsIn_34 : decode cX8_lotsIn 34 = .ok (.goto 4, 3) := by decide +kernel
theorem dX8_lotsIn_37 : decode cX8_lotsIn 37 = .ok (.iconst 0, 1) := by decide +kernel
theorem dX8_lotsIn_38 : decode cX8_lotsIn 38 = .ok (.iadd, 1) := by decide +kernel
theorem dX8_lotsIn_39 : decode cX8_lotsIn 39 = .ok (.istore_n 2, 1) := by decide +kernel
theorem dX8_lotsIn_40 : decode cX8_lotsIn 40 = .ok (.iinc 3 1, 3) := by decide +kernel
theorem dX8_lotsIn_43 : decode cX8_lotsIn 43 = .ok (.goto (-39), 3) := by decide +kernel
theorem dX8_lotsIn_46 : decode cX8_lotsIn 46 = .ok (.iload_n 2, 1) := by decide +kernel
theorem dX8_lotsIn_47 : decode cX8_lotsIn 47 = .ok (.ireturn, 1) := by decide +kernel
theorem dX8_willBeLots_0 : decode cX8_willBeLots 0 = .ok (.aload_n 0, 1) := by decide +kernel
theorem dX8_willBeLots_1 : decode cX8_willBeLots 1 = .ok (.iload_n 1, 1) := by decide +kernel
theorem dX8_willBeLots_2 : decode cX8_willBeLots 2 = .ok (.iconst 0, 1) := by decide +kernel
theorem dX8_willBeLots_3 : decode cX8_willBeLots 3 = .ok (.bipush 20, 2) := by decide +kernel
theorem dX8_willBeLots_5 : decode cX8_willBeLots 5 = .ok (.invokestatic 59, 3) := by decide +kernel
theorem dX8_willBeLots_8 : decode cX8_willBeLots 8 = .ok (.ifCond .eq 7, 3) := by decide +kernel
theorem dX8_willBeLots_11 : decode cX8_willBeLots 11 = .ok (.iconst 0, 1) := by decide +kernel
theorem dX8_willBeLots_12 : decode cX8_willBeLots 12 = .ok (.goto 4, 3) := by decide +kernel
theorem dX8_willBeLots_15 : decode cX8_willBeLots 15 = .ok (.iconst 1, 1) := by decide +kernel
theorem dX8_willBeLots_16 : decode cX8_willBeLots 16 = .ok (.invokevirtual 67, 3) := by decide +kernel
theorem dX8_willBeLots_19 : decode cX8_willBeLots 19 = .ok (.ifCond .eq 7, 3) := by decide +kernel
theorem dX8_willBeLots_22 : decode cX8_willBeLots 22 = .ok (.iconst 0, 1) := by decide +kernel
theorem dX8_willBeLots_23 : decode cX8_willBeLots 23 = .ok (.goto 8, 3) := by decide +kernel
theorem dX8_willBeLots_26 : decode cX8_willBeLots 26 = .ok (.aload_n 0, 1) := by decide +kernel
theorem dX8_willBeLots_27 : decode cX8_willBeLots 27 = .ok (.iload_n 1, 1) := by decide +kernel
theorem dX8_willBeLots_28 : decode cX8_willBeLots 28 = .ok (.invokevirtual 111, 3) := by decide +kernel
theorem dX8_willBeLots_31 : decode cX8_willBeLots 31 = .ok (.ireturn, 1) := by decide +kernel
theorem dX8_willBeLotsAgain_0 : decode cX8_willBeLotsAgain 0 = .ok (.aload_n 0, 1) := by decide +kernel
theorem dX8_willBeLotsAgain_1 : decode cX8_willBeLotsAgain 1 = .ok (.iload_n 1, 1) := by decide +kernel
theorem dX8_willBeLotsAgain_2 : decode cX8_willBeLotsAgain 2 = .ok (.iconst 0, 1) := by decide +kernel
theorem dX8_willBeLotsAgain_3 : decode cX8_willBeLotsAgain 3 = .ok (.bipush 20, 2) := by decide +kernel
theorem dX8_willBeLotsAgain_5 : decode cX8_willBeLotsAgain 5 = .ok (.invokestatic 59, 3) := by decide +kernel
theorem dX8_willBeLotsAgain_8 : decode cX8_willBeLotsAgain 8 = .ok (.ifCond .eq 7, 3) := by decide +kernel
theorem dX8_willBeLotsAgain_11 : decode cX8_willBeLotsAgain 11 = .ok (.iconst 0, 1) := by decide +kernel
theorem dX8_willBeLotsAgain_12 : decode cX8_willBeLotsAgain 12 = .ok (.goto 4, 3) := by decide +kernel
theorem dX8_willBeLotsAgain_15 : decode cX8_willBeLotsAgain 15 = .ok (.iconst 1, 1) := by decide +kernel
theorem dX8_willBeLotsAgain_16 : decode cX8_willBeLotsAgain 16 = .ok (.invokevirtual 67, 3) := by decide +kernel
theorem dX8_willBeLotsAgain_19 : decode cX8_willBeLotsAgain 19 = .ok (.ifCond .eq 7, 3) := by decide +kernel
theorem dX8_willBeLotsAgain_22 : decode cX8_willBeLotsAgain 22 = .ok (.iconst 0, 1) := by decide +kernel
theorem dX8_willBeLotsAgain_23 : decode cX8_willBeLotsAgain 23 = .ok (.goto 8, 3) := by decide +kernel
theorem dX8_willBeLotsAgain_26 : decode cX8_willBeLotsAgain 26 = .ok (.aload_n 0, 1) := by decide +kernel
theorem dX8_willBeLotsAgain_27 : decode cX8_willBeLotsAgain 27 = .ok (.iload_n 1, 1) := by decide +kernel
theorem dX8_willBeLotsAgain_28 : decode cX8_willBeLotsAgain 28 = .ok (.invokevirtual 111, 3) := by decide +kernel
theorem dX8_willBeLotsAgain_31 : decode cX8_willBeLotsAgain 31 = .ok (.ireturn, 1) := by decide +kernel
theorem dX8_willReserve_0 : decode cX8_willReserve 0 = .ok (.aload_n 0, 1) := by decide +kernel
theorem dX8_willReserve_1 : decode cX8_willReserve 1 = .ok (.aload_n 0, 1) := by decide +kernel
theorem dX8_willReserve_2 : decode cX8_willReserve 2 = .ok (.iload_n 1, 1) := by decide +kernel
theorem dX8_willReserve_3 : decode cX8_willReserve 3 = .ok (.invokevirtual 94, 3) := by decide +kernel
theorem dX8_willReserve_6 : decode cX8_willReserve 6 = .ok (.ifCond .ne 7, 3) := by decide +kernel
theorem dX8_willReserve_9 : decode cX8_willReserve 9 = .ok (.iconst 1, 1) := by decide +kernel
theorem dX8_willReserve_10 : decode cX8_willReserve 10 = .ok (.goto 32, 3) := by decide +kernel
theorem dX8_willReserve_13 : decode cX8_willReserve 13 = .ok (.iload_n 2, 1) := by decide +kernel
theorem dX8_willReserve_14 : decode cX8_willReserve 14 = .ok (.iconst 0, 1) := by decide +kernel
theorem dX8_willReserve_15 : decode cX8_willReserve 15 = .ok (.bipush 20, 2) := by decide +kernel
theorem dX8_willReserve_17 : decode cX8_willReserve 17 = .ok (.invokestatic 59, 3) := by decide +kernel
theorem dX8_willReserve_20 : decode cX8_willReserve 20 = .ok (.ifCond .ne 7, 3) := by decide +kernel
theorem dX8_willReserve_23 : decode cX8_willReserve 23 = .ok (.iconst 2, 1) := by decide +kernel
theorem dX8_willReserve_24 : decode cX8_willReserve 24 = .ok (.goto 18, 3) := by decide +kernel
theorem dX8_willReserve_27 : decode cX8_willReserve 27 = .ok (.aload_n 0, 1) := by decide +kernel
theorem dX8_willReserve_28 : decode cX8_willReserve 28 = .ok (.iload_n 1, 1) := by decide +kernel
theorem dX8_willReserve_29 : decode cX8_willReserve 29 = .ok (.iconst 4, 1) := by decide +kernel
theorem dX8_willReserve_30 : decode cX8_willReserve 30 = .ok (.invokevirtual 63, 3) := by decide +kernel
theorem dX8_willReserve_33 : decode cX8_willReserve 33 = .ok (.iconst 1, 1) := by decide +kernel
theorem dX8_willReserve_34 : decode cX8_willReserve 34 = .ok (.if_icmp .eq 7, 3) := by decide +kernel
theorem dX8_willReserve_37 : decode cX8_willReserve 37 = .ok (.iconst 3, 1) := by decide +kernel
theorem dX8_willReserve_38 : decode cX8_willReserve 38 = .ok (.goto 4, 3) := by decide +kernel
theorem dX8_willReserve_41 : decode cX8_willReserve 41 = .ok (.iconst 0, 1) := by decide +kernel
theorem dX8_willReserve_42 : decode cX8_willReserve 42 = .ok (.invokevirtual 67, 3) := by decide +kernel
theorem dX8_willReserve_45 : decode cX8_willReserve 45 = .ok (.ifCond .eq 5, 3) := by decide +kernel
theorem dX8_willReserve_48 : decode cX8_willReserve 48 = .ok (.iconst 0, 1) := by decide +kernel
theorem dX8_willReserve_49 : decode cX8_willReserve 49 = .ok (.ireturn, 1) := by decide +kernel
theorem dX8_willReserve_50 : decode cX8_willReserve 50 = .ok (.aload_n 0, 1) := by decide +kernel
theorem dX8_willReserve_51 : decode cX8_willReserve 51 = .ok (.iload_n 1, 1) := by decide +kernel
theorem dX8_willReserve_52 : decode cX8_willReserve 52 = .ok (.bipush 7, 2) := by decide +kernel
theorem dX8_willReserve_54 : decode cX8_willReserve 54 = .ok (.invokevirtual 63, 3) := by decide +kernel
theorem dX8_willReserve_57 : decode cX8_willReserve 57 = .ok (.istore_n 3, 1) := by decide +kernel
theorem dX8_willReserve_58 : decode cX8_willReserve 58 = .ok (.iconst 0, 1) := by decide +kernel
theorem dX8_willReserve_59 : decode cX8_willReserve 59 = .ok (.istore 4, 2) := by decide +kernel
theorem dX8_willReserve_61 : decode cX8_willReserve 61 = .ok (.iload 4, 2) := by decide +kernel
theorem dX8_willReserve_63 : decode cX8_willReserve 63 = .ok (.iload_n 2, 1) := by decide +kernel
theorem dX8_willReserve_64 : decode cX8_willReserve 64 = .ok (.if_icmp .ge 16, 3) := by decide +kernel
theorem dX8_willReserve_67 : decode cX8_willReserve 67 = .ok (.iload_n 3, 1) := by decide +kernel
theorem dX8_willReserve_68 : decode cX8_willReserve 68 = .ok (.iload_n 3, 1) := by decide +kernel
theorem dX8_willReserve_69 : decode cX8_willReserve 69 = .ok (.bipush 10, 2) := by decide +kernel
theorem dX8_willReserve_71 : decode cX8_willReserve 71 = .ok (.idiv, 1) := by decide +kernel
theorem dX8_willReserve_72 : decode cX8_willReserve 72 = .ok (.isub, 1) := by decide +kernel
theorem dX8_willReserve_73 : decode cX8_willReserve 73 = .ok (.istore_n 3, 1) := by decide +kernel
theorem dX8_willReserve_74 : decode cX8_willReserve 74 = .ok (.iinc 4 1, 3) := by decide +kernel
theorem dX8_willReserve_77 : decode cX8_willReserve 77 = .ok (.goto (-16), 3) := by decide +kernel
theorem dX8_willReserve_80 : decode cX8_willReserve 80 = .ok (.iload_n 3, 1) := by decide +kernel
theorem dX8_willReserve_81 : decode cX8_willReserve 81 = .ok (.ireturn, 1) := by decide +kernel
theorem dX8_owedBy_0 : decode cX8_owedBy 0 = .ok (.iconst 0, 1) := by decide +kernel
theorem dX8_owedBy_1 : decode cX8_owedBy 1 = .ok (.istore_n 2, 1) := by decide +kernel
theorem dX8_owedBy_2 : decode cX8_owedBy 2 = .ok (.iconst 0, 1) := by decide +kernel
theorem dX8_owedBy_3 : decode cX8_owedBy 3 = .ok (.istore_n 3, 1) := by decide +kernel
theorem dX8_owedBy_4 : decode cX8_owedBy 4 = .ok (.iload_n 3, 1) := by decide +kernel
theorem dX8_owedBy_5 : decode cX8_owedBy 5 = .ok (.aload_n 0, 1) := by decide +kernel
theorem dX8_owedBy_6 : decode cX8_owedBy 6 = .ok (.getfield 7, 3) := by decide +kernel
theorem dX8_owedBy_9 : decode cX8_owedBy 9 = .ok (.iconst 1, 1) := by decide +kernel
theorem dX8_owedBy_10 : decode cX8_owedBy 10 = .ok (.iaload, 1) := by decide +kernel
theorem dX8_owedBy_11 : decode cX8_owedBy 11 = .ok (.if_icmp .ge 40, 3) := by decide +kernel
theorem dX8_owedBy_14 : decode cX8_owedBy 14 = .ok (.iload_n 2, 1) := by decide +kernel
theorem dX8_owedBy_15 : decode cX8_owedBy 15 = .ok (.aload_n 0, 1) := by decide +kernel
theorem dX8_owedBy_16 : decode cX8_owedBy 16 = .ok (.iload_n 3, 1) := by decide +kernel
theorem dX8_owedBy_17 : decode cX8_owedBy 17 = .ok (.iconst 0, 1) := by decide +kernel
theorem dX8_owedBy_18 : decode cX8_owedBy 18 = .ok (.invokevirtual 63, 3) := by decide +kernel
theorem dX8_owedBy_21 : decode cX8_owedBy 21 = .ok (.iload_n 1, 1) := by decide +kernel
theorem dX8_owedBy_22 : decode cX8_owedBy 22 = .ok (.if_icmp .ne 20, 3) := by decide +kernel
theorem dX8_owedBy_25 : decode cX8_owedBy 25 = .ok (.aload_n 0, 1) := by decide +kernel
theorem dX8_owedBy_26 : decode cX8_owedBy 26 = .ok (.iload_n 3, 1) := by decide +kernel
theorem dX8_owedBy_27 : decode cX8_owedBy 27 = .ok (.iconst 4, 1) := by decide +kernel
theorem dX8_owedBy_28 : decode cX8_owedBy 28 = .ok (.invokevirtual 63, 3) := by decide +kernel
theorem dX8_owedBy_31 : decode cX8_owedBy 31 = .ok (.ifCond .ne 11, 3) := by decide +kernel
theorem dX8_owedBy_34 : decode cX8_owedBy 34 = .ok (.aload_n 0, 1) := by decide +kernel
theorem dX8_owedBy_35 : decode cX8_owedBy 35 = .ok (.iload_n 3, 1) := by decide +kernel
theorem dX8_owedBy_36 : decode cX8_owedBy 36 = .ok (.invokevirtual 87, 3) := by decide +kernel
theorem dX8_owedBy_39 : decode cX8_owedBy 39 = .ok (.goto 4, 3) := by decide +kernel
theorem dX8_owedBy_42 : decode cX8_owedBy 42 = .ok (.iconst 0, 1) := by decide +kernel
theorem dX8_owedBy_43 : decode cX8_owedBy 43 = .ok (.iadd, 1) := by decide +kernel
theorem dX8_owedBy_44 : decode cX8_owedBy 44 = .ok (.istore_n 2, 1) := by decide +kernel
theorem dX8_owedBy_45 : decode cX8_owedBy 45 = .ok (.iinc 3 1, 3) := by decide +kernel
theorem dX8_owedBy_48 : decode cX8_owedBy 48 = .ok (.goto (-44), 3) := by decide +kernel
theorem dX8_owedBy_51 : decode cX8_owedBy 51 = .ok (.iload_n 2, 1) := by decide +kernel
theorem dX8_owedBy_52 : decode cX8_owedBy 52 = .ok (.ireturn, 1) := by decide +kernel
theorem dX8_ownerOf_0 : decode cX8_ownerOf 0 = .ok (.aload_n 0, 1) := by decide +kernel
theorem dX8_ownerOf_1 : decode cX8_ownerOf 1 = .ok (.iload_n 1, 1) := by decide +kernel
theorem dX8_ownerOf_2 : decode cX8_ownerOf 2 = .ok (.iconst 0, 1) := by decide +kernel
theorem dX8_ownerOf_3 : decode cX8_ownerOf 3 = .ok (.iconst 5, 1) := by decide +kernel
theorem dX8_ownerOf_4 : decode cX8_ownerOf 4 = .ok (.invokestatic 59, 3) := by decide +kernel
theorem dX8_ownerOf_7 : decode cX8_ownerOf 7 = .ok (.ifCond .ne 7, 3) := by decide +kernel
theorem dX8_ownerOf_10 : decode cX8_ownerOf 10 = .ok (.iconst 1, 1) := by decide +kernel
theorem dX8_ownerOf_11 : decode cX8_ownerOf 11 = .ok (.goto 18, 3) := by decide +kernel
theorem dX8_ownerOf_14 : decode cX8_ownerOf 14 = .ok (.iload_n 2, 1) := by decide +kernel
theorem dX8_ownerOf_15 : decode cX8_ownerOf 15 = .ok (.iconst 0, 1) := by decide +kernel
theorem dX8_ownerOf_16 : decode cX8_ownerOf 16 = .ok (.bipush 6, 2) := by decide +kernel
theorem dX8_ownerOf_18 : decode cX8_ownerOf 18 = .ok (.invokestatic 59, 3) := by decide +kernel
theorem dX8_ownerOf_21 : decode cX8_ownerOf 21 = .ok (.ifCond .eq 7, 3) := by decide +kernel
theorem dX8_ownerOf_24 : decode cX8_ownerOf 24 = .ok (.iconst 0, 1) := by decide +kernel
theorem dX8_ownerOf_25 : decode cX8_ownerOf 25 = .ok (.goto 4, 3) := by decide +kernel
theorem dX8_ownerOf_28 : decode cX8_ownerOf 28 = .ok (.iconst 2, 1) := by decide +kernel
theorem dX8_ownerOf_29 : decode cX8_ownerOf 29 = .ok (.invokevirtual 67, 3) := by decide +kernel
theorem dX8_ownerOf_32 : decode cX8_ownerOf 32 = .ok (.ifCond .eq 5, 3) := by decide +kernel
theorem dX8_ownerOf_35 : decode cX8_ownerOf 35 = .ok (.iconst 0, 1) := by decide +kernel
theorem dX8_ownerOf_36 : decode cX8_ownerOf 36 = .ok (.ireturn, 1) := by decide +kernel
theorem dX8_ownerOf_37 : decode cX8_ownerOf 37 = .ok (.iload_n 2, 1) := by decide +kernel
theorem dX8_ownerOf_38 : decode cX8_ownerOf 38 = .ok (.tableswitch 83 0 5 #[38, 45, 51, 58, 65, 72], 38) := by decide +kernel
theorem dX8_ownerOf_76 : decode cX8_ownerOf 76 = .ok (.aload_n 0, 1) := by decide +kernel
theorem dX8_ownerOf_77 : decode cX8_ownerOf 77 = .ok (.iload_n 1, 1) := by decide +kernel
theorem dX8_ownerOf_78 : decode cX8_ownerOf 78 = .ok (.iconst 0, 1) := by decide +kernel
theorem dX8_ownerOf_79 : decode cX8_ownerOf 79 = .ok (.invokevirtual 101, 3) := by decide +kernel
theorem dX8_ownerOf_82 : decode cX8_ownerOf 82 = .ok (.ireturn, 1) := by decide +kernel
theorem dX8_ownerOf_83 : decode cX8_ownerOf 83 = .ok (.aload_n 0, 1) := by decide +kernel
theorem dX8_ownerOf_84 : decode cX8_ownerOf 84 = .ok (.iload_n 1, 1) := by decide +kernel
theorem dX8_ownerOf_85 : decode cX8_ownerOf 85 = .ok (.invokevirtual 114, 3) := by decide +kernel
theorem dX8_ownerOf_88 : decode cX8_ownerOf 88 = .ok (.ireturn, 1) := by decide +kernel
theorem dX8_ownerOf_89 : decode cX8_ownerOf 89 = .ok (.aload_n 0, 1) := by decide +kernel
theorem dX8_ownerOf_90 : decode cX8_ownerOf 90 = .ok (.iload_n 1, 1) := by decide +kernel
theorem dX8_ownerOf_91 : decode cX8_ownerOf 91 = .ok (.iconst 1, 1) := by decide +kernel
theorem dX8_ownerOf_92 : decode cX8_ownerOf 92 = .ok (.invokevirtual 101, 3) := by decide +kernel
theorem dX8_ownerOf_95 : decode cX8_ownerOf 95 = .ok (.ireturn, 1) := by decide +kernel
theorem dX8_ownerOf_96 : decode cX8_ownerOf 96 = .ok (.aload_n 0, 1) := by decide +kernel
theorem dX8_ownerOf_97 : decode cX8_ownerOf 97 = .ok (.iload_n 1, 1) := by decide +kernel
theorem dX8_ownerOf_98 : decode cX8_ownerOf 98 = .ok (.iconst 2, 1) := by decide +kernel
theorem dX8_ownerOf_99 : decode cX8_ownerOf 99 = .ok (.invokevirtual 101, 3) := by decide +kernel
theorem dX8_ownerOf_102 : decode cX8_ownerOf 102 = .ok (.ireturn, 1) := by decide +kernel
theorem dX8_ownerOf_103 : decode cX8_ownerOf 103 = .ok (.aload_n 0, 1) := by decide +kernel
theorem dX8_ownerOf_104 : decode cX8_ownerOf 104 = .ok (.iload_n 1, 1) := by decide +kernel
theorem dX8_ownerOf_105 : decode cX8_ownerOf 105 = .ok (.iconst 3, 1) := by decide +kernel
theorem dX8_ownerOf_106 : decode cX8_ownerOf 106 = .ok (.invokevirtual 101, 3) := by decide +kernel
theorem dX8_ownerOf_109 : decode cX8_ownerOf 109 = .ok (.ireturn, 1) := by decide +kernel
theorem dX8_ownerOf_110 : decode cX8_ownerOf 110 = .ok (.aload_n 0, 1) := by decide +kernel
theorem dX8_ownerOf_111 : decode cX8_ownerOf 111 = .ok (.getfield 7, 3) := by decide +kernel
theorem dX8_ownerOf_114 : decode cX8_ownerOf 114 = .ok (.sipush 187, 3) := by decide +kernel
theorem dX8_ownerOf_117 : decode cX8_ownerOf 117 = .ok (.iload_n 1, 1) := by decide +kernel
theorem dX8_ownerOf_118 : decode cX8_ownerOf 118 = .ok (.iadd, 1) := by decide +kernel
theorem dX8_ownerOf_119 : decode cX8_ownerOf 119 = .ok (.iaload, 1) := by decide +kernel
theorem dX8_ownerOf_120 : decode cX8_ownerOf 120 = .ok (.ireturn, 1) := by decide +kernel
theorem dX8_ownerOf_121 : decode cX8_ownerOf 121 = .ok (.aload_n 0, 1) := by decide +kernel
theorem dX8_ownerOf_122 : decode cX8_ownerOf 122 = .ok (.getfield 7, 3) := by decide +kernel
theorem dX8_ownerOf_125 : decode cX8_ownerOf 125 = .ok (.sipush 193, 3) := by decide +kernel
theorem dX8_ownerOf_128 : decode cX8_ownerOf 128 = .ok (.iload_n 1, 1) := by decide +kernel
theorem dX8_ownerOf_129 : decode cX8_ownerOf 129 = .ok (.iadd, 1) := by decide +kernel
theorem dX8_ownerOf_130 : decode cX8_ownerOf 130 = .ok (.iaload, 1) := by decide +kernel
theorem dX8_ownerOf_131 : decode cX8_ownerOf 131 = .ok (.ireturn, 1) := by decide +kernel
theorem dX8_cash_0 : decode cX8_cash 0 = .ok (.aload_n 0, 1) := by decide +kernel
theorem dX8_cash_1 : decode cX8_cash 1 = .ok (.iconst 0, 1) := by decide +kernel
theorem dX8_cash_2 : decode cX8_cash 2 = .ok (.putfield 39, 3) := by decide +kernel
theorem dX8_cash_5 : decode cX8_cash 5 = .ok (.iload_n 1, 1) := by decide +kernel
theorem dX8_cash_6 : decode cX8_cash 6 = .ok (.ifCond .eq 40, 3) := by decide +kernel
theorem dX8_cash_9 : decode cX8_cash 9 = .ok (.sipush 2000, 3) := by decide +kernel
theorem dX8_cash_12 : decode cX8_cash 12 = .ok (.aload_n 0, 1) := by decide +kernel
theorem dX8_cash_13 : decode cX8_cash 13 = .ok (.getfield 7, 3) := by decide +kernel
theorem dX8_cash_16 : decode cX8_cash 16 = .ok (.iconst 5, 1) := by decide +kernel
theorem dX8_cash_17 : decode cX8_cash 17 = .ok (.iaload, 1) := by decide +kernel
theorem dX8_cash_18 : decode cX8_cash 18 = .ok (.isub, 1) := by decide +kernel
theorem dX8_cash_19 : decode cX8_cash 19 = .ok (.aload_n 0, 1) := by decide +kernel
theorem dX8_cash_20 : decode cX8_cash 20 = .ok (.getfield 7, 3) := by decide +kernel
theorem dX8_cash_23 : decode cX8_cash 23 = .ok (.bipush 6, 2) := by decide +kernel
theorem dX8_cash_25 : decode cX8_cash 25 = .ok (.iaload, 1) := by decide +kernel
theorem dX8_cash_26 : decode cX8_cash 26 = .ok (.iadd, 1) := by decide +kernel
theorem dX8_cash_27 : decode cX8_cash 27 = .ok (.aload_n 0, 1) := by decide +kernel
theorem dX8_cash_28 : decode cX8_cash 28 = .ok (.getfield 7, 3) := by decide +kernel
theorem dX8_cash_31 : decode cX8_cash 31 = .ok (.bipush 7, 2) := by decide +kernel
theorem dX8_cash_33 : decode cX8_cash 33 = .ok (.iaload, 1) := by decide +kernel
theorem dX8_cash_34 : decode cX8_cash 34 = .ok (.iadd, 1) := by decide +kernel
theorem dX8_cash_35 : decode cX8_cash 35 = .ok (.aload_n 0, 1) := by decide +kernel
theorem dX8_cash_36 : decode cX8_cash 36 = .ok (.getfield 7, 3) := by decide +kernel
theorem dX8_cash_39 : decode cX8_cash 39 = .ok (.bipush 8, 2) := by decide +kernel
theorem dX8_cash_41 : decode cX8_cash 41 = .ok (.iaload, 1) := by decide +kernel
theorem dX8_cash_42 : decode cX8_cash 42 = .ok (.isub, 1) := by decide +kernel
theorem dX8_cash_43 : decode cX8_cash 43 = .ok (.goto 9, 3) := by decide +kernel
theorem dX8_cash_46 : decode cX8_cash 46 = .ok (.aload_n 0, 1) := by decide +kernel
theorem dX8_cash_47 : decode cX8_cash 47 = .ok (.getfield 7, 3) := by decide +kernel
theorem dX8_cash_50 : decode cX8_cash 50 = .ok (.iconst 4, 1) := by decide +kernel
theorem dX8_cash_51 : decode cX8_cash 51 = .ok (.iaload, 1) := by decide +kernel
theorem dX8_cash_52 : decode cX8_cash 52 = .ok (.ireturn, 1) := by decide +kernel
theorem dX8_isWell_0 : decode cX8_isWell 0 = .ok (.aload_n 0, 1) := by decide +kernel
theorem dX8_isWell_1 : decode cX8_isWell 1 = .ok (.iconst 0, 1) := by decide +kernel
theorem dX8_isWell_2 : decode cX8_isWell 2 = .ok (.putfield 39, 3) := by decide +kernel
theorem dX8_isWell_5 : decode cX8_isWell 5 = .ok (.aload_n 0, 1) := by decide +kernel
theorem dX8_isWell_6 : decode cX8_isWell 6 = .ok (.getfield 7, 3) := by decide +kernel
theorem dX8_isWell_9 : decode cX8_isWell 9 = .ok (.iconst 4, 1) := by decide +kernel
theorem dX8_isWell_10 : decode cX8_isWell 10 = .ok (.iaload, 1) := by decide +kernel
theorem dX8_isWell_11 : decode cX8_isWell 11 = .ok (.sipush 2000, 3) := by decide +kernel
theorem dX8_isWell_14 : decode cX8_isWell 14 = .ok (.aload_n 0, 1) := by decide +kernel
theorem dX8_isWell_15 : decode cX8_isWell 15 = .ok (.getfield 7, 3) := by decide +kernel
theorem dX8_isWell_18 : decode cX8_isWell 18 = .ok (.iconst 5, 1) := by decide +kernel
theorem dX8_isWell_19 : decode cX8_isWell 19 = .ok (.iaload, 1) := by decide +kernel
theorem dX8_isWell_20 : decode cX8_isWell 20 = .ok (.isub, 1) := by decide +kernel
theorem dX8_isWell_21 : decode cX8_isWell 21 = .ok (.aload_n 0, 1) := by decide +kernel
theorem dX8_isWell_22 : decode cX8_isWell 22 = .ok (.getfield 7, 3) := by decide +kernel
theorem dX8_isWell_25 : decode cX8_isWell 25 = .ok (.bipush 6, 2) := by decide +kernel
theorem dX8_isWell_27 : decode cX8_isWell 27 = .ok (.iaload, 1) := by decide +kernel
theorem dX8_isWell_28 : decode cX8_isWell 28 = .ok (.iadd, 1) := by decide +kernel
theorem dX8_isWell_29 : decode cX8_isWell 29 = .ok (.aload_n 0, 1) := by decide +kernel
theorem dX8_isWell_30 : decode cX8_isWell 30 = .ok (.getfield 7, 3) := by decide +kernel
theorem dX8_isWell_33 : decode cX8_isWell 33 = .ok (.bipush 7, 2) := by decide +kernel
theorem dX8_isWell_35 : decode cX8_isWell 35 = .ok (.iaload, 1) := by decide +kernel
theorem dX8_isWell_36 : decode cX8_isWell 36 = .ok (.iadd, 1) := by decide +kernel
theorem dX8_isWell_37 : decode cX8_isWell 37 = .ok (.aload_n 0, 1) := by decide +kernel
theorem dX8_isWell_38 : decode cX8_isWell 38 = .ok (.getfield 7, 3) := by decide +kernel
theorem dX8_isWell_41 : decode cX8_isWell 41 = .ok (.bipush 8, 2) := by decide +kernel
theorem dX8_isWell_43 : decode cX8_isWell 43 = .ok (.iaload, 1) := by decide +kernel
theorem dX8_isWell_44 : decode cX8_isWell 44 = .ok (.isub, 1) := by decide +kernel
theorem dX8_isWell_45 : decode cX8_isWell 45 = .ok (.if_icmp .ne 7, 3) := by decide +kernel
theorem dX8_isWell_48 : decode cX8_isWell 48 = .ok (.iconst 1, 1) := by decide +kernel
theorem dX8_isWell_49 : decode cX8_isWell 49 = .ok (.goto 4, 3) := by decide +kernel
theorem dX8_isWell_52 : decode cX8_isWell 52 = .ok (.iconst 0, 1) := by decide +kernel
theorem dX8_isWell_53 : decode cX8_isWell 53 = .ok (.ireturn, 1) := by decide +kernel
theorem dX8_writes_0 : decode cX8_writes 0 = .ok (.aload_n 0, 1) := by decide +kernel
theorem dX8_writes_1 : decode cX8_writes 1 = .ok (.getfield 32, 3) := by decide +kernel
theorem dX8_writes_4 : decode cX8_writes 4 = .ok (.aload_n 0, 1) := by decide +kernel
theorem dX8_writes_5 : decode cX8_writes 5 = .ok (.getfield 117, 3) := by decide +kernel
theorem dX8_writes_8 : decode cX8_writes 8 = .ok (.iload_n 1, 1) := by decide +kernel
theorem dX8_writes_9 : decode cX8_writes 9 = .ok (.i2c, 1) := by decide +kernel
theorem dX8_writes_10 : decode cX8_writes 10 = .ok (.castore, 1) := by decide +kernel
theorem dX8_writes_11 : decode cX8_writes 11 = .ok (.aload_n 0, 1) := by decide +kernel
theorem dX8_writes_12 : decode cX8_writes 12 = .ok (.dup, 1) := by decide +kernel
theorem dX8_writes_13 : decode cX8_writes 13 = .ok (.getfield 117, 3) := by decide +kernel
theorem dX8_writes_16 : decode cX8_writes 16 = .ok (.iconst 1, 1) := by decide +kernel
theorem dX8_writes_17 : decode cX8_writes 17 = .ok (.iadd, 1) := by decide +kernel
theorem dX8_writes_18 : decode cX8_writes 18 = .ok (.putfield 117, 3) := by decide +kernel
theorem dX8_writes_21 : decode cX8_writes 21 = .ok (.return_, 1) := by decide +kernel
theorem dX8_writesNumber_0 : decode cX8_writesNumber 0 = .ok (.iconst 1, 1) := by decide +kernel
theorem dX8_writesNumber_1 : decode cX8_writesNumber 1 = .ok (.istore_n 2, 1) := by decide +kernel
theorem dX8_writesNumber_2 : decode cX8_writesNumber 2 = .ok (.iload_n 1, 1) := by decide +kernel
theorem dX8_writesNumber_3 : decode cX8_writesNumber 3 = .ok (.iload_n 2, 1) := by decide +kernel
theorem dX8_writesNumber_4 : decode cX8_writesNumber 4 = .ok (.idiv, 1) := by decide +kernel
theorem dX8_writesNumber_5 : decode cX8_writesNumber 5 = .ok (.bipush 9, 2) := by decide +kernel
theorem dX8_writesNumber_7 : decode cX8_writesNumber 7 = .ok (.if_icmp .le 11, 3) := by decide +kernel
theorem dX8_writesNumber_10 : decode cX8_writesNumber 10 = .ok (.iload_n 2, 1) := by decide +kernel
theorem dX8_writesNumber_11 : decode cX8_writesNumber 11 = .ok (.bipush 10, 2) := by decide +kernel
theorem dX8_writesNumber_13 : decode cX8_writesNumber 13 = .ok (.imul, 1) := by decide +kernel
theorem dX8_writesNumber_14 : decode cX8_writesNumber 14 = .ok (.istore_n 2, 1) := by decide +kernel
theorem dX8_writesNumber_15 : decode cX8_writesNumber 15 = .ok (.goto (-13), 3) := by decide +kernel
theorem dX8_writesNumber_18 : decode cX8_writesNumber 18 = .ok (.iload_n 2, 1) := by decide +kernel
theorem dX8_writesNumber_19 : decode cX8_writesNumber 19 = .ok (.ifCond .le 24, 3) := by decide +kernel
theorem dX8_writesNumber_22 : decode cX8_writesNumber 22 = .ok (.aload_n 0, 1) := by decide +kernel
theorem dX8_writesNumber_23 : decode cX8_writesNumber 23 = .ok (.bipush 48, 2) := by decide +kernel
theorem dX8_writesNumber_25 : decode cX8_writesNumber 25 = .ok (.iload_n 1, 1) := by decide +kernel
theorem dX8_writesNumber_26 : decode cX8_writesNumber 26 = .ok (.iload_n 2, 1) := by decide +kernel
theorem dX8_writesNumber_27 : decode cX8_writesNumber 27 = .ok (.idiv, 1) := by decide +kernel
theorem dX8_writesNumber_28 : decode cX8_writesNumber 28 = .ok (.bipush 10, 2) := by decide +kernel
theorem dX8_writesNumber_30 : decode cX8_writesNumber 30 = .ok (.irem, 1) := by decide +kernel
theorem dX8_writesNumber_31 : decode cX8_writesNumber 31 = .ok (.iadd, 1) := by decide +kernel
theorem dX8_writesNumber_32 : decode cX8_writesNumber 32 = .ok (.invokevirtual 120, 3) := by decide +kernel
theorem dX8_writesNumber_35 : decode cX8_writesNumber 35 = .ok (.iload_n 2, 1) := by decide +kernel
theorem dX8_writesNumber_36 : decode cX8_writesNumber 36 = .ok (.bipush 10, 2) := by decide +kernel
theorem dX8_writesNumber_38 : decode cX8_writesNumber 38 = .ok (.idiv, 1) := by decide +kernel
theorem dX8_writesNumber_39 : decode cX8_writesNumber 39 = .ok (.istore_n 2, 1) := by decide +kernel
theorem dX8_writesNumber_40 : decode cX8_writesNumber 40 = .ok (.goto (-22), 3) := by decide +kernel
theorem dX8_writesNumber_43 : decode cX8_writesNumber 43 = .ok (.return_, 1) := by decide +kernel
theorem dX8_line_0 : decode cX8_line 0 = .ok (.aload_n 0, 1) := by decide +kernel
theorem dX8_line_1 : decode cX8_line 1 = .ok (.aload_n 0, 1) := by decide +kernel
theorem dX8_line_2 : decode cX8_line 2 = .ok (.iload_n 1, 1) := by decide +kernel
theorem dX8_line_3 : decode cX8_line 3 = .ok (.invokevirtual 94, 3) := by decide +kernel
theorem dX8_line_6 : decode cX8_line 6 = .ok (.ifCond .eq 7, 3) := by decide +kernel
theorem dX8_line_9 : decode cX8_line 9 = .ok (.iconst 0, 1) := by decide +kernel
theorem dX8_line_10 : decode cX8_line 10 = .ok (.goto 4, 3) := by decide +kernel
theorem dX8_line_13 : decode cX8_line 13 = .ok (.iconst 1, 1) := by decide +kernel
theorem dX8_line_14 : decode cX8_line 14 = .ok (.invokevirtual 67, 3) := by decide +kernel
theorem dX8_line_17 : decode cX8_line 17 = .ok (.ifCond .eq 5, 3) := by decide +kernel
theorem dX8_line_20 : decode cX8_line 20 = .ok (.iconst 0, 1) := by decide +kernel
theorem dX8_line_21 : decode cX8_line 21 = .ok (.ireturn, 1) := by decide +kernel
theorem dX8_line_22 : decode cX8_line 22 = .ok (.aload_n 0, 1) := by decide +kernel
theorem dX8_line_23 : decode cX8_line 23 = .ok (.iconst 0, 1) := by decide +kernel
theorem dX8_line_24 : decode cX8_line 24 = .ok (.putfield 117, 3) := by decide +kernel
theorem dX8_line_27 : decode cX8_line 27 = .ok (.aload_n 0, 1) := by decide +kernel
theorem dX8_line_28 : decode cX8_line 28 = .ok (.bipush 35, 2) := by decide +kernel
theorem dX8_line_30 : decode cX8_line 30 = .ok (.invokevirtual 120, 3) := by decide +kernel
theorem dX8_line_33 : decode cX8_line 33 = .ok (.aload_n 0, 1) := by decide +kernel
theorem dX8_line_34 : decode cX8_line 34 = .ok (.iload_n 1, 1) := by decide +kernel
theorem dX8_line_35 : decode cX8_line 35 = .ok (.invokevirtual 124, 3) := by decide +kernel
theorem dX8_line_38 : decode cX8_line 38 = .ok (.aload_n 0, 1) := by decide +kernel
theorem dX8_line_39 : decode cX8_line 39 = .ok (.bipush 32, 2) := by decide +kernel
theorem dX8_line_41 : decode cX8_line 41 = .ok (.invokevirtual 120, 3) := by decide +kernel
theorem dX8_line_44 : decode cX8_line 44 = .ok (.aload_n 0, 1) := by decide +kernel
theorem dX8_line_45 : decode cX8_line 45 = .ok (.aload_n 0, 1) := by decide +kernel
theorem dX8_line_46 : decode cX8_line 46 = .ok (.iload_n 1, 1) := by decide +kernel
theorem dX8_line_47 : decode cX8_line 47 = .ok (.iconst 1, 1) := by decide +kernel
theorem dX8_line_48 : decode cX8_line 48 = .ok (.invokevirtual 63, 3) := by decide +kernel
theorem dX8_line_51 : decode cX8_line 51 = .ok (.invokevirtual 124, 3) := by decide +kernel
theorem dX8_line_54 : decode cX8_line 54 = .ok (.aload_n 0, 1) := by decide +kernel
theorem dX8_line_55 : decode cX8_line 55 = .ok (.bipush 47, 2) := by decide +kernel
theorem dX8_line_57 : decode cX8_line 57 = .ok (.invokevirtual 120, 3) := by decide +kernel
theorem dX8_line_60 : decode cX8_line 60 = .ok (.aload_n 0, 1) := by decide +kernel
theorem dX8_line_61 : decode cX8_line 61 = .ok (.aload_n 0, 1) := by decide +kernel
theorem dX8_line_62 : decode cX8_line 62 = .ok (.iload_n 1, 1) := by decide +kernel
theorem dX8_line_63 : decode cX8_line 63 = .ok (.iconst 2, 1) := by decide +kernel
theorem dX8_line_64 : decode cX8_line 64 = .ok (.invokevirtual 63, 3) := by decide +kernel
theorem dX8_line_67 : decode cX8_line 67 = .ok (.invokevirtual 124, 3) := by decide +kernel
theorem dX8_line_70 : decode cX8_line 70 = .ok (.aload_n 0, 1) := by decide +kernel
theorem dX8_line_71 : decode cX8_line 71 = .ok (.bipush 43, 2) := by decide +kernel
theorem dX8_line_73 : decode cX8_line 73 = .ok (.invokevirtual 120, 3) := by decide +kernel
theorem dX8_line_76 : decode cX8_line 76 = .ok (.aload_n 0, 1) := by decide +kernel
theorem dX8_line_77 : decode cX8_line 77 = .ok (.aload_n 0, 1) := by decide +kernel
theorem dX8_line_78 : decode cX8_line 78 = .ok (.iload_n 1, 1) := by decide +kernel
theorem dX8_line_79 : decode cX8_line 79 = .ok (.iconst 3, 1) := by decide +kernel
theorem dX8_line_80 : decode cX8_line 80 = .ok (.invokevirtual 63, 3) := by decide +kernel
theorem dX8_line_83 : decode cX8_line 83 = .ok (.invokevirtual 124, 3) := by decide +kernel
theorem dX8_line_86 : decode cX8_line 86 = .ok (.aload_n 0, 1) := by decide +kernel
theorem dX8_line_87 : decode cX8_line 87 = .ok (.bipush 32, 2) := by decide +kernel
theorem dX8_line_89 : decode cX8_line 89 = .ok (.invokevirtual 120, 3) := by decide +kernel
theorem dX8_line_92 : decode cX8_line 92 = .ok (.aload_n 0, 1) := by decide +kernel
theorem dX8_line_93 : decode cX8_line 93 = .ok (.ldc 127, 2) := by decide +kernel
theorem dX8_line_95 : decode cX8_line 95 = .ok (.aload_n 0, 1) := by decide +kernel
theorem dX8_line_96 : decode cX8_line 96 = .ok (.iload_n 1, 1) := by decide +kernel
theorem dX8_line_97 : decode cX8_line 97 = .ok (.iconst 4, 1) := by decide +kernel
theorem dX8_line_98 : decode cX8_line 98 = .ok (.invokevirtual 63, 3) := by decide +kernel
theorem dX8_line_101 : decode cX8_line 101 = .ok (.invokevirtual 129, 3) := by decide +kernel
theorem dX8_line_104 : decode cX8_line 104 = .ok (.invokevirtual 120, 3) := by decide +kernel
theorem dX8_line_107 : decode cX8_line 107 = .ok (.aload_n 0, 1) := by decide +kernel
theorem dX8_line_108 : decode cX8_line 108 = .ok (.getfield 117, 3) := by decide +kernel
theorem dX8_line_111 : decode cX8_line 111 = .ok (.ireturn, 1) := by decide +kernel
theorem dX8_character_0 : decode cX8_character 0 = .ok (.aload_n 0, 1) := by decide +kernel
theorem dX8_character_1 : decode cX8_character 1 = .ok (.iload_n 1, 1) := by decide +kernel
theorem dX8_character_2 : decode cX8_character 2 = .ok (.iconst 0, 1) := by decide +kernel
theorem dX8_character_3 : decode cX8_character 3 = .ok (.aload_n 0, 1) := by decide +kernel
theorem dX8_character_4 : decode cX8_character 4 = .ok (.getfield 117, 3) := by decide +kernel
theorem dX8_character_7 : decode cX8_character 7 = .ok (.iconst 1, 1) := by decide +kernel
theorem dX8_character_8 : decode cX8_character 8 = .ok (.isub, 1) := by decide +kernel
theorem dX8_character_9 : decode cX8_character 9 = .ok (.invokestatic 59, 3) := by decide +kernel
theorem dX8_character_12 : decode cX8_character 12 = .ok (.ifCond .eq 7, 3) := by decide +kernel
theorem dX8_character_15 : decode cX8_character 15 = .ok (.iconst 0, 1) := by decide +kernel
theorem dX8_character_16 : decode cX8_character 16 = .ok (.goto 4, 3) := by decide +kernel
theorem dX8_character_19 : decode cX8_character 19 = .ok (.iconst 1, 1) := by decide +kernel
theorem dX8_character_20 : decode cX8_character 20 = .ok (.invokevirtual 67, 3) := by decide +kernel
theorem dX8_character_23 : decode cX8_character 23 = .ok (.ifCond .eq 8, 3) := by decide +kernel
theorem dX8_character_26 : decode cX8_character 26 = .ok (.bipush 32, 2) := by decide +kernel
theorem dX8_character_28 : decode cX8_character 28 = .ok (.goto 9, 3) := by decide +kernel
theorem dX8_character_31 : decode cX8_character 31 = .ok (.aload_n 0, 1) := by decide +kernel
theorem dX8_character_32 : decode cX8_character 32 = .ok (.getfield 32, 3) := by decide +kernel
theorem dX8_character_35 : decode cX8_character 35 = .ok (.iload_n 1, 1) := by decide +kernel
theorem dX8_character_36 : decode cX8_character 36 = .ok (.caload, 1) := by decide +kernel
theorem dX8_character_37 : decode cX8_character 37 = .ok (.ireturn, 1) := by decide +kernel
theorem dX8_append_0 : decode cX8_append 0 = .ok (.aload_n 0, 1) := by decide +kernel
theorem dX8_append_1 : decode cX8_append 1 = .ok (.aload_n 0, 1) := by decide +kernel
theorem dX8_append_2 : decode cX8_append 2 = .ok (.getfield 135, 3) := by decide +kernel
theorem dX8_append_5 : decode cX8_append 5 = .ok (.bipush 60, 2) := by decide +kernel
theorem dX8_append_7 : decode cX8_append 7 = .ok (.if_icmp .ne 7, 3) := by decide +kernel
theorem dX8_append_10 : decode cX8_append 10 = .ok (.iconst 1, 1) := by decide +kernel
theorem dX8_append_11 : decode cX8_append 11 = .ok (.goto 4, 3) := by decide +kernel
theorem dX8_append_14 : decode cX8_append 14 = .ok (.iconst 0, 1) := by decide +kernel
theorem dX8_append_15 : decode cX8_append 15 = .ok (.invokevirtual 67, 3) := by decide +kernel
theorem dX8_append_18 : decode cX8_append 18 = .ok (.ifCond .eq 5, 3) := by decide +kernel
theorem dX8_append_21 : decode cX8_append 21 = .ok (.iconst 0, 1) := by decide +kernel
theorem dX8_append_22 : decode cX8_append 22 = .ok (.ireturn, 1) := by decide +kernel
theorem dX8_append_23 : decode cX8_append 23 = .ok (.aload_n 0, 1) := by decide +kernel
theorem dX8_append_24 : decode cX8_append 24 = .ok (.getfield 26, 3) := by decide +kernel
theorem dX8_append_27 : decode cX8_append 27 = .ok (.aload_n 0, 1) := by decide +kernel
theorem dX8_append_28 : decode cX8_append 28 = .ok (.getfield 135, 3) := by decide +kernel
theorem dX8_append_31 : decode cX8_append 31 = .ok (.iload_n 1, 1) := by decide +kernel
theorem dX8_append_32 : decode cX8_append 32 = .ok (.iastore, 1) := by decide +kernel
theorem dX8_append_33 : decode cX8_append 33 = .ok (.aload_n 0, 1) := by decide +kernel
theorem dX8_append_34 : decode cX8_append 34 = .ok (.dup, 1) := by decide +kernel
theorem dX8_append_35 : decode cX8_append 35 = .ok (.getfield 135, 3) := by decide +kernel
theorem dX8_append_38 : decode cX8_append 38 = .ok (.iconst 1, 1) := by decide +kernel
theorem dX8_append_39 : decode cX8_append 39 = .ok (.iadd, 1) := by decide +kernel
theorem dX8_append_40 : decode cX8_append 40 = .ok (.putfield 135, 3) := by decide +kernel
theorem dX8_append_43 : decode cX8_append 43 = .ok (.aload_n 0, 1) := by decide +kernel
theorem dX8_append_44 : decode cX8_append 44 = .ok (.getfield 135, 3) := by decide +kernel
theorem dX8_append_47 : decode cX8_append 47 = .ok (.ireturn, 1) := by decide +kernel
theorem dX8_here_0 : decode cX8_here 0 = .ok (.aload_n 0, 1) := by decide +kernel
theorem dX8_here_1 : decode cX8_here 1 = .ok (.getfield 138, 3) := by decide +kernel
theorem dX8_here_4 : decode cX8_here 4 = .ok (.aload_n 0, 1) := by decide +kernel
theorem dX8_here_5 : decode cX8_here 5 = .ok (.getfield 135, 3) := by decide +kernel
theorem dX8_here_8 : decode cX8_here 8 = .ok (.if_icmp .ge 15, 3) := by decide +kernel
theorem dX8_here_11 : decode cX8_here 11 = .ok (.aload_n 0, 1) := by decide +kernel
theorem dX8_here_12 : decode cX8_here 12 = .ok (.getfield 26, 3) := by decide +kernel
theorem dX8_here_15 : decode cX8_here 15 = .ok (.aload_n 0, 1) := by decide +kernel
theorem dX8_here_16 : decode cX8_here 16 = .ok (.getfield 138, 3) := by decide +kernel
theorem dX8_here_19 : decode cX8_here 19 = .ok (.iaload, 1) := by decide +kernel
theorem dX8_here_20 : decode cX8_here 20 = .ok (.goto 4, 3) := by decide +kernel
theorem dX8_here_23 : decode cX8_here 23 = .ok (.iconst (-1), 1) := by decide +kernel
theorem dX8_here_24 : decode cX8_here 24 = .ok (.ireturn, 1) := by decide +kernel
theorem dX8_skips_0 : decode cX8_skips 0 = .ok (.aload_n 0, 1) := by decide +kernel
theorem dX8_skips_1 : decode cX8_skips 1 = .ok (.invokevirtual 141, 3) := by decide +kernel
theorem dX8_skips_4 : decode cX8_skips 4 = .ok (.iload_n 1, 1) := by decide +kernel
theorem dX8_skips_5 : decode cX8_skips 5 = .ok (.if_icmp .eq 5, 3) := by decide +kernel
theorem dX8_skips_8 : decode cX8_skips 8 = .ok (.iconst 0, 1) := by decide +kernel
theorem dX8_skips_9 : decode cX8_skips 9 = .ok (.ireturn, 1) := by decide +kernel
theorem dX8_skips_10 : decode cX8_skips 10 = .ok (.aload_n 0, 1) := by decide +kernel
theorem dX8_skips_11 : decode cX8_skips 11 = .ok (.dup, 1) := by decide +kernel
theorem dX8_skips_12 : decode cX8_skips 12 = .ok (.getfield 138, 3) := by decide +kernel
theorem dX8_skips_15 : decode cX8_skips 15 = .ok (.iconst 1, 1) := by decide +kernel
theorem dX8_skips_16 : decode cX8_skips 16 = .ok (.iadd, 1) := by decide +kernel
theorem dX8_skips_17 : decode cX8_skips 17 = .ok (.putfield 138, 3) := by decide +kernel
theorem dX8_skips_20 : decode cX8_skips 20 = .ok (.iconst 1, 1) := by decide +kernel
theorem dX8_skips_21 : decode cX8_skips 21 = .ok (.ireturn, 1) := by decide +kernel
theorem dX8_figures_0 : decode cX8_figures 0 = .ok (.aload_n 0, 1) := by decide +kernel
theorem dX8_figures_1 : decode cX8_figures 1 = .ok (.invokevirtual 141, 3) := by decide +kernel
theorem dX8_figures_4 : decode cX8_figures 4 = .ok (.bipush 48, 2) := by decide +kernel
theorem dX8_figures_6 : decode cX8_figures 6 = .ok (.bipush 57, 2) := by decide +kernel
theorem dX8_figures_8 : decode cX8_figures 8 = .ok (.invokestatic 59, 3) := by decide +kernel
theorem dX8_figures_11 : decode cX8_figures 11 = .ok (.ifCond .ne 5, 3) := by decide +kernel
theorem dX8_figures_14 : decode cX8_figures 14 = .ok (.iconst 0, 1) := by decide +kernel
theorem dX8_figures_15 : decode cX8_figures 15 = .ok (.ireturn, 1) := by decide +kernel
theorem dX8_figures_16 : decode cX8_figures 16 = .ok (.aload_n 0, 1) := by decide +kernel
theorem dX8_figures_17 : decode cX8_figures 17 = .ok (.getfield 36, 3) := by decide +kernel
theorem dX8_figures_20 : decode cX8_figures 20 = .ok (.iload_n 1, 1) := by decide +kernel
theorem dX8_figures_21 : decode cX8_figures 21 = .ok (.iconst 0, 1) := by decide +kernel
theorem dX8_figures_22 : decode cX8_figures 22 = .ok (.iastore, 1) := by decide +kernel
theorem dX8_figures_23 : decode cX8_figures 23 = .ok (.iconst 0, 1) := by decide +kernel
theorem dX8_figures_24 : decode cX8_figures 24 = .ok (.istore_n 3, 1) := by decide +kernel
theorem dX8_figures_25 : decode cX8_figures 25 = .ok (.iload_n 3, 1) := by decide +kernel
theorem dX8_figures_26 : decode cX8_figures 26 = .ok (.iload_n 2, 1) := by decide +kernel
theorem dX8_figures_27 : decode cX8_figures 27 = .ok (.if_icmp .ge 56, 3) := by decide +kernel
theorem dX8_figures_30 : decode cX8_figures 30 = .ok (.aload_n 0, 1) := by decide +kernel
theorem dX8_figures_31 : decode cX8_figures 31 = .ok (.invokevirtual 141, 3) := by decide +kernel
theorem dX8_figures_34 : decode cX8_figures 34 = .ok (.bipush 48, 2) := by decide +kernel
theorem dX8_figures_36 : decode cX8_figures 36 = .ok (.bipush 57, 2) := by decide +kernel
theorem dX8_figures_38 : decode cX8_figures 38 = .ok (.invokestatic 59, 3) := by decide +kernel
theorem dX8_figures_41 : decode cX8_figures 41 = .ok (.ifCond .eq 42, 3) := by decide +kernel
theorem dX8_figures_44 : decode cX8_figures 44 = .ok (.aload_n 0, 1) := by decide +kernel
theorem dX8_figures_45 : decode cX8_figures 45 = .ok (.getfield 36, 3) := by decide +kernel
theorem dX8_figures_48 : decode cX8_figures 48 = .ok (.iload_n 1, 1) := by decide +kernel
theorem dX8_figures_49 : decode cX8_figures 49 = .ok (.bipush 10, 2) := by decide +kernel
theorem dX8_figures_51 : decode cX8_figures 51 = .ok (.aload_n 0, 1) := by decide +kernel
theorem dX8_figures_52 : decode cX8_figures 52 = .ok (.getfield 36, 3) := by decide +kernel
theorem dX8_figures_55 : decode cX8_figures 55 = .ok (.iload_n 1, 1) := by decide +kernel
theorem dX8_figures_56 : decode cX8_figures 56 = .ok (.iaload, 1) := by decide +kernel
theorem dX8_figures_57 : decode cX8_figures 57 = .ok (.imul, 1) := by decide +kernel
theorem dX8_figures_58 : decode cX8_figures 58 = .ok (.aload_n 0, 1) := by decide +kernel
theorem dX8_figures_59 : decode cX8_figures 59 = .ok (.invokevirtual 141, 3) := by decide +kernel
theorem dX8_figures_62 : decode cX8_figures 62 = .ok (.iadd, 1) := by decide +kernel
theorem dX8_figures_63 : decode cX8_figures 63 = .ok (.bipush 48, 2) := by decide +kernel
theorem dX8_figures_65 : decode cX8_figures 65 = .ok (.isub, 1) := by decide +kernel
theorem dX8_figures_66 : decode cX8_figures 66 = .ok (.iastore, 1) := by decide +kernel
theorem dX8_figures_67 : decode cX8_figures 67 = .ok (.aload_n 0, 1) := by decide +kernel
theorem dX8_figures_68 : decode cX8_figures 68 = .ok (.dup, 1) := by decide +kernel
theorem dX8_figures_69 : decode cX8_figures 69 = .ok (.getfield 138, 3) := by decide +kernel
theorem dX8_figures_72 : decode cX8_figures 72 = .ok (.iconst 1, 1) := by decide +kernel
theorem dX8_figures_73 : decode cX8_figures 73 = .ok (.iadd, 1) := by decide +kernel
theorem dX8_figures_74 : decode cX8_figures 74 = .ok (.putfield 138, 3) := by decide +kernel
theorem dX8_figures_77 : decode cX8_figures 77 = .ok (.iinc 3 1, 3) := by decide +kernel
theorem dX8_figures_80 : decode cX8_figures 80 = .ok (.goto (-55), 3) := by decide +kernel
theorem dX8_figures_83 : decode cX8_figures 83 = .ok (.iconst 1, 1) := by decide +kernel
theorem dX8_figures_84 : decode cX8_figures 84 = .ok (.ireturn, 1) := by decide +kernel
theorem dX8_orderHere_0 : decode cX8_orderHere 0 = .ok (.iconst 4, 1) := by decide +kernel
theorem dX8_orderHere_1 : decode cX8_orderHere 1 = .ok (.aload_n 0, 1) := by decide +kernel
theorem dX8_orderHere_2 : decode cX8_orderHere 2 = .ok (.getfield 144, 3) := by decide +kernel
theorem dX8_orderHere_5 : decode cX8_orderHere 5 = .ok (.imul, 1) := by decide +kernel
theorem dX8_orderHere_6 : decode cX8_orderHere 6 = .ok (.istore_n 1, 1) := by decide +kernel
theorem dX8_orderHere_7 : decode cX8_orderHere 7 = .ok (.aload_n 0, 1) := by decide +kernel
theorem dX8_orderHere_8 : decode cX8_orderHere 8 = .ok (.getfield 36, 3) := by decide +kernel
theorem dX8_orderHere_11 : decode cX8_orderHere 11 = .ok (.iload_n 1, 1) := by decide +kernel
theorem dX8_orderHere_12 : decode cX8_orderHere 12 = .ok (.aload_n 0, 1) := by decide +kernel
theorem dX8_orderHere_13 : decode cX8_orderHere 13 = .ok (.invokevirtual 141, 3) := by decide +kernel
theorem dX8_orderHere_16 : decode cX8_orderHere 16 = .ok (.iastore, 1) := by decide +kernel
theorem dX8_orderHere_17 : decode cX8_orderHere 17 = .ok (.aload_n 0, 1) := by decide +kernel
theorem dX8_orderHere_18 : decode cX8_orderHere 18 = .ok (.bipush 112, 2) := by decide +kernel
theorem dX8_orderHere_20 : decode cX8_orderHere 20 = .ok (.invokevirtual 147, 3) := by decide +kernel
theorem dX8_orderHere_23 : decode cX8_orderHere 23 = .ok (.ifCond .eq 60, 3) := by decide +kernel
theorem dX8_orderHere_26 : decode cX8_orderHere 26 = .ok (.aload_n 0, 1) := by decide +kernel
theorem dX8_orderHere_27 : decode cX8_orderHere 27 = .ok (.iload_n 1, 1) := by decide +kernel
theorem dX8_orderHere_28 : decode cX8_orderHere 28 = .ok (.iconst 1, 1) := by decide +kernel
theorem dX8_orderHere_29 : decode cX8_orderHere 29 = .ok (.iadd, 1) := by decide +kernel
theorem dX8_orderHere_30 : decode cX8_orderHere 30 = .ok (.iconst 1, 1) := by decide +kernel
theorem dX8_orderHere_31 : decode cX8_orderHere 31 = .ok (.invokevirtual 150, 3) := by decide +kernel
theorem dX8_orderHere_34 : decode cX8_orderHere 34 = .ok (.ifCond .eq 47, 3) := by decide +kernel
theorem dX8_orderHere_37 : decode cX8_orderHere 37 = .ok (.aload_n 0, 1) := by decide +kernel
theorem dX8_orderHere_38 : decode cX8_orderHere 38 = .ok (.bipush 61, 2) := by decide +kernel
theorem dX8_orderHere_40 : decode cX8_orderHere 40 = .ok (.invokevirtual 147, 3) := by decide +kernel
theorem dX8_orderHere_43 : decode cX8_orderHere 43 = .ok (.ifCond .eq 38, 3) := by decide +kernel
theorem dX8_orderHere_46 : decode cX8_orderHere 46 = .ok (.aload_n 0, 1) := by decide +kernel
theorem dX8_orderHere_47 : decode cX8_orderHere 47 = .ok (.iload_n 1, 1) := by decide +kernel
theorem dX8_orderHere_48 : decode cX8_orderHere 48 = .ok (.iconst 2, 1) := by decide +kernel
theorem dX8_orderHere_49 : decode cX8_orderHere 49 = .ok (.iadd, 1) := by decide +kernel
theorem dX8_orderHere_50 : decode cX8_orderHere 50 = .ok (.iconst 3, 1) := by decide +kernel
theorem dX8_orderHere_51 : decode cX8_orderHere 51 = .ok (.invokevirtual 150, 3) := by decide +kernel
theorem dX8_orderHere_54 : decode cX8_orderHere 54 = .ok (.ifCond .eq 27, 3) := by decide +kernel
theorem dX8_orderHere_57 : decode cX8_orderHere 57 = .ok (.aload_n 0, 1) := by decide +kernel
theorem dX8_orderHere_58 : decode cX8_orderHere 58 = .ok (.bipush 47, 2) := by decide +kernel
theorem dX8_orderHere_60 : decode cX8_orderHere 60 = .ok (.invokevirtual 147, 3) := by decide +kernel
theorem dX8_orderHere_63 : decode cX8_orderHere 63 = .ok (.ifCond .eq 18, 3) := by decide +kernel
theorem dX8_orderHere_66 : decode cX8_orderHere 66 = .ok (.aload_n 0, 1) := by decide +kernel
theorem dX8_orderHere_67 : decode cX8_orderHere 67 = .ok (.iload_n 1, 1) := by decide +kernel
theorem dX8_orderHere_68 : decode cX8_orderHere 68 = .ok (.iconst 3, 1) := by decide +kernel
theorem dX8_orderHere_69 : decode cX8_orderHere 69 = .ok (.iadd, 1) := by decide +kernel
theorem dX8_orderHere_70 : decode cX8_orderHere 70 = .ok (.iconst 3, 1) := by decide +kernel
theorem dX8_orderHere_71 : decode cX8_orderHere 71 = .ok (.invokevirtual 150, 3) := by decide +kernel
theorem dX8_orderHere_74 : decode cX8_orderHere 74 = .ok (.ifCond .eq 7, 3) := by decide +kernel
theorem dX8_orderHere_77 : decode cX8_orderHere 77 = .ok (.iconst 1, 1) := by decide +kernel
theorem dX8_orderHere_78 : decode cX8_orderHere 78 = .ok (.goto 4, 3) := by decide +kernel
theorem dX8_orderHere_81 : decode cX8_orderHere 81 = .ok (.iconst 0, 1) := by decide +kernel
theorem dX8_orderHere_82 : decode cX8_orderHere 82 = .ok (.ireturn, 1) := by decide +kernel
theorem dX8_orderHere_83 : decode cX8_orderHere 83 = .ok (.aload_n 0, 1) := by decide +kernel
theorem dX8_orderHere_84 : decode cX8_orderHere 84 = .ok (.bipush 121, 2) := by decide +kernel
theorem dX8_orderHere_86 : decode cX8_orderHere 86 = .ok (.invokevirtual 147, 3) := by decide +kernel
theorem dX8_orderHere_89 : decode cX8_orderHere 89 = .ok (.ifCond .eq 40, 3) := by decide +kernel
theorem dX8_orderHere_92 : decode cX8_orderHere 92 = .ok (.aload_n 0, 1) := by decide +kernel
theorem dX8_orderHere_93 : decode cX8_orderHere 93 = .ok (.iload_n 1, 1) := by decide +kernel
theorem dX8_orderHere_94 : decode cX8_orderHere 94 = .ok (.iconst 1, 1) := by decide +kernel
theorem dX8_orderHere_95 : decode cX8_orderHere 95 = .ok (.iadd, 1) := by decide +kernel
theorem dX8_orderHere_96 : decode cX8_orderHere 96 = .ok (.iconst 2, 1) := by decide +kernel
theorem dX8_orderHere_97 : decode cX8_orderHere 97 = .ok (.invokevirtual 150, 3) := by decide +kernel
theorem dX8_orderHere_100 : decode cX8_orderHere 100 = .ok (.ifCond .eq 27, 3) := by decide +kernel
theorem dX8_orderHere_103 : decode cX8_orderHere 103 = .ok (.aload_n 0, 1) := by decide +kernel
theorem dX8_orderHere_104 : decode cX8_orderHere 104 = .ok (.bipush 61, 2) := by decide +kernel
theorem dX8_orderHere_106 : decode cX8_orderHere 106 = .ok (.invokevirtual 147, 3) := by decide +kernel
theorem dX8_orderHere_109 : decode cX8_orderHere 109 = .ok (.ifCond .eq 18, 3) := by decide +kernel
theorem dX8_orderHere_112 : decode cX8_orderHere 112 = .ok (.aload_n 0, 1) := by decide +kernel
theorem dX8_orderHere_113 : decode cX8_orderHere 113 = .ok (.iload_n 1, 1) := by decide +kernel
theorem dX8_orderHere_114 : decode cX8_orderHere 114 = .ok (.iconst 2, 1) := by decide +kernel
theorem dX8_orderHere_115 : decode cX8_orderHere 115 = .ok (.iadd, 1) := by decide +kernel
theorem dX8_orderHere_116 : decode cX8_orderHere 116 = .ok (.iconst 3, 1) := by decide +kernel
theorem dX8_orderHere_117 : decode cX8_orderHere 117 = .ok (.invokevirtual 150, 3) := by decide +kernel
theorem dX8_orderHere_120 : decode cX8_orderHere 120 = .ok (.ifCond .eq 7, 3) := by decide +kernel
theorem dX8_orderHere_123 : decode cX8_orderHere 123 = .ok (.iconst 1, 1) := by decide +kernel
theorem dX8_orderHere_124 : decode cX8_orderHere 124 = .ok (.goto 4, 3) := by decide +kernel
theorem dX8_orderHere_127 : decode cX8_orderHere 127 = .ok (.iconst 0, 1) := by decide +kernel
theorem dX8_orderHere_128 : decode cX8_orderHere 128 = .ok (.ireturn, 1) := by decide +kernel
theorem dX8_orderHere_129 : decode cX8_orderHere 129 = .ok (.aload_n 0, 1) := by decide +kernel
theorem dX8_orderHere_130 : decode cX8_orderHere 130 = .ok (.bipush 115, 2) := by decide +kernel
theorem dX8_orderHere_132 : decode cX8_orderHere 132 = .ok (.invokevirtual 147, 3) := by decide +kernel
theorem dX8_orderHere_135 : decode cX8_orderHere 135 = .ok (.ifCond .eq 40, 3) := by decide +kernel
theorem dX8_orderHere_138 : decode cX8_orderHere 138 = .ok (.aload_n 0, 1) := by decide +kernel
theorem dX8_orderHere_139 : decode cX8_orderHere 139 = .ok (.iload_n 1, 1) := by decide +kernel
theorem dX8_orderHere_140 : decode cX8_orderHere 140 = .ok (.iconst 1, 1) := by decide +kernel
theorem dX8_orderHere_141 : decode cX8_orderHere 141 = .ok (.iadd, 1) := by decide +kernel
theorem dX8_orderHere_142 : decode cX8_orderHere 142 = .ok (.iconst 2, 1) := by decide +kernel
theorem dX8_orderHere_143 : decode cX8_orderHere 143 = .ok (.invokevirtual 150, 3) := by decide +kernel
theorem dX8_orderHere_146 : decode cX8_orderHere 146 = .ok (.ifCond .eq 27, 3) := by decide +kernel
theorem dX8_orderHere_149 : decode cX8_orderHere 149 = .ok (.aload_n 0, 1) := by decide +kernel
theorem dX8_orderHere_150 : decode cX8_orderHere 150 = .ok (.bipush 61, 2) := by decide +kernel
theorem dX8_orderHere_152 : decode cX8_orderHere 152 = .ok (.invokevirtual 147, 3) := by decide +kernel
theorem dX8_orderHere_155 : decode cX8_orderHere 155 = .ok (.ifCond .eq 18, 3) := by decide +kernel
theorem dX8_orderHere_158 : decode cX8_orderHere 158 = .ok (.aload_n 0, 1) := by decide +kernel
theorem dX8_orderHere_159 : decode cX8_orderHere 159 = .ok (.iload_n 1, 1) := by decide +kernel
theorem dX8_orderHere_160 : decode cX8_orderHere 160 = .ok (.iconst 2, 1) := by decide +kernel
theorem dX8_orderHere_161 : decode cX8_orderHere 161 = .ok (.iadd, 1) := by decide +kernel
theorem dX8_orderHere_162 : decode cX8_orderHere 162 = .ok (.iconst 4, 1) := by decide +kernel
theorem dX8_orderHere_163 : decode cX8_orderHere 163 = .ok (.invokevirtual 150, 3) := by decide +kernel
theorem dX8_orderHere_166 : decode cX8_orderHere 166 = .ok (.ifCond .eq 7, 3) := by decide +kernel
theorem dX8_orderHere_169 : decode cX8_orderHere 169 = .ok (.iconst 1, 1) := by decide +kernel
theorem dX8_orderHere_170 : decode cX8_orderHere 170 = .ok (.goto 4, 3) := by decide +kernel
theorem dX8_orderHere_173 : decode cX8_orderHere 173 = .ok (.iconst 0, 1) := by decide +kernel
theorem dX8_orderHere_174 : decode cX8_orderHere 174 = .ok (.ireturn, 1) := by decide +kernel
theorem dX8_orderHere_175 : decode cX8_orderHere 175 = .ok (.aload_n 0, 1) := by decide +kernel
theorem dX8_orderHere_176 : decode cX8_orderHere 176 = .ok (.bipush 99, 2) := by decide +kernel
theorem dX8_orderHere_178 : decode cX8_orderHere 178 = .ok (.invokevirtual 147, 3) := by decide +kernel
theorem dX8_orderHere_181 : decode cX8_orderHere 181 = .ok (.ifCond .eq 12, 3) := by decide +kernel
theorem dX8_orderHere_184 : decode cX8_orderHere 184 = .ok (.aload_n 0, 1) := by decide +kernel
theorem dX8_orderHere_185 : decode cX8_orderHere 185 = .ok (.iload_n 1, 1) := by decide +kernel
theorem dX8_orderHere_186 : decode cX8_orderHere 186 = .ok (.iconst 1, 1) := by decide +kernel
theorem dX8_orderHere_187 : decode cX8_orderHere 187 = .ok (.iadd, 1) := by decide +kernel
theorem dX8_orderHere_188 : decode cX8_orderHere 188 = .ok (.iconst 1, 1) := by decide +kernel
theorem dX8_orderHere_189 : decode cX8_orderHere 189 = .ok (.invokevirtual 150, 3) := by decide +kernel
theorem dX8_orderHere_192 : decode cX8_orderHere 192 = .ok (.ireturn, 1) := by decide +kernel
theorem dX8_orderHere_193 : decode cX8_orderHere 193 = .ok (.aload_n 0, 1) := by decide +kernel
theorem dX8_orderHere_194 : decode cX8_orderHere 194 = .ok (.bipush 119, 2) := by decide +kernel
theorem dX8_orderHere_196 : decode cX8_orderHere 196 = .ok (.invokevirtual 147, 3) := by decide +kernel
theorem dX8_orderHere_199 : decode cX8_orderHere 199 = .ok (.ifCond .ne 21, 3) := by decide +kernel
theorem dX8_orderHere_202 : decode cX8_orderHere 202 = .ok (.aload_n 0, 1) := by decide +kernel
theorem dX8_orderHere_203 : decode cX8_orderHere 203 = .ok (.bipush 114, 2) := by decide +kernel
theorem dX8_orderHere_205 : decode cX8_orderHere 205 = .ok (.invokevirtual 147, 3) := by decide +kernel
theorem dX8_orderHere_208 : decode cX8_orderHere 208 = .ok (.ifCond .ne 12, 3) := by decide +kernel
theorem dX8_orderHere_211 : decode cX8_orderHere 211 = .ok (.aload_n 0, 1) := by decide +kernel
theorem dX8_orderHere_212 : decode cX8_orderHere 212 = .ok (.bipush 110, 2) := by decide +kernel
theorem dX8_orderHere_214 : decode cX8_orderHere 214 = .ok (.invokevirtual 147, 3) := by decide +kernel
theorem dX8_orderHere_217 : decode cX8_orderHere 217 = .ok (.ifCond .eq 18, 3) := by decide +kernel
theorem dX8_orderHere_220 : decode cX8_orderHere 220 = .ok (.aload_n 0, 1) := by decide +kernel
theorem dX8_orderHere_221 : decode cX8_orderHere 221 = .ok (.iload_n 1, 1) := by decide +kernel
theorem dX8_orderHere_222 : decode cX8_orderHere 222 = .ok (.iconst 1, 1) := by decide +kernel
theorem dX8_orderHere_223 : decode cX8_orderHere 223 = .ok (.iadd, 1) := by decide +kernel
theorem dX8_orderHere_224 : decode cX8_orderHere 224 = .ok (.iconst 2, 1) := by decide +kernel
theorem dX8_orderHere_225 : decode cX8_orderHere 225 = .ok (.invokevirtual 150, 3) := by decide +kernel
theorem dX8_orderHere_228 : decode cX8_orderHere 228 = .ok (.ifCond .eq 7, 3) := by decide +kernel
theorem dX8_orderHere_231 : decode cX8_orderHere 231 = .ok (.iconst 1, 1) := by decide +kernel
theorem dX8_orderHere_232 : decode cX8_orderHere 232 = .ok (.goto 4, 3) := by decide +kernel
theorem dX8_orderHere_235 : decode cX8_orderHere 235 = .ok (.iconst 0, 1) := by decide +kernel
theorem dX8_orderHere_236 : decode cX8_orderHere 236 = .ok (.ireturn, 1) := by decide +kernel
theorem dX8_isText_0 : decode cX8_isText 0 = .ok (.aload_n 0, 1) := by decide +kernel
theorem dX8_isText_1 : decode cX8_isText 1 = .ok (.iconst 0, 1) := by decide +kernel
theorem dX8_isText_2 : decode cX8_isText 2 = .ok (.putfield 138, 3) := by decide +kernel
theorem dX8_isText_5 : decode cX8_isText 5 = .ok (.aload_n 0, 1) := by decide +kernel
theorem dX8_isText_6 : decode cX8_isText 6 = .ok (.iconst 0, 1) := by decide +kernel
theorem dX8_isText_7 : decode cX8_isText 7 = .ok (.putfield 144, 3) := by decide +kernel
theorem dX8_isText_10 : decode cX8_isText 10 = .ok (.aload_n 0, 1) := by decide +kernel
theorem dX8_isText_11 : decode cX8_isText 11 = .ok (.invokevirtual 153, 3) := by decide +kernel
theorem dX8_isText_14 : decode cX8_isText 14 = .ok (.ifCond .ne 5, 3) := by decide +kernel
theorem dX8_isText_17 : decode cX8_isText 17 = .ok (.iconst 0, 1) := by decide +kernel
theorem dX8_isText_18 : decode cX8_isText 18 = .ok (.ireturn, 1) := by decide +kernel
theorem dX8_isText_19 : decode cX8_isText 19 = .ok (.aload_n 0, 1) := by decide +kernel
theorem dX8_isText_20 : decode cX8_isText 20 = .ok (.dup, 1) := by decide +kernel
theorem dX8_isText_21 : decode cX8_isText 21 = .ok (.getfield 144, 3) := by decide +kernel
theorem dX8_isText_24 : decode cX8_isText 24 = .ok (.iconst 1, 1) := by decide +kernel
theorem dX8_isText_25 : decode cX8_isText 25 = .ok (.iadd, 1) := by decide +kernel
theorem dX8_isText_26 : decode cX8_isText 26 = .ok (.putfield 144, 3) := by decide +kernel
theorem dX8_isText_29 : decode cX8_isText 29 = .ok (.aload_n 0, 1) := by decide +kernel
theorem dX8_isText_30 : decode cX8_isText 30 = .ok (.bipush 59, 2) := by decide +kernel
theorem dX8_isText_32 : decode cX8_isText 32 = .ok (.invokevirtual 147, 3) := by decide +kernel
theorem dX8_isText_35 : decode cX8_isText 35 = .ok (.ifCond .ne (-25), 3) := by decide +kernel
theorem dX8_isText_38 : decode cX8_isText 38 = .ok (.aload_n 0, 1) := by decide +kernel
theorem dX8_isText_39 : decode cX8_isText 39 = .ok (.getfield 138, 3) := by decide +kernel
theorem dX8_isText_42 : decode cX8_isText 42 = .ok (.aload_n 0, 1) := by decide +kernel
theorem dX8_isText_43 : decode cX8_isText 43 = .ok (.getfield 135, 3) := by decide +kernel
theorem dX8_isText_46 : decode cX8_isText 46 = .ok (.if_icmp .ne 7, 3) := by decide +kernel
theorem dX8_isText_49 : decode cX8_isText 49 = .ok (.iconst 1, 1) := by decide +kernel
theorem dX8_isText_50 : decode cX8_isText 50 = .ok (.goto 4, 3) := by decide +kernel
theorem dX8_isText_53 : decode cX8_isText 53 = .ok (.iconst 0, 1) := by decide +kernel
theorem dX8_isText_54 : decode cX8_isText 54 = .ok (.ireturn, 1) := by decide +kernel
theorem dX8_carries_0 : decode cX8_carries 0 = .ok (.aload_n 0, 1) := by decide +kernel
theorem dX8_carries_1 : decode cX8_carries 1 = .ok (.getfield 36, 3) := by decide +kernel
theorem dX8_carries_4 : decode cX8_carries 4 = .ok (.iload_n 1, 1) := by decide +kernel
theorem dX8_carries_5 : decode cX8_carries 5 = .ok (.iaload, 1) := by decide +kernel
theorem dX8_carries_6 : decode cX8_carries 6 = .ok (.lookupswitch 168 #[(99, 129), (112, 58), (114, 155), (115, 108), (119, 142), (121, 87)], 58) := by decide +kernel
theorem dX8_carries_64 : decode cX8_carries 64 = .ok (.aload_n 0, 1) := by decide +kernel
theorem dX8_carries_65 : decode cX8_carries 65 = .ok (.aload_n 0, 1) := by decide +kernel
theorem dX8_carries_66 : decode cX8_carries 66 = .ok (.getfield 36, 3) := by decide +kernel
theorem dX8_carries_69 : decode cX8_carries 69 = .ok (.iload_n 1, 1) := by decide +kernel
theorem dX8_carries_70 : decode cX8_carries 70 = .ok (.iconst 1, 1) := by decide +kernel
theorem dX8_carries_71 : decode cX8_carries 71 = .ok (.iadd, 1) := by decide +kernel
theorem dX8_carries_72 : decode cX8_carries 72 = .ok (.iaload, 1) := by decide +kernel
theorem dX8_carries_73 : decode cX8_carries 73 = .ok (.aload_n 0, 1) := by decide +kernel
theorem dX8_carries_74 : decode cX8_carries 74 = .ok (.getfield 36, 3) := by decide +kernel
theorem dX8_carries_77 : decode cX8_carries 77 = .ok (.iload_n 1, 1) := by decide +kernel
theorem dX8_carries_78 : decode cX8_carries 78 = .ok (.iconst 2, 1) := by decide +kernel
theorem dX8_carries_79 : decode cX8_carries 79 = .ok (.iadd, 1) := by decide +kernel
theorem dX8_carries_80 : decode cX8_carries 80 = .ok (.iaload, 1) := by decide +kernel
theorem dX8_carries_81 : decode cX8_carries 81 = .ok (.aload_n 0, 1) := by decide +kernel
theorem dX8_carries_82 : decode cX8_carries 82 = .ok (.getfield 36, 3) := by decide +kernel
theorem dX8_carries_85 : decode cX8_carries 85 = .ok (.iload_n 1, 1) := by decide +kernel
theorem dX8_carries_86 : decode cX8_carries 86 = .ok (.iconst 3, 1) := by decide +kernel
theorem dX8_carries_87 : decode cX8_carries 87 = .ok (.iadd, 1) := by decide +kernel
theorem dX8_carries_88 : decode cX8_carries 88 = .ok (.iaload, 1) := by decide +kernel
theorem dX8_carries_89 : decode cX8_carries 89 = .ok (.invokevirtual 157, 3) := by decide +kernel
theorem dX8_carries_92 : decode cX8_carries 92 = .ok (.ireturn, 1) := by decide +kernel
theorem dX8_carries_93 : decode cX8_carries 93 = .ok (.aload_n 0, 1) := by decide +kernel
theorem dX8_carries_94 : decode cX8_carries 94 = .ok (.aload_n 0, 1) := by decide +kernel
theorem dX8_carries_95 : decode cX8_carries 95 = .ok (.getfield 36, 3) := by decide +kernel
theorem dX8_carries_98 : decode cX8_carries 98 = .ok (.iload_n 1, 1) := by decide +kernel
theorem dX8_carries_99 : decode cX8_carries 99 = .ok (.iconst 1, 1) := by decide +kernel
theorem dX8_carries_100 : decode cX8_carries 100 = .ok (.iadd, 1) := by decide +kernel
theorem dX8_carries_101 : decode cX8_carries 101 = .ok (.iaload, 1) := by decide +kernel
theorem dX8_carries_102 : decode cX8_carries 102 = .ok (.aload_n 0, 1) := by decide +kernel
theorem dX8_carries_103 : decode cX8_carries 103 = .ok (.getfield 36, 3) := by decide +kernel
theorem dX8_carries_106 : decode cX8_carries 106 = .ok (.iload_n 1, 1) := by decide +kernel
theorem dX8_carries_107 : decode cX8_carries 107 = .ok (.iconst 2, 1) := by decide +kernel
theorem dX8_carries_108 : decode cX8_carries 108 = .ok (.iadd, 1) := by decide +kernel
theorem dX8_carries_109 : decode cX8_carries 109 = .ok (.iaload, 1) := by decide +kernel
theorem dX8_carries_110 : decode cX8_carries 110 = .ok (.invokevirtual 160, 3) := by decide +kernel
theorem dX8_carries_113 : decode cX8_carries 113 = .ok (.ireturn, 1) := by decide +kernel
theorem dX8_carries_114 : decode cX8_carries 114 = .ok (.aload_n 0, 1) := by decide +kernel
theorem dX8_carries_115 : decode cX8_carries 115 = .ok (.aload_n 0, 1) := by decide +kernel
theorem dX8_carries_116 : decode cX8_carries 116 = .ok (.getfield 36, 3) := by decide +kernel
theorem dX8_carries_119 : decode cX8_carries 119 = .ok (.iload_n 1, 1) := by decide +kernel
theorem dX8_carries_120 : decode cX8_carries 120 = .ok (.iconst 1, 1) := by decide +kernel
theorem dX8_carries_121 : decode cX8_carries 121 = .ok (.iadd, 1) := by decide +kernel
theorem dX8_carries_122 : decode cX8_carries 122 = .ok (.iaload, 1) := by decide +kernel
theorem dX8_carries_123 : decode cX8_carries 123 = .ok (.aload_n 0, 1) := by decide +kernel
theorem dX8_carries_124 : decode cX8_carries 124 = .ok (.getfield 36, 3) := by decide +kernel
theorem dX8_carries_127 : decode cX8_carries 127 = .ok (.iload_n 1, 1) := by decide +kernel
theorem dX8_carries_128 : decode cX8_carries 128 = .ok (.iconst 2, 1) := by decide +kernel
theorem dX8_carries_129 : decode cX8_carries 129 = .ok (.iadd, 1) := by decide +kernel
theorem dX8_carries_130 : decode cX8_carries 130 = .ok (.iaload, 1) := by decide +kernel
theorem dX8_carries_131 : decode cX8_carries 131 = .ok (.invokevirtual 163, 3) := by decide +kernel
theorem dX8_carries_134 : decode cX8_carries 134 = .ok (.ireturn, 1) := by decide +kernel
theorem dX8_carries_135 : decode cX8_carries 135 = .ok (.aload_n 0, 1) := by decide +kernel
theorem dX8_carries_136 : decode cX8_carries 136 = .ok (.aload_n 0, 1) := by decide +kernel
theorem dX8_carries_137 : decode cX8_carries 137 = .ok (.getfield 36, 3) := by decide +kernel
theorem dX8_carries_140 : decode cX8_carries 140 = .ok (.iload_n 1, 1) := by decide +kernel
theorem dX8_carries_141 : decode cX8_carries 141 = .ok (.iconst 1, 1) := by decide +kernel
theorem dX8_carries_142 : decode cX8_carries 142 = .ok (.iadd, 1) := by decide +kernel
theorem dX8_carries_143 : decode cX8_carries 143 = .ok (.iaload, 1) := by decide +kernel
theorem dX8_carries_144 : decode cX8_carries 144 = .ok (.invokevirtual 166, 3) := by decide +kernel
theorem dX8_carries_147 : decode cX8_carries 147 = .ok (.ireturn, 1) := by decide +kernel
theorem dX8_carries_148 : decode cX8_carries 148 = .ok (.aload_n 0, 1) := by decide +kernel
theorem dX8_carries_149 : decode cX8_carries 149 = .ok (.aload_n 0, 1) := by decide +kernel
theorem dX8_carries_150 : decode cX8_carries 150 = .ok (.getfield 36, 3) := by decide +kernel
theorem dX8_carries_153 : decode cX8_carries 153 = .ok (.iload_n 1, 1) := by decide +kernel
theorem dX8_carries_154 : decode cX8_carries 154 = .ok (.iconst 1, 1) := by decide +kernel
theorem dX8_carries_155 : decode cX8_carries 155 = .ok (.iadd, 1) := by decide +kernel
theorem dX8_carries_156 : decode cX8_carries 156 = .ok (.iaload, 1) := by decide +kernel
theorem dX8_carries_157 : decode cX8_carries 157 = .ok (.invokevirtual 169, 3) := by decide +kernel
theorem dX8_carries_160 : decode cX8_carries 160 = .ok (.ireturn, 1) := by decide +kernel
theorem dX8_carries_161 : decode cX8_carries 161 = .ok (.aload_n 0, 1) := by decide +kernel
theorem dX8_carries_162 : decode cX8_carries 162 = .ok (.aload_n 0, 1) := by decide +kernel
theorem dX8_carries_163 : decode cX8_carries 163 = .ok (.getfield 36, 3) := by decide +kernel
theorem dX8_carries_166 : decode cX8_carries 166 = .ok (.iload_n 1, 1) := by decide +kernel
theorem dX8_carries_167 : decode cX8_carries 167 = .ok (.iconst 1, 1) := by decide +kernel
theorem dX8_carries_168 : decode cX8_carries 168 = .ok (.iadd, 1) := by decide +kernel
theorem dX8_carries_169 : decode cX8_carries 169 = .ok (.iaload, 1) := by decide +kernel
theorem dX8_carries_170 : decode cX8_carries 170 = .ok (.invokevirtual 172, 3) := by decide +kernel
theorem dX8_carries_173 : decode cX8_carries 173 = .ok (.ireturn, 1) := by decide +kernel
theorem dX8_carries_174 : decode cX8_carries 174 = .ok (.aload_n 0, 1) := by decide +kernel
theorem dX8_carries_175 : decode cX8_carries 175 = .ok (.aload_n 0, 1) := by decide +kernel
theorem dX8_carries_176 : decode cX8_carries 176 = .ok (.getfield 36, 3) := by decide +kernel
theorem dX8_carries_179 : decode cX8_carries 179 = .ok (.iload_n 1, 1) := by decide +kernel
theorem dX8_carries_180 : decode cX8_carries 180 = .ok (.iconst 1, 1) := by decide +kernel
theorem dX8_carries_181 : decode cX8_carries 181 = .ok (.iadd, 1) := by decide +kernel
theorem dX8_carries_182 : decode cX8_carries 182 = .ok (.iaload, 1) := by decide +kernel
theorem dX8_carries_183 : decode cX8_carries 183 = .ok (.invokevirtual 175, 3) := by decide +kernel
theorem dX8_carries_186 : decode cX8_carries 186 = .ok (.ireturn, 1) := by decide +kernel
theorem dX8_lastOf_0 : decode cX8_lastOf 0 = .ok (.iload_n 0, 1) := by decide +kernel
theorem dX8_lastOf_1 : decode cX8_lastOf 1 = .ok (.bipush 119, 2) := by decide +kernel
theorem dX8_lastOf_3 : decode cX8_lastOf 3 = .ok (.if_icmp .ne 7, 3) := by decide +kernel
theorem dX8_lastOf_6 : decode cX8_lastOf 6 = .ok (.iconst (-1), 1) := by decide +kernel
theorem dX8_lastOf_7 : decode cX8_lastOf 7 = .ok (.goto 26, 3) := by decide +kernel
theorem dX8_lastOf_10 : decode cX8_lastOf 10 = .ok (.iload_n 0, 1) := by decide +kernel
theorem dX8_lastOf_11 : decode cX8_lastOf 11 = .ok (.bipush 112, 2) := by decide +kernel
theorem dX8_lastOf_13 : decode cX8_lastOf 13 = .ok (.if_icmp .eq 15, 3) := by decide +kernel
theorem dX8_lastOf_16 : decode cX8_lastOf 16 = .ok (.iload_n 0, 1) := by decide +kernel
theorem dX8_lastOf_17 : decode cX8_lastOf 17 = .ok (.bipush 121, 2) := by decide +kernel
theorem dX8_lastOf_19 : decode cX8_lastOf 19 = .ok (.if_icmp .eq 9, 3) := by decide +kernel
theorem dX8_lastOf_22 : decode cX8_lastOf 22 = .ok (.iload_n 0, 1) := by decide +kernel
theorem dX8_lastOf_23 : decode cX8_lastOf 23 = .ok (.bipush 115, 2) := by decide +kernel
theorem dX8_lastOf_25 : decode cX8_lastOf 25 = .ok (.if_icmp .ne 7, 3) := by decide +kernel
theorem dX8_lastOf_28 : decode cX8_lastOf 28 = .ok (.iconst 3, 1) := by decide +kernel
theorem dX8_lastOf_29 : decode cX8_lastOf 29 = .ok (.goto 4, 3) := by decide +kernel
theorem dX8_lastOf_32 : decode cX8_lastOf 32 = .ok (.iconst 2, 1) := by decide +kernel
theorem dX8_lastOf_33 : decode cX8_lastOf 33 = .ok (.ireturn, 1) := by decide +kernel
theorem dX8_run_0 : decode cX8_run 0 = .ok (.aload_n 0, 1) := by decide +kernel
theorem dX8_run_1 : decode cX8_run 1 = .ok (.invokevirtual 178, 3) := by decide +kernel
theorem dX8_run_4 : decode cX8_run 4 = .ok (.istore_n 1, 1) := by decide +kernel
theorem dX8_run_5 : decode cX8_run 5 = .ok (.aload_n 0, 1) := by decide +kernel
theorem dX8_run_6 : decode cX8_run 6 = .ok (.iload_n 1, 1) := by decide +kernel
theorem dX8_run_7 : decode cX8_run 7 = .ok (.ifCond .eq 7, 3) := by decide +kernel
theorem dX8_run_10 : decode cX8_run 10 = .ok (.iconst (-1), 1) := by decide +kernel
theorem dX8_run_11 : decode cX8_run 11 = .ok (.goto 7, 3) := by decide +kernel
theorem dX8_run_14 : decode cX8_run 14 = .ok (.aload_n 0, 1) := by decide +kernel
theorem dX8_run_15 : decode cX8_run 15 = .ok (.getfield 138, 3) := by decide +kernel
theorem dX8_run_18 : decode cX8_run 18 = .ok (.putfield 29, 3) := by decide +kernel
theorem dX8_run_21 : decode cX8_run 21 = .ok (.aload_n 0, 1) := by decide +kernel
theorem dX8_run_22 : decode cX8_run 22 = .ok (.iconst 0, 1) := by decide +kernel
theorem dX8_run_23 : decode cX8_run 23 = .ok (.putfield 135, 3) := by decide +kernel
theorem dX8_run_26 : decode cX8_run 26 = .ok (.aload_n 0, 1) := by decide +kernel
theorem dX8_run_27 : decode cX8_run 27 = .ok (.iload_n 1, 1) := by decide +kernel
theorem dX8_run_28 : decode cX8_run 28 = .ok (.ifCond .eq 7, 3) := by decide +kernel
theorem dX8_run_31 : decode cX8_run 31 = .ok (.iconst 0, 1) := by decide +kernel
theorem dX8_run_32 : decode cX8_run 32 = .ok (.goto 4, 3) := by decide +kernel
theorem dX8_run_35 : decode cX8_run 35 = .ok (.iconst 1, 1) := by decide +kernel
theorem dX8_run_36 : decode cX8_run 36 = .ok (.invokevirtual 67, 3) := by decide +kernel
theorem dX8_run_39 : decode cX8_run 39 = .ok (.ifCond .eq 5, 3) := by decide +kernel
theorem dX8_run_42 : decode cX8_run 42 = .ok (.iconst 0, 1) := by decide +kernel
theorem dX8_run_43 : decode cX8_run 43 = .ok (.ireturn, 1) := by decide +kernel
theorem dX8_run_44 : decode cX8_run 44 = .ok (.aload_n 0, 1) := by decide +kernel
theorem dX8_run_45 : decode cX8_run 45 = .ok (.getfield 7, 3) := by decide +kernel
theorem dX8_run_48 : decode cX8_run 48 = .ok (.iconst 0, 1) := by decide +kernel
theorem dX8_run_49 : decode cX8_run 49 = .ok (.aload_n 0, 1) := by decide +kernel
theorem dX8_run_50 : decode cX8_run 50 = .ok (.getfield 19, 3) := by decide +kernel
theorem dX8_run_53 : decode cX8_run 53 = .ok (.iconst 0, 1) := by decide +kernel
theorem dX8_run_54 : decode cX8_run 54 = .ok (.invokestatic 55, 3) := by decide +kernel
theorem dX8_run_57 : decode cX8_run 57 = .ok (.aload_n 0, 1) := by decide +kernel
theorem dX8_run_58 : decode cX8_run 58 = .ok (.iconst 1, 1) := by decide +kernel
theorem dX8_run_59 : decode cX8_run 59 = .ok (.putfield 48, 3) := by decide +kernel
theorem dX8_run_62 : decode cX8_run 62 = .ok (.iconst 0, 1) := by decide +kernel
theorem dX8_run_63 : decode cX8_run 63 = .ok (.istore_n 2, 1) := by decide +kernel
theorem dX8_run_64 : decode cX8_run 64 = .ok (.iconst 0, 1) := by decide +kernel
theorem dX8_run_65 : decode cX8_run 65 = .ok (.istore_n 3, 1) := by decide +kernel
theorem dX8_run_66 : decode cX8_run 66 = .ok (.iload_n 2, 1) := by decide +kernel
theorem dX8_run_67 : decode cX8_run 67 = .ok (.aload_n 0, 1) := by decide +kernel
theorem dX8_run_68 : decode cX8_run 68 = .ok (.getfield 144, 3) := by decide +kernel
theorem dX8_run_71 : decode cX8_run 71 = .ok (.if_icmp .ge 24, 3) := by decide +kernel
theorem dX8_run_74 : decode cX8_run 74 = .ok (.aload_n 0, 1) := by decide +kernel
theorem dX8_run_75 : decode cX8_run 75 = .ok (.getfield 39, 3) := by decide +kernel
theorem dX8_run_78 : decode cX8_run 78 = .ok (.ifCond .ne 17, 3) := by decide +kernel
theorem dX8_run_81 : decode cX8_run 81 = .ok (.aload_n 0, 1) := by decide +kernel
theorem dX8_run_82 : decode cX8_run 82 = .ok (.iconst 4, 1) := by decide +kernel
theorem dX8_run_83 : decode cX8_run 83 = .ok (.iload_n 2, 1) := by decide +kernel
theorem dX8_run_84 : decode cX8_run 84 = .ok (.imul, 1) := by decide +kernel
theorem dX8_run_85 : decode cX8_run 85 = .ok (.invokevirtual 181, 3) := by decide +kernel
theorem dX8_run_88 : decode cX8_run 88 = .ok (.istore_n 3, 1) := by decide +kernel
theorem dX8_run_89 : decode cX8_run 89 = .ok (.iinc 2 1, 3) := by decide +kernel
theorem dX8_run_92 : decode cX8_run 92 = .ok (.goto (-26), 3) := by decide +kernel
theorem dX8_run_95 : decode cX8_run 95 = .ok (.aload_n 0, 1) := by decide +kernel
theorem dX8_run_96 : decode cX8_run 96 = .ok (.iconst 0, 1) := by decide +kernel
theorem dX8_run_97 : decode cX8_run 97 = .ok (.putfield 48, 3) := by decide +kernel
theorem dX8_run_100 : decode cX8_run 100 = .ok (.aload_n 0, 1) := by decide +kernel
theorem dX8_run_101 : decode cX8_run 101 = .ok (.getfield 39, 3) := by decide +kernel
theorem dX8_run_104 : decode cX8_run 104 = .ok (.ifCond .le 98, 3) := by decide +kernel
theorem dX8_run_107 : decode cX8_run 107 = .ok (.aload_n 0, 1) := by decide +kernel
theorem dX8_run_108 : decode cX8_run 108 = .ok (.getfield 19, 3) := by decide +kernel
theorem dX8_run_111 : decode cX8_run 111 = .ok (.iconst 0, 1) := by decide +kernel
theorem dX8_run_112 : decode cX8_run 112 = .ok (.aload_n 0, 1) := by decide +kernel
theorem dX8_run_113 : decode cX8_run 113 = .ok (.getfield 7, 3) := by decide +kernel
theorem dX8_run_116 : decode cX8_run 116 = .ok (.iconst 0, 1) := by decide +kernel
theorem dX8_run_117 : decode cX8_run 117 = .ok (.invokestatic 55, 3) := by decide +kernel
theorem dX8_run_120 : decode cX8_run 120 = .ok (.aload_n 0, 1) := by decide +kernel
theorem dX8_run_121 : decode cX8_run 121 = .ok (.getfield 39, 3) := by decide +kernel
theorem dX8_run_124 : decode cX8_run 124 = .ok (.aload_n 0, 1) := by decide +kernel
theorem dX8_run_125 : decode cX8_run 125 = .ok (.getfield 36, 3) := by decide +kernel
theorem dX8_run_128 : decode cX8_run 128 = .ok (.iconst 4, 1) := by decide +kernel
theorem dX8_run_129 : decode cX8_run 129 = .ok (.iload_n 2, 1) := by decide +kernel
theorem dX8_run_130 : decode cX8_run 130 = .ok (.imul, 1) := by decide +kernel
theorem dX8_run_131 : decode cX8_run 131 = .ok (.iconst 4, 1) := by decide +kernel
theorem dX8_run_132 : decode cX8_run 132 = .ok (.isub, 1) := by decide +kernel
theorem dX8_run_133 : decode cX8_run 133 = .ok (.iaload, 1) := by decide +kernel
theorem dX8_run_134 : decode cX8_run 134 = .ok (.invokestatic 184, 3) := by decide +kernel
theorem dX8_run_137 : decode cX8_run 137 = .ok (.if_icmp .ne 7, 3) := by decide +kernel
theorem dX8_run_140 : decode cX8_run 140 = .ok (.iconst 1, 1) := by decide +kernel
theorem dX8_run_141 : decode cX8_run 141 = .ok (.goto 4, 3) := by decide +kernel
theorem dX8_run_144 : decode cX8_run 144 = .ok (.iconst 0, 1) := by decide +kernel
theorem dX8_run_145 : decode cX8_run 145 = .ok (.istore 4, 2) := by decide +kernel
theorem dX8_run_147 : decode cX8_run 147 = .ok (.iload 4, 2) := by decide +kernel
theorem dX8_run_149 : decode cX8_run 149 = .ok (.ifCond .eq 10, 3) := by decide +kernel
theorem dX8_run_152 : decode cX8_run 152 = .ok (.aload_n 0, 1) := by decide +kernel
theorem dX8_run_153 : decode cX8_run 153 = .ok (.getfield 42, 3) := by decide +kernel
theorem dX8_run_156 : decode cX8_run 156 = .ok (.goto 4, 3) := by decide +kernel
theorem dX8_run_159 : decode cX8_run 159 = .ok (.iconst 0, 1) := by decide +kernel
theorem dX8_run_160 : decode cX8_run 160 = .ok (.istore 5, 2) := by decide +kernel
theorem dX8_run_162 : decode cX8_run 162 = .ok (.iload 4, 2) := by decide +kernel
theorem dX8_run_164 : decode cX8_run 164 = .ok (.ifCond .eq 10, 3) := by decide +kernel
theorem dX8_run_167 : decode cX8_run 167 = .ok (.aload_n 0, 1) := by decide +kernel
theorem dX8_run_168 : decode cX8_run 168 = .ok (.getfield 45, 3) := by decide +kernel
theorem dX8_run_171 : decode cX8_run 171 = .ok (.goto 4, 3) := by decide +kernel
theorem dX8_run_174 : decode cX8_run 174 = .ok (.iconst 0, 1) := by decide +kernel
theorem dX8_run_175 : decode cX8_run 175 = .ok (.istore 6, 2) := by decide +kernel
theorem dX8_run_177 : decode cX8_run 177 = .ok (.aload_n 0, 1) := by decide +kernel
theorem dX8_run_178 : decode cX8_run 178 = .ok (.iconst 2, 1) := by decide +kernel
theorem dX8_run_179 : decode cX8_run 179 = .ok (.bipush 11, 2) := by decide +kernel
theorem dX8_run_181 : decode cX8_run 181 = .ok (.iload_n 2, 1) := by decide +kernel
theorem dX8_run_182 : decode cX8_run 182 = .ok (.iconst 1, 1) := by decide +kernel
theorem dX8_run_183 : decode cX8_run 183 = .ok (.isub, 1) := by decide +kernel
theorem dX8_run_184 : decode cX8_run 184 = .ok (.invokevirtual 71, 3) := by decide +kernel
theorem dX8_run_187 : decode cX8_run 187 = .ok (.istore_n 3, 1) := by decide +kernel
theorem dX8_run_188 : decode cX8_run 188 = .ok (.aload_n 0, 1) := by decide +kernel
theorem dX8_run_189 : decode cX8_run 189 = .ok (.iload 5, 2) := by decide +kernel
theorem dX8_run_191 : decode cX8_run 191 = .ok (.putfield 22, 3) := by decide +kernel
theorem dX8_run_194 : decode cX8_run 194 = .ok (.aload_n 0, 1) := by decide +kernel
theorem dX8_run_195 : decode cX8_run 195 = .ok (.iload 6, 2) := by decide +kernel
theorem dX8_run_197 : decode cX8_run 197 = .ok (.putfield 187, 3) := by decide +kernel
theorem dX8_run_200 : decode cX8_run 200 = .ok (.iload_n 3, 1) := by decide +kernel
theorem dX8_run_201 : decode cX8_run 201 = .ok (.ireturn, 1) := by decide +kernel
theorem dX8_run_202 : decode cX8_run 202 = .ok (.aload_n 0, 1) := by decide +kernel
theorem dX8_run_203 : decode cX8_run 203 = .ok (.aload_n 0, 1) := by decide +kernel
theorem dX8_run_204 : decode cX8_run 204 = .ok (.getfield 19, 3) := by decide +kernel
theorem dX8_run_207 : decode cX8_run 207 = .ok (.invokevirtual 75, 3) := by decide +kernel
theorem dX8_run_210 : decode cX8_run 210 = .ok (.iload_n 3, 1) := by decide +kernel
theorem dX8_run_211 : decode cX8_run 211 = .ok (.ifCond .ge 7, 3) := by decide +kernel
theorem dX8_run_214 : decode cX8_run 214 = .ok (.iconst 0, 1) := by decide +kernel
theorem dX8_run_215 : decode cX8_run 215 = .ok (.goto 7, 3) := by decide +kernel
theorem dX8_run_218 : decode cX8_run 218 = .ok (.aload_n 0, 1) := by decide +kernel
theorem dX8_run_219 : decode cX8_run 219 = .ok (.getfield 144, 3) := by decide +kernel
theorem dX8_run_222 : decode cX8_run 222 = .ok (.ireturn, 1) := by decide +kernel
theorem dX8_errorPosition_0 : decode cX8_errorPosition 0 = .ok (.aload_n 0, 1) := by decide +kernel
theorem dX8_errorPosition_1 : decode cX8_errorPosition 1 = .ok (.iconst 0, 1) := by decide +kernel
theorem dX8_errorPosition_2 : decode cX8_errorPosition 2 = .ok (.putfield 39, 3) := by decide +kernel
theorem dX8_errorPosition_5 : decode cX8_errorPosition 5 = .ok (.aload_n 0, 1) := by decide +kernel
theorem dX8_errorPosition_6 : decode cX8_errorPosition 6 = .ok (.getfield 29, 3) := by decide +kernel
theorem dX8_errorPosition_9 : decode cX8_errorPosition 9 = .ok (.ireturn, 1) := by decide +kernel
theorem dX8_refusal_0 : decode cX8_refusal 0 = .ok (.aload_n 0, 1) := by decide +kernel
theorem dX8_refusal_1 : decode cX8_refusal 1 = .ok (.aload_n 0, 1) := by decide +kernel
theorem dX8_refusal_2 : decode cX8_refusal 2 = .ok (.getfield 42, 3) := by decide +kernel
theorem dX8_refusal_5 : decode cX8_refusal 5 = .ok (.ifCond .eq 14, 3) := by decide +kernel
theorem dX8_refusal_8 : decode cX8_refusal 8 = .ok (.iload_n 1, 1) := by decide +kernel
theorem dX8_refusal_9 : decode cX8_refusal 9 = .ok (.ifCond .eq 14, 3) := by decide +kernel
theorem dX8_refusal_12 : decode cX8_refusal 12 = .ok (.aload_n 0, 1) := by decide +kernel
theorem dX8_refusal_13 : decode cX8_refusal 13 = .ok (.getfield 22, 3) := by decide +kernel
theorem dX8_refusal_16 : decode cX8_refusal 16 = .ok (.ifCond .ge 7, 3) := by decide +kernel
theorem dX8_refusal_19 : decode cX8_refusal 19 = .ok (.iconst 1, 1) := by decide +kernel
theorem dX8_refusal_20 : decode cX8_refusal 20 = .ok (.goto 4, 3) := by decide +kernel
theorem dX8_refusal_23 : decode cX8_refusal 23 = .ok (.iconst 0, 1) := by decide +kernel
theorem dX8_refusal_24 : decode cX8_refusal 24 = .ok (.invokevirtual 67, 3) := by decide +kernel
theorem dX8_refusal_27 : decode cX8_refusal 27 = .ok (.ifCond .eq 5, 3) := by decide +kernel
theorem dX8_refusal_30 : decode cX8_refusal 30 = .ok (.iconst 0, 1) := by decide +kernel
theorem dX8_refusal_31 : decode cX8_refusal 31 = .ok (.ireturn, 1) := by decide +kernel
theorem dX8_refusal_32 : decode cX8_refusal 32 = .ok (.iload_n 1, 1) := by decide +kernel
theorem dX8_refusal_33 : decode cX8_refusal 33 = .ok (.ifCond .eq 21, 3) := by decide +kernel
theorem dX8_refusal_36 : decode cX8_refusal 36 = .ok (.iload_n 2, 1) := by decide +kernel
theorem dX8_refusal_37 : decode cX8_refusal 37 = .ok (.ifCond .eq 10, 3) := by decide +kernel
theorem dX8_refusal_40 : decode cX8_refusal 40 = .ok (.aload_n 0, 1) := by decide +kernel
theorem dX8_refusal_41 : decode cX8_refusal 41 = .ok (.getfield 187, 3) := by decide +kernel
theorem dX8_refusal_44 : decode cX8_refusal 44 = .ok (.goto 25, 3) := by decide +kernel
theorem dX8_refusal_47 : decode cX8_refusal 47 = .ok (.aload_n 0, 1) := by decide +kernel
theorem dX8_refusal_48 : decode cX8_refusal 48 = .ok (.getfield 22, 3) := by decide +kernel
theorem dX8_refusal_51 : decode cX8_refusal 51 = .ok (.goto 18, 3) := by decide +kernel
theorem dX8_refusal_54 : decode cX8_refusal 54 = .ok (.iload_n 2, 1) := by decide +kernel
theorem dX8_refusal_55 : decode cX8_refusal 55 = .ok (.ifCond .eq 10, 3) := by decide +kernel
theorem dX8_refusal_58 : decode cX8_refusal 58 = .ok (.aload_n 0, 1) := by decide +kernel
theorem dX8_refusal_59 : decode cX8_refusal 59 = .ok (.getfield 45, 3) := by decide +kernel
theorem dX8_refusal_62 : decode cX8_refusal 62 = .ok (.goto 7, 3) := by decide +kernel
theorem dX8_refusal_65 : decode cX8_refusal 65 = .ok (.aload_n 0, 1) := by decide +kernel
theorem dX8_refusal_66 : decode cX8_refusal 66 = .ok (.getfield 42, 3) := by decide +kernel
theorem dX8_refusal_69 : decode cX8_refusal 69 = .ok (.ireturn, 1) := by decide +kernel
theorem dX8_leftAll_0 : decode cX8_leftAll 0 = .ok (.iconst 0, 1) := by decide +kernel
theorem dX8_leftAll_1 : decode cX8_leftAll 1 = .ok (.istore_n 1, 1) := by decide +kernel
theorem dX8_leftAll_2 : decode cX8_leftAll 2 = .ok (.iconst 0, 1) := by decide +kernel
theorem dX8_leftAll_3 : decode cX8_leftAll 3 = .ok (.istore_n 2, 1) := by decide +kernel
theorem dX8_leftAll_4 : decode cX8_leftAll 4 = .ok (.iload_n 2, 1) := by decide +kernel
theorem dX8_leftAll_5 : decode cX8_leftAll 5 = .ok (.bipush 6, 2) := by decide +kernel
theorem dX8_leftAll_7 : decode cX8_leftAll 7 = .ok (.if_icmp .ge 22, 3) := by decide +kernel
theorem dX8_leftAll_10 : decode cX8_leftAll 10 = .ok (.iload_n 1, 1) := by decide +kernel
theorem dX8_leftAll_11 : decode cX8_leftAll 11 = .ok (.aload_n 0, 1) := by decide +kernel
theorem dX8_leftAll_12 : decode cX8_leftAll 12 = .ok (.getfield 7, 3) := by decide +kernel
theorem dX8_leftAll_15 : decode cX8_leftAll 15 = .ok (.sipush 187, 3) := by decide +kernel
theorem dX8_leftAll_18 : decode cX8_leftAll 18 = .ok (.iload_n 2, 1) := by decide +kernel
theorem dX8_leftAll_19 : decode cX8_leftAll 19 = .ok (.iadd, 1) := by decide +kernel
theorem dX8_leftAll_20 : decode cX8_leftAll 20 = .ok (.iaload, 1) := by decide +kernel
theorem dX8_leftAll_21 : decode cX8_leftAll 21 = .ok (.iadd, 1) := by decide +kernel
theorem dX8_leftAll_22 : decode cX8_leftAll 22 = .ok (.istore_n 1, 1) := by decide +kernel
theorem dX8_leftAll_23 : decode cX8_leftAll 23 = .ok (.iinc 2 1, 3) := by decide +kernel
theorem dX8_leftAll_26 : decode cX8_leftAll 26 = .ok (.goto (-22), 3) := by decide +kernel
theorem dX8_leftAll_29 : decode cX8_leftAll 29 = .ok (.iload_n 1, 1) := by decide +kernel
theorem dX8_leftAll_30 : decode cX8_leftAll 30 = .ok (.ireturn, 1) := by decide +kernel
theorem dX8_account_0 : decode cX8_account 0 = .ok (.aload_n 0, 1) := by decide +kernel
theorem dX8_account_1 : decode cX8_account 1 = .ok (.iload_n 1, 1) := by decide +kernel
theorem dX8_account_2 : decode cX8_account 2 = .ok (.iconst 0, 1) := by decide +kernel
theorem dX8_account_3 : decode cX8_account 3 = .ok (.bipush 15, 2) := by decide +kernel
theorem dX8_account_5 : decode cX8_account 5 = .ok (.invokestatic 59, 3) := by decide +kernel
theorem dX8_account_8 : decode cX8_account 8 = .ok (.ifCond .eq 7, 3) := by decide +kernel
theorem dX8_account_11 : decode cX8_account 11 = .ok (.iconst 0, 1) := by decide +kernel
theorem dX8_account_12 : decode cX8_account 12 = .ok (.goto 4, 3) := by decide +kernel
theorem dX8_account_15 : decode cX8_account 15 = .ok (.iconst 1, 1) := by decide +kernel
theorem dX8_account_16 : decode cX8_account 16 = .ok (.invokevirtual 67, 3) := by decide +kernel
theorem dX8_account_19 : decode cX8_account 19 = .ok (.ifCond .eq 5, 3) := by decide +kernel
theorem dX8_account_22 : decode cX8_account 22 = .ok (.iconst 0, 1) := by decide +kernel
theorem dX8_account_23 : decode cX8_account 23 = .ok (.ireturn, 1) := by decide +kernel
theorem dX8_account_24 : decode cX8_account 24 = .ok (.iload_n 1, 1) := by decide +kernel
theorem dX8_account_25 : decode cX8_account 25 = .ok (.tableswitch 160 0 14 #[75, 82, 89, 89, 89, 89, 97, 104, 112, 120, 128, 133, 141, 148, 155], 75) := by decide +kernel
theorem dX8_account_100 : decode cX8_account 100 = .ok (.aload_n 0, 1) := by decide +kernel
theorem dX8_account_101 : decode cX8_account 101 = .ok (.getfield 7, 3) := by decide +kernel
theorem dX8_account_104 : decode cX8_account 104 = .ok (.iconst 0, 1) := by decide +kernel
theorem dX8_account_105 : decode cX8_account 105 = .ok (.iaload, 1) := by decide +kernel
theorem dX8_account_106 : decode cX8_account 106 = .ok (.ireturn, 1) := by decide +kernel
theorem dX8_account_107 : decode cX8_account 107 = .ok (.aload_n 0, 1) := by decide +kernel
theorem dX8_account_108 : decode cX8_account 108 = .ok (.getfield 7, 3) := by decide +kernel
theorem dX8_account_111 : decode cX8_account 111 = .ok (.iconst 1, 1) := by decide +kernel
theorem dX8_account_112 : decode cX8_account 112 = .ok (.iaload, 1) := by decide +kernel
theorem dX8_account_113 : decode cX8_account 113 = .ok (.ireturn, 1) := by decide +kernel
theorem dX8_account_114 : decode cX8_account 114 = .ok (.aload_n 0, 1) := by decide +kernel
theorem dX8_account_115 : decode cX8_account 115 = .ok (.iload_n 1, 1) := by decide +kernel
theorem dX8_account_116 : decode cX8_account 116 = .ok (.iconst 2, 1) := by decide +kernel
theorem dX8_account_117 : decode cX8_account 117 = .ok (.isub, 1) := by decide +kernel
theorem dX8_account_118 : decode cX8_account 118 = .ok (.invokevirtual 190, 3) := by decide +kernel
theorem dX8_account_121 : decode cX8_account 121 = .ok (.ireturn, 1) := by decide +kernel
theorem dX8_account_122 : decode cX8_account 122 = .ok (.aload_n 0, 1) := by decide +kernel
theorem dX8_account_123 : decode cX8_account 123 = .ok (.getfield 7, 3) := by decide +kernel
theorem dX8_account_126 : decode cX8_account 126 = .ok (.iconst 5, 1) := by decide +kernel
theorem dX8_account_127 : decode cX8_account 127 = .ok (.iaload, 1) := by decide +kernel
theorem dX8_account_128 : decode cX8_account 128 = .ok (.ireturn, 1) := by decide +kernel
theorem dX8_account_129 : decode cX8_account 129 = .ok (.aload_n 0, 1) := by decide +kernel
theorem dX8_account_130 : decode cX8_account 130 = .ok (.getfield 7, 3) := by decide +kernel
theorem dX8_account_133 : decode cX8_account 133 = .ok (.bipush 6, 2) := by decide +kernel
theorem dX8_account_135 : decode cX8_account 135 = .ok (.iaload, 1) := by decide +kernel
theorem dX8_account_136 : decode cX8_account 136 = .ok (.ireturn, 1) := by decide +kernel
theorem dX8_account_137 : decode cX8_account 137 = .ok (.aload_n 0, 1) := by decide +kernel
theorem dX8_account_138 : decode cX8_account 138 = .ok (.getfield 7, 3) := by decide +kernel
theorem dX8_account_141 : decode cX8_account 141 = .ok (.bipush 7, 2) := by decide +kernel
theorem dX8_account_143 : decode cX8_account 143 = .ok (.iaload, 1) := by decide +kernel
theorem dX8_account_144 : decode cX8_account 144 = .ok (.ireturn, 1) := by decide +kernel
theorem dX8_account_145 : decode cX8_account 145 = .ok (.aload_n 0, 1) := by decide +kernel
theorem dX8_account_146 : decode cX8_account 146 = .ok (.getfield 7, 3) := by decide +kernel
theorem dX8_account_149 : decode cX8_account 149 = .ok (.bipush 8, 2) := by decide +kernel
theorem dX8_account_151 : decode cX8_account 151 = .ok (.iaload, 1) := by decide +kernel
theorem dX8_account_152 : decode cX8_account 152 = .ok (.ireturn, 1) := by decide +kernel
theorem dX8_account_153 : decode cX8_account 153 = .ok (.aload_n 0, 1) := by decide +kernel
theorem dX8_account_154 : decode cX8_account 154 = .ok (.invokevirtual 193, 3) := by decide +kernel
theorem dX8_account_157 : decode cX8_account 157 = .ok (.ireturn, 1) := by decide +kernel
theorem dX8_account_158 : decode cX8_account 158 = .ok (.aload_n 0, 1) := by decide +kernel
theorem dX8_account_159 : decode cX8_account 159 = .ok (.getfield 7, 3) := by decide +kernel
theorem dX8_account_162 : decode cX8_account 162 = .ok (.bipush 9, 2) := by decide +kernel
theorem dX8_account_164 : decode cX8_account 164 = .ok (.iaload, 1) := by decide +kernel
theorem dX8_account_165 : decode cX8_account 165 = .ok (.ireturn, 1) := by decide +kernel
theorem dX8_account_166 : decode cX8_account 166 = .ok (.aload_n 0, 1) := by decide +kernel
theorem dX8_account_167 : decode cX8_account 167 = .ok (.getfield 7, 3) := by decide +kernel
theorem dX8_account_170 : decode cX8_account 170 = .ok (.iconst 2, 1) := by decide +kernel
theorem dX8_account_171 : decode cX8_account 171 = .ok (.iaload, 1) := by decide +kernel
theorem dX8_account_172 : decode cX8_account 172 = .ok (.ireturn, 1) := by decide +kernel
theorem dX8_account_173 : decode cX8_account 173 = .ok (.aload_n 0, 1) := by decide +kernel
theorem dX8_account_174 : decode cX8_account 174 = .ok (.getfield 7, 3) := by decide +kernel
theorem dX8_account_177 : decode cX8_account 177 = .ok (.iconst 3, 1) := by decide +kernel
theorem dX8_account_178 : decode cX8_account 178 = .ok (.iaload, 1) := by decide +kernel
theorem dX8_account_179 : decode cX8_account 179 = .ok (.ireturn, 1) := by decide +kernel
theorem dX8_account_180 : decode cX8_account 180 = .ok (.aload_n 0, 1) := by decide +kernel
theorem dX8_account_181 : decode cX8_account 181 = .ok (.getfield 135, 3) := by decide +kernel
theorem dX8_account_184 : decode cX8_account 184 = .ok (.ireturn, 1) := by decide +kernel
theorem dX8_account_185 : decode cX8_account 185 = .ok (.aload_n 0, 1) := by decide +kernel
theorem dX8_account_186 : decode cX8_account 186 = .ok (.getfield 52, 3) := by decide +kernel
theorem dX8_account_189 : decode cX8_account 189 = .ok (.ireturn, 1) := by decide +kernel
theorem dX8_meanLoan_0 : decode cX8_meanLoan 0 = .ok (.aload_n 0, 1) := by decide +kernel
theorem dX8_meanLoan_1 : decode cX8_meanLoan 1 = .ok (.aload_n 0, 1) := by decide +kernel
theorem dX8_meanLoan_2 : decode cX8_meanLoan 2 = .ok (.iconst 0, 1) := by decide +kernel
theorem dX8_meanLoan_3 : decode cX8_meanLoan 3 = .ok (.invokevirtual 190, 3) := by decide +kernel
theorem dX8_meanLoan_6 : decode cX8_meanLoan 6 = .ok (.ifCond .ne 7, 3) := by decide +kernel
theorem dX8_meanLoan_9 : decode cX8_meanLoan 9 = .ok (.iconst 1, 1) := by decide +kernel
theorem dX8_meanLoan_10 : decode cX8_meanLoan 10 = .ok (.goto 4, 3) := by decide +kernel
theorem dX8_meanLoan_13 : decode cX8_meanLoan 13 = .ok (.iconst 0, 1) := by decide +kernel
theorem dX8_meanLoan_14 : decode cX8_meanLoan 14 = .ok (.invokevirtual 67, 3) := by decide +kernel
theorem dX8_meanLoan_17 : decode cX8_meanLoan 17 = .ok (.ifCond .eq 5, 3) := by decide +kernel
theorem dX8_meanLoan_20 : decode cX8_meanLoan 20 = .ok (.dconst 0, 1) := by decide +kernel
theorem dX8_meanLoan_21 : decode cX8_meanLoan 21 = .ok (.dreturn, 1) := by decide +kernel
theorem dX8_meanLoan_22 : decode cX8_meanLoan 22 = .ok (.iconst 0, 1) := by decide +kernel
theorem dX8_meanLoan_23 : decode cX8_meanLoan 23 = .ok (.istore_n 1, 1) := by decide +kernel
theorem dX8_meanLoan_24 : decode cX8_meanLoan 24 = .ok (.iconst 0, 1) := by decide +kernel
theorem dX8_meanLoan_25 : decode cX8_meanLoan 25 = .ok (.istore_n 2, 1) := by decide +kernel
theorem dX8_meanLoan_26 : decode cX8_meanLoan 26 = .ok (.iload_n 2, 1) := by decide +kernel
theorem dX8_meanLoan_27 : decode cX8_meanLoan 27 = .ok (.aload_n 0, 1) := by decide +kernel
theorem dX8_meanLoan_28 : decode cX8_meanLoan 28 = .ok (.getfield 7, 3) := by decide +kernel
theorem dX8_meanLoan_31 : decode cX8_meanLoan 31 = .ok (.iconst 1, 1) := by decide +kernel
theorem dX8_meanLoan_32 : decode cX8_meanLoan 32 = .ok (.iaload, 1) := by decide +kernel
theorem dX8_meanLoan_33 : decode cX8_meanLoan 33 = .ok (.if_icmp .ge 31, 3) := by decide +kernel
theorem dX8_meanLoan_36 : decode cX8_meanLoan 36 = .ok (.iload_n 1, 1) := by decide +kernel
theorem dX8_meanLoan_37 : decode cX8_meanLoan 37 = .ok (.aload_n 0, 1) := by decide +kernel
theorem dX8_meanLoan_38 : decode cX8_meanLoan 38 = .ok (.iload_n 2, 1) := by decide +kernel
theorem dX8_meanLoan_39 : decode cX8_meanLoan 39 = .ok (.iconst 4, 1) := by decide +kernel
theorem dX8_meanLoan_40 : decode cX8_meanLoan 40 = .ok (.invokevirtual 63, 3) := by decide +kernel
theorem dX8_meanLoan_43 : decode cX8_meanLoan 43 = .ok (.ifCond .ne 12, 3) := by decide +kernel
theorem dX8_meanLoan_46 : decode cX8_meanLoan 46 = .ok (.aload_n 0, 1) := by decide +kernel
theorem dX8_meanLoan_47 : decode cX8_meanLoan 47 = .ok (.iload_n 2, 1) := by decide +kernel
theorem dX8_meanLoan_48 : decode cX8_meanLoan 48 = .ok (.iconst 2, 1) := by decide +kernel
theorem dX8_meanLoan_49 : decode cX8_meanLoan 49 = .ok (.invokevirtual 63, 3) := by decide +kernel
theorem dX8_meanLoan_52 : decode cX8_meanLoan 52 = .ok (.goto 4, 3) := by decide +kernel
theorem dX8_meanLoan_55 : decode cX8_meanLoan 55 = .ok (.iconst 0, 1) := by decide +kernel
theorem dX8_meanLoan_56 : decode cX8_meanLoan 56 = .ok (.iadd, 1) := by decide +kernel
theorem dX8_meanLoan_57 : decode cX8_meanLoan 57 = .ok (.istore_n 1, 1) := by decide +kernel
theorem dX8_meanLoan_58 : decode cX8_meanLoan 58 = .ok (.iinc 2 1, 3) := by decide +kernel
theorem dX8_meanLoan_61 : decode cX8_meanLoan 61 = .ok (.goto (-35), 3) := by decide +kernel
theorem dX8_meanLoan_64 : decode cX8_meanLoan 64 = .ok (.iload_n 1, 1) := by decide +kernel
theorem dX8_meanLoan_65 : decode cX8_meanLoan 65 = .ok (.i2d, 1) := by decide +kernel
theorem dX8_meanLoan_66 : decode cX8_meanLoan 66 = .ok (.aload_n 0, 1) := by decide +kernel
theorem dX8_meanLoan_67 : decode cX8_meanLoan 67 = .ok (.iconst 0, 1) := by decide +kernel
theorem dX8_meanLoan_68 : decode cX8_meanLoan 68 = .ok (.invokevirtual 190, 3) := by decide +kernel
theorem dX8_meanLoan_71 : decode cX8_meanLoan 71 = .ok (.i2d, 1) := by decide +kernel
theorem dX8_meanLoan_72 : decode cX8_meanLoan 72 = .ok (.ddiv, 1) := by decide +kernel
theorem dX8_meanLoan_73 : decode cX8_meanLoan 73 = .ok (.dreturn, 1) := by decide +kernel
theorem dX8_redeemedShare_0 : decode cX8_redeemedShare 0 = .ok (.aload_n 0, 1) := by decide +kernel
theorem dX8_redeemedShare_1 : decode cX8_redeemedShare 1 = .ok (.aload_n 0, 1) := by decide +kernel
theorem dX8_redeemedShare_2 : decode cX8_redeemedShare 2 = .ok (.getfield 7, 3) := by decide +kernel
theorem dX8_redeemedShare_5 : decode cX8_redeemedShare 5 = .ok (.iconst 1, 1) := by decide +kernel
theorem dX8_redeemedShare_6 : decode cX8_redeemedShare 6 = .ok (.iaload, 1) := by decide +kernel
theorem dX8_redeemedShare_7 : decode cX8_redeemedShare 7 = .ok (.ifCond .ne 7, 3) := by decide +kernel
theorem dX8_redeemedShare_10 : decode cX8_redeemedShare 10 = .ok (.iconst 1, 1) := by decide +kernel
theorem dX8_redeemedShare_11 : decode cX8_redeemedShare 11 = .ok (.goto 4, 3) := by decide +kernel
theorem dX8_redeemedShare_14 : decode cX8_redeemedShare 14 = .ok (.iconst 0, 1) := by decide +kernel
theorem dX8_redeemedShare_15 : decode cX8_redeemedShare 15 = .ok (.invokevirtual 67, 3) := by decide +kernel
theorem dX8_redeemedShare_18 : decode cX8_redeemedShare 18 = .ok (.ifCond .eq 7, 3) := by decide +kernel
theorem dX8_redeemedShare_21 : decode cX8_redeemedShare 21 = .ok (.fconst 0, 1) := by decide +kernel
theorem dX8_redeemedShare_22 : decode cX8_redeemedShare 22 = .ok (.goto 17, 3) := by decide +kernel
theorem dX8_redeemedShare_25 : decode cX8_redeemedShare 25 = .ok (.aload_n 0, 1) := by decide +kernel
theorem dX8_redeemedShare_26 : decode cX8_redeemedShare 26 = .ok (.iconst 2, 1) := by decide +kernel
theorem dX8_redeemedShare_27 : decode cX8_redeemedShare 27 = .ok (.invokevirtual 190, 3) := by decide +kernel
theorem dX8_redeemedShare_30 : decode cX8_redeemedShare 30 = .ok (.i2f, 1) := by decide +kernel
theorem dX8_redeemedShare_31 : decode cX8_redeemedShare 31 = .ok (.aload_n 0, 1) := by decide +kernel
theorem dX8_redeemedShare_32 : decode cX8_redeemedShare 32 = .ok (.getfield 7, 3) := by decide +kernel
theorem dX8_redeemedShare_35 : decode cX8_redeemedShare 35 = .ok (.iconst 1, 1) := by decide +kernel
theorem dX8_redeemedShare_36 : decode cX8_redeemedShare 36 = .ok (.iaload, 1) := by decide +kernel
theorem dX8_redeemedShare_37 : decode cX8_redeemedShare 37 = .ok (.i2f, 1) := by decide +kernel
theorem dX8_redeemedShare_38 : decode cX8_redeemedShare 38 = .ok (.fdiv, 1) := by decide +kernel
theorem dX8_redeemedShare_39 : decode cX8_redeemedShare 39 = .ok (.freturn, 1) := by decide +kernel
theorem dX8_undo_0 : decode cX8_undo 0 = .ok (.aload_n 0, 1) := by decide +kernel
theorem dX8_undo_1 : decode cX8_undo 1 = .ok (.aload_n 0, 1) := by decide +kernel
theorem dX8_undo_2 : decode cX8_undo 2 = .ok (.getfield 52, 3) := by decide +kernel
theorem dX8_undo_5 : decode cX8_undo 5 = .ok (.ifCond .ne 7, 3) := by decide +kernel
theorem dX8_undo_8 : decode cX8_undo 8 = .ok (.iconst 1, 1) := by decide +kernel
theorem dX8_undo_9 : decode cX8_undo 9 = .ok (.goto 4, 3) := by decide +kernel
theorem dX8_undo_12 : decode cX8_undo 12 = .ok (.iconst 0, 1) := by decide +kernel
theorem dX8_undo_13 : decode cX8_undo 13 = .ok (.invokevirtual 67, 3) := by decide +kernel
theorem dX8_undo_16 : decode cX8_undo 16 = .ok (.ifCond .eq 5, 3) := by decide +kernel
theorem dX8_undo_19 : decode cX8_undo 19 = .ok (.iconst 0, 1) := by decide +kernel
theorem dX8_undo_20 : decode cX8_undo 20 = .ok (.ireturn, 1) := by decide +kernel
theorem dX8_undo_21 : decode cX8_undo 21 = .ok (.aload_n 0, 1) := by decide +kernel
theorem dX8_undo_22 : decode cX8_undo 22 = .ok (.dup, 1) := by decide +kernel
theorem dX8_undo_23 : decode cX8_undo 23 = .ok (.getfield 52, 3) := by decide +kernel
theorem dX8_undo_26 : decode cX8_undo 26 = .ok (.iconst 1, 1) := by decide +kernel
theorem dX8_undo_27 : decode cX8_undo 27 = .ok (.isub, 1) := by decide +kernel
theorem dX8_undo_28 : decode cX8_undo 28 = .ok (.putfield 52, 3) := by decide +kernel
theorem dX8_undo_31 : decode cX8_undo 31 = .ok (.aload_n 0, 1) := by decide +kernel
theorem dX8_undo_32 : decode cX8_undo 32 = .ok (.getfield 13, 3) := by decide +kernel
theorem dX8_undo_35 : decode cX8_undo 35 = .ok (.sipush 199, 3) := by decide +kernel
theorem dX8_undo_38 : decode cX8_undo 38 = .ok (.aload_n 0, 1) := by decide +kernel
theorem dX8_undo_39 : decode cX8_undo 39 = .ok (.getfield 52, 3) := by decide +kernel
theorem dX8_undo_42 : decode cX8_undo 42 = .ok (.imul, 1) := by decide +kernel
theorem dX8_undo_43 : decode cX8_undo 43 = .ok (.aload_n 0, 1) := by decide +kernel
theorem dX8_undo_44 : decode cX8_undo 44 = .ok (.getfield 7, 3) := by decide +kernel
theorem dX8_undo_47 : decode cX8_undo 47 = .ok (.iconst 0, 1) := by decide +kernel
theorem dX8_undo_48 : decode cX8_undo 48 = .ok (.invokestatic 55, 3) := by decide +kernel
theorem dX8_undo_51 : decode cX8_undo 51 = .ok (.aload_n 0, 1) := by decide +kernel
theorem dX8_undo_52 : decode cX8_undo 52 = .ok (.getfield 52, 3) := by decide +kernel
theorem dX8_undo_55 : decode cX8_undo 55 = .ok (.ireturn, 1) := by decide +kernel
theorem dX8_save_0 : decode cX8_save 0 = .ok (.aload_n 0, 1) := by decide +kernel
theorem dX8_save_1 : decode cX8_save 1 = .ok (.iconst 0, 1) := by decide +kernel
theorem dX8_save_2 : decode cX8_save 2 = .ok (.putfield 39, 3) := by decide +kernel
theorem dX8_save_5 : decode cX8_save 5 = .ok (.aload_n 0, 1) := by decide +kernel
theorem dX8_save_6 : decode cX8_save 6 = .ok (.iconst 1, 1) := by decide +kernel
theorem dX8_save_7 : decode cX8_save 7 = .ok (.putfield 196, 3) := by decide +kernel
theorem dX8_save_10 : decode cX8_save 10 = .ok (.aload_n 0, 1) := by decide +kernel
theorem dX8_save_11 : decode cX8_save 11 = .ok (.getfield 7, 3) := by decide +kernel
theorem dX8_save_14 : decode cX8_save 14 = .ok (.iconst 0, 1) := by decide +kernel
theorem dX8_save_15 : decode cX8_save 15 = .ok (.aload_n 0, 1) := by decide +kernel
theorem dX8_save_16 : decode cX8_save 16 = .ok (.getfield 16, 3) := by decide +kernel
theorem dX8_save_19 : decode cX8_save 19 = .ok (.iconst 0, 1) := by decide +kernel
theorem dX8_save_20 : decode cX8_save 20 = .ok (.invokestatic 55, 3) := by decide +kernel
theorem dX8_save_23 : decode cX8_save 23 = .ok (.aload_n 0, 1) := by decide +kernel
theorem dX8_save_24 : decode cX8_save 24 = .ok (.getfield 7, 3) := by decide +kernel
theorem dX8_save_27 : decode cX8_save 27 = .ok (.iconst 0, 1) := by decide +kernel
theorem dX8_save_28 : decode cX8_save 28 = .ok (.iaload, 1) := by decide +kernel
theorem dX8_save_29 : decode cX8_save 29 = .ok (.ireturn, 1) := by decide +kernel
theorem dX8_restore_0 : decode cX8_restore 0 = .ok (.aload_n 0, 1) := by decide +kernel
theorem dX8_restore_1 : decode cX8_restore 1 = .ok (.aload_n 0, 1) := by decide +kernel
theorem dX8_restore_2 : decode cX8_restore 2 = .ok (.getfield 196, 3) := by decide +kernel
theorem dX8_restore_5 : decode cX8_restore 5 = .ok (.ifCond .eq 7, 3) := by decide +kernel
theorem dX8_restore_8 : decode cX8_restore 8 = .ok (.iconst 0, 1) := by decide +kernel
theorem dX8_restore_9 : decode cX8_restore 9 = .ok (.goto 4, 3) := by decide +kernel
theorem dX8_restore_12 : decode cX8_restore 12 = .ok (.iconst 1, 1) := by decide +kernel
theorem dX8_restore_13 : decode cX8_restore 13 = .ok (.invokevirtual 67, 3) := by decide +kernel
theorem dX8_restore_16 : decode cX8_restore 16 = .ok (.ifCond .eq 5, 3) := by decide +kernel
theorem dX8_restore_19 : decode cX8_restore 19 = .ok (.iconst 0, 1) := by decide +kernel
theorem dX8_restore_20 : decode cX8_restore 20 = .ok (.ireturn, 1) := by decide +kernel
theorem dX8_restore_21 : decode cX8_restore 21 = .ok (.aload_n 0, 1) := by decide +kernel
theorem dX8_restore_22 : decode cX8_restore 22 = .ok (.getfield 16, 3) := by decide +kernel
theorem dX8_restore_25 : decode cX8_restore 25 = .ok (.iconst 0, 1) := by decide +kernel
theorem dX8_restore_26 : decode cX8_restore 26 = .ok (.aload_n 0, 1) := by decide +kernel
theorem dX8_restore_27 : decode cX8_restore 27 = .ok (.getfield 7, 3) := by decide +kernel
theorem dX8_restore_30 : decode cX8_restore 30 = .ok (.iconst 0, 1) := by decide +kernel
theorem dX8_restore_31 : decode cX8_restore 31 = .ok (.invokestatic 55, 3) := by decide +kernel
theorem dX8_restore_34 : decode cX8_restore 34 = .ok (.aload_n 0, 1) := by decide +kernel
theorem dX8_restore_35 : decode cX8_restore 35 = .ok (.iconst 0, 1) := by decide +kernel
theorem dX8_restore_36 : decode cX8_restore 36 = .ok (.putfield 52, 3) := by decide +kernel
theorem dX8_restore_39 : decode cX8_restore 39 = .ok (.aload_n 0, 1) := by decide +kernel
theorem dX8_restore_40 : decode cX8_restore 40 = .ok (.getfield 7, 3) := by decide +kernel
theorem dX8_restore_43 : decode cX8_restore 43 = .ok (.iconst 0, 1) := by decide +kernel
theorem dX8_restore_44 : decode cX8_restore 44 = .ok (.iaload, 1) := by decide +kernel
theorem dX8_restore_45 : decode cX8_restore 45 = .ok (.ireturn, 1) := by decide +kernel
theorem dL_pledge_0 : decode cL_pledge 0 = .ok (.aload 4, 2) := by decide +kernel
theorem dL_pledge_2 : decode cL_pledge 2 = .ok (.iconst 0, 1) := by decide +kernel
theorem dL_pledge_3 : decode cL_pledge 3 = .ok (.aload_n 0, 1) := by decide +kernel
theorem dL_pledge_4 : decode cL_pledge 4 = .ok (.iload_n 1, 1) := by decide +kernel
theorem dL_pledge_5 : decode cL_pledge 5 = .ok (.iload_n 2, 1) := by decide +kernel
theorem dL_pledge_6 : decode cL_pledge 6 = .ok (.iload_n 3, 1) := by decide +kernel
theorem dL_pledge_7 : decode cL_pledge 7 = .ok (.invokevirtual 7, 3) := by decide +kernel
theorem dL_pledge_10 : decode cL_pledge 10 = .ok (.i2l, 1) := by decide +kernel
theorem dL_pledge_11 : decode cL_pledge 11 = .ok (.lastore, 1) := by decide +kernel
theorem dL_pledge_12 : decode cL_pledge 12 = .ok (.goto 15, 3) := by decide +kernel
theorem dL_pledge_15 : decode cL_pledge 15 = .ok (.astore 5, 2) := by decide +kernel
theorem dL_pledge_17 : decode cL_pledge 17 = .ok (.iconst 1, 1) := by decide +kernel
theorem dL_pledge_18 : decode cL_pledge 18 = .ok (.ireturn, 1) := by decide +kernel
theorem dL_pledge_19 : decode cL_pledge 19 = .ok (.astore 5, 2) := by decide +kernel
theorem dL_pledge_21 : decode cL_pledge 21 = .ok (.iconst 2, 1) := by decide +kernel
theorem dL_pledge_22 : decode cL_pledge 22 = .ok (.ireturn, 1) := by decide +kernel
theorem dL_pledge_23 : decode cL_pledge 23 = .ok (.astore 5, 2) := by decide +kernel
theorem dL_pledge_25 : decode cL_pledge 25 = .ok (.iconst 3, 1) := by decide +kernel
theorem dL_pledge_26 : decode cL_pledge 26 = .ok (.ireturn, 1) := by decide +kernel
theorem dL_pledge_27 : decode cL_pledge 27 = .ok (.iconst 0, 1) := by decide +kernel
theorem dL_pledge_28 : decode cL_pledge 28 = .ok (.ireturn, 1) := by decide +kernel
theorem dL_rate_0 : decode cL_rate 0 = .ok (.aload_n 2, 1) := by decide +kernel
theorem dL_rate_1 : decode cL_rate 1 = .ok (.iconst 0, 1) := by decide +kernel
theorem dL_rate_2 : decode cL_rate 2 = .ok (.aload_n 0, 1) := by decide +kernel
theorem dL_rate_3 : decode cL_rate 3 = .ok (.iload_n 1, 1) := by decide +kernel
theorem dL_rate_4 : decode cL_rate 4 = .ok (.invokevirtual 19, 3) := by decide +kernel
theorem dL_rate_7 : decode cL_rate 7 = .ok (.i2l, 1) := by decide +kernel
theorem dL_rate_8 : decode cL_rate 8 = .ok (.lastore, 1) := by decide +kernel
theorem dL_rate_9 : decode cL_rate 9 = .ok (.goto 9, 3) := by decide +kernel
theorem dL_rate_12 : decode cL_rate 12 = .ok (.astore_n 3, 1) := by decide +kernel
theorem dL_rate_13 : decode cL_rate 13 = .ok (.iconst 1, 1) := by decide +kernel
theorem dL_rate_14 : decode cL_rate 14 = .ok (.ireturn, 1) := by decide +kernel
theorem dL_rate_15 : decode cL_rate 15 = .ok (.astore_n 3, 1) := by decide +kernel
theorem dL_rate_16 : decode cL_rate 16 = .ok (.iconst 2, 1) := by decide +kernel
theorem dL_rate_17 : decode cL_rate 17 = .ok (.ireturn, 1) := by decide +kernel
theorem dL_rate_18 : decode cL_rate 18 = .ok (.iconst 0, 1) := by decide +kernel
theorem dL_rate_19 : decode cL_rate 19 = .ok (.ireturn, 1) := by decide +kernel
theorem dL_fee_0 : decode cL_fee 0 = .ok (.aload_n 2, 1) := by decide +kernel
theorem dL_fee_1 : decode cL_fee 1 = .ok (.iconst 0, 1) := by decide +kernel
theorem dL_fee_2 : decode cL_fee 2 = .ok (.aload_n 0, 1) := by decide +kernel
theorem dL_fee_3 : decode cL_fee 3 = .ok (.iload_n 1, 1) := by decide +kernel
theorem dL_fee_4 : decode cL_fee 4 = .ok (.invokevirtual 23, 3) := by decide +kernel
theorem dL_fee_7 : decode cL_fee 7 = .ok (.i2l, 1) := by decide +kernel
theorem dL_fee_8 : decode cL_fee 8 = .ok (.lastore, 1) := by decide +kernel
theorem dL_fee_9 : decode cL_fee 9 = .ok (.goto 9, 3) := by decide +kernel
theorem dL_fee_12 : decode cL_fee 12 = .ok (.astore_n 3, 1) := by decide +kernel
theorem dL_fee_13 : decode cL_fee 13 = .ok (.iconst 1, 1) := by decide +kernel
theorem dL_fee_14 : decode cL_fee 14 = .ok (.ireturn, 1) := by decide +kernel
theorem dL_fee_15 : decode cL_fee 15 = .ok (.astore_n 3, 1) := by decide +kernel
theorem dL_fee_16 : decode cL_fee 16 = .ok (.iconst 2, 1) := by decide +kernel
theorem dL_fee_17 : decode cL_fee 17 = .ok (.ireturn, 1) := by decide +kernel
theorem dL_fee_18 : decode cL_fee 18 = .ok (.iconst 0, 1) := by decide +kernel
theorem dL_fee_19 : decode cL_fee 19 = .ok (.ireturn, 1) := by decide +kernel
theorem dL_pass_0 : decode cL_pass 0 = .ok (.aload_n 2, 1) := by decide +kernel
theorem dL_pass_1 : decode cL_pass 1 = .ok (.iconst 0, 1) := by decide +kernel
theorem dL_pass_2 : decode cL_pass 2 = .ok (.aload_n 0, 1) := by decide +kernel
theorem dL_pass_3 : decode cL_pass 3 = .ok (.iload_n 1, 1) := by decide +kernel
theorem dL_pass_4 : decode cL_pass 4 = .ok (.invokevirtual 26, 3) := by decide +kernel
theorem dL_pass_7 : decode cL_pass 7 = .ok (.i2l, 1) := by decide +kernel
theorem dL_pass_8 : decode cL_pass 8 = .ok (.lastore, 1) := by decide +kernel
theorem dL_pass_9 : decode cL_pass 9 = .ok (.goto 6, 3) := by decide +kernel
theorem dL_pass_12 : decode cL_pass 12 = .ok (.astore_n 3, 1) := by decide +kernel
theorem dL_pass_13 : decode cL_pass 13 = .ok (.iconst 1, 1) := by decide +kernel
theorem dL_pass_14 : decode cL_pass 14 = .ok (.ireturn, 1) := by decide +kernel
theorem dL_pass_15 : decode cL_pass 15 = .ok (.iconst 0, 1) := by decide +kernel
theorem dL_pass_16 : decode cL_pass 16 = .ok (.ireturn, 1) := by decide +kernel
theorem dL_redeem_0 : decode cL_redeem 0 = .ok (.aload_n 2, 1) := by decide +kernel
theorem dL_redeem_1 : decode cL_redeem 1 = .ok (.iconst 0, 1) := by decide +kernel
theorem dL_redeem_2 : decode cL_redeem 2 = .ok (.aload_n 0, 1) := by decide +kernel
theorem dL_redeem_3 : decode cL_redeem 3 = .ok (.iload_n 1, 1) := by decide +kernel
theorem dL_redeem_4 : decode cL_redeem 4 = .ok (.invokevirtual 29, 3) := by decide +kernel
theorem dL_redeem_7 : decode cL_redeem 7 = .ok (.i2l, 1) := by decide +kernel
theorem dL_redeem_8 : decode cL_redeem 8 = .ok (.lastore, 1) := by decide +kernel
theorem dL_redeem_9 : decode cL_redeem 9 = .ok (.goto 9, 3) := by decide +kernel
theorem dL_redeem_12 : decode cL_redeem 12 = .ok (.astore_n 3, 1) := by decide +kernel
theorem dL_redeem_13 : decode cL_redeem 13 = .ok (.iconst 1, 1) := by decide +kernel
theorem dL_redeem_14 : decode cL_redeem 14 = .ok (.ireturn, 1) := by decide +kernel
theorem dL_redeem_15 : decode cL_redeem 15 = .ok (.astore_n 3, 1) := by decide +kernel
theorem dL_redeem_16 : decode cL_redeem 16 = .ok (.iconst 2, 1) := by decide +kernel
theorem dL_redeem_17 : decode cL_redeem 17 = .ok (.ireturn, 1) := by decide +kernel
theorem dL_redeem_18 : decode cL_redeem 18 = .ok (.iconst 0, 1) := by decide +kernel
theorem dL_redeem_19 : decode cL_redeem 19 = .ok (.ireturn, 1) := by decide +kernel
theorem dL_pay_0 : decode cL_pay 0 = .ok (.aload_n 3, 1) := by decide +kernel
theorem dL_pay_1 : decode cL_pay 1 = .ok (.iconst 0, 1) := by decide +kernel
theorem dL_pay_2 : decode cL_pay 2 = .ok (.aload_n 0, 1) := by decide +kernel
theorem dL_pay_3 : decode cL_pay 3 = .ok (.iload_n 1, 1) := by decide +kernel
theorem dL_pay_4 : decode cL_pay 4 = .ok (.iload_n 2, 1) := by decide +kernel
theorem dL_pay_5 : decode cL_pay 5 = .ok (.invokevirtual 34, 3) := by decide +kernel
theorem dL_pay_8 : decode cL_pay 8 = .ok (.i2l, 1) := by decide +kernel
theorem dL_pay_9 : decode cL_pay 9 = .ok (.lastore, 1) := by decide +kernel
theorem dL_pay_10 : decode cL_pay 10 = .ok (.goto 15, 3) := by decide +kernel
theorem dL_pay_13 : decode cL_pay 13 = .ok (.astore 4, 2) := by decide +kernel
theorem dL_pay_15 : decode cL_pay 15 = .ok (.iconst 1, 1) := by decide +kernel
theorem dL_pay_16 : decode cL_pay 16 = .ok (.ireturn, 1) := by decide +kernel
theorem dL_pay_17 : decode cL_pay 17 = .ok (.astore 4, 2) := by decide +kernel
theorem dL_pay_19 : decode cL_pay 19 = .ok (.iconst 2, 1) := by decide +kernel
theorem dL_pay_20 : decode cL_pay 20 = .ok (.ireturn, 1) := by decide +kernel
theorem dL_pay_21 : decode cL_pay 21 = .ok (.astore 4, 2) := by decide +kernel
theorem dL_pay_23 : decode cL_pay 23 = .ok (.iconst 3, 1) := by decide +kernel
theorem dL_pay_24 : decode cL_pay 24 = .ok (.ireturn, 1) := by decide +kernel
theorem dL_pay_25 : decode cL_pay 25 = .ok (.iconst 0, 1) := by decide +kernel
theorem dL_pay_26 : decode cL_pay 26 = .ok (.ireturn, 1) := by decide +kernel
theorem dL_renew_0 : decode cL_renew 0 = .ok (.aload_n 2, 1) := by decide +kernel
theorem dL_renew_1 : decode cL_renew 1 = .ok (.iconst 0, 1) := by decide +kernel
theorem dL_renew_2 : decode cL_renew 2 = .ok (.aload_n 0, 1) := by decide +kernel
theorem dL_renew_3 : decode cL_renew 3 = .ok (.iload_n 1, 1) := by decide +kernel
theorem dL_renew_4 : decode cL_renew 4 = .ok (.invokevirtual 38, 3) := by decide +kernel
theorem dL_renew_7 : decode cL_renew 7 = .ok (.i2l, 1) := by decide +kernel
theorem dL_renew_8 : decode cL_renew 8 = .ok (.lastore, 1) := by decide +kernel
theorem dL_renew_9 : decode cL_renew 9 = .ok (.goto 9, 3) := by decide +kernel
theorem dL_renew_12 : decode cL_renew 12 = .ok (.astore_n 3, 1) := by decide +kernel
theorem dL_renew_13 : decode cL_renew 13 = .ok (.iconst 1, 1) := by decide +kernel
theorem dL_renew_14 : decode cL_renew 14 = .ok (.ireturn, 1) := by decide +kernel
theorem dL_renew_15 : decode cL_renew 15 = .ok (.astore_n 3, 1) := by decide +kernel
theorem dL_renew_16 : decode cL_renew 16 = .ok (.iconst 2, 1) := by decide +kernel
theorem dL_renew_17 : decode cL_renew 17 = .ok (.ireturn, 1) := by decide +kernel
theorem dL_renew_18 : decode cL_renew 18 = .ok (.iconst 0, 1) := by decide +kernel
theorem dL_renew_19 : decode cL_renew 19 = .ok (.ireturn, 1) := by decide +kernel
theorem dL_pledgeOf_0 : decode cL_pledgeOf 0 = .ok (.aload_n 3, 1) := by decide +kernel
theorem dL_pledgeOf_1 : decode cL_pledgeOf 1 = .ok (.iconst 0, 1) := by decide +kernel
theorem dL_pledgeOf_2 : decode cL_pledgeOf 2 = .ok (.aload_n 0, 1) := by decide +kernel
theorem dL_pledgeOf_3 : decode cL_pledgeOf 3 = .ok (.iload_n 1, 1) := by decide +kernel
theorem dL_pledgeOf_4 : decode cL_pledgeOf 4 = .ok (.iload_n 2, 1) := by decide +kernel
theorem dL_pledgeOf_5 : decode cL_pledgeOf 5 = .ok (.invokevirtual 41, 3) := by decide +kernel
theorem dL_pledgeOf_8 : decode cL_pledgeOf 8 = .ok (.i2l, 1) := by decide +kernel
theorem dL_pledgeOf_9 : decode cL_pledgeOf 9 = .ok (.lastore, 1) := by decide +kernel
theorem dL_pledgeOf_10 : decode cL_pledgeOf 10 = .ok (.goto 11, 3) := by decide +kernel
theorem dL_pledgeOf_13 : decode cL_pledgeOf 13 = .ok (.astore 4, 2) := by decide +kernel
theorem dL_pledgeOf_15 : decode cL_pledgeOf 15 = .ok (.iconst 1, 1) := by decide +kernel
theorem dL_pledgeOf_16 : decode cL_pledgeOf 16 = .ok (.ireturn, 1) := by decide +kernel
theorem dL_pledgeOf_17 : decode cL_pledgeOf 17 = .ok (.astore 4, 2) := by decide +kernel
theorem dL_pledgeOf_19 : decode cL_pledgeOf 19 = .ok (.iconst 2, 1) := by decide +kernel
theorem dL_pledgeOf_20 : decode cL_pledgeOf 20 = .ok (.ireturn, 1) := by decide +kernel
theorem dL_pledgeOf_21 : decode cL_pledgeOf 21 = .ok (.iconst 0, 1) := by decide +kernel
theorem dL_pledgeOf_22 : decode cL_pledgeOf 22 = .ok (.ireturn, 1) := by decide +kernel
theorem dL_sell_0 : decode cL_sell 0 = .ok (.aload_n 3, 1) := by decide +kernel
theorem dL_sell_1 : decode cL_sell 1 = .ok (.iconst 0, 1) := by decide +kernel
theorem dL_sell_2 : decode cL_sell 2 = .ok (.aload_n 0, 1) := by decide +kernel
theorem dL_sell_3 : decode cL_sell 3 = .ok (.iload_n 1, 1) := by decide +kernel
theorem dL_sell_4 : decode cL_sell 4 = .ok (.iload_n 2, 1) := by decide +kernel
theorem dL_sell_5 : decode cL_sell 5 = .ok (.invokevirtual 44, 3) := by decide +kernel
theorem dL_sell_8 : decode cL_sell 8 = .ok (.i2l, 1) := by decide +kernel
theorem dL_sell_9 : decode cL_sell 9 = .ok (.lastore, 1) := by decide +kernel
theorem dL_sell_10 : decode cL_sell 10 = .ok (.goto 15, 3) := by decide +kernel
theorem dL_sell_13 : decode cL_sell 13 = .ok (.astore 4, 2) := by decide +kernel
theorem dL_sell_15 : decode cL_sell 15 = .ok (.iconst 1, 1) := by decide +kernel
theorem dL_sell_16 : decode cL_sell 16 = .ok (.ireturn, 1) := by decide +kernel
theorem dL_sell_17 : decode cL_sell 17 = .ok (.astore 4, 2) := by decide +kernel
theorem dL_sell_19 : decode cL_sell 19 = .ok (.iconst 2, 1) := by decide +kernel
theorem dL_sell_20 : decode cL_sell 20 = .ok (.ireturn, 1) := by decide +kernel
theorem dL_sell_21 : decode cL_sell 21 = .ok (.astore 4, 2) := by decide +kernel
theorem dL_sell_23 : decode cL_sell 23 = .ok (.iconst 3, 1) := by decide +kernel
theorem dL_sell_24 : decode cL_sell 24 = .ok (.ireturn, 1) := by decide +kernel
theorem dL_sell_25 : decode cL_sell 25 = .ok (.iconst 0, 1) := by decide +kernel
theorem dL_sell_26 : decode cL_sell 26 = .ok (.ireturn, 1) := by decide +kernel
theorem dL_claim_0 : decode cL_claim 0 = .ok (.aload_n 2, 1) := by decide +kernel
theorem dL_claim_1 : decode cL_claim 1 = .ok (.iconst 0, 1) := by decide +kernel
theorem dL_claim_2 : decode cL_claim 2 = .ok (.aload_n 0, 1) := by decide +kernel
theorem dL_claim_3 : decode cL_claim 3 = .ok (.iload_n 1, 1) := by decide +kernel
theorem dL_claim_4 : decode cL_claim 4 = .ok (.invokevirtual 47, 3) := by decide +kernel
theorem dL_claim_7 : decode cL_claim 7 = .ok (.i2l, 1) := by decide +kernel
theorem dL_claim_8 : decode cL_claim 8 = .ok (.lastore, 1) := by decide +kernel
theorem dL_claim_9 : decode cL_claim 9 = .ok (.goto 9, 3) := by decide +kernel
theorem dL_claim_12 : decode cL_claim 12 = .ok (.astore_n 3, 1) := by decide +kernel
theorem dL_claim_13 : decode cL_claim 13 = .ok (.iconst 1, 1) := by decide +kernel
theorem dL_claim_14 : decode cL_claim 14 = .ok (.ireturn, 1) := by decide +kernel
theorem dL_claim_15 : decode cL_claim 15 = .ok (.astore_n 3, 1) := by decide +kernel
theorem dL_claim_16 : decode cL_claim 16 = .ok (.iconst 2, 1) := by decide +kernel
theorem dL_claim_17 : decode cL_claim 17 = .ok (.ireturn, 1) := by decide +kernel
theorem dL_claim_18 : decode cL_claim 18 = .ok (.iconst 0, 1) := by decide +kernel
theorem dL_claim_19 : decode cL_claim 19 = .ok (.ireturn, 1) := by decide +kernel
theorem dL_lotAt_0 : decode cL_lotAt 0 = .ok (.aload_n 2, 1) := by decide +kernel
theorem dL_lotAt_1 : decode cL_lotAt 1 = .ok (.iconst 0, 1) := by decide +kernel
theorem dL_lotAt_2 : decode cL_lotAt 2 = .ok (.aload_n 0, 1) := by decide +kernel
theorem dL_lotAt_3 : decode cL_lotAt 3 = .ok (.iload_n 1, 1) := by decide +kernel
theorem dL_lotAt_4 : decode cL_lotAt 4 = .ok (.invokevirtual 50, 3) := by decide +kernel
theorem dL_lotAt_7 : decode cL_lotAt 7 = .ok (.i2l, 1) := by decide +kernel
theorem dL_lotAt_8 : decode cL_lotAt 8 = .ok (.lastore, 1) := by decide +kernel
theorem dL_lotAt_9 : decode cL_lotAt 9 = .ok (.goto 6, 3) := by decide +kernel
theorem dL_lotAt_12 : decode cL_lotAt 12 = .ok (.astore_n 3, 1) := by decide +kernel
theorem dL_lotAt_13 : decode cL_lotAt 13 = .ok (.iconst 1, 1) := by decide +kernel
theorem dL_lotAt_14 : decode cL_lotAt 14 = .ok (.ireturn, 1) := by decide +kernel
theorem dL_lotAt_15 : decode cL_lotAt 15 = .ok (.iconst 0, 1) := by decide +kernel
theorem dL_lotAt_16 : decode cL_lotAt 16 = .ok (.ireturn, 1) := by decide +kernel
theorem dL_ranked_0 : decode cL_ranked 0 = .ok (.aload_n 2, 1) := by decide +kernel
theorem dL_ranked_1 : decode cL_ranked 1 = .ok (.iconst 0, 1) := by decide +kernel
theorem dL_ranked_2 : decode cL_ranked 2 = .ok (.aload_n 0, 1) := by decide +kernel
theorem dL_ranked_3 : decode cL_ranked 3 = .ok (.iload_n 1, 1) := by decide +kernel
theorem dL_ranked_4 : decode cL_ranked 4 = .ok (.invokevirtual 53, 3) := by decide +kernel
theorem dL_ranked_7 : decode cL_ranked 7 = .ok (.i2l, 1) := by decide +kernel
theorem dL_ranked_8 : decode cL_ranked 8 = .ok (.lastore, 1) := by decide +kernel
theorem dL_ranked_9 : decode cL_ranked 9 = .ok (.goto 6, 3) := by decide +kernel
theorem dL_ranked_12 : decode cL_ranked 12 = .ok (.astore_n 3, 1) := by decide +kernel
theorem dL_ranked_13 : decode cL_ranked 13 = .ok (.iconst 1, 1) := by decide +kernel
theorem dL_ranked_14 : decode cL_ranked 14 = .ok (.ireturn, 1) := by decide +kernel
theorem dL_ranked_15 : decode cL_ranked 15 = .ok (.iconst 0, 1) := by decide +kernel
theorem dL_ranked_16 : decode cL_ranked 16 = .ok (.ireturn, 1) := by decide +kernel
theorem dL_quote_0 : decode cL_quote 0 = .ok (.aload_n 3, 1) := by decide +kernel
theorem dL_quote_1 : decode cL_quote 1 = .ok (.iconst 0, 1) := by decide +kernel
theorem dL_quote_2 : decode cL_quote 2 = .ok (.aload_n 0, 1) := by decide +kernel
theorem dL_quote_3 : decode cL_quote 3 = .ok (.iload_n 1, 1) := by decide +kernel
theorem dL_quote_4 : decode cL_quote 4 = .ok (.iload_n 2, 1) := by decide +kernel
theorem dL_quote_5 : decode cL_quote 5 = .ok (.invokevirtual 56, 3) := by decide +kernel
theorem dL_quote_8 : decode cL_quote 8 = .ok (.i2l, 1) := by decide +kernel
theorem dL_quote_9 : decode cL_quote 9 = .ok (.lastore, 1) := by decide +kernel
theorem dL_quote_10 : decode cL_quote 10 = .ok (.goto 15, 3) := by decide +kernel
theorem dL_quote_13 : decode cL_quote 13 = .ok (.astore 4, 2) := by decide +kernel
theorem dL_quote_15 : decode cL_quote 15 = .ok (.iconst 1, 1) := by decide +kernel
theorem dL_quote_16 : decode cL_quote 16 = .ok (.ireturn, 1) := by decide +kernel
theorem dL_quote_17 : decode cL_quote 17 = .ok (.astore 4, 2) := by decide +kernel
theorem dL_quote_19 : decode cL_quote 19 = .ok (.iconst 2, 1) := by decide +kernel
theorem dL_quote_20 : decode cL_quote 20 = .ok (.ireturn, 1) := by decide +kernel
theorem dL_quote_21 : decode cL_quote 21 = .ok (.astore 4, 2) := by decide +kernel
theorem dL_quote_23 : decode cL_quote 23 = .ok (.iconst 3, 1) := by decide +kernel
theorem dL_quote_24 : decode cL_quote 24 = .ok (.ireturn, 1) := by decide +kernel
theorem dL_quote_25 : decode cL_quote 25 = .ok (.iconst 0, 1) := by decide +kernel
theorem dL_quote_26 : decode cL_quote 26 = .ok (.ireturn, 1) := by decide +kernel
theorem dL_quoteAgain_0 : decode cL_quoteAgain 0 = .ok (.aload_n 3, 1) := by decide +kernel
theorem dL_quoteAgain_1 : decode cL_quoteAgain 1 = .ok (.iconst 0, 1) := by decide +kernel
theorem dL_quoteAgain_2 : decode cL_quoteAgain 2 = .ok (.aload_n 0, 1) := by decide +kernel
theorem dL_quoteAgain_3 : decode cL_quoteAgain 3 = .ok (.iload_n 1, 1) := by decide +kernel
theorem dL_quoteAgain_4 : decode cL_quoteAgain 4 = .ok (.iload_n 2, 1) := by decide +kernel
theorem dL_quoteAgain_5 : decode cL_quoteAgain 5 = .ok (.invokevirtual 61, 3) := by decide +kernel
theorem dL_quoteAgain_8 : decode cL_quoteAgain 8 = .ok (.i2l, 1) := by decide +kernel
theorem dL_quoteAgain_9 : decode cL_quoteAgain 9 = .ok (.lastore, 1) := by decide +kernel
theorem dL_quoteAgain_10 : decode cL_quoteAgain 10 = .ok (.goto 15, 3) := by decide +kernel
theorem dL_quoteAgain_13 : decode cL_quoteAgain 13 = .ok (.astore 4, 2) := by decide +kernel
theorem dL_quoteAgain_15 : decode cL_quoteAgain 15 = .ok (.iconst 1, 1) := by decide +kernel
theorem dL_quoteAgain_16 : decode cL_quoteAgain 16 = .ok (.ireturn, 1) := by decide +kernel
theorem dL_quoteAgain_17 : decode cL_quoteAgain 17 = .ok (.astore 4, 2) := by decide +kernel
theorem dL_quoteAgain_19 : decode cL_quoteAgain 19 = .ok (.iconst 2, 1) := by decide +kernel
theorem dL_quoteAgain_20 : decode cL_quoteAgain 20 = .ok (.ireturn, 1) := by decide +kernel
theorem dL_quoteAgain_21 : decode cL_quoteAgain 21 = .ok (.astore 4, 2) := by decide +kernel
theorem dL_quoteAgain_23 : decode cL_quoteAgain 23 = .ok (.iconst 3, 1) := by decide +kernel
theorem dL_quoteAgain_24 : decode cL_quoteAgain 24 = .ok (.ireturn, 1) := by decide +kernel
theorem dL_quoteAgain_25 : decode cL_quoteAgain 25 = .ok (.iconst 0, 1) := by decide +kernel
theorem dL_quoteAgain_26 : decode cL_quoteAgain 26 = .ok (.ireturn, 1) := by decide +kernel
theorem dL_willBeLots_0 : decode cL_willBeLots 0 = .ok (.aload_n 2, 1) := by decide +kernel
theorem dL_willBeLots_1 : decode cL_willBeLots 1 = .ok (.iconst 0, 1) := by decide +kernel
theorem dL_willBeLots_2 : decode cL_willBeLots 2 = .ok (.aload_n 0, 1) := by decide +kernel
theorem dL_willBeLots_3 : decode cL_willBeLots 3 = .ok (.iload_n 1, 1) := by decide +kernel
theorem dL_willBeLots_4 : decode cL_willBeLots 4 = .ok (.invokevirtual 64, 3) := by decide +kernel
theorem dL_willBeLots_7 : decode cL_willBeLots 7 = .ok (.i2l, 1) := by decide +kernel
theorem dL_willBeLots_8 : decode cL_willBeLots 8 = .ok (.lastore, 1) := by decide +kernel
theorem dL_willBeLots_9 : decode cL_willBeLots 9 = .ok (.goto 6, 3) := by decide +kernel
theorem dL_willBeLots_12 : decode cL_willBeLots 12 = .ok (.astore_n 3, 1) := by decide +kernel
theorem dL_willBeLots_13 : decode cL_willBeLots 13 = .ok (.iconst 1, 1) := by decide +kernel
theorem dL_willBeLots_14 : decode cL_willBeLots 14 = .ok (.ireturn, 1) := by decide +kernel
theorem dL_willBeLots_15 : decode cL_willBeLots 15 = .ok (.iconst 0, 1) := by decide +kernel
theorem dL_willBeLots_16 : decode cL_willBeLots 16 = .ok (.ireturn, 1) := by decide +kernel
theorem dL_willBeLotsAgain_0 : decode cL_willBeLotsAgain 0 = .ok (.aload_n 2, 1) := by decide +kernel
theorem dL_willBeLotsAgain_1 : decode cL_willBeLotsAgain 1 = .ok (.iconst 0, 1) := by decide +kernel
theorem dL_willBeLotsAgain_2 : decode cL_willBeLotsAgain 2 = .ok (.aload_n 0, 1) := by decide +kernel
theorem dL_willBeLotsAgain_3 : decode cL_willBeLotsAgain 3 = .ok (.iload_n 1, 1) := by decide +kernel
theorem dL_willBeLotsAgain_4 : decode cL_willBeLotsAgain 4 = .ok (.invokevirtual 67, 3) := by decide +kernel
theorem dL_willBeLotsAgain_7 : decode cL_willBeLotsAgain 7 = .ok (.i2l, 1) := by decide +kernel
theorem dL_willBeLotsAgain_8 : decode cL_willBeLotsAgain 8 = .ok (.lastore, 1) := by decide +kernel
theorem dL_willBeLotsAgain_9 : decode cL_willBeLotsAgain 9 = .ok (.goto 6, 3) := by decide +kernel
theorem dL_willBeLotsAgain_12 : decode cL_willBeLotsAgain 12 = .ok (.astore_n 3, 1) := by decide +kernel
theorem dL_willBeLotsAgain_13 : decode cL_willBeLotsAgain 13 = .ok (.iconst 1, 1) := by decide +kernel
theorem dL_willBeLotsAgain_14 : decode cL_willBeLotsAgain 14 = .ok (.ireturn, 1) := by decide +kernel
theorem dL_willBeLotsAgain_15 : decode cL_willBeLotsAgain 15 = .ok (.iconst 0, 1) := by decide +kernel
theorem dL_willBeLotsAgain_16 : decode cL_willBeLotsAgain 16 = .ok (.ireturn, 1) := by decide +kernel
theorem dL_willReserve_0 : decode cL_willReserve 0 = .ok (.aload_n 3, 1) := by decide +kernel
theorem dL_willReserve_1 : decode cL_willReserve 1 = .ok (.iconst 0, 1) := by decide +kernel
theorem dL_willReserve_2 : decode cL_willReserve 2 = .ok (.aload_n 0, 1) := by decide +kernel
theorem dL_willReserve_3 : decode cL_willReserve 3 = .ok (.iload_n 1, 1) := by decide +kernel
theorem dL_willReserve_4 : decode cL_willReserve 4 = .ok (.iload_n 2, 1) := by decide +kernel
theorem dL_willReserve_5 : decode cL_willReserve 5 = .ok (.invokevirtual 70, 3) := by decide +kernel
theorem dL_willReserve_8 : decode cL_willReserve 8 = .ok (.i2l, 1) := by decide +kernel
theorem dL_willReserve_9 : decode cL_willReserve 9 = .ok (.lastore, 1) := by decide +kernel
theorem dL_willReserve_10 : decode cL_willReserve 10 = .ok (.goto 15, 3) := by decide +kernel
theorem dL_willReserve_13 : decode cL_willReserve 13 = .ok (.astore 4, 2) := by decide +kernel
theorem dL_willReserve_15 : decode cL_willReserve 15 = .ok (.iconst 1, 1) := by decide +kernel
theorem dL_willReserve_16 : decode cL_willReserve 16 = .ok (.ireturn, 1) := by decide +kernel
theorem dL_willReserve_17 : decode cL_willReserve 17 = .ok (.astore 4, 2) := by decide +kernel
theorem dL_willReserve_19 : decode cL_willReserve 19 = .ok (.iconst 2, 1) := by decide +kernel
theorem dL_willReserve_20 : decode cL_willReserve 20 = .ok (.ireturn, 1) := by decide +kernel
theorem dL_willReserve_21 : decode cL_willReserve 21 = .ok (.astore 4, 2) := by decide +kernel
theorem dL_willReserve_23 : decode cL_willReserve 23 = .ok (.iconst 3, 1) := by decide +kernel
theorem dL_willReserve_24 : decode cL_willReserve 24 = .ok (.ireturn, 1) := by decide +kernel
theorem dL_willReserve_25 : decode cL_willReserve 25 = .ok (.iconst 0, 1) := by decide +kernel
theorem dL_willReserve_26 : decode cL_willReserve 26 = .ok (.ireturn, 1) := by decide +kernel
theorem dL_ownerOf_0 : decode cL_ownerOf 0 = .ok (.aload_n 3, 1) := by decide +kernel
theorem dL_ownerOf_1 : decode cL_ownerOf 1 = .ok (.iconst 0, 1) := by decide +kernel
theorem dL_ownerOf_2 : decode cL_ownerOf 2 = .ok (.aload_n 0, 1) := by decide +kernel
theorem dL_ownerOf_3 : decode cL_ownerOf 3 = .ok (.iload_n 1, 1) := by decide +kernel
theorem dL_ownerOf_4 : decode cL_ownerOf 4 = .ok (.iload_n 2, 1) := by decide +kernel
theorem dL_ownerOf_5 : decode cL_ownerOf 5 = .ok (.invokevirtual 73, 3) := by decide +kernel
theorem dL_ownerOf_8 : decode cL_ownerOf 8 = .ok (.i2l, 1) := by decide +kernel
theorem dL_ownerOf_9 : decode cL_ownerOf 9 = .ok (.lastore, 1) := by decide +kernel
theorem dL_ownerOf_10 : decode cL_ownerOf 10 = .ok (.goto 11, 3) := by decide +kernel
theorem dL_ownerOf_13 : decode cL_ownerOf 13 = .ok (.astore 4, 2) := by decide +kernel
theorem dL_ownerOf_15 : decode cL_ownerOf 15 = .ok (.iconst 1, 1) := by decide +kernel
theorem dL_ownerOf_16 : decode cL_ownerOf 16 = .ok (.ireturn, 1) := by decide +kernel
theorem dL_ownerOf_17 : decode cL_ownerOf 17 = .ok (.astore 4, 2) := by decide +kernel
theorem dL_ownerOf_19 : decode cL_ownerOf 19 = .ok (.iconst 2, 1) := by decide +kernel
theorem dL_ownerOf_20 : decode cL_ownerOf 20 = .ok (.ireturn, 1) := by decide +kernel
theorem dL_ownerOf_21 : decode cL_ownerOf 21 = .ok (.iconst 0, 1) := by decide +kernel
theorem dL_ownerOf_22 : decode cL_ownerOf 22 = .ok (.ireturn, 1) := by decide +kernel
theorem dL_line_0 : decode cL_line 0 = .ok (.aload_n 2, 1) := by decide +kernel
theorem dL_line_1 : decode cL_line 1 = .ok (.iconst 0, 1) := by decide +kernel
theorem dL_line_2 : decode cL_line 2 = .ok (.aload_n 0, 1) := by decide +kernel
theorem dL_line_3 : decode cL_line 3 = .ok (.iload_n 1, 1) := by decide +kernel
theorem dL_line_4 : decode cL_line 4 = .ok (.invokevirtual 76, 3) := by decide +kernel
theorem dL_line_7 : decode cL_line 7 = .ok (.i2l, 1) := by decide +kernel
theorem dL_line_8 : decode cL_line 8 = .ok (.lastore, 1) := by decide +kernel
theorem dL_line_9 : decode cL_line 9 = .ok (.goto 6, 3) := by decide +kernel
theorem dL_line_12 : decode cL_line 12 = .ok (.astore_n 3, 1) := by decide +kernel
theorem dL_line_13 : decode cL_line 13 = .ok (.iconst 1, 1) := by decide +kernel
theorem dL_line_14 : decode cL_line 14 = .ok (.ireturn, 1) := by decide +kernel
theorem dL_line_15 : decode cL_line 15 = .ok (.iconst 0, 1) := by decide +kernel
theorem dL_line_16 : decode cL_line 16 = .ok (.ireturn, 1) := by decide +kernel
theorem dL_character_0 : decode cL_character 0 = .ok (.aload_n 2, 1) := by decide +kernel
theorem dL_character_1 : decode cL_character 1 = .ok (.iconst 0, 1) := by decide +kernel
theorem dL_character_2 : decode cL_character 2 = .ok (.aload_n 0, 1) := by decide +kernel
theorem dL_character_3 : decode cL_character 3 = .ok (.iload_n 1, 1) := by decide +kernel
theorem dL_character_4 : decode cL_character 4 = .ok (.invokevirtual 79, 3) := by decide +kernel
theorem dL_character_7 : decode cL_character 7 = .ok (.i2l, 1) := by decide +kernel
theorem dL_character_8 : decode cL_character 8 = .ok (.lastore, 1) := by decide +kernel
theorem dL_character_9 : decode cL_character 9 = .ok (.goto 6, 3) := by decide +kernel
theorem dL_character_12 : decode cL_character 12 = .ok (.astore_n 3, 1) := by decide +kernel
theorem dL_character_13 : decode cL_character 13 = .ok (.iconst 1, 1) := by decide +kernel
theorem dL_character_14 : decode cL_character 14 = .ok (.ireturn, 1) := by decide +kernel
theorem dL_character_15 : decode cL_character 15 = .ok (.iconst 0, 1) := by decide +kernel
theorem dL_character_16 : decode cL_character 16 = .ok (.ireturn, 1) := by decide +kernel
theorem dL_append_0 : decode cL_append 0 = .ok (.aload_n 2, 1) := by decide +kernel
theorem dL_append_1 : decode cL_append 1 = .ok (.iconst 0, 1) := by decide +kernel
theorem dL_append_2 : decode cL_append 2 = .ok (.aload_n 0, 1) := by decide +kernel
theorem dL_append_3 : decode cL_append 3 = .ok (.iload_n 1, 1) := by decide +kernel
theorem dL_append_4 : decode cL_append 4 = .ok (.invokevirtual 83, 3) := by decide +kernel
theorem dL_append_7 : decode cL_append 7 = .ok (.i2l, 1) := by decide +kernel
theorem dL_append_8 : decode cL_append 8 = .ok (.lastore, 1) := by decide +kernel
theorem dL_append_9 : decode cL_append 9 = .ok (.goto 6, 3) := by decide +kernel
theorem dL_append_12 : decode cL_append 12 = .ok (.astore_n 3, 1) := by decide +kernel
theorem dL_append_13 : decode cL_append 13 = .ok (.iconst 1, 1) := by decide +kernel
theorem dL_append_14 : decode cL_append 14 = .ok (.ireturn, 1) := by decide +kernel
theorem dL_append_15 : decode cL_append 15 = .ok (.iconst 0, 1) := by decide +kernel
theorem dL_append_16 : decode cL_append 16 = .ok (.ireturn, 1) := by decide +kernel
theorem dL_run_0 : decode cL_run 0 = .ok (.aload_n 1, 1) := by decide +kernel
theorem dL_run_1 : decode cL_run 1 = .ok (.iconst 0, 1) := by decide +kernel
theorem dL_run_2 : decode cL_run 2 = .ok (.aload_n 0, 1) := by decide +kernel
theorem dL_run_3 : decode cL_run 3 = .ok (.invokevirtual 87, 3) := by decide +kernel
theorem dL_run_6 : decode cL_run 6 = .ok (.i2l, 1) := by decide +kernel
theorem dL_run_7 : decode cL_run 7 = .ok (.lastore, 1) := by decide +kernel
theorem dL_run_8 : decode cL_run 8 = .ok (.goto 9, 3) := by decide +kernel
theorem dL_run_11 : decode cL_run 11 = .ok (.astore_n 2, 1) := by decide +kernel
theorem dL_run_12 : decode cL_run 12 = .ok (.iconst 1, 1) := by decide +kernel
theorem dL_run_13 : decode cL_run 13 = .ok (.ireturn, 1) := by decide +kernel
theorem dL_run_14 : decode cL_run 14 = .ok (.astore_n 2, 1) := by decide +kernel
theorem dL_run_15 : decode cL_run 15 = .ok (.iconst 2, 1) := by decide +kernel
theorem dL_run_16 : decode cL_run 16 = .ok (.ireturn, 1) := by decide +kernel
theorem dL_run_17 : decode cL_run 17 = .ok (.iconst 0, 1) := by decide +kernel
theorem dL_run_18 : decode cL_run 18 = .ok (.ireturn, 1) := by decide +kernel
theorem dL_refusal_0 : decode cL_refusal 0 = .ok (.aload_n 3, 1) := by decide +kernel
theorem dL_refusal_1 : decode cL_refusal 1 = .ok (.iconst 0, 1) := by decide +kernel
theorem dL_refusal_2 : decode cL_refusal 2 = .ok (.aload_n 0, 1) := by decide +kernel
theorem dL_refusal_3 : decode cL_refusal 3 = .ok (.iload_n 1, 1) := by decide +kernel
theorem dL_refusal_4 : decode cL_refusal 4 = .ok (.iload_n 2, 1) := by decide +kernel
theorem dL_refusal_5 : decode cL_refusal 5 = .ok (.invokevirtual 91, 3) := by decide +kernel
theorem dL_refusal_8 : decode cL_refusal 8 = .ok (.i2l, 1) := by decide +kernel
theorem dL_refusal_9 : decode cL_refusal 9 = .ok (.lastore, 1) := by decide +kernel
theorem dL_refusal_10 : decode cL_refusal 10 = .ok (.goto 7, 3) := by decide +kernel
theorem dL_refusal_13 : decode cL_refusal 13 = .ok (.astore 4, 2) := by decide +kernel
theorem dL_refusal_15 : decode cL_refusal 15 = .ok (.iconst 1, 1) := by decide +kernel
theorem dL_refusal_16 : decode cL_refusal 16 = .ok (.ireturn, 1) := by decide +kernel
theorem dL_refusal_17 : decode cL_refusal 17 = .ok (.iconst 0, 1) := by decide +kernel
theorem dL_refusal_18 : decode cL_refusal 18 = .ok (.ireturn, 1) := by decide +kernel
theorem dL_account_0 : decode cL_account 0 = .ok (.aload_n 2, 1) := by decide +kernel
theorem dL_account_1 : decode cL_account 1 = .ok (.iconst 0, 1) := by decide +kernel
theorem dL_account_2 : decode cL_account 2 = .ok (.aload_n 0, 1) := by decide +kernel
theorem dL_account_3 : decode cL_account 3 = .ok (.iload_n 1, 1) := by decide +kernel
theorem dL_account_4 : decode cL_account 4 = .ok (.invokevirtual 95, 3) := by decide +kernel
theorem dL_account_7 : decode cL_account 7 = .ok (.i2l, 1) := by decide +kernel
theorem dL_account_8 : decode cL_account 8 = .ok (.lastore, 1) := by decide +kernel
theorem dL_account_9 : decode cL_account 9 = .ok (.goto 6, 3) := by decide +kernel
theorem dL_account_12 : decode cL_account 12 = .ok (.astore_n 3, 1) := by decide +kernel
theorem dL_account_13 : decode cL_account 13 = .ok (.iconst 1, 1) := by decide +kernel
theorem dL_account_14 : decode cL_account 14 = .ok (.ireturn, 1) := by decide +kernel
theorem dL_account_15 : decode cL_account 15 = .ok (.iconst 0, 1) := by decide +kernel
theorem dL_account_16 : decode cL_account 16 = .ok (.ireturn, 1) := by decide +kernel
theorem dL_meanLoan_0 : decode cL_meanLoan 0 = .ok (.aload_n 1, 1) := by decide +kernel
theorem dL_meanLoan_1 : decode cL_meanLoan 1 = .ok (.iconst 0, 1) := by decide +kernel
theorem dL_meanLoan_2 : decode cL_meanLoan 2 = .ok (.aload_n 0, 1) := by decide +kernel
theorem dL_meanLoan_3 : decode cL_meanLoan 3 = .ok (.invokevirtual 98, 3) := by decide +kernel
theorem dL_meanLoan_6 : decode cL_meanLoan 6 = .ok (.dastore, 1) := by decide +kernel
theorem dL_meanLoan_7 : decode cL_meanLoan 7 = .ok (.goto 6, 3) := by decide +kernel
theorem dL_meanLoan_10 : decode cL_meanLoan 10 = .ok (.astore_n 2, 1) := by decide +kernel
theorem dL_meanLoan_11 : decode cL_meanLoan 11 = .ok (.iconst 1, 1) := by decide +kernel
theorem dL_meanLoan_12 : decode cL_meanLoan 12 = .ok (.ireturn, 1) := by decide +kernel
theorem dL_meanLoan_13 : decode cL_meanLoan 13 = .ok (.iconst 0, 1) := by decide +kernel
theorem dL_meanLoan_14 : decode cL_meanLoan 14 = .ok (.ireturn, 1) := by decide +kernel
theorem dL_redeemedShare_0 : decode cL_redeemedShare 0 = .ok (.aload_n 1, 1) := by decide +kernel
theorem dL_redeemedShare_1 : decode cL_redeemedShare 1 = .ok (.iconst 0, 1) := by decide +kernel
theorem dL_redeemedShare_2 : decode cL_redeemedShare 2 = .ok (.aload_n 0, 1) := by decide +kernel
theorem dL_redeemedShare_3 : decode cL_redeemedShare 3 = .ok (.invokevirtual 104, 3) := by decide +kernel
theorem dL_redeemedShare_6 : decode cL_redeemedShare 6 = .ok (.f2d, 1) := by decide +kernel
theorem dL_redeemedShare_7 : decode cL_redeemedShare 7 = .ok (.dastore, 1) := by decide +kernel
theorem dL_redeemedShare_8 : decode cL_redeemedShare 8 = .ok (.goto 6, 3) := by decide +kernel
theorem dL_redeemedShare_11 : decode cL_redeemedShare 11 = .ok (.astore_n 2, 1) := by decide +kernel
theorem dL_redeemedShare_12 : decode cL_redeemedShare 12 = .ok (.iconst 1, 1) := by decide +kernel
theorem dL_redeemedShare_13 : decode cL_redeemedShare 13 = .ok (.ireturn, 1) := by decide +kernel
theorem dL_redeemedShare_14 : decode cL_redeemedShare 14 = .ok (.iconst 0, 1) := by decide +kernel
theorem dL_redeemedShare_15 : decode cL_redeemedShare 15 = .ok (.ireturn, 1) := by decide +kernel
theorem dL_undo_0 : decode cL_undo 0 = .ok (.aload_n 1, 1) := by decide +kernel
theorem dL_undo_1 : decode cL_undo 1 = .ok (.iconst 0, 1) := by decide +kernel
theorem dL_undo_2 : decode cL_undo 2 = .ok (.aload_n 0, 1) := by decide +kernel
theorem dL_undo_3 : decode cL_undo 3 = .ok (.invokevirtual 108, 3) := by decide +kernel
theorem dL_undo_6 : decode cL_undo 6 = .ok (.i2l, 1) := by decide +kernel
theorem dL_undo_7 : decode cL_undo 7 = .ok (.lastore, 1) := by decide +kernel
theorem dL_undo_8 : decode cL_undo 8 = .ok (.goto 6, 3) := by decide +kernel
theorem dL_undo_11 : decode cL_undo 11 = .ok (.astore_n 2, 1) := by decide +kernel
theorem dL_undo_12 : decode cL_undo 12 = .ok (.iconst 1, 1) := by decide +kernel
theorem dL_undo_13 : decode cL_undo 13 = .ok (.ireturn, 1) := by decide +kernel
theorem dL_undo_14 : decode cL_undo 14 = .ok (.iconst 0, 1) := by decide +kernel
theorem dL_undo_15 : decode cL_undo 15 = .ok (.ireturn, 1) := by decide +kernel
theorem dL_restore_0 : decode cL_restore 0 = .ok (.aload_n 1, 1) := by decide +kernel
theorem dL_restore_1 : decode cL_restore 1 = .ok (.iconst 0, 1) := by decide +kernel
theorem dL_restore_2 : decode cL_restore 2 = .ok (.aload_n 0, 1) := by decide +kernel
theorem dL_restore_3 : decode cL_restore 3 = .ok (.invokevirtual 111, 3) := by decide +kernel
theorem dL_restore_6 : decode cL_restore 6 = .ok (.i2l, 1) := by decide +kernel
theorem dL_restore_7 : decode cL_restore 7 = .ok (.lastore, 1) := by decide +kernel
theorem dL_restore_8 : decode cL_restore 8 = .ok (.goto 6, 3) := by decide +kernel
theorem dL_restore_11 : decode cL_restore 11 = .ok (.astore_n 2, 1) := by decide +kernel
theorem dL_restore_12 : decode cL_restore 12 = .ok (.iconst 1, 1) := by decide +kernel
theorem dL_restore_13 : decode cL_restore 13 = .ok (.ireturn, 1) := by decide +kernel
theorem dL_restore_14 : decode cL_restore 14 = .ok (.iconst 0, 1) := by decide +kernel
theorem dL_restore_15 : decode cL_restore 15 = .ok (.ireturn, 1) := by decide +kernel
theorem dL_law_0 : decode cL_law 0 = .ok (.new 8, 3) := by decide +kernel
theorem dL_law_3 : decode cL_law 3 = .ok (.dup, 1) := by decide +kernel
theorem dL_law_4 : decode cL_law 4 = .ok (.invokespecial 114, 3) := by decide +kernel
theorem dL_law_7 : decode cL_law 7 = .ok (.astore_n 1, 1) := by decide +kernel
theorem dL_law_8 : decode cL_law 8 = .ok (.new 115, 3) := by decide +kernel
theorem dL_law_11 : decode cL_law 11 = .ok (.dup, 1) := by decide +kernel
theorem dL_law_12 : decode cL_law 12 = .ok (.invokespecial 117, 3) := by decide +kernel
theorem dL_law_15 : decode cL_law 15 = .ok (.astore_n 2, 1) := by decide +kernel
theorem dL_law_16 : decode cL_law 16 = .ok (.iconst 1, 1) := by decide +kernel
theorem dL_law_17 : decode cL_law 17 = .ok (.newarray .long, 2) := by decide +kernel
theorem dL_law_19 : decode cL_law 19 = .ok (.astore_n 3, 1) := by decide +kernel
theorem dL_law_20 : decode cL_law 20 = .ok (.iconst 1, 1) := by decide +kernel
theorem dL_law_21 : decode cL_law 21 = .ok (.newarray .double, 2) := by decide +kernel
theorem dL_law_23 : decode cL_law 23 = .ok (.astore 4, 2) := by decide +kernel
theorem dL_law_25 : decode cL_law 25 = .ok (.iconst 0, 1) := by decide +kernel
theorem dL_law_26 : decode cL_law 26 = .ok (.istore 5, 2) := by decide +kernel
theorem dL_law_28 : decode cL_law 28 = .ok (.iload 5, 2) := by decide +kernel
theorem dL_law_30 : decode cL_law 30 = .ok (.aload_n 0, 1) := by decide +kernel
theorem dL_law_31 : decode cL_law 31 = .ok (.arraylength, 1) := by decide +kernel
theorem dL_law_32 : decode cL_law 32 = .ok (.iconst 4, 1) := by decide +kernel
theorem dL_law_33 : decode cL_law 33 = .ok (.isub, 1) := by decide +kernel
theorem dL_law_34 : decode cL_law 34 = .ok (.if_icmp .gt 1945, 3) := by decide +kernel
theorem dL_law_37 : decode cL_law 37 = .ok (.aload_n 0, 1) := by decide +kernel
theorem dL_law_38 : decode cL_law 38 = .ok (.iload 5, 2) := by decide +kernel
theorem dL_law_40 : decode cL_law 40 = .ok (.iaload, 1) := by decide +kernel
theorem dL_law_41 : decode cL_law 41 = .ok (.bipush 31, 2) := by decide +kernel
theorem dL_law_43 : decode cL_law 43 = .ok (.iand, 1) := by decide +kernel
theorem dL_law_44 : decode cL_law 44 = .ok (.tableswitch 1929 0 31 #[144, 224, 280, 336, 392, 448, 516, 572, 640, 708, 764, 820, 876, 944, 1012, 1068, 1124, 1192, 1260, 1301, 1314, 1370, 1426, 1484, 1528, 1541, 1641, 1697, 1762, 1828, 1872, 1885], 144) := by decide +kernel
theorem dL_law_188 : decode cL_law 188 = .ok (.aload_n 1, 1) := by decide +kernel
theorem dL_law_189 : decode cL_law 189 = .ok (.aload_n 0, 1) := by decide +kernel
theorem dL_law_190 : decode cL_law 190 = .ok (.iload 5, 2) := by decide +kernel
theorem dL_law_192 : decode cL_law 192 = .ok (.iconst 1, 1) := by decide +kernel
theorem dL_law_193 : decode cL_law 193 = .ok (.iadd, 1) := by decide +kernel
theorem dL_law_194 : decode cL_law 194 = .ok (.iaload, 1) := by decide +kernel
theorem dL_law_195 : decode cL_law 195 = .ok (.aload_n 0, 1) := by decide +kernel
theorem dL_law_196 : decode cL_law 196 = .ok (.iload 5, 2) := by decide +kernel
theorem dL_law_198 : decode cL_law 198 = .ok (.iconst 2, 1) := by decide +kernel
theorem dL_law_199 : decode cL_law 199 = .ok (.iadd, 1) := by decide +kernel
theorem dL_law_200 : decode cL_law 200 = .ok (.iaload, 1) := by decide +kernel
theorem dL_law_201 : decode cL_law 201 = .ok (.aload_n 0, 1) := by decide +kernel
theorem dL_law_202 : decode cL_law 202 = .ok (.iload 5, 2) := by decide +kernel
theorem dL_law_204 : decode cL_law 204 = .ok (.iconst 3, 1) := by decide +kernel
theorem dL_law_205 : decode cL_law 205 = .ok (.iadd, 1) := by decide +kernel
theorem dL_law_206 : decode cL_law 206 = .ok (.iaload, 1) := by decide +kernel
theorem dL_law_207 : decode cL_law 207 = .ok (.aload_n 3, 1) := by decide +kernel
theorem dL_law_208 : decode cL_law 208 = .ok (.invokestatic 118, 3) := by decide +kernel
theorem dL_law_211 : decode cL_law 211 = .ok (.istore 6, 2) := by decide +kernel
theorem dL_law_213 : decode cL_law 213 = .ok (.aload_n 2, 1) := by decide +kernel
theorem dL_law_214 : decode cL_law 214 = .ok (.aload_n 0, 1) := by decide +kernel
theorem dL_law_215 : decode cL_law 215 = .ok (.iload 5, 2) := by decide +kernel
theorem dL_law_217 : decode cL_law 217 = .ok (.iconst 1, 1) := by decide +kernel
theorem dL_law_218 : decode cL_law 218 = .ok (.iadd, 1) := by decide +kernel
theorem dL_law_219 : decode cL_law 219 = .ok (.iaload, 1) := by decide +kernel
theorem dL_law_220 : decode cL_law 220 = .ok (.aload_n 0, 1) := by decide +kernel
theorem dL_law_221 : decode cL_law 221 = .ok (.iload 5, 2) := by decide +kernel
theorem dL_law_223 : decode cL_law 223 = .ok (.iconst 2, 1) := by decide +kernel
theorem dL_law_224 : decode cL_law 224 = .ok (.iadd, 1) := by decide +kernel
theorem dL_law_225 : decode cL_law 225 = .ok (.iaload, 1) := by decide +kernel
theorem dL_law_226 : decode cL_law 226 = .ok (.aload_n 0, 1) := by decide +kernel
theorem dL_law_227 : decode cL_law 227 = .ok (.iload 5, 2) := by decide +kernel
theorem dL_law_229 : decode cL_law 229 = .ok (.iconst 3, 1) := by decide +kernel
theorem dL_law_230 : decode cL_law 230 = .ok (.iadd, 1) := by decide +kernel
theorem dL_law_231 : decode cL_law 231 = .ok (.iaload, 1) := by decide +kernel
theorem dL_law_232 : decode cL_law 232 = .ok (.invokevirtual 123, 3) := by decide +kernel
theorem dL_law_235 : decode cL_law 235 = .ok (.istore 7, 2) := by decide +kernel
theorem dL_law_237 : decode cL_law 237 = .ok (.aload_n 2, 1) := by decide +kernel
theorem dL_law_238 : decode cL_law 238 = .ok (.invokevirtual 124, 3) := by decide +kernel
theorem dL_law_241 : decode cL_law 241 = .ok (.iload 6, 2) := by decide +kernel
theorem dL_law_243 : decode cL_law 243 = .ok (.if_icmp .eq 5, 3) := by decide +kernel
theorem dL_law_246 : decode cL_law 246 = .ok (.iconst 0, 1) := by decide +kernel
theorem dL_law_247 : decode cL_law 247 = .ok (.ireturn, 1) := by decide +kernel
theorem dL_law_248 : decode cL_law 248 = .ok (.iload 6, 2) := by decide +kernel
theorem dL_law_250 : decode cL_law 250 = .ok (.ifCond .ne 15, 3) := by decide +kernel
theorem dL_law_253 : decode cL_law 253 = .ok (.aload_n 3, 1) := by decide +kernel
theorem dL_law_254 : decode cL_law 254 = .ok (.iconst 0, 1) := by decide +kernel
theorem dL_law_255 : decode cL_law 255 = .ok (.laload, 1) := by decide +kernel
theorem dL_law_256 : decode cL_law 256 = .ok (.iload 7, 2) := by decide +kernel
theorem dL_law_258 : decode cL_law 258 = .ok (.i2l, 1) := by decide +kernel
theorem dL_law_259 : decode cL_law 259 = .ok (.lcmp, 1) := by decide +kernel
theorem dL_law_260 : decode cL_law 260 = .ok (.ifCond .eq 5, 3) := by decide +kernel
theorem dL_law_263 : decode cL_law 263 = .ok (.iconst 0, 1) := by decide +kernel
theorem dL_law_264 : decode cL_law 264 = .ok (.ireturn, 1) := by decide +kernel
theorem dL_law_265 : decode cL_law 265 = .ok (.goto 1708, 3) := by decide +kernel
theorem dL_law_268 : decode cL_law 268 = .ok (.aload_n 1, 1) := by decide +kernel
theorem dL_law_269 : decode cL_law 269 = .ok (.aload_n 0, 1) := by decide +kernel
theorem dL_law_270 : decode cL_law 270 = .ok (.iload 5, 2) := by decide +kernel
theorem dL_law_272 : decode cL_law 272 = .ok (.iconst 1, 1) := by decide +kernel
theorem dL_law_273 : decode cL_law 273 = .ok (.iadd, 1) := by decide +kernel
theorem dL_law_274 : decode cL_law 274 = .ok (.iaload, 1) := by decide +kernel
theorem dL_law_275 : decode cL_law 275 = .ok (.aload_n 3, 1) := by decide +kernel
theorem dL_law_276 : decode cL_law 276 = .ok (.invokestatic 127, 3) := by decide +kernel
theorem dL_law_279 : decode cL_law 279 = .ok (.istore 6, 2) := by decide +kernel
theorem dL_law_281 : decode cL_law 281 = .ok (.aload_n 2, 1) := by decide +kernel
theorem dL_law_282 : decode cL_law 282 = .ok (.aload_n 0, 1) := by decide +kernel
theorem dL_law_283 : decode cL_law 283 = .ok (.iload 5, 2) := by decide +kernel
theorem dL_law_285 : decode cL_law 285 = .ok (.iconst 1, 1) := by decide +kernel
theorem dL_law_286 : decode cL_law 286 = .ok (.iadd, 1) := by decide +kernel
theorem dL_law_287 : decode cL_law 287 = .ok (.iaload, 1) := by decide +kernel
theorem dL_law_288 : decode cL_law 288 = .ok (.invokevirtual 130, 3) := by decide +kernel
theorem dL_law_291 : decode cL_law 291 = .ok (.istore 7, 2) := by decide +kernel
theorem dL_law_293 : decode cL_law 293 = .ok (.aload_n 2, 1) := by decide +kernel
theorem dL_law_294 : decode cL_law 294 = .ok (.invokevirtual 124, 3) := by decide +kernel
theorem dL_law_297 : decode cL_law 297 = .ok (.iload 6, 2) := by decide +kernel
theorem dL_law_299 : decode cL_law 299 = .ok (.if_icmp .eq 5, 3) := by decide +kernel
theorem dL_law_302 : decode cL_law 302 = .ok (.iconst 0, 1) := by decide +kernel
theorem dL_law_303 : decode cL_law 303 = .ok (.ireturn, 1) := by decide +kernel
theorem dL_law_304 : decode cL_law 304 = .ok (.iload 6, 2) := by decide +kernel
theorem dL_law_306 : decode cL_law 306 = .ok (.ifCond .ne 15, 3) := by decide +kernel
theorem dL_law_309 : decode cL_law 309 = .ok (.aload_n 3, 1) := by decide +kernel
theorem dL_law_310 : decode cL_law 310 = .ok (.iconst 0, 1) := by decide +kernel
theorem dL_law_311 : decode cL_law 311 = .ok (.laload, 1) := by decide +kernel
theorem dL_law_312 : decode cL_law 312 = .ok (.iload 7, 2) := by decide +kernel
theorem dL_law_314 : decode cL_law 314 = .ok (.i2l, 1) := by decide +kernel
theorem dL_law_315 : decode cL_law 315 = .ok (.lcmp, 1) := by decide +kernel
theorem dL_law_316 : decode cL_law 316 = .ok (.ifCond .eq 5, 3) := by decide +kernel
theorem dL_law_319 : decode cL_law 319 = .ok (.iconst 0, 1) := by decide +kernel
theorem dL_law_320 : decode cL_law 320 = .ok (.ireturn, 1) := by decide +kernel
theorem dL_law_321 : decode cL_law 321 = .ok (.goto 1652, 3) := by decide +kernel
theorem dL_law_324 : decode cL_law 324 = .ok (.aload_n 1, 1) := by decide +kernel
theorem dL_law_325 : decode cL_law 325 = .ok (.aload_n 0, 1) := by decide +kernel
theorem dL_law_326 : decode cL_law 326 = .ok (.iload 5, 2) := by decide +kernel
theorem dL_law_328 : decode cL_law 328 = .ok (.iconst 1, 1) := by decide +kernel
theorem dL_law_329 : decode cL_law 329 = .ok (.iadd, 1) := by decide +kernel
theorem dL_law_330 : decode cL_law 330 = .ok (.iaload, 1) := by decide +kernel
theorem dL_law_331 : decode cL_law 331 = .ok (.aload_n 3, 1) := by decide +kernel
theorem dL_law_332 : decode cL_law 332 = .ok (.invokestatic 131, 3) := by decide +kernel
theorem dL_law_335 : decode cL_law 335 = .ok (.istore 6, 2) := by decide +kernel
theorem dL_law_337 : decode cL_law 337 = .ok (.aload_n 2, 1) := by decide +kernel
theorem dL_law_338 : decode cL_law 338 = .ok (.aload_n 0, 1) := by decide +kernel
theorem dL_law_339 : decode cL_law 339 = .ok (.iload 5, 2) := by decide +kernel
theorem dL_law_341 : decode cL_law 341 = .ok (.iconst 1, 1) := by decide +kernel
theorem dL_law_342 : decode cL_law 342 = .ok (.iadd, 1) := by decide +kernel
theorem dL_law_343 : decode cL_law 343 = .ok (.iaload, 1) := by decide +kernel
theorem dL_law_344 : decode cL_law 344 = .ok (.invokevirtual 133, 3) := by decide +kernel
theorem dL_law_347 : decode cL_law 347 = .ok (.istore 7, 2) := by decide +kernel
theorem dL_law_349 : decode cL_law 349 = .ok (.aload_n 2, 1) := by decide +kernel
theorem dL_law_350 : decode cL_law 350 = .ok (.invokevirtual 124, 3) := by decide +kernel
theorem dL_law_353 : decode cL_law 353 = .ok (.iload 6, 2) := by decide +kernel
theorem dL_law_355 : decode cL_law 355 = .ok (.if_icmp .eq 5, 3) := by decide +kernel
theorem dL_law_358 : decode cL_law 358 = .ok (.iconst 0, 1) := by decide +kernel
theorem dL_law_359 : decode cL_law 359 = .ok (.ireturn, 1) := by decide +kernel
theorem dL_law_360 : decode cL_law 360 = .ok (.iload 6, 2) := by decide +kernel
theorem dL_law_362 : decode cL_law 362 = .ok (.ifCond .ne 15, 3) := by decide +kernel
theorem dL_law_365 : decode cL_law 365 = .ok (.aload_n 3, 1) := by decide +kernel
theorem dL_law_366 : decode cL_law 366 = .ok (.iconst 0, 1) := by decide +kernel
theorem dL_law_367 : decode cL_law 367 = .ok (.laload, 1) := by decide +kernel
theorem dL_law_368 : decode cL_law 368 = .ok (.iload 7, 2) := by decide +kernel
theorem dL_law_370 : decode cL_law 370 = .ok (.i2l, 1) := by decide +kernel
theorem dL_law_371 : decode cL_law 371 = .ok (.lcmp, 1) := by decide +kernel
theorem dL_law_372 : decode cL_law 372 = .ok (.ifCond .eq 5, 3) := by decide +kernel
theorem dL_law_375 : decode cL_law 375 = .ok (.iconst 0, 1) := by decide +kernel
theorem dL_law_376 : decode cL_law 376 = .ok (.ireturn, 1) := by decide +kernel
theorem dL_law_377 : decode cL_law 377 = .ok (.goto 1596, 3) := by decide +kernel
theorem dL_law_380 : decode cL_law 380 = .ok (.aload_n 1, 1) := by decide +kernel
theorem dL_law_381 : decode cL_law 381 = .ok (.aload_n 0, 1) := by decide +kernel
theorem dL_law_382 : decode cL_law 382 = .ok (.iload 5, 2) := by decide +kernel
theorem dL_law_384 : decode cL_law 384 = .ok (.iconst 1, 1) := by decide +kernel
theorem dL_law_385 : decode cL_law 385 = .ok (.iadd, 1) := by decide +kernel
theorem dL_law_386 : decode cL_law 386 = .ok (.iaload, 1) := by decide +kernel
theorem dL_law_387 : decode cL_law 387 = .ok (.aload_n 3, 1) := by decide +kernel
theorem dL_law_388 : decode cL_law 388 = .ok (.invokestatic 134, 3) := by decide +kernel
theorem dL_law_391 : decode cL_law 391 = .ok (.istore 6, 2) := by decide +kernel
theorem dL_law_393 : decode cL_law 393 = .ok (.aload_n 2, 1) := by decide +kernel
theorem dL_law_394 : decode cL_law 394 = .ok (.aload_n 0, 1) := by decide +kernel
theorem dL_law_395 : decode cL_law 395 = .ok (.iload 5, 2) := by decide +kernel
theorem dL_law_397 : decode cL_law 397 = .ok (.iconst 1, 1) := by decide +kernel
theorem dL_law_398 : decode cL_law 398 = .ok (.iadd, 1) := by decide +kernel
theorem dL_law_399 : decode cL_law 399 = .ok (.iaload, 1) := by decide +kernel
theorem dL_law_400 : decode cL_law 400 = .ok (.invokevirtual 136, 3) := by decide +kernel
theorem dL_law_403 : decode cL_law 403 = .ok (.istore 7, 2) := by decide +kernel
theorem dL_law_405 : decode cL_law 405 = .ok (.aload_n 2, 1) := by decide +kernel
theorem dL_law_406 : decode cL_law 406 = .ok (.invokevirtual 124, 3) := by decide +kernel
theorem dL_law_409 : decode cL_law 409 = .ok (.iload 6, 2) := by decide +kernel
theorem dL_law_411 : decode cL_law 411 = .ok (.if_icmp .eq 5, 3) := by decide +kernel
theorem dL_law_414 : decode cL_law 414 = .ok (.iconst 0, 1) := by decide +kernel
theorem dL_law_415 : decode cL_law 415 = .ok (.ireturn, 1) := by decide +kernel
theorem dL_law_416 : decode cL_law 416 = .ok (.iload 6, 2) := by decide +kernel
theorem dL_law_418 : decode cL_law 418 = .ok (.ifCond .ne 15, 3) := by decide +kernel
theorem dL_law_421 : decode cL_law 421 = .ok (.aload_n 3, 1) := by decide +kernel
theorem dL_law_422 : decode cL_law 422 = .ok (.iconst 0, 1) := by decide +kernel
theorem dL_law_423 : decode cL_law 423 = .ok (.laload, 1) := by decide +kernel
theorem dL_law_424 : decode cL_law 424 = .ok (.iload 7, 2) := by decide +kernel
theorem dL_law_426 : decode cL_law 426 = .ok (.i2l, 1) := by decide +kernel
theorem dL_law_427 : decode cL_law 427 = .ok (.lcmp, 1) := by decide +kernel
theorem dL_law_428 : decode cL_law 428 = .ok (.ifCond .eq 5, 3) := by decide +kernel
theorem dL_law_431 : decode cL_law 431 = .ok (.iconst 0, 1) := by decide +kernel
theorem dL_law_432 : decode cL_law 432 = .ok (.ireturn, 1) := by decide +kernel
theorem dL_law_433 : decode cL_law 433 = .ok (.goto 1540, 3) := by decide +kernel
theorem dL_law_436 : decode cL_law 436 = .ok (.aload_n 1, 1) := by decide +kernel
theorem dL_law_437 : decode cL_law 437 = .ok (.aload_n 0, 1) := by decide +kernel
theorem dL_law_438 : decode cL_law 438 = .ok (.iload 5, 2) := by decide +kernel
theorem dL_law_440 : decode cL_law 440 = .ok (.iconst 1, 1) := by decide +kernel
theorem dL_law_441 : decode cL_law 441 = .ok (.iadd, 1) := by decide +kernel
theorem dL_law_442 : decode cL_law 442 = .ok (.iaload, 1) := by decide +kernel
theorem dL_law_443 : decode cL_law 443 = .ok (.aload_n 3, 1) := by decide +kernel
theorem dL_law_444 : decode cL_law 444 = .ok (.invokestatic 137, 3) := by decide +kernel
theorem dL_law_447 : decode cL_law 447 = .ok (.istore 6, 2) := by decide +kernel
theorem dL_law_449 : decode cL_law 449 = .ok (.aload_n 2, 1) := by decide +kernel
theorem dL_law_450 : decode cL_law 450 = .ok (.aload_n 0, 1) := by decide +kernel
theorem dL_law_451 : decode cL_law 451 = .ok (.iload 5, 2) := by decide +kernel
theorem dL_law_453 : decode cL_law 453 = .ok (.iconst 1, 1) := by decide +kernel
theorem dL_law_454 : decode cL_law 454 = .ok (.iadd, 1) := by decide +kernel
theorem dL_law_455 : decode cL_law 455 = .ok (.iaload, 1) := by decide +kernel
theorem dL_law_456 : decode cL_law 456 = .ok (.invokevirtual 139, 3) := by decide +kernel
theorem dL_law_459 : decode cL_law 459 = .ok (.istore 7, 2) := by decide +kernel
theorem dL_law_461 : decode cL_law 461 = .ok (.aload_n 2, 1) := by decide +kernel
theorem dL_law_462 : decode cL_law 462 = .ok (.invokevirtual 124, 3) := by decide +kernel
theorem dL_law_465 : decode cL_law 465 = .ok (.iload 6, 2) := by decide +kernel
theorem dL_law_467 : decode cL_law 467 = .ok (.if_icmp .eq 5, 3) := by decide +kernel
theorem dL_law_470 : decode cL_law 470 = .ok (.iconst 0, 1) := by decide +kernel
theorem dL_law_471 : decode cL_law 471 = .ok (.ireturn, 1) := by decide +kernel
theorem dL_law_472 : decode cL_law 472 = .ok (.iload 6, 2) := by decide +kernel
theorem dL_law_474 : decode cL_law 474 = .ok (.ifCond .ne 15, 3) := by decide +kernel
theorem dL_law_477 : decode cL_law 477 = .ok (.aload_n 3, 1) := by decide +kernel
theorem dL_law_478 : decode cL_law 478 = .ok (.iconst 0, 1) := by decide +kernel
theorem dL_law_479 : decode cL_law 479 = .ok (.laload, 1) := by decide +kernel
theorem dL_law_480 : decode cL_law 480 = .ok (.iload 7, 2) := by decide +kernel
theorem dL_law_482 : decode cL_law 482 = .ok (.i2l, 1) := by decide +kernel
theorem dL_law_483 : decode cL_law 483 = .ok (.lcmp, 1) := by decide +kernel
theorem dL_law_484 : decode cL_law 484 = .ok (.ifCond .eq 5, 3) := by decide +kernel
theorem dL_law_487 : decode cL_law 487 = .ok (.iconst 0, 1) := by decide +kernel
theorem dL_law_488 : decode cL_law 488 = .ok (.ireturn, 1) := by decide +kernel
theorem dL_law_489 : decode cL_law 489 = .ok (.goto 1484, 3) := by decide +kernel
theorem dL_law_492 : decode cL_law 492 = .ok (.aload_n 1, 1) := by decide +kernel
theorem dL_law_493 : decode cL_law 493 = .ok (.aload_n 0, 1) := by decide +kernel
theorem dL_law_494 : decode cL_law 494 = .ok (.iload 5, 2) := by decide +kernel
theorem dL_law_496 : decode cL_law 496 = .ok (.iconst 1, 1) := by decide +kernel
theorem dL_law_497 : decode cL_law 497 = .ok (.iadd, 1) := by decide +kernel
theorem dL_law_498 : decode cL_law 498 = .ok (.iaload, 1) := by decide +kernel
theorem dL_law_499 : decode cL_law 499 = .ok (.aload_n 0, 1) := by decide +kernel
theorem dL_law_500 : decode cL_law 500 = .ok (.iload 5, 2) := by decide +kernel
theorem dL_law_502 : decode cL_law 502 = .ok (.iconst 2, 1) := by decide +kernel
theorem dL_law_503 : decode cL_law 503 = .ok (.iadd, 1) := by decide +kernel
theorem dL_law_504 : decode cL_law 504 = .ok (.iaload, 1) := by decide +kernel
theorem dL_law_505 : decode cL_law 505 = .ok (.aload_n 3, 1) := by decide +kernel
theorem dL_law_506 : decode cL_law 506 = .ok (.invokestatic 140, 3) := by decide +kernel
theorem dL_law_509 : decode cL_law 509 = .ok (.istore 6, 2) := by decide +kernel
theorem dL_law_511 : decode cL_law 511 = .ok (.aload_n 2, 1) := by decide +kernel
theorem dL_law_512 : decode cL_law 512 = .ok (.aload_n 0, 1) := by decide +kernel
theorem dL_law_513 : decode cL_law 513 = .ok (.iload 5, 2) := by decide +kernel
theorem dL_law_515 : decode cL_law 515 = .ok (.iconst 1, 1) := by decide +kernel
theorem dL_law_516 : decode cL_law 516 = .ok (.iadd, 1) := by decide +kernel
theorem dL_law_517 : decode cL_law 517 = .ok (.iaload, 1) := by decide +kernel
theorem dL_law_518 : decode cL_law 518 = .ok (.aload_n 0, 1) := by decide +kernel
theorem dL_law_519 : decode cL_law 519 = .ok (.iload 5, 2) := by decide +kernel
theorem dL_law_521 : decode cL_law 521 = .ok (.iconst 2, 1) := by decide +kernel
theorem dL_law_522 : decode cL_law 522 = .ok (.iadd, 1) := by decide +kernel
theorem dL_law_523 : decode cL_law 523 = .ok (.iaload, 1) := by decide +kernel
theorem dL_law_524 : decode cL_law 524 = .ok (.invokevirtual 143, 3) := by decide +kernel
theorem dL_law_527 : decode cL_law 527 = .ok (.istore 7, 2) := by decide +kernel
theorem dL_law_529 : decode cL_law 529 = .ok (.aload_n 2, 1) := by decide +kernel
theorem dL_law_530 : decode cL_law 530 = .ok (.invokevirtual 124, 3) := by decide +kernel
theorem dL_law_533 : decode cL_law 533 = .ok (.iload 6, 2) := by decide +kernel
theorem dL_law_535 : decode cL_law 535 = .ok (.if_icmp .eq 5, 3) := by decide +kernel
theorem dL_law_538 : decode cL_law 538 = .ok (.iconst 0, 1) := by decide +kernel
theorem dL_law_539 : decode cL_law 539 = .ok (.ireturn, 1) := by decide +kernel
theorem dL_law_540 : decode cL_law 540 = .ok (.iload 6, 2) := by decide +kernel
theorem dL_law_542 : decode cL_law 542 = .ok (.ifCond .ne 15, 3) := by decide +kernel
theorem dL_law_545 : decode cL_law 545 = .ok (.aload_n 3, 1) := by decide +kernel
theorem dL_law_546 : decode cL_law 546 = .ok (.iconst 0, 1) := by decide +kernel
theorem dL_law_547 : decode cL_law 547 = .ok (.laload, 1) := by decide +kernel
theorem dL_law_548 : decode cL_law 548 = .ok (.iload 7, 2) := by decide +kernel
theorem dL_law_550 : decode cL_law 550 = .ok (.i2l, 1) := by decide +kernel
theorem dL_law_551 : decode cL_law 551 = .ok (.lcmp, 1) := by decide +kernel
theorem dL_law_552 : decode cL_law 552 = .ok (.ifCond .eq 5, 3) := by decide +kernel
theorem dL_law_555 : decode cL_law 555 = .ok (.iconst 0, 1) := by decide +kernel
theorem dL_law_556 : decode cL_law 556 = .ok (.ireturn, 1) := by decide +kernel
theorem dL_law_557 : decode cL_law 557 = .ok (.goto 1416, 3) := by decide +kernel
theorem dL_law_560 : decode cL_law 560 = .ok (.aload_n 1, 1) := by decide +kernel
theorem dL_law_561 : decode cL_law 561 = .ok (.aload_n 0, 1) := by decide +kernel
theorem dL_law_562 : decode cL_law 562 = .ok (.iload 5, 2) := by decide +kernel
theorem dL_law_564 : decode cL_law 564 = .ok (.iconst 1, 1) := by decide +kernel
theorem dL_law_565 : decode cL_law 565 = .ok (.iadd, 1) := by decide +kernel
theorem dL_law_566 : decode cL_law 566 = .ok (.iaload, 1) := by decide +kernel
theorem dL_law_567 : decode cL_law 567 = .ok (.aload_n 3, 1) := by decide +kernel
theorem dL_law_568 : decode cL_law 568 = .ok (.invokestatic 144, 3) := by decide +kernel
theorem dL_law_571 : decode cL_law 571 = .ok (.istore 6, 2) := by decide +kernel
theorem dL_law_573 : decode cL_law 573 = .ok (.aload_n 2, 1) := by decide +kernel
theorem dL_law_574 : decode cL_law 574 = .ok (.aload_n 0, 1) := by decide +kernel
theorem dL_law_575 : decode cL_law 575 = .ok (.iload 5, 2) := by decide +kernel
theorem dL_law_577 : decode cL_law 577 = .ok (.iconst 1, 1) := by decide +kernel
theorem dL_law_578 : decode cL_law 578 = .ok (.iadd, 1) := by decide +kernel
theorem dL_law_579 : decode cL_law 579 = .ok (.iaload, 1) := by decide +kernel
theorem dL_law_580 : decode cL_law 580 = .ok (.invokevirtual 146, 3) := by decide +kernel
theorem dL_law_583 : decode cL_law 583 = .ok (.istore 7, 2) := by decide +kernel
theorem dL_law_585 : decode cL_law 585 = .ok (.aload_n 2, 1) := by decide +kernel
theorem dL_law_586 : decode cL_law 586 = .ok (.invokevirtual 124, 3) := by decide +kernel
theorem dL_law_589 : decode cL_law 589 = .ok (.iload 6, 2) := by decide +kernel
theorem dL_law_591 : decode cL_law 591 = .ok (.if_icmp .eq 5, 3) := by decide +kernel
theorem dL_law_594 : decode cL_law 594 = .ok (.iconst 0, 1) := by decide +kernel
theorem dL_law_595 : decode cL_law 595 = .ok (.ireturn, 1) := by decide +kernel
theorem dL_law_596 : decode cL_law 596 = .ok (.iload 6, 2) := by decide +kernel
theorem dL_law_598 : decode cL_law 598 = .ok (.ifCond .ne 15, 3) := by decide +kernel
theorem dL_law_601 : decode cL_law 601 = .ok (.aload_n 3, 1) := by decide +kernel
theorem dL_law_602 : decode cL_law 602 = .ok (.iconst 0, 1) := by decide +kernel
theorem dL_law_603 : decode cL_law 603 = .ok (.laload, 1) := by decide +kernel
theorem dL_law_604 : decode cL_law 604 = .ok (.iload 7, 2) := by decide +kernel
theorem dL_law_606 : decode cL_law 606 = .ok (.i2l, 1) := by decide +kernel
theorem dL_law_607 : decode cL_law 607 = .ok (.lcmp, 1) := by decide +kernel
theorem dL_law_608 : decode cL_law 608 = .ok (.ifCond .eq 5, 3) := by decide +kernel
theorem dL_law_611 : decode cL_law 611 = .ok (.iconst 0, 1) := by decide +kernel
theorem dL_law_612 : decode cL_law 612 = .ok (.ireturn, 1) := by decide +kernel
theorem dL_law_613 : decode cL_law 613 = .ok (.goto 1360, 3) := by decide +kernel
theorem dL_law_616 : decode cL_law 616 = .ok (.aload_n 1, 1) := by decide +kernel
theorem dL_law_617 : decode cL_law 617 = .ok (.aload_n 0, 1) := by decide +kernel
theorem dL_law_618 : decode cL_law 618 = .ok (.iload 5, 2) := by decide +kernel
theorem dL_law_620 : decode cL_law 620 = .ok (.iconst 1, 1) := by decide +kernel
theorem dL_law_621 : decode cL_law 621 = .ok (.iadd, 1) := by decide +kernel
theorem dL_law_622 : decode cL_law 622 = .ok (.iaload, 1) := by decide +kernel
theorem dL_law_623 : decode cL_law 623 = .ok (.aload_n 0, 1) := by decide +kernel
theorem dL_law_624 : decode cL_law 624 = .ok (.iload 5, 2) := by decide +kernel
theorem dL_law_626 : decode cL_law 626 = .ok (.iconst 2, 1) := by decide +kernel
theorem dL_law_627 : decode cL_law 627 = .ok (.iadd, 1) := by decide +kernel
theorem dL_law_628 : decode cL_law 628 = .ok (.iaload, 1) := by decide +kernel
theorem dL_law_629 : decode cL_law 629 = .ok (.aload_n 3, 1) := by decide +kernel
theorem dL_law_630 : decode cL_law 630 = .ok (.invokestatic 147, 3) := by decide +kernel
theorem dL_law_633 : decode cL_law 633 = .ok (.istore 6, 2) := by decide +kernel
theorem dL_law_635 : decode cL_law 635 = .ok (.aload_n 2, 1) := by decide +kernel
theorem dL_law_636 : decode cL_law 636 = .ok (.aload_n 0, 1) := by decide +kernel
theorem dL_law_637 : decode cL_law 637 = .ok (.iload 5, 2) := by decide +kernel
theorem dL_law_639 : decode cL_law 639 = .ok (.iconst 1, 1) := by decide +kernel
theorem dL_law_640 : decode cL_law 640 = .ok (.iadd, 1) := by decide +kernel
theorem dL_law_641 : decode cL_law 641 = .ok (.iaload, 1) := by decide +kernel
theorem dL_law_642 : decode cL_law 642 = .ok (.aload_n 0, 1) := by decide +kernel
theorem dL_law_643 : decode cL_law 643 = .ok (.iload 5, 2) := by decide +kernel
theorem dL_law_645 : decode cL_law 645 = .ok (.iconst 2, 1) := by decide +kernel
theorem dL_law_646 : decode cL_law 646 = .ok (.iadd, 1) := by decide +kernel
theorem dL_law_647 : decode cL_law 647 = .ok (.iaload, 1) := by decide +kernel
theorem dL_law_648 : decode cL_law 648 = .ok (.invokevirtual 149, 3) := by decide +kernel
theorem dL_law_651 : decode cL_law 651 = .ok (.istore 7, 2) := by decide +kernel
theorem dL_law_653 : decode cL_law 653 = .ok (.aload_n 2, 1) := by decide +kernel
theorem dL_law_654 : decode cL_law 654 = .ok (.invokevirtual 124, 3) := by decide +kernel
theorem dL_law_657 : decode cL_law 657 = .ok (.iload 6, 2) := by decide +kernel
theorem dL_law_659 : decode cL_law 659 = .ok (.if_icmp .eq 5, 3) := by decide +kernel
theorem dL_law_662 : decode cL_law 662 = .ok (.iconst 0, 1) := by decide +kernel
theorem dL_law_663 : decode cL_law 663 = .ok (.ireturn, 1) := by decide +kernel
theorem dL_law_664 : decode cL_law 664 = .ok (.iload 6, 2) := by decide +kernel
theorem dL_law_666 : decode cL_law 666 = .ok (.ifCond .ne 15, 3) := by decide +kernel
theorem dL_law_669 : decode cL_law 669 = .ok (.aload_n 3, 1) := by decide +kernel
theorem dL_law_670 : decode cL_law 670 = .ok (.iconst 0, 1) := by decide +kernel
theorem dL_law_671 : decode cL_law 671 = .ok (.laload, 1) := by decide +kernel
theorem dL_law_672 : decode cL_law 672 = .ok (.iload 7, 2) := by decide +kernel
theorem dL_law_674 : decode cL_law 674 = .ok (.i2l, 1) := by decide +kernel
theorem dL_law_675 : decode cL_law 675 = .ok (.lcmp, 1) := by decide +kernel
theorem dL_law_676 : decode cL_law 676 = .ok (.ifCond .eq 5, 3) := by decide +kernel
theorem dL_law_679 : decode cL_law 679 = .ok (.iconst 0, 1) := by decide +kernel
theorem dL_law_680 : decode cL_law 680 = .ok (.ireturn, 1) := by decide +kernel
theorem dL_law_681 : decode cL_law 681 = .ok (.goto 1292, 3) := by decide +kernel
theorem dL_law_684 : decode cL_law 684 = .ok (.aload_n 1, 1) := by decide +kernel
theorem dL_law_685 : decode cL_law 685 = .ok (.aload_n 0, 1) := by decide +kernel
theorem dL_law_686 : decode cL_law 686 = .ok (.iload 5, 2) := by decide +kernel
theorem dL_law_688 : decode cL_law 688 = .ok (.iconst 1, 1) := by decide +kernel
theorem dL_law_689 : decode cL_law 689 = .ok (.iadd, 1) := by decide +kernel
theorem dL_law_690 : decode cL_law 690 = .ok (.iaload, 1) := by decide +kernel
theorem dL_law_691 : decode cL_law 691 = .ok (.aload_n 0, 1) := by decide +kernel
theorem dL_law_692 : decode cL_law 692 = .ok (.iload 5, 2) := by decide +kernel
theorem dL_law_694 : decode cL_law 694 = .ok (.iconst 2, 1) := by decide +kernel
theorem dL_law_695 : decode cL_law 695 = .ok (.iadd, 1) := by decide +kernel
theorem dL_law_696 : decode cL_law 696 = .ok (.iaload, 1) := by decide +kernel
theorem dL_law_697 : decode cL_law 697 = .ok (.aload_n 3, 1) := by decide +kernel
theorem dL_law_698 : decode cL_law 698 = .ok (.invokestatic 150, 3) := by decide +kernel
theorem dL_law_701 : decode cL_law 701 = .ok (.istore 6, 2) := by decide +kernel
theorem dL_law_703 : decode cL_law 703 = .ok (.aload_n 2, 1) := by decide +kernel
theorem dL_law_704 : decode cL_law 704 = .ok (.aload_n 0, 1) := by decide +kernel
theorem dL_law_705 : decode cL_law 705 = .ok (.iload 5, 2) := by decide +kernel
theorem dL_law_707 : decode cL_law 707 = .ok (.iconst 1, 1) := by decide +kernel
theorem dL_law_708 : decode cL_law 708 = .ok (.iadd, 1) := by decide +kernel
theorem dL_law_709 : decode cL_law 709 = .ok (.iaload, 1) := by decide +kernel
theorem dL_law_710 : decode cL_law 710 = .ok (.aload_n 0, 1) := by decide +kernel
theorem dL_law_711 : decode cL_law 711 = .ok (.iload 5, 2) := by decide +kernel
theorem dL_law_713 : decode cL_law 713 = .ok (.iconst 2, 1) := by decide +kernel
theorem dL_law_714 : decode cL_law 714 = .ok (.iadd, 1) := by decide +kernel
theorem dL_law_715 : decode cL_law 715 = .ok (.iaload, 1) := by decide +kernel
theorem dL_law_716 : decode cL_law 716 = .ok (.invokevirtual 152, 3) := by decide +kernel
theorem dL_law_719 : decode cL_law 719 = .ok (.istore 7, 2) := by decide +kernel
theorem dL_law_721 : decode cL_law 721 = .ok (.aload_n 2, 1) := by decide +kernel
theorem dL_law_722 : decode cL_law 722 = .ok (.invokevirtual 124, 3) := by decide +kernel
theorem dL_law_725 : decode cL_law 725 = .ok (.iload 6, 2) := by decide +kernel
theorem dL_law_727 : decode cL_law 727 = .ok (.if_icmp .eq 5, 3) := by decide +kernel
theorem dL_law_730 : decode cL_law 730 = .ok (.iconst 0, 1) := by decide +kernel
theorem dL_law_731 : decode cL_law 731 = .ok (.ireturn, 1) := by decide +kernel
theorem dL_law_732 : decode cL_law 732 = .ok (.iload 6, 2) := by decide +kernel
theorem dL_law_734 : decode cL_law 734 = .ok (.ifCond .ne 15, 3) := by decide +kernel
theorem dL_law_737 : decode cL_law 737 = .ok (.aload_n 3, 1) := by decide +kernel
theorem dL_law_738 : decode cL_law 738 = .ok (.iconst 0, 1) := by decide +kernel
theorem dL_law_739 : decode cL_law 739 = .ok (.laload, 1) := by decide +kernel
theorem dL_law_740 : decode cL_law 740 = .ok (.iload 7, 2) := by decide +kernel
theorem dL_law_742 : decode cL_law 742 = .ok (.i2l, 1) := by decide +kernel
theorem dL_law_743 : decode cL_law 743 = .ok (.lcmp, 1) := by decide +kernel
theorem dL_law_744 : decode cL_law 744 = .ok (.ifCond .eq 5, 3) := by decide +kernel
theorem dL_law_747 : decode cL_law 747 = .ok (.iconst 0, 1) := by decide +kernel
theorem dL_law_748 : decode cL_law 748 = .ok (.ireturn, 1) := by decide +kernel
theorem dL_law_749 : decode cL_law 749 = .ok (.goto 1224, 3) := by decide +kernel
theorem dL_law_752 : decode cL_law 752 = .ok (.aload_n 1, 1) := by decide +kernel
theorem dL_law_753 : decode cL_law 753 = .ok (.aload_n 0, 1) := by decide +kernel
theorem dL_law_754 : decode cL_law 754 = .ok (.iload 5, 2) := by decide +kernel
theorem dL_law_756 : decode cL_law 756 = .ok (.iconst 1, 1) := by decide +kernel
theorem dL_law_757 : decode cL_law 757 = .ok (.iadd, 1) := by decide +kernel
theorem dL_law_758 : decode cL_law 758 = .ok (.iaload, 1) := by decide +kernel
theorem dL_law_759 : decode cL_law 759 = .ok (.aload_n 3, 1) := by decide +kernel
theorem dL_law_760 : decode cL_law 760 = .ok (.invokestatic 153, 3) := by decide +kernel
theorem dL_law_763 : decode cL_law 763 = .ok (.istore 6, 2) := by decide +kernel
theorem dL_law_765 : decode cL_law 765 = .ok (.aload_n 2, 1) := by decide +kernel
theorem dL_law_766 : decode cL_law 766 = .ok (.aload_n 0, 1) := by decide +kernel
theorem dL_law_767 : decode cL_law 767 = .ok (.iload 5, 2) := by decide +kernel
theorem dL_law_769 : decode cL_law 769 = .ok (.iconst 1, 1) := by decide +kernel
theorem dL_law_770 : decode cL_law 770 = .ok (.iadd, 1) := by decide +kernel
theorem dL_law_771 : decode cL_law 771 = .ok (.iaload, 1) := by decide +kernel
theorem dL_law_772 : decode cL_law 772 = .ok (.invokevirtual 155, 3) := by decide +kernel
theorem dL_law_775 : decode cL_law 775 = .ok (.istore 7, 2) := by decide +kernel
theorem dL_law_777 : decode cL_law 777 = .ok (.aload_n 2, 1) := by decide +kernel
theorem dL_law_778 : decode cL_law 778 = .ok (.invokevirtual 124, 3) := by decide +kernel
theorem dL_law_781 : decode cL_law 781 = .ok (.iload 6, 2) := by decide +kernel
theorem dL_law_783 : decode cL_law 783 = .ok (.if_icmp .eq 5, 3) := by decide +kernel
theorem dL_law_786 : decode cL_law 786 = .ok (.iconst 0, 1) := by decide +kernel
theorem dL_law_787 : decode cL_law 787 = .ok (.ireturn, 1) := by decide +kernel
theorem dL_law_788 : decode cL_law 788 = .ok (.iload 6, 2) := by decide +kernel
theorem dL_law_790 : decode cL_law 790 = .ok (.ifCond .ne 15, 3) := by decide +kernel
theorem dL_law_793 : decode cL_law 793 = .ok (.aload_n 3, 1) := by decide +kernel
theorem dL_law_794 : decode cL_law 794 = .ok (.iconst 0, 1) := by decide +kernel
theorem dL_law_795 : decode cL_law 795 = .ok (.laload, 1) := by decide +kernel
theorem dL_law_796 : decode cL_law 796 = .ok (.iload 7, 2) := by decide +kernel
theorem dL_law_798 : decode cL_law 798 = .ok (.i2l, 1) := by decide +kernel
theorem dL_law_799 : decode cL_law 799 = .ok (.lcmp, 1) := by decide +kernel
theorem dL_law_800 : decode cL_law 800 = .ok (.ifCond .eq 5, 3) := by decide +kernel
theorem dL_law_803 : decode cL_law 803 = .ok (.iconst 0, 1) := by decide +kernel
theorem dL_law_804 : decode cL_law 804 = .ok (.ireturn, 1) := by decide +kernel
theorem dL_law_805 : decode cL_law 805 = .ok (.goto 1168, 3) := by decide +kernel
theorem dL_law_808 : decode cL_law 808 = .ok (.aload_n 1, 1) := by decide +kernel
theorem dL_law_809 : decode cL_law 809 = .ok (.aload_n 0, 1) := by decide +kernel
theorem dL_law_810 : decode cL_law 810 = .ok (.iload 5, 2) := by decide +kernel
theorem dL_law_812 : decode cL_law 812 = .ok (.iconst 1, 1) := by decide +kernel
theorem dL_law_813 : decode cL_law 813 = .ok (.iadd, 1) := by decide +kernel
theorem dL_law_814 : decode cL_law 814 = .ok (.iaload, 1) := by decide +kernel
theorem dL_law_815 : decode cL_law 815 = .ok (.aload_n 3, 1) := by decide +kernel
theorem dL_law_816 : decode cL_law 816 = .ok (.invokestatic 156, 3) := by decide +kernel
theorem dL_law_819 : decode cL_law 819 = .ok (.istore 6, 2) := by decide +kernel
theorem dL_law_821 : decode cL_law 821 = .ok (.aload_n 2, 1) := by decide +kernel
theorem dL_law_822 : decode cL_law 822 = .ok (.aload_n 0, 1) := by decide +kernel
theorem dL_law_823 : decode cL_law 823 = .ok (.iload 5, 2) := by decide +kernel
theorem dL_law_825 : decode cL_law 825 = .ok (.iconst 1, 1) := by decide +kernel
theorem dL_law_826 : decode cL_law 826 = .ok (.iadd, 1) := by decide +kernel
theorem dL_law_827 : decode cL_law 827 = .ok (.iaload, 1) := by decide +kernel
theorem dL_law_828 : decode cL_law 828 = .ok (.invokevirtual 158, 3) := by decide +kernel
theorem dL_law_831 : decode cL_law 831 = .ok (.istore 7, 2) := by decide +kernel
theorem dL_law_833 : decode cL_law 833 = .ok (.aload_n 2, 1) := by decide +kernel
theorem dL_law_834 : decode cL_law 834 = .ok (.invokevirtual 124, 3) := by decide +kernel
theorem dL_law_837 : decode cL_law 837 = .ok (.iload 6, 2) := by decide +kernel
theorem dL_law_839 : decode cL_law 839 = .ok (.if_icmp .eq 5, 3) := by decide +kernel
theorem dL_law_842 : decode cL_law 842 = .ok (.iconst 0, 1) := by decide +kernel
theorem dL_law_843 : decode cL_law 843 = .ok (.ireturn, 1) := by decide +kernel
theorem dL_law_844 : decode cL_law 844 = .ok (.iload 6, 2) := by decide +kernel
theorem dL_law_846 : decode cL_law 846 = .ok (.ifCond .ne 15, 3) := by decide +kernel
theorem dL_law_849 : decode cL_law 849 = .ok (.aload_n 3, 1) := by decide +kernel
theorem dL_law_850 : decode cL_law 850 = .ok (.iconst 0, 1) := by decide +kernel
theorem dL_law_851 : decode cL_law 851 = .ok (.laload, 1) := by decide +kernel
theorem dL_law_852 : decode cL_law 852 = .ok (.iload 7, 2) := by decide +kernel
theorem dL_law_854 : decode cL_law 854 = .ok (.i2l, 1) := by decide +kernel
theorem dL_law_855 : decode cL_law 855 = .ok (.lcmp, 1) := by decide +kernel
theorem dL_law_856 : decode cL_law 856 = .ok (.ifCond .eq 5, 3) := by decide +kernel
theorem dL_law_859 : decode cL_law 859 = .ok (.iconst 0, 1) := by decide +kernel
theorem dL_law_860 : decode cL_law 860 = .ok (.ireturn, 1) := by decide +kernel
theorem dL_law_861 : decode cL_law 861 = .ok (.goto 1112, 3) := by decide +kernel
theorem dL_law_864 : decode cL_law 864 = .ok (.aload_n 1, 1) := by decide +kernel
theorem dL_law_865 : decode cL_law 865 = .ok (.aload_n 0, 1) := by decide +kernel
theorem dL_law_866 : decode cL_law 866 = .ok (.iload 5, 2) := by decide +kernel
theorem dL_law_868 : decode cL_law 868 = .ok (.iconst 1, 1) := by decide +kernel
theorem dL_law_869 : decode cL_law 869 = .ok (.iadd, 1) := by decide +kernel
theorem dL_law_870 : decode cL_law 870 = .ok (.iaload, 1) := by decide +kernel
theorem dL_law_871 : decode cL_law 871 = .ok (.aload_n 3, 1) := by decide +kernel
theorem dL_law_872 : decode cL_law 872 = .ok (.invokestatic 159, 3) := by decide +kernel
theorem dL_law_875 : decode cL_law 875 = .ok (.istore 6, 2) := by decide +kernel
theorem dL_law_877 : decode cL_law 877 = .ok (.aload_n 2, 1) := by decide +kernel
theorem dL_law_878 : decode cL_law 878 = .ok (.aload_n 0, 1) := by decide +kernel
theorem dL_law_879 : decode cL_law 879 = .ok (.iload 5, 2) := by decide +kernel
theorem dL_law_881 : decode cL_law 881 = .ok (.iconst 1, 1) := by decide +kernel
theorem dL_law_882 : decode cL_law 882 = .ok (.iadd, 1) := by decide +kernel
theorem dL_law_883 : decode cL_law 883 = .ok (.iaload, 1) := by decide +kernel
theorem dL_law_884 : decode cL_law 884 = .ok (.invokevirtual 161, 3) := by decide +kernel
theorem dL_law_887 : decode cL_law 887 = .ok (.istore 7, 2) := by decide +kernel
theorem dL_law_889 : decode cL_law 889 = .ok (.aload_n 2, 1) := by decide +kernel
theorem dL_law_890 : decode cL_law 890 = .ok (.invokevirtual 124, 3) := by decide +kernel
theorem dL_law_893 : decode cL_law 893 = .ok (.iload 6, 2) := by decide +kernel
theorem dL_law_895 : decode cL_law 895 = .ok (.if_icmp .eq 5, 3) := by decide +kernel
theorem dL_law_898 : decode cL_law 898 = .ok (.iconst 0, 1) := by decide +kernel
theorem dL_law_899 : decode cL_law 899 = .ok (.ireturn, 1) := by decide +kernel
theorem dL_law_900 : decode cL_law 900 = .ok (.iload 6, 2) := by decide +kernel
theorem dL_law_902 : decode cL_law 902 = .ok (.ifCond .ne 15, 3) := by decide +kernel
theorem dL_law_905 : decode cL_law 905 = .ok (.aload_n 3, 1) := by decide +kernel
theorem dL_law_906 : decode cL_law 906 = .ok (.iconst 0, 1) := by decide +kernel
theorem dL_law_907 : decode cL_law 907 = .ok (.laload, 1) := by decide +kernel
theorem dL_law_908 : decode cL_law 908 = .ok (.iload 7, 2) := by decide +kernel
theorem dL_law_910 : decode cL_law 910 = .ok (.i2l, 1) := by decide +kernel
theorem dL_law_911 : decode cL_law 911 = .ok (.lcmp, 1) := by decide +kernel
theorem dL_law_912 : decode cL_law 912 = .ok (.ifCond .eq 5, 3) := by decide +kernel
theorem dL_law_915 : decode cL_law 915 = .ok (.iconst 0, 1) := by decide +kernel
theorem dL_law_916 : decode cL_law 916 = .ok (.ireturn, 1) := by decide +kernel
theorem dL_law_917 : decode cL_law 917 = .ok (.goto 1056, 3) := by decide +kernel
theorem dL_law_920 : decode cL_law 920 = .ok (.aload_n 1, 1) := by decide +kernel
theorem dL_law_921 : decode cL_law 921 = .ok (.aload_n 0, 1) := by decide +kernel
theorem dL_law_922 : decode cL_law 922 = .ok (.iload 5, 2) := by decide +kernel
theorem dL_law_924 : decode cL_law 924 = .ok (.iconst 1, 1) := by decide +kernel
theorem dL_law_925 : decode cL_law 925 = .ok (.iadd, 1) := by decide +kernel
theorem dL_law_926 : decode cL_law 926 = .ok (.iaload, 1) := by decide +kernel
theorem dL_law_927 : decode cL_law 927 = .ok (.aload_n 0, 1) := by decide +kernel
theorem dL_law_928 : decode cL_law 928 = .ok (.iload 5, 2) := by decide +kernel
theorem dL_law_930 : decode cL_law 930 = .ok (.iconst 2, 1) := by decide +kernel
theorem dL_law_931 : decode cL_law 931 = .ok (.iadd, 1) := by decide +kernel
theorem dL_law_932 : decode cL_law 932 = .ok (.iaload, 1) := by decide +kernel
theorem dL_law_933 : decode cL_law 933 = .ok (.aload_n 3, 1) := by decide +kernel
theorem dL_law_934 : decode cL_law 934 = .ok (.invokestatic 162, 3) := by decide +kernel
theorem dL_law_937 : decode cL_law 937 = .ok (.istore 6, 2) := by decide +kernel
theorem dL_law_939 : decode cL_law 939 = .ok (.aload_n 2, 1) := by decide +kernel
theorem dL_law_940 : decode cL_law 940 = .ok (.aload_n 0, 1) := by decide +kernel
theorem dL_law_941 : decode cL_law 941 = .ok (.iload 5, 2) := by decide +kernel
theorem dL_law_943 : decode cL_law 943 = .ok (.iconst 1, 1) := by decide +kernel
theorem dL_law_944 : decode cL_law 944 = .ok (.iadd, 1) := by decide +kernel
theorem dL_law_945 : decode cL_law 945 = .ok (.iaload, 1) := by decide +kernel
theorem dL_law_946 : decode cL_law 946 = .ok (.aload_n 0, 1) := by decide +kernel
theorem dL_law_947 : decode cL_law 947 = .ok (.iload 5, 2) := by decide +kernel
theorem dL_law_949 : decode cL_law 949 = .ok (.iconst 2, 1) := by decide +kernel
theorem dL_law_950 : decode cL_law 950 = .ok (.iadd, 1) := by decide +kernel
theorem dL_law_951 : decode cL_law 951 = .ok (.iaload, 1) := by decide +kernel
theorem dL_law_952 : decode cL_law 952 = .ok (.invokevirtual 164, 3) := by decide +kernel
theorem dL_law_955 : decode cL_law 955 = .ok (.istore 7, 2) := by decide +kernel
theorem dL_law_957 : decode cL_law 957 = .ok (.aload_n 2, 1) := by decide +kernel
theorem dL_law_958 : decode cL_law 958 = .ok (.invokevirtual 124, 3) := by decide +kernel
theorem dL_law_961 : decode cL_law 961 = .ok (.iload 6, 2) := by decide +kernel
theorem dL_law_963 : decode cL_law 963 = .ok (.if_icmp .eq 5, 3) := by decide +kernel
theorem dL_law_966 : decode cL_law 966 = .ok (.iconst 0, 1) := by decide +kernel
theorem dL_law_967 : decode cL_law 967 = .ok (.ireturn, 1) := by decide +kernel
theorem dL_law_968 : decode cL_law 968 = .ok (.iload 6, 2) := by decide +kernel
theorem dL_law_970 : decode cL_law 970 = .ok (.ifCond .ne 15, 3) := by decide +kernel
theorem dL_law_973 : decode cL_law 973 = .ok (.aload_n 3, 1) := by decide +kernel
theorem dL_law_974 : decode cL_law 974 = .ok (.iconst 0, 1) := by decide +kernel
theorem dL_law_975 : decode cL_law 975 = .ok (.laload, 1) := by decide +kernel
theorem dL_law_976 : decode cL_law 976 = .ok (.iload 7, 2) := by decide +kernel
theorem dL_law_978 : decode cL_law 978 = .ok (.i2l, 1) := by decide +kernel
theorem dL_law_979 : decode cL_law 979 = .ok (.lcmp, 1) := by decide +kernel
theorem dL_law_980 : decode cL_law 980 = .ok (.ifCond .eq 5, 3) := by decide +kernel
theorem dL_law_983 : decode cL_law 983 = .ok (.iconst 0, 1) := by decide +kernel
theorem dL_law_984 : decode cL_law 984 = .ok (.ireturn, 1) := by decide +kernel
theorem dL_law_985 : decode cL_law 985 = .ok (.goto 988, 3) := by decide +kernel
theorem dL_law_988 : decode cL_law 988 = .ok (.aload_n 1, 1) := by decide +kernel
theorem dL_law_989 : decode cL_law 989 = .ok (.aload_n 0, 1) := by decide +kernel
theorem dL_law_990 : decode cL_law 990 = .ok (.iload 5, 2) := by decide +kernel
theorem dL_law_992 : decode cL_law 992 = .ok (.iconst 1, 1) := by decide +kernel
theorem dL_law_993 : decode cL_law 993 = .ok (.iadd, 1) := by decide +kernel
theorem dL_law_994 : decode cL_law 994 = .ok (.iaload, 1) := by decide +kernel
theorem dL_law_995 : decode cL_law 995 = .ok (.aload_n 0, 1) := by decide +kernel
theorem dL_law_996 : decode cL_law 996 = .ok (.iload 5, 2) := by decide +kernel
theorem dL_law_998 : decode cL_law 998 = .ok (.iconst 2, 1) := by decide +kernel
theorem dL_law_999 : decode cL_law 999 = .ok (.iadd, 1) := by decide +kernel
theorem dL_law_1000 : decode cL_law 1000 = .ok (.iaload, 1) := by decide +kernel
theorem dL_law_1001 : decode cL_law 1001 = .ok (.aload_n 3, 1) := by decide +kernel
theorem dL_law_1002 : decode cL_law 1002 = .ok (.invokestatic 165, 3) := by decide +kernel
theorem dL_law_1005 : decode cL_law 1005 = .ok (.istore 6, 2) := by decide +kernel
theorem dL_law_1007 : decode cL_law 1007 = .ok (.aload_n 2, 1) := by decide +kernel
theorem dL_law_1008 : decode cL_law 1008 = .ok (.aload_n 0, 1) := by decide +kernel
theorem dL_law_1009 : decode cL_law 1009 = .ok (.iload 5, 2) := by decide +kernel
theorem dL_law_1011 : decode cL_law 1011 = .ok (.iconst 1, 1) := by decide +kernel
theorem dL_law_1012 : decode cL_law 1012 = .ok (.iadd, 1) := by decide +kernel
theorem dL_law_1013 : decode cL_law 1013 = .ok (.iaload, 1) := by decide +kernel
theorem dL_law_1014 : decode cL_law 1014 = .ok (.aload_n 0, 1) := by decide +kernel
theorem dL_law_1015 : decode cL_law 1015 = .ok (.iload 5, 2) := by decide +kernel
theorem dL_law_1017 : decode cL_law 1017 = .ok (.iconst 2, 1) := by decide +kernel
theorem dL_law_1018 : decode cL_law 1018 = .ok (.iadd, 1) := by decide +kernel
theorem dL_law_1019 : decode cL_law 1019 = .ok (.iaload, 1) := by decide +kernel
theorem dL_law_1020 : decode cL_law 1020 = .ok (.invokevirtual 167, 3) := by decide +kernel
theorem dL_law_1023 : decode cL_law 1023 = .ok (.istore 7, 2) := by decide +kernel
theorem dL_law_1025 : decode cL_law 1025 = .ok (.aload_n 2, 1) := by decide +kernel
theorem dL_law_1026 : decode cL_law 1026 = .ok (.invokevirtual 124, 3) := by decide +kernel
theorem dL_law_1029 : decode cL_law 1029 = .ok (.iload 6, 2) := by decide +kernel
theorem dL_law_1031 : decode cL_law 1031 = .ok (.if_icmp .eq 5, 3) := by decide +kernel
theorem dL_law_1034 : decode cL_law 1034 = .ok (.iconst 0, 1) := by decide +kernel
theorem dL_law_1035 : decode cL_law 1035 = .ok (.ireturn, 1) := by decide +kernel
theorem dL_law_1036 : decode cL_law 1036 = .ok (.iload 6, 2) := by decide +kernel
theorem dL_law_1038 : decode cL_law 1038 = .ok (.ifCond .ne 15, 3) := by decide +kernel
theorem dL_law_1041 : decode cL_law 1041 = .ok (.aload_n 3, 1) := by decide +kernel
theorem dL_law_1042 : decode cL_law 1042 = .ok (.iconst 0, 1) := by decide +kernel
theorem dL_law_1043 : decode cL_law 1043 = .ok (.laload, 1) := by decide +kernel
theorem dL_law_1044 : decode cL_law 1044 = .ok (.iload 7, 2) := by decide +kernel
theorem dL_law_1046 : decode cL_law 1046 = .ok (.i2l, 1) := by decide +kernel
theorem dL_law_1047 : decode cL_law 1047 = .ok (.lcmp, 1) := by decide +kernel
theorem dL_law_1048 : decode cL_law 1048 = .ok (.ifCond .eq 5, 3) := by decide +kernel
theorem dL_law_1051 : decode cL_law 1051 = .ok (.iconst 0, 1) := by decide +kernel
theorem dL_law_1052 : decode cL_law 1052 = .ok (.ireturn, 1) := by decide +kernel
theorem dL_law_1053 : decode cL_law 1053 = .ok (.goto 920, 3) := by decide +kernel
theorem dL_law_1056 : decode cL_law 1056 = .ok (.aload_n 1, 1) := by decide +kernel
theorem dL_law_1057 : decode cL_law 1057 = .ok (.aload_n 0, 1) := by decide +kernel
theorem dL_law_1058 : decode cL_law 1058 = .ok (.iload 5, 2) := by decide +kernel
theorem dL_law_1060 : decode cL_law 1060 = .ok (.iconst 1, 1) := by decide +kernel
theorem dL_law_1061 : decode cL_law 1061 = .ok (.iadd, 1) := by decide +kernel
theorem dL_law_1062 : decode cL_law 1062 = .ok (.iaload, 1) := by decide +kernel
theorem dL_law_1063 : decode cL_law 1063 = .ok (.aload_n 3, 1) := by decide +kernel
theorem dL_law_1064 : decode cL_law 1064 = .ok (.invokestatic 168, 3) := by decide +kernel
theorem dL_law_1067 : decode cL_law 1067 = .ok (.istore 6, 2) := by decide +kernel
theorem dL_law_1069 : decode cL_law 1069 = .ok (.aload_n 2, 1) := by decide +kernel
theorem dL_law_1070 : decode cL_law 1070 = .ok (.aload_n 0, 1) := by decide +kernel
theorem dL_law_1071 : decode cL_law 1071 = .ok (.iload 5, 2) := by decide +kernel
theorem dL_law_1073 : decode cL_law 1073 = .ok (.iconst 1, 1) := by decide +kernel
theorem dL_law_1074 : decode cL_law 1074 = .ok (.iadd, 1) := by decide +kernel
theorem dL_law_1075 : decode cL_law 1075 = .ok (.iaload, 1) := by decide +kernel
theorem dL_law_1076 : decode cL_law 1076 = .ok (.invokevirtual 170, 3) := by decide +kernel
theorem dL_law_1079 : decode cL_law 1079 = .ok (.istore 7, 2) := by decide +kernel
theorem dL_law_1081 : decode cL_law 1081 = .ok (.aload_n 2, 1) := by decide +kernel
theorem dL_law_1082 : decode cL_law 1082 = .ok (.invokevirtual 124, 3) := by decide +kernel
theorem dL_law_1085 : decode cL_law 1085 = .ok (.iload 6, 2) := by decide +kernel
theorem dL_law_1087 : decode cL_law 1087 = .ok (.if_icmp .eq 5, 3) := by decide +kernel
theorem dL_law_1090 : decode cL_law 1090 = .ok (.iconst 0, 1) := by decide +kernel
theorem dL_law_1091 : decode cL_law 1091 = .ok (.ireturn, 1) := by decide +kernel
theorem dL_law_1092 : decode cL_law 1092 = .ok (.iload 6, 2) := by decide +kernel
theorem dL_law_1094 : decode cL_law 1094 = .ok (.ifCond .ne 15, 3) := by decide +kernel
theorem dL_law_1097 : decode cL_law 1097 = .ok (.aload_n 3, 1) := by decide +kernel
theorem dL_law_1098 : decode cL_law 1098 = .ok (.iconst 0, 1) := by decide +kernel
theorem dL_law_1099 : decode cL_law 1099 = .ok (.laload, 1) := by decide +kernel
theorem dL_law_1100 : decode cL_law 1100 = .ok (.iload 7, 2) := by decide +kernel
theorem dL_law_1102 : decode cL_law 1102 = .ok (.i2l, 1) := by decide +kernel
theorem dL_law_1103 : decode cL_law 1103 = .ok (.lcmp, 1) := by decide +kernel
theorem dL_law_1104 : decode cL_law 1104 = .ok (.ifCond .eq 5, 3) := by decide +kernel
theorem dL_law_1107 : decode cL_law 1107 = .ok (.iconst 0, 1) := by decide +kernel
theorem dL_law_1108 : decode cL_law 1108 = .ok (.ireturn, 1) := by decide +kernel
theorem dL_law_1109 : decode cL_law 1109 = .ok (.goto 864, 3) := by decide +kernel
theorem dL_law_1112 : decode cL_law 1112 = .ok (.aload_n 1, 1) := by decide +kernel
theorem dL_law_1113 : decode cL_law 1113 = .ok (.aload_n 0, 1) := by decide +kernel
theorem dL_law_1114 : decode cL_law 1114 = .ok (.iload 5, 2) := by decide +kernel
theorem dL_law_1116 : decode cL_law 1116 = .ok (.iconst 1, 1) := by decide +kernel
theorem dL_law_1117 : decode cL_law 1117 = .ok (.iadd, 1) := by decide +kernel
theorem dL_law_1118 : decode cL_law 1118 = .ok (.iaload, 1) := by decide +kernel
theorem dL_law_1119 : decode cL_law 1119 = .ok (.aload_n 3, 1) := by decide +kernel
theorem dL_law_1120 : decode cL_law 1120 = .ok (.invokestatic 171, 3) := by decide +kernel
theorem dL_law_1123 : decode cL_law 1123 = .ok (.istore 6, 2) := by decide +kernel
theorem dL_law_1125 : decode cL_law 1125 = .ok (.aload_n 2, 1) := by decide +kernel
theorem dL_law_1126 : decode cL_law 1126 = .ok (.aload_n 0, 1) := by decide +kernel
theorem dL_law_1127 : decode cL_law 1127 = .ok (.iload 5, 2) := by decide +kernel
theorem dL_law_1129 : decode cL_law 1129 = .ok (.iconst 1, 1) := by decide +kernel
theorem dL_law_1130 : decode cL_law 1130 = .ok (.iadd, 1) := by decide +kernel
theorem dL_law_1131 : decode cL_law 1131 = .ok (.iaload, 1) := by decide +kernel
theorem dL_law_1132 : decode cL_law 1132 = .ok (.invokevirtual 173, 3) := by decide +kernel
theorem dL_law_1135 : decode cL_law 1135 = .ok (.istore 7, 2) := by decide +kernel
theorem dL_law_1137 : decode cL_law 1137 = .ok (.aload_n 2, 1) := by decide +kernel
theorem dL_law_1138 : decode cL_law 1138 = .ok (.invokevirtual 124, 3) := by decide +kernel
theorem dL_law_1141 : decode cL_law 1141 = .ok (.iload 6, 2) := by decide +kernel
theorem dL_law_1143 : decode cL_law 1143 = .ok (.if_icmp .eq 5, 3) := by decide +kernel
theorem dL_law_1146 : decode cL_law 1146 = .ok (.iconst 0, 1) := by decide +kernel
theorem dL_law_1147 : decode cL_law 1147 = .ok (.ireturn, 1) := by decide +kernel
theorem dL_law_1148 : decode cL_law 1148 = .ok (.iload 6, 2) := by decide +kernel
theorem dL_law_1150 : decode cL_law 1150 = .ok (.ifCond .ne 15, 3) := by decide +kernel
theorem dL_law_1153 : decode cL_law 1153 = .ok (.aload_n 3, 1) := by decide +kernel
theorem dL_law_1154 : decode cL_law 1154 = .ok (.iconst 0, 1) := by decide +kernel
theorem dL_law_1155 : decode cL_law 1155 = .ok (.laload, 1) := by decide +kernel
theorem dL_law_1156 : decode cL_law 1156 = .ok (.iload 7, 2) := by decide +kernel
theorem dL_law_1158 : decode cL_law 1158 = .ok (.i2l, 1) := by decide +kernel
theorem dL_law_1159 : decode cL_law 1159 = .ok (.lcmp, 1) := by decide +kernel
theorem dL_law_1160 : decode cL_law 1160 = .ok (.ifCond .eq 5, 3) := by decide +kernel
theorem dL_law_1163 : decode cL_law 1163 = .ok (.iconst 0, 1) := by decide +kernel
theorem dL_law_1164 : decode cL_law 1164 = .ok (.ireturn, 1) := by decide +kernel
theorem dL_law_1165 : decode cL_law 1165 = .ok (.goto 808, 3) := by decide +kernel
theorem dL_law_1168 : decode cL_law 1168 = .ok (.aload_n 1, 1) := by decide +kernel
theorem dL_law_1169 : decode cL_law 1169 = .ok (.aload_n 0, 1) := by decide +kernel
theorem dL_law_1170 : decode cL_law 1170 = .ok (.iload 5, 2) := by decide +kernel
theorem dL_law_1172 : decode cL_law 1172 = .ok (.iconst 1, 1) := by decide +kernel
theorem dL_law_1173 : decode cL_law 1173 = .ok (.iadd, 1) := by decide +kernel
theorem dL_law_1174 : decode cL_law 1174 = .ok (.iaload, 1) := by decide +kernel
theorem dL_law_1175 : decode cL_law 1175 = .ok (.aload_n 0, 1) := by decide +kernel
theorem dL_law_1176 : decode cL_law 1176 = .ok (.iload 5, 2) := by decide +kernel
theorem dL_law_1178 : decode cL_law 1178 = .ok (.iconst 2, 1) := by decide +kernel
theorem dL_law_1179 : decode cL_law 1179 = .ok (.iadd, 1) := by decide +kernel
theorem dL_law_1180 : decode cL_law 1180 = .ok (.iaload, 1) := by decide +kernel
theorem dL_law_1181 : decode cL_law 1181 = .ok (.aload_n 3, 1) := by decide +kernel
theorem dL_law_1182 : decode cL_law 1182 = .ok (.invokestatic 174, 3) := by decide +kernel
theorem dL_law_1185 : decode cL_law 1185 = .ok (.istore 6, 2) := by decide +kernel
theorem dL_law_1187 : decode cL_law 1187 = .ok (.aload_n 2, 1) := by decide +kernel
theorem dL_law_1188 : decode cL_law 1188 = .ok (.aload_n 0, 1) := by decide +kernel
theorem dL_law_1189 : decode cL_law 1189 = .ok (.iload 5, 2) := by decide +kernel
theorem dL_law_1191 : decode cL_law 1191 = .ok (.iconst 1, 1) := by decide +kernel
theorem dL_law_1192 : decode cL_law 1192 = .ok (.iadd, 1) := by decide +kernel
theorem dL_law_1193 : decode cL_law 1193 = .ok (.iaload, 1) := by decide +kernel
theorem dL_law_1194 : decode cL_law 1194 = .ok (.aload_n 0, 1) := by decide +kernel
theorem dL_law_1195 : decode cL_law 1195 = .ok (.iload 5, 2) := by decide +kernel
theorem dL_law_1197 : decode cL_law 1197 = .ok (.iconst 2, 1) := by decide +kernel
theorem dL_law_1198 : decode cL_law 1198 = .ok (.iadd, 1) := by decide +kernel
theorem dL_law_1199 : decode cL_law 1199 = .ok (.iaload, 1) := by decide +kernel
theorem dL_law_1200 : decode cL_law 1200 = .ok (.invokevirtual 176, 3) := by decide +kernel
theorem dL_law_1203 : decode cL_law 1203 = .ok (.istore 7, 2) := by decide +kernel
theorem dL_law_1205 : decode cL_law 1205 = .ok (.aload_n 2, 1) := by decide +kernel
theorem dL_law_1206 : decode cL_law 1206 = .ok (.invokevirtual 124, 3) := by decide +kernel
theorem dL_law_1209 : decode cL_law 1209 = .ok (.iload 6, 2) := by decide +kernel
theorem dL_law_1211 : decode cL_law 1211 = .ok (.if_icmp .eq 5, 3) := by decide +kernel
theorem dL_law_1214 : decode cL_law 1214 = .ok (.iconst 0, 1) := by decide +kernel
theorem dL_law_1215 : decode cL_law 1215 = .ok (.ireturn, 1) := by decide +kernel
theorem dL_law_1216 : decode cL_law 1216 = .ok (.iload 6, 2) := by decide +kernel
theorem dL_law_1218 : decode cL_law 1218 = .ok (.ifCond .ne 15, 3) := by decide +kernel
theorem dL_law_1221 : decode cL_law 1221 = .ok (.aload_n 3, 1) := by decide +kernel
theorem dL_law_1222 : decode cL_law 1222 = .ok (.iconst 0, 1) := by decide +kernel
theorem dL_law_1223 : decode cL_law 1223 = .ok (.laload, 1) := by decide +kernel
theorem dL_law_1224 : decode cL_law 1224 = .ok (.iload 7, 2) := by decide +kernel
theorem dL_law_1226 : decode cL_law 1226 = .ok (.i2l, 1) := by decide +kernel
theorem dL_law_1227 : decode cL_law 1227 = .ok (.lcmp, 1) := by decide +kernel
theorem dL_law_1228 : decode cL_law 1228 = .ok (.ifCond .eq 5, 3) := by decide +kernel
theorem dL_law_1231 : decode cL_law 1231 = .ok (.iconst 0, 1) := by decide +kernel
theorem dL_law_1232 : decode cL_law 1232 = .ok (.ireturn, 1) := by decide +kernel
theorem dL_law_1233 : decode cL_law 1233 = .ok (.goto 740, 3) := by decide +kernel
theorem dL_law_1236 : decode cL_law 1236 = .ok (.aload_n 1, 1) := by decide +kernel
theorem dL_law_1237 : decode cL_law 1237 = .ok (.aload_n 0, 1) := by decide +kernel
theorem dL_law_1238 : decode cL_law 1238 = .ok (.iload 5, 2) := by decide +kernel
theorem dL_law_1240 : decode cL_law 1240 = .ok (.iconst 1, 1) := by decide +kernel
theorem dL_law_1241 : decode cL_law 1241 = .ok (.iadd, 1) := by decide +kernel
theorem dL_law_1242 : decode cL_law 1242 = .ok (.iaload, 1) := by decide +kernel
theorem dL_law_1243 : decode cL_law 1243 = .ok (.aload_n 0, 1) := by decide +kernel
theorem dL_law_1244 : decode cL_law 1244 = .ok (.iload 5, 2) := by decide +kernel
theorem dL_law_1246 : decode cL_law 1246 = .ok (.iconst 2, 1) := by decide +kernel
theorem dL_law_1247 : decode cL_law 1247 = .ok (.iadd, 1) := by decide +kernel
theorem dL_law_1248 : decode cL_law 1248 = .ok (.iaload, 1) := by decide +kernel
theorem dL_law_1249 : decode cL_law 1249 = .ok (.aload_n 3, 1) := by decide +kernel
theorem dL_law_1250 : decode cL_law 1250 = .ok (.invokestatic 177, 3) := by decide +kernel
theorem dL_law_1253 : decode cL_law 1253 = .ok (.istore 6, 2) := by decide +kernel
theorem dL_law_1255 : decode cL_law 1255 = .ok (.aload_n 2, 1) := by decide +kernel
theorem dL_law_1256 : decode cL_law 1256 = .ok (.aload_n 0, 1) := by decide +kernel
theorem dL_law_1257 : decode cL_law 1257 = .ok (.iload 5, 2) := by decide +kernel
theorem dL_law_1259 : decode cL_law 1259 = .ok (.iconst 1, 1) := by decide +kernel
theorem dL_law_1260 : decode cL_law 1260 = .ok (.iadd, 1) := by decide +kernel
theorem dL_law_1261 : decode cL_law 1261 = .ok (.iaload, 1) := by decide +kernel
theorem dL_law_1262 : decode cL_law 1262 = .ok (.aload_n 0, 1) := by decide +kernel
theorem dL_law_1263 : decode cL_law 1263 = .ok (.iload 5, 2) := by decide +kernel
theorem dL_law_1265 : decode cL_law 1265 = .ok (.iconst 2, 1) := by decide +kernel
theorem dL_law_1266 : decode cL_law 1266 = .ok (.iadd, 1) := by decide +kernel
theorem dL_law_1267 : decode cL_law 1267 = .ok (.iaload, 1) := by decide +kernel
theorem dL_law_1268 : decode cL_law 1268 = .ok (.invokevirtual 179, 3) := by decide +kernel
theorem dL_law_1271 : decode cL_law 1271 = .ok (.istore 7, 2) := by decide +kernel
theorem dL_law_1273 : decode cL_law 1273 = .ok (.aload_n 2, 1) := by decide +kernel
theorem dL_law_1274 : decode cL_law 1274 = .ok (.invokevirtual 124, 3) := by decide +kernel
theorem dL_law_1277 : decode cL_law 1277 = .ok (.iload 6, 2) := by decide +kernel
theorem dL_law_1279 : decode cL_law 1279 = .ok (.if_icmp .eq 5, 3) := by decide +kernel
theorem dL_law_1282 : decode cL_law 1282 = .ok (.iconst 0, 1) := by decide +kernel
theorem dL_law_1283 : decode cL_law 1283 = .ok (.ireturn, 1) := by decide +kernel
theorem dL_law_1284 : decode cL_law 1284 = .ok (.iload 6, 2) := by decide +kernel
theorem dL_law_1286 : decode cL_law 1286 = .ok (.ifCond .ne 15, 3) := by decide +kernel
theorem dL_law_1289 : decode cL_law 1289 = .ok (.aload_n 3, 1) := by decide +kernel
theorem dL_law_1290 : decode cL_law 1290 = .ok (.iconst 0, 1) := by decide +kernel
theorem dL_law_1291 : decode cL_law 1291 = .ok (.laload, 1) := by decide +kernel
theorem dL_law_1292 : decode cL_law 1292 = .ok (.iload 7, 2) := by decide +kernel
theorem dL_law_1294 : decode cL_law 1294 = .ok (.i2l, 1) := by decide +kernel
theorem dL_law_1295 : decode cL_law 1295 = .ok (.lcmp, 1) := by decide +kernel
theorem dL_law_1296 : decode cL_law 1296 = .ok (.ifCond .eq 5, 3) := by decide +kernel
theorem dL_law_1299 : decode cL_law 1299 = .ok (.iconst 0, 1) := by decide +kernel
theorem dL_law_1300 : decode cL_law 1300 = .ok (.ireturn, 1) := by decide +kernel
theorem dL_law_1301 : decode cL_law 1301 = .ok (.goto 672, 3) := by decide +kernel
theorem dL_law_1304 : decode cL_law 1304 = .ok (.aload_n 1, 1) := by decide +kernel
theorem dL_law_1305 : decode cL_law 1305 = .ok (.aload_n 0, 1) := by decide +kernel
theorem dL_law_1306 : decode cL_law 1306 = .ok (.iload 5, 2) := by decide +kernel
theorem dL_law_1308 : decode cL_law 1308 = .ok (.iconst 1, 1) := by decide +kernel
theorem dL_law_1309 : decode cL_law 1309 = .ok (.iadd, 1) := by decide +kernel
theorem dL_law_1310 : decode cL_law 1310 = .ok (.iaload, 1) := by decide +kernel
theorem dL_law_1311 : decode cL_law 1311 = .ok (.ifCond .eq 7, 3) := by decide +kernel
theorem dL_law_1314 : decode cL_law 1314 = .ok (.iconst 1, 1) := by decide +kernel
theorem dL_law_1315 : decode cL_law 1315 = .ok (.goto 4, 3) := by decide +kernel
theorem dL_law_1318 : decode cL_law 1318 = .ok (.iconst 0, 1) := by decide +kernel
theorem dL_law_1319 : decode cL_law 1319 = .ok (.invokevirtual 180, 3) := by decide +kernel
theorem dL_law_1322 : decode cL_law 1322 = .ok (.aload_n 2, 1) := by decide +kernel
theorem dL_law_1323 : decode cL_law 1323 = .ok (.aload_n 0, 1) := by decide +kernel
theorem dL_law_1324 : decode cL_law 1324 = .ok (.iload 5, 2) := by decide +kernel
theorem dL_law_1326 : decode cL_law 1326 = .ok (.iconst 1, 1) := by decide +kernel
theorem dL_law_1327 : decode cL_law 1327 = .ok (.iadd, 1) := by decide +kernel
theorem dL_law_1328 : decode cL_law 1328 = .ok (.iaload, 1) := by decide +kernel
theorem dL_law_1329 : decode cL_law 1329 = .ok (.ifCond .eq 7, 3) := by decide +kernel
theorem dL_law_1332 : decode cL_law 1332 = .ok (.iconst 1, 1) := by decide +kernel
theorem dL_law_1333 : decode cL_law 1333 = .ok (.goto 4, 3) := by decide +kernel
theorem dL_law_1336 : decode cL_law 1336 = .ok (.iconst 0, 1) := by decide +kernel
theorem dL_law_1337 : decode cL_law 1337 = .ok (.invokevirtual 184, 3) := by decide +kernel
theorem dL_law_1340 : decode cL_law 1340 = .ok (.if_icmp .eq 633, 3) := by decide +kernel
theorem dL_law_1343 : decode cL_law 1343 = .ok (.iconst 0, 1) := by decide +kernel
theorem dL_law_1344 : decode cL_law 1344 = .ok (.ireturn, 1) := by decide +kernel
theorem dL_law_1345 : decode cL_law 1345 = .ok (.aload_n 1, 1) := by decide +kernel
theorem dL_law_1346 : decode cL_law 1346 = .ok (.invokevirtual 185, 3) := by decide +kernel
theorem dL_law_1349 : decode cL_law 1349 = .ok (.aload_n 2, 1) := by decide +kernel
theorem dL_law_1350 : decode cL_law 1350 = .ok (.invokevirtual 189, 3) := by decide +kernel
theorem dL_law_1353 : decode cL_law 1353 = .ok (.if_icmp .eq 620, 3) := by decide +kernel
theorem dL_law_1356 : decode cL_law 1356 = .ok (.iconst 0, 1) := by decide +kernel
theorem dL_law_1357 : decode cL_law 1357 = .ok (.ireturn, 1) := by decide +kernel
theorem dL_law_1358 : decode cL_law 1358 = .ok (.aload_n 1, 1) := by decide +kernel
theorem dL_law_1359 : decode cL_law 1359 = .ok (.aload_n 0, 1) := by decide +kernel
theorem dL_law_1360 : decode cL_law 1360 = .ok (.iload 5, 2) := by decide +kernel
theorem dL_law_1362 : decode cL_law 1362 = .ok (.iconst 1, 1) := by decide +kernel
theorem dL_law_1363 : decode cL_law 1363 = .ok (.iadd, 1) := by decide +kernel
theorem dL_law_1364 : decode cL_law 1364 = .ok (.iaload, 1) := by decide +kernel
theorem dL_law_1365 : decode cL_law 1365 = .ok (.aload_n 3, 1) := by decide +kernel
theorem dL_law_1366 : decode cL_law 1366 = .ok (.invokestatic 190, 3) := by decide +kernel
theorem dL_law_1369 : decode cL_law 1369 = .ok (.istore 6, 2) := by decide +kernel
theorem dL_law_1371 : decode cL_law 1371 = .ok (.aload_n 2, 1) := by decide +kernel
theorem dL_law_1372 : decode cL_law 1372 = .ok (.aload_n 0, 1) := by decide +kernel
theorem dL_law_1373 : decode cL_law 1373 = .ok (.iload 5, 2) := by decide +kernel
theorem dL_law_1375 : decode cL_law 1375 = .ok (.iconst 1, 1) := by decide +kernel
theorem dL_law_1376 : decode cL_law 1376 = .ok (.iadd, 1) := by decide +kernel
theorem dL_law_1377 : decode cL_law 1377 = .ok (.iaload, 1) := by decide +kernel
theorem dL_law_1378 : decode cL_law 1378 = .ok (.invokevirtual 192, 3) := by decide +kernel
theorem dL_law_1381 : decode cL_law 1381 = .ok (.istore 7, 2) := by decide +kernel
theorem dL_law_1383 : decode cL_law 1383 = .ok (.aload_n 2, 1) := by decide +kernel
theorem dL_law_1384 : decode cL_law 1384 = .ok (.invokevirtual 124, 3) := by decide +kernel
theorem dL_law_1387 : decode cL_law 1387 = .ok (.iload 6, 2) := by decide +kernel
theorem dL_law_1389 : decode cL_law 1389 = .ok (.if_icmp .eq 5, 3) := by decide +kernel
theorem dL_law_1392 : decode cL_law 1392 = .ok (.iconst 0, 1) := by decide +kernel
theorem dL_law_1393 : decode cL_law 1393 = .ok (.ireturn, 1) := by decide +kernel
theorem dL_law_1394 : decode cL_law 1394 = .ok (.iload 6, 2) := by decide +kernel
theorem dL_law_1396 : decode cL_law 1396 = .ok (.ifCond .ne 15, 3) := by decide +kernel
theorem dL_law_1399 : decode cL_law 1399 = .ok (.aload_n 3, 1) := by decide +kernel
theorem dL_law_1400 : decode cL_law 1400 = .ok (.iconst 0, 1) := by decide +kernel
theorem dL_law_1401 : decode cL_law 1401 = .ok (.laload, 1) := by decide +kernel
theorem dL_law_1402 : decode cL_law 1402 = .ok (.iload 7, 2) := by decide +kernel
theorem dL_law_1404 : decode cL_law 1404 = .ok (.i2l, 1) := by decide +kernel
theorem dL_law_1405 : decode cL_law 1405 = .ok (.lcmp, 1) := by decide +kernel
theorem dL_law_1406 : decode cL_law 1406 = .ok (.ifCond .eq 5, 3) := by decide +kernel
theorem dL_law_1409 : decode cL_law 1409 = .ok (.iconst 0, 1) := by decide +kernel
theorem dL_law_1410 : decode cL_law 1410 = .ok (.ireturn, 1) := by decide +kernel
theorem dL_law_1411 : decode cL_law 1411 = .ok (.goto 562, 3) := by decide +kernel
theorem dL_law_1414 : decode cL_law 1414 = .ok (.aload_n 1, 1) := by decide +kernel
theorem dL_law_1415 : decode cL_law 1415 = .ok (.aload_n 0, 1) := by decide +kernel
theorem dL_law_1416 : decode cL_law 1416 = .ok (.iload 5, 2) := by decide +kernel
theorem dL_law_1418 : decode cL_law 1418 = .ok (.iconst 1, 1) := by decide +kernel
theorem dL_law_1419 : decode cL_law 1419 = .ok (.iadd, 1) := by decide +kernel
theorem dL_law_1420 : decode cL_law 1420 = .ok (.iaload, 1) := by decide +kernel
theorem dL_law_1421 : decode cL_law 1421 = .ok (.aload_n 3, 1) := by decide +kernel
theorem dL_law_1422 : decode cL_law 1422 = .ok (.invokestatic 193, 3) := by decide +kernel
theorem dL_law_1425 : decode cL_law 1425 = .ok (.istore 6, 2) := by decide +kernel
theorem dL_law_1427 : decode cL_law 1427 = .ok (.aload_n 2, 1) := by decide +kernel
theorem dL_law_1428 : decode cL_law 1428 = .ok (.aload_n 0, 1) := by decide +kernel
theorem dL_law_1429 : decode cL_law 1429 = .ok (.iload 5, 2) := by decide +kernel
theorem dL_law_1431 : decode cL_law 1431 = .ok (.iconst 1, 1) := by decide +kernel
theorem dL_law_1432 : decode cL_law 1432 = .ok (.iadd, 1) := by decide +kernel
theorem dL_law_1433 : decode cL_law 1433 = .ok (.iaload, 1) := by decide +kernel
theorem dL_law_1434 : decode cL_law 1434 = .ok (.invokevirtual 195, 3) := by decide +kernel
theorem dL_law_1437 : decode cL_law 1437 = .ok (.istore 7, 2) := by decide +kernel
theorem dL_law_1439 : decode cL_law 1439 = .ok (.aload_n 2, 1) := by decide +kernel
theorem dL_law_1440 : decode cL_law 1440 = .ok (.invokevirtual 124, 3) := by decide +kernel
theorem dL_law_1443 : decode cL_law 1443 = .ok (.iload 6, 2) := by decide +kernel
theorem dL_law_1445 : decode cL_law 1445 = .ok (.if_icmp .eq 5, 3) := by decide +kernel
theorem dL_law_1448 : decode cL_law 1448 = .ok (.iconst 0, 1) := by decide +kernel
theorem dL_law_1449 : decode cL_law 1449 = .ok (.ireturn, 1) := by decide +kernel
theorem dL_law_1450 : decode cL_law 1450 = .ok (.iload 6, 2) := by decide +kernel
theorem dL_law_1452 : decode cL_law 1452 = .ok (.ifCond .ne 15, 3) := by decide +kernel
theorem dL_law_1455 : decode cL_law 1455 = .ok (.aload_n 3, 1) := by decide +kernel
theorem dL_law_1456 : decode cL_law 1456 = .ok (.iconst 0, 1) := by decide +kernel
theorem dL_law_1457 : decode cL_law 1457 = .ok (.laload, 1) := by decide +kernel
theorem dL_law_1458 : decode cL_law 1458 = .ok (.iload 7, 2) := by decide +kernel
theorem dL_law_1460 : decode cL_law 1460 = .ok (.i2l, 1) := by decide +kernel
theorem dL_law_1461 : decode cL_law 1461 = .ok (.lcmp, 1) := by decide +kernel
theorem dL_law_1462 : decode cL_law 1462 = .ok (.ifCond .eq 5, 3) := by decide +kernel
theorem dL_law_1465 : decode cL_law 1465 = .ok (.iconst 0, 1) := by decide +kernel
theorem dL_law_1466 : decode cL_law 1466 = .ok (.ireturn, 1) := by decide +kernel
theorem dL_law_1467 : decode cL_law 1467 = .ok (.goto 506, 3) := by decide +kernel
theorem dL_law_1470 : decode cL_law 1470 = .ok (.aload_n 1, 1) := by decide +kernel
theorem dL_law_1471 : decode cL_law 1471 = .ok (.aload_n 0, 1) := by decide +kernel
theorem dL_law_1472 : decode cL_law 1472 = .ok (.iload 5, 2) := by decide +kernel
theorem dL_law_1474 : decode cL_law 1474 = .ok (.iconst 1, 1) := by decide +kernel
theorem dL_law_1475 : decode cL_law 1475 = .ok (.iadd, 1) := by decide +kernel
theorem dL_law_1476 : decode cL_law 1476 = .ok (.iaload, 1) := by decide +kernel
theorem dL_law_1477 : decode cL_law 1477 = .ok (.i2c, 1) := by decide +kernel
theorem dL_law_1478 : decode cL_law 1478 = .ok (.aload_n 3, 1) := by decide +kernel
theorem dL_law_1479 : decode cL_law 1479 = .ok (.invokestatic 196, 3) := by decide +kernel
theorem dL_law_1482 : decode cL_law 1482 = .ok (.istore 6, 2) := by decide +kernel
theorem dL_law_1484 : decode cL_law 1484 = .ok (.aload_n 2, 1) := by decide +kernel
theorem dL_law_1485 : decode cL_law 1485 = .ok (.aload_n 0, 1) := by decide +kernel
theorem dL_law_1486 : decode cL_law 1486 = .ok (.iload 5, 2) := by decide +kernel
theorem dL_law_1488 : decode cL_law 1488 = .ok (.iconst 1, 1) := by decide +kernel
theorem dL_law_1489 : decode cL_law 1489 = .ok (.iadd, 1) := by decide +kernel
theorem dL_law_1490 : decode cL_law 1490 = .ok (.iaload, 1) := by decide +kernel
theorem dL_law_1491 : decode cL_law 1491 = .ok (.i2c, 1) := by decide +kernel
theorem dL_law_1492 : decode cL_law 1492 = .ok (.invokevirtual 199, 3) := by decide +kernel
theorem dL_law_1495 : decode cL_law 1495 = .ok (.istore 7, 2) := by decide +kernel
theorem dL_law_1497 : decode cL_law 1497 = .ok (.aload_n 2, 1) := by decide +kernel
theorem dL_law_1498 : decode cL_law 1498 = .ok (.invokevirtual 124, 3) := by decide +kernel
theorem dL_law_1501 : decode cL_law 1501 = .ok (.iload 6, 2) := by decide +kernel
theorem dL_law_1503 : decode cL_law 1503 = .ok (.if_icmp .eq 5, 3) := by decide +kernel
theorem dL_law_1506 : decode cL_law 1506 = .ok (.iconst 0, 1) := by decide +kernel
theorem dL_law_1507 : decode cL_law 1507 = .ok (.ireturn, 1) := by decide +kernel
theorem dL_law_1508 : decode cL_law 1508 = .ok (.iload 6, 2) := by decide +kernel
theorem dL_law_1510 : decode cL_law 1510 = .ok (.ifCond .ne 15, 3) := by decide +kernel
theorem dL_law_1513 : decode cL_law 1513 = .ok (.aload_n 3, 1) := by decide +kernel
theorem dL_law_1514 : decode cL_law 1514 = .ok (.iconst 0, 1) := by decide +kernel
theorem dL_law_1515 : decode cL_law 1515 = .ok (.laload, 1) := by decide +kernel
theorem dL_law_1516 : decode cL_law 1516 = .ok (.iload 7, 2) := by decide +kernel
theorem dL_law_1518 : decode cL_law 1518 = .ok (.i2l, 1) := by decide +kernel
theorem dL_law_1519 : decode cL_law 1519 = .ok (.lcmp, 1) := by decide +kernel
theorem dL_law_1520 : decode cL_law 1520 = .ok (.ifCond .eq 5, 3) := by decide +kernel
theorem dL_law_1523 : decode cL_law 1523 = .ok (.iconst 0, 1) := by decide +kernel
theorem dL_law_1524 : decode cL_law 1524 = .ok (.ireturn, 1) := by decide +kernel
theorem dL_law_1525 : decode cL_law 1525 = .ok (.goto 448, 3) := by decide +kernel
theorem dL_law_1528 : decode cL_law 1528 = .ok (.aload_n 1, 1) := by decide +kernel
theorem dL_law_1529 : decode cL_law 1529 = .ok (.aload_n 3, 1) := by decide +kernel
theorem dL_law_1530 : decode cL_law 1530 = .ok (.invokestatic 200, 3) := by decide +kernel
theorem dL_law_1533 : decode cL_law 1533 = .ok (.istore 6, 2) := by decide +kernel
theorem dL_law_1535 : decode cL_law 1535 = .ok (.aload_n 2, 1) := by decide +kernel
theorem dL_law_1536 : decode cL_law 1536 = .ok (.invokevirtual 203, 3) := by decide +kernel
theorem dL_law_1539 : decode cL_law 1539 = .ok (.istore 7, 2) := by decide +kernel
theorem dL_law_1541 : decode cL_law 1541 = .ok (.aload_n 2, 1) := by decide +kernel
theorem dL_law_1542 : decode cL_law 1542 = .ok (.invokevirtual 124, 3) := by decide +kernel
theorem dL_law_1545 : decode cL_law 1545 = .ok (.iload 6, 2) := by decide +kernel
theorem dL_law_1547 : decode cL_law 1547 = .ok (.if_icmp .eq 5, 3) := by decide +kernel
theorem dL_law_1550 : decode cL_law 1550 = .ok (.iconst 0, 1) := by decide +kernel
theorem dL_law_1551 : decode cL_law 1551 = .ok (.ireturn, 1) := by decide +kernel
theorem dL_law_1552 : decode cL_law 1552 = .ok (.iload 6, 2) := by decide +kernel
theorem dL_law_1554 : decode cL_law 1554 = .ok (.ifCond .ne 15, 3) := by decide +kernel
theorem dL_law_1557 : decode cL_law 1557 = .ok (.aload_n 3, 1) := by decide +kernel
theorem dL_law_1558 : decode cL_law 1558 = .ok (.iconst 0, 1) := by decide +kernel
theorem dL_law_1559 : decode cL_law 1559 = .ok (.laload, 1) := by decide +kernel
theorem dL_law_1560 : decode cL_law 1560 = .ok (.iload 7, 2) := by decide +kernel
theorem dL_law_1562 : decode cL_law 1562 = .ok (.i2l, 1) := by decide +kernel
theorem dL_law_1563 : decode cL_law 1563 = .ok (.lcmp, 1) := by decide +kernel
theorem dL_law_1564 : decode cL_law 1564 = .ok (.ifCond .eq 5, 3) := by decide +kernel
theorem dL_law_1567 : decode cL_law 1567 = .ok (.iconst 0, 1) := by decide +kernel
theorem dL_law_1568 : decode cL_law 1568 = .ok (.ireturn, 1) := by decide +kernel
theorem dL_law_1569 : decode cL_law 1569 = .ok (.goto 404, 3) := by decide +kernel
theorem dL_law_1572 : decode cL_law 1572 = .ok (.aload_n 1, 1) := by decide +kernel
theorem dL_law_1573 : decode cL_law 1573 = .ok (.invokevirtual 204, 3) := by decide +kernel
theorem dL_law_1576 : decode cL_law 1576 = .ok (.aload_n 2, 1) := by decide +kernel
theorem dL_law_1577 : decode cL_law 1577 = .ok (.invokevirtual 207, 3) := by decide +kernel
theorem dL_law_1580 : decode cL_law 1580 = .ok (.if_icmp .eq 393, 3) := by decide +kernel
theorem dL_law_1583 : decode cL_law 1583 = .ok (.iconst 0, 1) := by decide +kernel
theorem dL_law_1584 : decode cL_law 1584 = .ok (.ireturn, 1) := by decide +kernel
theorem dL_law_1585 : decode cL_law 1585 = .ok (.aload_n 1, 1) := by decide +kernel
theorem dL_law_1586 : decode cL_law 1586 = .ok (.aload_n 0, 1) := by decide +kernel
theorem dL_law_1587 : decode cL_law 1587 = .ok (.iload 5, 2) := by decide +kernel
theorem dL_law_1589 : decode cL_law 1589 = .ok (.iconst 1, 1) := by decide +kernel
theorem dL_law_1590 : decode cL_law 1590 = .ok (.iadd, 1) := by decide +kernel
theorem dL_law_1591 : decode cL_law 1591 = .ok (.iaload, 1) := by decide +kernel
theorem dL_law_1592 : decode cL_law 1592 = .ok (.ifCond .eq 7, 3) := by decide +kernel
theorem dL_law_1595 : decode cL_law 1595 = .ok (.iconst 1, 1) := by decide +kernel
theorem dL_law_1596 : decode cL_law 1596 = .ok (.goto 4, 3) := by decide +kernel
theorem dL_law_1599 : decode cL_law 1599 = .ok (.iconst 0, 1) := by decide +kernel
theorem dL_law_1600 : decode cL_law 1600 = .ok (.aload_n 0, 1) := by decide +kernel
theorem dL_law_1601 : decode cL_law 1601 = .ok (.iload 5, 2) := by decide +kernel
theorem dL_law_1603 : decode cL_law 1603 = .ok (.iconst 2, 1) := by decide +kernel
theorem dL_law_1604 : decode cL_law 1604 = .ok (.iadd, 1) := by decide +kernel
theorem dL_law_1605 : decode cL_law 1605 = .ok (.iaload, 1) := by decide +kernel
theorem dL_law_1606 : decode cL_law 1606 = .ok (.ifCond .eq 7, 3) := by decide +kernel
theorem dL_law_1609 : decode cL_law 1609 = .ok (.iconst 1, 1) := by decide +kernel
theorem dL_law_1610 : decode cL_law 1610 = .ok (.goto 4, 3) := by decide +kernel
theorem dL_law_1613 : decode cL_law 1613 = .ok (.iconst 0, 1) := by decide +kernel
theorem dL_law_1614 : decode cL_law 1614 = .ok (.aload_n 3, 1) := by decide +kernel
theorem dL_law_1615 : decode cL_law 1615 = .ok (.invokestatic 208, 3) := by decide +kernel
theorem dL_law_1618 : decode cL_law 1618 = .ok (.istore 6, 2) := by decide +kernel
theorem dL_law_1620 : decode cL_law 1620 = .ok (.aload_n 2, 1) := by decide +kernel
theorem dL_law_1621 : decode cL_law 1621 = .ok (.aload_n 0, 1) := by decide +kernel
theorem dL_law_1622 : decode cL_law 1622 = .ok (.iload 5, 2) := by decide +kernel
theorem dL_law_1624 : decode cL_law 1624 = .ok (.iconst 1, 1) := by decide +kernel
theorem dL_law_1625 : decode cL_law 1625 = .ok (.iadd, 1) := by decide +kernel
theorem dL_law_1626 : decode cL_law 1626 = .ok (.iaload, 1) := by decide +kernel
theorem dL_law_1627 : decode cL_law 1627 = .ok (.ifCond .eq 7, 3) := by decide +kernel
theorem dL_law_1630 : decode cL_law 1630 = .ok (.iconst 1, 1) := by decide +kernel
theorem dL_law_1631 : decode cL_law 1631 = .ok (.goto 4, 3) := by decide +kernel
theorem dL_law_1634 : decode cL_law 1634 = .ok (.iconst 0, 1) := by decide +kernel
theorem dL_law_1635 : decode cL_law 1635 = .ok (.aload_n 0, 1) := by decide +kernel
theorem dL_law_1636 : decode cL_law 1636 = .ok (.iload 5, 2) := by decide +kernel
theorem dL_law_1638 : decode cL_law 1638 = .ok (.iconst 2, 1) := by decide +kernel
theorem dL_law_1639 : decode cL_law 1639 = .ok (.iadd, 1) := by decide +kernel
theorem dL_law_1640 : decode cL_law 1640 = .ok (.iaload, 1) := by decide +kernel
theorem dL_law_1641 : decode cL_law 1641 = .ok (.ifCond .eq 7, 3) := by decide +kernel
theorem dL_law_1644 : decode cL_law 1644 = .ok (.iconst 1, 1) := by decide +kernel
theorem dL_law_1645 : decode cL_law 1645 = .ok (.goto 4, 3) := by decide +kernel
theorem dL_law_1648 : decode cL_law 1648 = .ok (.iconst 0, 1) := by decide +kernel
theorem dL_law_1649 : decode cL_law 1649 = .ok (.invokevirtual 211, 3) := by decide +kernel
theorem dL_law_1652 : decode cL_law 1652 = .ok (.istore 7, 2) := by decide +kernel
theorem dL_law_1654 : decode cL_law 1654 = .ok (.aload_n 2, 1) := by decide +kernel
theorem dL_law_1655 : decode cL_law 1655 = .ok (.invokevirtual 124, 3) := by decide +kernel
theorem dL_law_1658 : decode cL_law 1658 = .ok (.iload 6, 2) := by decide +kernel
theorem dL_law_1660 : decode cL_law 1660 = .ok (.if_icmp .eq 5, 3) := by decide +kernel
theorem dL_law_1663 : decode cL_law 1663 = .ok (.iconst 0, 1) := by decide +kernel
theorem dL_law_1664 : decode cL_law 1664 = .ok (.ireturn, 1) := by decide +kernel
theorem dL_law_1665 : decode cL_law 1665 = .ok (.iload 6, 2) := by decide +kernel
theorem dL_law_1667 : decode cL_law 1667 = .ok (.ifCond .ne 15, 3) := by decide +kernel
theorem dL_law_1670 : decode cL_law 1670 = .ok (.aload_n 3, 1) := by decide +kernel
theorem dL_law_1671 : decode cL_law 1671 = .ok (.iconst 0, 1) := by decide +kernel
theorem dL_law_1672 : decode cL_law 1672 = .ok (.laload, 1) := by decide +kernel
theorem dL_law_1673 : decode cL_law 1673 = .ok (.iload 7, 2) := by decide +kernel
theorem dL_law_1675 : decode cL_law 1675 = .ok (.i2l, 1) := by decide +kernel
theorem dL_law_1676 : decode cL_law 1676 = .ok (.lcmp, 1) := by decide +kernel
theorem dL_law_1677 : decode cL_law 1677 = .ok (.ifCond .eq 5, 3) := by decide +kernel
theorem dL_law_1680 : decode cL_law 1680 = .ok (.iconst 0, 1) := by decide +kernel
theorem dL_law_1681 : decode cL_law 1681 = .ok (.ireturn, 1) := by decide +kernel
theorem dL_law_1682 : decode cL_law 1682 = .ok (.goto 291, 3) := by decide +kernel
theorem dL_law_1685 : decode cL_law 1685 = .ok (.aload_n 1, 1) := by decide +kernel
theorem dL_law_1686 : decode cL_law 1686 = .ok (.aload_n 0, 1) := by decide +kernel
theorem dL_law_1687 : decode cL_law 1687 = .ok (.iload 5, 2) := by decide +kernel
theorem dL_law_1689 : decode cL_law 1689 = .ok (.iconst 1, 1) := by decide +kernel
theorem dL_law_1690 : decode cL_law 1690 = .ok (.iadd, 1) := by decide +kernel
theorem dL_law_1691 : decode cL_law 1691 = .ok (.iaload, 1) := by decide +kernel
theorem dL_law_1692 : decode cL_law 1692 = .ok (.aload_n 3, 1) := by decide +kernel
theorem dL_law_1693 : decode cL_law 1693 = .ok (.invokestatic 212, 3) := by decide +kernel
theorem dL_law_1696 : decode cL_law 1696 = .ok (.istore 6, 2) := by decide +kernel
theorem dL_law_1698 : decode cL_law 1698 = .ok (.aload_n 2, 1) := by decide +kernel
theorem dL_law_1699 : decode cL_law 1699 = .ok (.aload_n 0, 1) := by decide +kernel
theorem dL_law_1700 : decode cL_law 1700 = .ok (.iload 5, 2) := by decide +kernel
theorem dL_law_1702 : decode cL_law 1702 = .ok (.iconst 1, 1) := by decide +kernel
theorem dL_law_1703 : decode cL_law 1703 = .ok (.iadd, 1) := by decide +kernel
theorem dL_law_1704 : decode cL_law 1704 = .ok (.iaload, 1) := by decide +kernel
theorem dL_law_1705 : decode cL_law 1705 = .ok (.invokevirtual 214, 3) := by decide +kernel
theorem dL_law_1708 : decode cL_law 1708 = .ok (.istore 7, 2) := by decide +kernel
theorem dL_law_1710 : decode cL_law 1710 = .ok (.aload_n 2, 1) := by decide +kernel
theorem dL_law_1711 : decode cL_law 1711 = .ok (.invokevirtual 124, 3) := by decide +kernel
theorem dL_law_1714 : decode cL_law 1714 = .ok (.iload 6, 2) := by decide +kernel
theorem dL_law_1716 : decode cL_law 1716 = .ok (.if_icmp .eq 5, 3) := by decide +kernel
theorem dL_law_1719 : decode cL_law 1719 = .ok (.iconst 0, 1) := by decide +kernel
theorem dL_law_1720 : decode cL_law 1720 = .ok (.ireturn, 1) := by decide +kernel
theorem dL_law_1721 : decode cL_law 1721 = .ok (.iload 6, 2) := by decide +kernel
theorem dL_law_1723 : decode cL_law 1723 = .ok (.ifCond .ne 15, 3) := by decide +kernel
theorem dL_law_1726 : decode cL_law 1726 = .ok (.aload_n 3, 1) := by decide +kernel
theorem dL_law_1727 : decode cL_law 1727 = .ok (.iconst 0, 1) := by decide +kernel
theorem dL_law_1728 : decode cL_law 1728 = .ok (.laload, 1) := by decide +kernel
theorem dL_law_1729 : decode cL_law 1729 = .ok (.iload 7, 2) := by decide +kernel
theorem dL_law_1731 : decode cL_law 1731 = .ok (.i2l, 1) := by decide +kernel
theorem dL_law_1732 : decode cL_law 1732 = .ok (.lcmp, 1) := by decide +kernel
theorem dL_law_1733 : decode cL_law 1733 = .ok (.ifCond .eq 5, 3) := by decide +kernel
theorem dL_law_1736 : decode cL_law 1736 = .ok (.iconst 0, 1) := by decide +kernel
theorem dL_law_1737 : decode cL_law 1737 = .ok (.ireturn, 1) := by decide +kernel
theorem dL_law_1738 : decode cL_law 1738 = .ok (.goto 235, 3) := by decide +kernel
theorem dL_law_1741 : decode cL_law 1741 = .ok (.aload_n 1, 1) := by decide +kernel
theorem dL_law_1742 : decode cL_law 1742 = .ok (.aload 4, 2) := by decide +kernel
theorem dL_law_1744 : decode cL_law 1744 = .ok (.invokestatic 215, 3) := by decide +kernel
theorem dL_law_1747 : decode cL_law 1747 = .ok (.istore 6, 2) := by decide +kernel
theorem dL_law_1749 : decode cL_law 1749 = .ok (.aload_n 2, 1) := by decide +kernel
theorem dL_law_1750 : decode cL_law 1750 = .ok (.invokevirtual 218, 3) := by decide +kernel
theorem dL_law_1753 : decode cL_law 1753 = .ok (.dstore 7, 2) := by decide +kernel
theorem dL_law_1755 : decode cL_law 1755 = .ok (.aload_n 2, 1) := by decide +kernel
theorem dL_law_1756 : decode cL_law 1756 = .ok (.invokevirtual 124, 3) := by decide +kernel
theorem dL_law_1759 : decode cL_law 1759 = .ok (.iload 6, 2) := by decide +kernel
theorem dL_law_1761 : decode cL_law 1761 = .ok (.if_icmp .eq 5, 3) := by decide +kernel
theorem dL_law_1764 : decode cL_law 1764 = .ok (.iconst 0, 1) := by decide +kernel
theorem dL_law_1765 : decode cL_law 1765 = .ok (.ireturn, 1) := by decide +kernel
theorem dL_law_1766 : decode cL_law 1766 = .ok (.iload 6, 2) := by decide +kernel
theorem dL_law_1768 : decode cL_law 1768 = .ok (.ifCond .ne 35, 3) := by decide +kernel
theorem dL_law_1771 : decode cL_law 1771 = .ok (.aload 4, 2) := by decide +kernel
theorem dL_law_1773 : decode cL_law 1773 = .ok (.iconst 0, 1) := by decide +kernel
theorem dL_law_1774 : decode cL_law 1774 = .ok (.daload, 1) := by decide +kernel
theorem dL_law_1775 : decode cL_law 1775 = .ok (.dload 7, 2) := by decide +kernel
theorem dL_law_1777 : decode cL_law 1777 = .ok (.dcmp .l, 1) := by decide +kernel
theorem dL_law_1778 : decode cL_law 1778 = .ok (.ifCond .eq 25, 3) := by decide +kernel
theorem dL_law_1781 : decode cL_law 1781 = .ok (.aload 4, 2) := by decide +kernel
theorem dL_law_1783 : decode cL_law 1783 = .ok (.iconst 0, 1) := by decide +kernel
theorem dL_law_1784 : decode cL_law 1784 = .ok (.daload, 1) := by decide +kernel
theorem dL_law_1785 : decode cL_law 1785 = .ok (.aload 4, 2) := by decide +kernel
theorem dL_law_1787 : decode cL_law 1787 = .ok (.iconst 0, 1) := by decide +kernel
theorem dL_law_1788 : decode cL_law 1788 = .ok (.daload, 1) := by decide +kernel
theorem dL_law_1789 : decode cL_law 1789 = .ok (.dcmp .l, 1) := by decide +kernel
theorem dL_law_1790 : decode cL_law 1790 = .ok (.ifCond .eq 11, 3) := by decide +kernel
theorem dL_law_1793 : decode cL_law 1793 = .ok (.dload 7, 2) := by decide +kernel
theorem dL_law_1795 : decode cL_law 1795 = .ok (.dload 7, 2) := by decide +kernel
theorem dL_law_1797 : decode cL_law 1797 = .ok (.dcmp .l, 1) := by decide +kernel
theorem dL_law_1798 : decode cL_law 1798 = .ok (.ifCond .ne 5, 3) := by decide +kernel
theorem dL_law_1801 : decode cL_law 1801 = .ok (.iconst 0, 1) := by decide +kernel
theorem dL_law_1802 : decode cL_law 1802 = .ok (.ireturn, 1) := by decide +kernel
theorem dL_law_1803 : decode cL_law 1803 = .ok (.goto 170, 3) := by decide +kernel
theorem dL_law_1806 : decode cL_law 1806 = .ok (.aload_n 1, 1) := by decide +kernel
theorem dL_law_1807 : decode cL_law 1807 = .ok (.aload 4, 2) := by decide +kernel
theorem dL_law_1809 : decode cL_law 1809 = .ok (.invokestatic 219, 3) := by decide +kernel
theorem dL_law_1812 : decode cL_law 1812 = .ok (.istore 6, 2) := by decide +kernel
theorem dL_law_1814 : decode cL_law 1814 = .ok (.aload_n 2, 1) := by decide +kernel
theorem dL_law_1815 : decode cL_law 1815 = .ok (.invokevirtual 221, 3) := by decide +kernel
theorem dL_law_1818 : decode cL_law 1818 = .ok (.fstore 7, 2) := by decide +kernel
theorem dL_law_1820 : decode cL_law 1820 = .ok (.aload_n 2, 1) := by decide +kernel
theorem dL_law_1821 : decode cL_law 1821 = .ok (.invokevirtual 124, 3) := by decide +kernel
theorem dL_law_1824 : decode cL_law 1824 = .ok (.iload 6, 2) := by decide +kernel
theorem dL_law_1826 : decode cL_law 1826 = .ok (.if_icmp .eq 5, 3) := by decide +kernel
theorem dL_law_1829 : decode cL_law 1829 = .ok (.iconst 0, 1) := by decide +kernel
theorem dL_law_1830 : decode cL_law 1830 = .ok (.ireturn, 1) := by decide +kernel
theorem dL_law_1831 : decode cL_law 1831 = .ok (.iload 6, 2) := by decide +kernel
theorem dL_law_1833 : decode cL_law 1833 = .ok (.ifCond .ne 36, 3) := by decide +kernel
theorem dL_law_1836 : decode cL_law 1836 = .ok (.aload 4, 2) := by decide +kernel
theorem dL_law_1838 : decode cL_law 1838 = .ok (.iconst 0, 1) := by decide +kernel
theorem dL_law_1839 : decode cL_law 1839 = .ok (.daload, 1) := by decide +kernel
theorem dL_law_1840 : decode cL_law 1840 = .ok (.fload 7, 2) := by decide +kernel
theorem dL_law_1842 : decode cL_law 1842 = .ok (.f2d, 1) := by decide +kernel
theorem dL_law_1843 : decode cL_law 1843 = .ok (.dcmp .l, 1) := by decide +kernel
theorem dL_law_1844 : decode cL_law 1844 = .ok (.ifCond .eq 25, 3) := by decide +kernel
theorem dL_law_1847 : decode cL_law 1847 = .ok (.aload 4, 2) := by decide +kernel
theorem dL_law_1849 : decode cL_law 1849 = .ok (.iconst 0, 1) := by decide +kernel
theorem dL_law_1850 : decode cL_law 1850 = .ok (.daload, 1) := by decide +kernel
theorem dL_law_1851 : decode cL_law 1851 = .ok (.aload 4, 2) := by decide +kernel
theorem dL_law_1853 : decode cL_law 1853 = .ok (.iconst 0, 1) := by decide +kernel
theorem dL_law_1854 : decode cL_law 1854 = .ok (.daload, 1) := by decide +kernel
theorem dL_law_1855 : decode cL_law 1855 = .ok (.dcmp .l, 1) := by decide +kernel
theorem dL_law_1856 : decode cL_law 1856 = .ok (.ifCond .eq 11, 3) := by decide +kernel
theorem dL_law_1859 : decode cL_law 1859 = .ok (.fload 7, 2) := by decide +kernel
theorem dL_law_1861 : decode cL_law 1861 = .ok (.fload 7, 2) := by decide +kernel
theorem dL_law_1863 : decode cL_law 1863 = .ok (.fcmp .l, 1) := by decide +kernel
theorem dL_law_1864 : decode cL_law 1864 = .ok (.ifCond .ne 5, 3) := by decide +kernel
theorem dL_law_1867 : decode cL_law 1867 = .ok (.iconst 0, 1) := by decide +kernel
theorem dL_law_1868 : decode cL_law 1868 = .ok (.ireturn, 1) := by decide +kernel
theorem dL_law_1869 : decode cL_law 1869 = .ok (.goto 104, 3) := by decide +kernel
theorem dL_law_1872 : decode cL_law 1872 = .ok (.aload_n 1, 1) := by decide +kernel
theorem dL_law_1873 : decode cL_law 1873 = .ok (.aload_n 3, 1) := by decide +kernel
theorem dL_law_1874 : decode cL_law 1874 = .ok (.invokestatic 222, 3) := by decide +kernel
theorem dL_law_1877 : decode cL_law 1877 = .ok (.istore 6, 2) := by decide +kernel
theorem dL_law_1879 : decode cL_law 1879 = .ok (.aload_n 2, 1) := by decide +kernel
theorem dL_law_1880 : decode cL_law 1880 = .ok (.invokevirtual 224, 3) := by decide +kernel
theorem dL_law_1883 : decode cL_law 1883 = .ok (.istore 7, 2) := by decide +kernel
theorem dL_law_1885 : decode cL_law 1885 = .ok (.aload_n 2, 1) := by decide +kernel
theorem dL_law_1886 : decode cL_law 1886 = .ok (.invokevirtual 124, 3) := by decide +kernel
theorem dL_law_1889 : decode cL_law 1889 = .ok (.iload 6, 2) := by decide +kernel
theorem dL_law_1891 : decode cL_law 1891 = .ok (.if_icmp .eq 5, 3) := by decide +kernel
theorem dL_law_1894 : decode cL_law 1894 = .ok (.iconst 0, 1) := by decide +kernel
theorem dL_law_1895 : decode cL_law 1895 = .ok (.ireturn, 1) := by decide +kernel
theorem dL_law_1896 : decode cL_law 1896 = .ok (.iload 6, 2) := by decide +kernel
theorem dL_law_1898 : decode cL_law 1898 = .ok (.ifCond .ne 15, 3) := by decide +kernel
theorem dL_law_1901 : decode cL_law 1901 = .ok (.aload_n 3, 1) := by decide +kernel
theorem dL_law_1902 : decode cL_law 1902 = .ok (.iconst 0, 1) := by decide +kernel
theorem dL_law_1903 : decode cL_law 1903 = .ok (.laload, 1) := by decide +kernel
theorem dL_law_1904 : decode cL_law 1904 = .ok (.iload 7, 2) := by decide +kernel
theorem dL_law_1906 : decode cL_law 1906 = .ok (.i2l, 1) := by decide +kernel
theorem dL_law_1907 : decode cL_law 1907 = .ok (.lcmp, 1) := by decide +kernel
theorem dL_law_1908 : decode cL_law 1908 = .ok (.ifCond .eq 5, 3) := by decide +kernel
theorem dL_law_1911 : decode cL_law 1911 = .ok (.iconst 0, 1) := by decide +kernel
theorem dL_law_1912 : decode cL_law 1912 = .ok (.ireturn, 1) := by decide +kernel
theorem dL_law_1913 : decode cL_law 1913 = .ok (.goto 60, 3) := by decide +kernel
theorem dL_law_1916 : decode cL_law 1916 = .ok (.aload_n 1, 1) := by decide +kernel
theorem dL_law_1917 : decode cL_law 1917 = .ok (.invokevirtual 225, 3) := by decide +kernel
theorem dL_law_1920 : decode cL_law 1920 = .ok (.aload_n 2, 1) := by decide +kernel
theorem dL_law_1921 : decode cL_law 1921 = .ok (.invokevirtual 228, 3) := by decide +kernel
theorem dL_law_1924 : decode cL_law 1924 = .ok (.if_icmp .eq 49, 3) := by decide +kernel
theorem dL_law_1927 : decode cL_law 1927 = .ok (.iconst 0, 1) := by decide +kernel
theorem dL_law_1928 : decode cL_law 1928 = .ok (.ireturn, 1) := by decide +kernel
theorem dL_law_1929 : decode cL_law 1929 = .ok (.aload_n 1, 1) := by decide +kernel
theorem dL_law_1930 : decode cL_law 1930 = .ok (.aload_n 3, 1) := by decide +kernel
theorem dL_law_1931 : decode cL_law 1931 = .ok (.invokestatic 229, 3) := by decide +kernel
theorem dL_law_1934 : decode cL_law 1934 = .ok (.istore 6, 2) := by decide +kernel
theorem dL_law_1936 : decode cL_law 1936 = .ok (.aload_n 2, 1) := by decide +kernel
theorem dL_law_1937 : decode cL_law 1937 = .ok (.invokevirtual 231, 3) := by decide +kernel
theorem dL_law_1940 : decode cL_law 1940 = .ok (.istore 7, 2) := by decide +kernel
theorem dL_law_1942 : decode cL_law 1942 = .ok (.aload_n 2, 1) := by decide +kernel
theorem dL_law_1943 : decode cL_law 1943 = .ok (.invokevirtual 124, 3) := by decide +kernel
theorem dL_law_1946 : decode cL_law 1946 = .ok (.iload 6, 2) := by decide +kernel
theorem dL_law_1948 : decode cL_law 1948 = .ok (.if_icmp .eq 5, 3) := by decide +kernel
theorem dL_law_1951 : decode cL_law 1951 = .ok (.iconst 0, 1) := by decide +kernel
theorem dL_law_1952 : decode cL_law 1952 = .ok (.ireturn, 1) := by decide +kernel
theorem dL_law_1953 : decode cL_law 1953 = .ok (.iload 6, 2) := by decide +kernel
theorem dL_law_1955 : decode cL_law 1955 = .ok (.ifCond .ne 15, 3) := by decide +kernel
theorem dL_law_1958 : decode cL_law 1958 = .ok (.aload_n 3, 1) := by decide +kernel
theorem dL_law_1959 : decode cL_law 1959 = .ok (.iconst 0, 1) := by decide +kernel
theorem dL_law_1960 : decode cL_law 1960 = .ok (.laload, 1) := by decide +kernel
theorem dL_law_1961 : decode cL_law 1961 = .ok (.iload 7, 2) := by decide +kernel
theorem dL_law_1963 : decode cL_law 1963 = .ok (.i2l, 1) := by decide +kernel
theorem dL_law_1964 : decode cL_law 1964 = .ok (.lcmp, 1) := by decide +kernel
theorem dL_law_1965 : decode cL_law 1965 = .ok (.ifCond .eq 5, 3) := by decide +kernel
theorem dL_law_1968 : decode cL_law 1968 = .ok (.iconst 0, 1) := by decide +kernel
theorem dL_law_1969 : decode cL_law 1969 = .ok (.ireturn, 1) := by decide +kernel
theorem dL_law_1970 : decode cL_law 1970 = .ok (.goto 3, 3) := by decide +kernel
theorem dL_law_1973 : decode cL_law 1973 = .ok (.iinc 5 4, 3) := by decide +kernel
theorem dL_law_1976 : decode cL_law 1976 = .ok (.goto (-1948), 3) := by decide +kernel
theorem dL_law_1979 : decode cL_law 1979 = .ok (.iconst 1, 1) := by decide +kernel
theorem dL_law_1980 : decode cL_law 1980 = .ok (.ireturn, 1) := by decide +kernel
