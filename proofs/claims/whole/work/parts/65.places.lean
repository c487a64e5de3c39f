/-! WHAT HOLDS AT THE ENTRY: digits, the texts' characters, no two texts the same: each word by its place in lwF -/
def leO (j : Nat) : Cond := Cond.eq (.elem (.static "java/lang/Integer" "DigitOnes" "[B") (.int (Int32.ofNat j))) (.int (Int32.ofNat (48 + j % 10)))
def leT (j : Nat) : Cond := Cond.eq (.elem (.static "java/lang/Integer" "DigitTens" "[B") (.int (Int32.ofNat j))) (.int (Int32.ofNat (48 + j / 10)))
theorem leO_I : ∀ j : Nat, j < 100 → lwF[14 + j]? = some (leO j) := by decide +kernel
theorem leO_m (j : Nat) (h : j < 100) : leO j ∈ lwF := List.mem_of_getElem? (leO_I j h)
theorem leT_I : ∀ j : Nat, j < 100 → lwF[117 + j]? = some (leT j) := by decide +kernel
theorem leT_m (j : Nat) (h : j < 100) : leT j ∈ lwF := List.mem_of_getElem? (leT_I j h)
def leLt : List Nat := [22, 26, 21, 19, 23, 20, 18, 23, 24, 15, 23, 22, 5, 1, 3, 3, 1, 0, 4]
def leBt : List (List Int32) := [[116, 104, 101, 114, 101, 32, 105, 115, 32, 110, 111, 32, 115, 117, 99, 104, 32, 111, 119, 110, 101, 114], [116, 104, 101, 32, 108, 105, 110, 101, 32, 104, 97, 115, 32, 110, 111, 32, 115, 117, 99, 104, 32, 105, 110, 100, 101, 120], [116, 104, 101, 32, 116, 101, 120, 116, 32, 104, 97, 115, 32, 97, 110, 32, 101, 114, 114, 111, 114], [97, 110, 32, 111, 114, 100, 101, 114, 32, 105, 115, 32, 114, 101, 102, 117, 115, 101, 100], [116, 104, 101, 114, 101, 32, 105, 115, 32, 110, 111, 32, 115, 117, 99, 104, 32, 114, 101, 97, 115, 111, 110], [110, 111, 32, 112, 108, 101, 100, 103, 101, 32, 105, 115, 32, 114, 117, 110, 110, 105, 110, 103], [110, 111, 32, 112, 108, 101, 100, 103, 101, 32, 119, 97, 115, 32, 109, 97, 100, 101], [116, 104, 101, 114, 101, 32, 105, 115, 32, 110, 111, 32, 115, 117, 99, 104, 32, 116, 105, 99, 107, 101, 116], [97, 32, 110, 117, 109, 98, 101, 114, 32, 105, 115, 32, 111, 117, 116, 32, 111, 102, 32, 114, 97, 110, 103, 101], [116, 104, 105, 115, 32, 105, 115, 32, 114, 101, 102, 117, 115, 101, 100], [116, 104, 105, 115, 32, 99, 97, 110, 110, 111, 116, 32, 98, 101, 32, 100, 111, 110, 101, 32, 110, 111, 119], [116, 104, 101, 114, 101, 32, 105, 115, 32, 110, 111, 32, 115, 117, 99, 104, 32, 112, 108, 97, 99, 101], [49, 61, 51, 47, 51], [50], [50, 61, 51], [50, 61, 52], [49], [], [112, 108, 114, 115]]
def leEb : List Nat := [384, 706, 878, 922, 965, 1013, 1059, 410, 438, 468, 520, 490, 748, 770, 789, 811, 834, 0, 1104]
theorem leL_eq : xsL = leLt := by decide +kernel
theorem leB_eq : xsB = leBt := by decide +kernel
def leE (i j : Nat) : Cond := Cond.eq (.elem (.field (.string (xsO.getD i "") (xsI.getD i 0)) "java/lang/String" "value" "[B") (.int (Int32.ofNat j))) (.int ((leBt.getD i []).getD j 0))
theorem le_el0 : ∀ j : Nat, j < leLt.getD 0 0 → lwF[leEb.getD 0 0 + j]? = some (leE 0 j) := by decide +kernel
theorem le_el1 : ∀ j : Nat, j < leLt.getD 1 0 → lwF[leEb.getD 1 0 + j]? = some (leE 1 j) := by decide +kernel
theorem le_el2 : ∀ j : Nat, j < leLt.getD 2 0 → lwF[leEb.getD 2 0 + j]? = some (leE 2 j) := by decide +kernel
theorem le_el3 : ∀ j : Nat, j < leLt.getD 3 0 → lwF[leEb.getD 3 0 + j]? = some (leE 3 j) := by decide +kernel
theorem le_el4 : ∀ j : Nat, j < leLt.getD 4 0 → lwF[leEb.getD 4 0 + j]? = some (leE 4 j) := by decide +kernel
theorem le_el5 : ∀ j : Nat, j < leLt.getD 5 0 → lwF[leEb.getD 5 0 + j]? = some (leE 5 j) := by decide +kernel
theorem le_el6 : ∀ j : Nat, j < leLt.getD 6 0 → lwF[leEb.getD 6 0 + j]? = some (leE 6 j) := by decide +kernel
theorem le_el7 : ∀ j : Nat, j < leLt.getD 7 0 → lwF[leEb.getD 7 0 + j]? = some (leE 7 j) := by decide +kernel
theorem le_el8 : ∀ j : Nat, j < leLt.getD 8 0 → lwF[leEb.getD 8 0 + j]? = some (leE 8 j) := by decide +kernel
theorem le_el9 : ∀ j : Nat, j < leLt.getD 9 0 → lwF[leEb.getD 9 0 + j]? = some (leE 9 j) := by decide +kernel
theorem le_el10 : ∀ j : Nat, j < leLt.getD 10 0 → lwF[leEb.getD 10 0 + j]? = some (leE 10 j) := by decide +kernel
theorem le_el11 : ∀ j : Nat, j < leLt.getD 11 0 → lwF[leEb.getD 11 0 + j]? = some (leE 11 j) := by decide +kernel
theorem le_el12 : ∀ j : Nat, j < leLt.getD 12 0 → lwF[leEb.getD 12 0 + j]? = some (leE 12 j) := by decide +kernel
theorem le_el13 : ∀ j : Nat, j < leLt.getD 13 0 → lwF[leEb.getD 13 0 + j]? = some (leE 13 j) := by decide +kernel
theorem le_el14 : ∀ j : Nat, j < leLt.getD 14 0 → lwF[leEb.getD 14 0 + j]? = some (leE 14 j) := by decide +kernel
theorem le_el15 : ∀ j : Nat, j < leLt.getD 15 0 → lwF[leEb.getD 15 0 + j]? = some (leE 15 j) := by decide +kernel
theorem le_el16 : ∀ j : Nat, j < leLt.getD 16 0 → lwF[leEb.getD 16 0 + j]? = some (leE 16 j) := by decide +kernel
theorem le_el17 : ∀ j : Nat, j < leLt.getD 17 0 → lwF[leEb.getD 17 0 + j]? = some (leE 17 j) := by decide +kernel
theorem le_el18 : ∀ j : Nat, j < leLt.getD 18 0 → lwF[leEb.getD 18 0 + j]? = some (leE 18 j) := by decide +kernel
theorem le_elI : ∀ i : Nat, i < 19 → ∀ j : Nat, j < leLt.getD i 0 → lwF[leEb.getD i 0 + j]? = some (leE i j) := fun i hi => match i, hi with
  | 0, _ => le_el0
  | 1, _ => le_el1
  | 2, _ => le_el2
  | 3, _ => le_el3
  | 4, _ => le_el4
  | 5, _ => le_el5
  | 6, _ => le_el6
  | 7, _ => le_el7
  | 8, _ => le_el8
  | 9, _ => le_el9
  | 10, _ => le_el10
  | 11, _ => le_el11
  | 12, _ => le_el12
  | 13, _ => le_el13
  | 14, _ => le_el14
  | 15, _ => le_el15
  | 16, _ => le_el16
  | 17, _ => le_el17
  | 18, _ => le_el18
  | n + 19, h => absurd h (by omega)
def leNt : List (List Nat) := [[], [732], [899, 911], [941, 953, 960], [988, 1000, 1007, 1008], [1033, 1045, 1052, 1053, 1054], [1077, 1089, 1096, 1097, 1098, 1099], [433, 733, 900, 942, 989, 1034, 1078], [462, 734, 901, 943, 990, 1035, 1079, 463], [483, 735, 902, 944, 991, 1036, 1080, 484, 485], [543, 737, 904, 946, 993, 1038, 1082, 544, 545, 546], [512, 736, 903, 945, 992, 1037, 1081, 513, 514, 515, 547], [753, 765, 912, 954, 1001, 1046, 1090, 754, 755, 756, 758, 757], [771, 783, 913, 955, 1002, 1047, 1091, 772, 773, 774, 776, 775, 784], [792, 804, 914, 956, 1003, 1048, 1092, 793, 794, 795, 797, 796, 805, 806], [814, 826, 915, 957, 1004, 1049, 1093, 815, 816, 817, 819, 818, 827, 828, 829], [835, 847, 916, 958, 1005, 1050, 1094, 836, 837, 838, 840, 839, 848, 849, 850, 851], [856, 868, 917, 959, 1006, 1051, 1095, 857, 858, 859, 861, 860, 869, 870, 871, 872, 873], [1108, 1120, 1127, 1128, 1129, 1130, 1131, 1109, 1110, 1111, 1113, 1112, 1121, 1122, 1123, 1124, 1125, 1126]]
theorem le_nn0 : ∀ j : Nat, j < 0 → lwF[(leNt.getD 0 []).getD j 0]? = some (leA 0 j) ∨ lwF[(leNt.getD 0 []).getD j 0]? = some (leA j 0) := by decide +kernel
theorem le_nn1 : ∀ j : Nat, j < 1 → lwF[(leNt.getD 1 []).getD j 0]? = some (leA 1 j) ∨ lwF[(leNt.getD 1 []).getD j 0]? = some (leA j 1) := by decide +kernel
theorem le_nn2 : ∀ j : Nat, j < 2 → lwF[(leNt.getD 2 []).getD j 0]? = some (leA 2 j) ∨ lwF[(leNt.getD 2 []).getD j 0]? = some (leA j 2) := by decide +kernel
theorem le_nn3 : ∀ j : Nat, j < 3 → lwF[(leNt.getD 3 []).getD j 0]? = some (leA 3 j) ∨ lwF[(leNt.getD 3 []).getD j 0]? = some (leA j 3) := by decide +kernel
theorem le_nn4 : ∀ j : Nat, j < 4 → lwF[(leNt.getD 4 []).getD j 0]? = some (leA 4 j) ∨ lwF[(leNt.getD 4 []).getD j 0]? = some (leA j 4) := by decide +kernel
theorem le_nn5 : ∀ j : Nat, j < 5 → lwF[(leNt.getD 5 []).getD j 0]? = some (leA 5 j) ∨ lwF[(leNt.getD 5 []).getD j 0]? = some (leA j 5) := by decide +kernel
theorem le_nn6 : ∀ j : Nat, j < 6 → lwF[(leNt.getD 6 []).getD j 0]? = some (leA 6 j) ∨ lwF[(leNt.getD 6 []).getD j 0]? = some (leA j 6) := by decide +kernel
theorem le_nn7 : ∀ j : Nat, j < 7 → lwF[(leNt.getD 7 []).getD j 0]? = some (leA 7 j) ∨ lwF[(leNt.getD 7 []).getD j 0]? = some (leA j 7) := by decide +kernel
theorem le_nn8 : ∀ j : Nat, j < 8 → lwF[(leNt.getD 8 []).getD j 0]? = some (leA 8 j) ∨ lwF[(leNt.getD 8 []).getD j 0]? = some (leA j 8) := by decide +kernel
theorem le_nn9 : ∀ j : Nat, j < 9 → lwF[(leNt.getD 9 []).getD j 0]? = some (leA 9 j) ∨ lwF[(leNt.getD 9 []).getD j 0]? = some (leA j 9) := by decide +kernel
theorem le_nn10 : ∀ j : Nat, j < 10 → lwF[(leNt.getD 10 []).getD j 0]? = some (leA 10 j) ∨ lwF[(leNt.getD 10 []).getD j 0]? = some (leA j 10) := by decide +kernel
theorem le_nn11 : ∀ j : Nat, j < 11 → lwF[(leNt.getD 11 []).getD j 0]? = some (leA 11 j) ∨ lwF[(leNt.getD 11 []).getD j 0]? = some (leA j 11) := by decide +kernel
theorem le_nn12 : ∀ j : Nat, j < 12 → lwF[(leNt.getD 12 []).getD j 0]? = some (leA 12 j) ∨ lwF[(leNt.getD 12 []).getD j 0]? = some (leA j 12) := by decide +kernel
theorem le_nn13 : ∀ j : Nat, j < 13 → lwF[(leNt.getD 13 []).getD j 0]? = some (leA 13 j) ∨ lwF[(leNt.getD 13 []).getD j 0]? = some (leA j 13) := by decide +kernel
theorem le_nn14 : ∀ j : Nat, j < 14 → lwF[(leNt.getD 14 []).getD j 0]? = some (leA 14 j) ∨ lwF[(leNt.getD 14 []).getD j 0]? = some (leA j 14) := by decide +kernel
theorem le_nn15 : ∀ j : Nat, j < 15 → lwF[(leNt.getD 15 []).getD j 0]? = some (leA 15 j) ∨ lwF[(leNt.getD 15 []).getD j 0]? = some (leA j 15) := by decide +kernel
theorem le_nn16 : ∀ j : Nat, j < 16 → lwF[(leNt.getD 16 []).getD j 0]? = some (leA 16 j) ∨ lwF[(leNt.getD 16 []).getD j 0]? = some (leA j 16) := by decide +kernel
theorem le_nn17 : ∀ j : Nat, j < 17 → lwF[(leNt.getD 17 []).getD j 0]? = some (leA 17 j) ∨ lwF[(leNt.getD 17 []).getD j 0]? = some (leA j 17) := by decide +kernel
theorem le_nn18 : ∀ j : Nat, j < 18 → lwF[(leNt.getD 18 []).getD j 0]? = some (leA 18 j) ∨ lwF[(leNt.getD 18 []).getD j 0]? = some (leA j 18) := by decide +kernel
theorem le_nnI : ∀ i : Nat, i < 19 → ∀ j : Nat, j < i → lwF[(leNt.getD i []).getD j 0]? = some (leA i j) ∨ lwF[(leNt.getD i []).getD j 0]? = some (leA j i) := fun i hi => match i, hi with
  | 0, _ => le_nn0
  | 1, _ => le_nn1
  | 2, _ => le_nn2
  | 3, _ => le_nn3
  | 4, _ => le_nn4
  | 5, _ => le_nn5
  | 6, _ => le_nn6
  | 7, _ => le_nn7
  | 8, _ => le_nn8
  | 9, _ => le_nn9
  | 10, _ => le_nn10
  | 11, _ => le_nn11
  | 12, _ => le_nn12
  | 13, _ => le_nn13
  | 14, _ => le_nn14
  | 15, _ => le_nn15
  | 16, _ => le_nn16
  | 17, _ => le_nn17
  | 18, _ => le_nn18
  | n + 19, h => absurd h (by omega)
theorem le_nnA (i j : Nat) (hi : i < 19) (hj : j < 19) (h : i ≠ j) : leA i j ∈ lwF ∨ leA j i ∈ lwF := by
  rcases Nat.lt_or_gt_of_ne h with h | h
  · exact (le_nnI j hj i h).symm.imp List.mem_of_getElem? List.mem_of_getElem?
  · exact (le_nnI i hi j h).imp List.mem_of_getElem? List.mem_of_getElem?
