/-! the law's entry: what the Statement gives of the start, as the walk's own world -/
def nrw : List Cond := flatC (Jvm.Cond.and given_1 narrow_1)
def tmS (i : Nat) : Term := if i = 34 then .string "FlagAnts$Tokens" 32 else .string "FlagAntsLaw" (([228, 230, 232, 234, 236, 238, 240, 242, 35, 48, 50, 52, 54, 56, 58, 60, 62, 64, 66, 68, 83, 85, 91, 101, 103, 105, 107, 112, 123, 130, 132, 134, 136, 138, 32, 140] : List Nat).getD i 0)
set_option maxRecDepth 20000 in
theorem en_ex : ∀ i, i < 36 → (Cond.exactly (tmS i) "java/lang/String") ∈ nrw := fun i h => mem_r (ws := (List.range 36).map (fun i => Cond.exactly (tmS i) "java/lang/String")) [1036, 1044, 1053, 1065, 1073, 1082, 1090, 1099, 845, 854, 868, 873, 878, 890, 895, 910, 922, 945, 953, 965, 715, 725, 730, 735, 744, 753, 761, 772, 778, 788, 797, 805, 815, 825, 252, 835] rfl _ (List.mem_map.mpr ⟨i, List.mem_range.mpr h, rfl⟩)
set_option maxRecDepth 20000 in
theorem en_co : ∀ i, i < 36 → (Cond.eq (.field (tmS i) "java/lang/String" "coder" "B") (.int 0)) ∈ nrw := fun i h => mem_r (ws := (List.range 36).map (fun i => Cond.eq (.field (tmS i) "java/lang/String" "coder" "B") (.int 0))) [1037, 1045, 1054, 1066, 1074, 1083, 1091, 1100, 846, 855, 869, 874, 879, 891, 896, 911, 923, 946, 954, 966, 716, 726, 731, 736, 745, 754, 762, 773, 779, 789, 798, 806, 816, 826, 253, 836] rfl _ (List.mem_map.mpr ⟨i, List.mem_range.mpr h, rfl⟩)
set_option maxRecDepth 20000 in
theorem en_ar : ∀ i, i < 36 → (Cond.arrayOf (.field (tmS i) "java/lang/String" "value" "[B") .byte) ∈ nrw := fun i h => mem_r (ws := (List.range 36).map (fun i => Cond.arrayOf (.field (tmS i) "java/lang/String" "value" "[B") .byte)) [1038, 1046, 1055, 1067, 1075, 1084, 1092, 1101, 847, 856, 870, 875, 880, 892, 897, 912, 924, 947, 955, 967, 717, 727, 732, 737, 746, 755, 763, 774, 780, 790, 799, 807, 817, 827, 254, 837] rfl _ (List.mem_map.mpr ⟨i, List.mem_range.mpr h, rfl⟩)
set_option maxRecDepth 20000 in
theorem en_le : ∀ i, i < 36 → (Cond.eq (.length (.field (tmS i) "java/lang/String" "value" "[B")) (.int (Int32.ofNat (sN i)))) ∈ nrw := fun i h => mem_r (ws := (List.range 36).map (fun i => Cond.eq (.length (.field (tmS i) "java/lang/String" "value" "[B")) (.int (Int32.ofNat (sN i))))) [1039, 1047, 1056, 1068, 1076, 1085, 1093, 1102, 848, 857, 871, 876, 881, 893, 898, 913, 925, 948, 956, 968, 718, 728, 733, 738, 747, 756, 764, 775, 781, 791, 800, 808, 818, 828, 255, 838] rfl _ (List.mem_map.mpr ⟨i, List.mem_range.mpr h, rfl⟩)
set_option maxRecDepth 20000 in
theorem en_el0 : ∀ w ∈ (List.range (sN 0)).map (fun j => Cond.eq (.elem (.field (tmS 0) "java/lang/String" "value" "[B") (.int (Int32.ofNat j))) (.int (sB 0 j))), w ∈ nrw := mem_r [1040, 1041, 1042, 1043] rfl
set_option maxRecDepth 20000 in
theorem en_el1 : ∀ w ∈ (List.range (sN 1)).map (fun j => Cond.eq (.elem (.field (tmS 1) "java/lang/String" "value" "[B") (.int (Int32.ofNat j))) (.int (sB 1 j))), w ∈ nrw := mem_r [1048, 1049, 1050, 1051, 1052] rfl
set_option maxRecDepth 20000 in
theorem en_el2 : ∀ w ∈ (List.range (sN 2)).map (fun j => Cond.eq (.elem (.field (tmS 2) "java/lang/String" "value" "[B") (.int (Int32.ofNat j))) (.int (sB 2 j))), w ∈ nrw := mem_r [1057, 1058, 1059, 1060, 1061, 1062, 1063, 1064] rfl
set_option maxRecDepth 20000 in
theorem en_el3 : ∀ w ∈ (List.range (sN 3)).map (fun j => Cond.eq (.elem (.field (tmS 3) "java/lang/String" "value" "[B") (.int (Int32.ofNat j))) (.int (sB 3 j))), w ∈ nrw := mem_r [1069, 1070, 1071, 1072] rfl
set_option maxRecDepth 20000 in
theorem en_el4 : ∀ w ∈ (List.range (sN 4)).map (fun j => Cond.eq (.elem (.field (tmS 4) "java/lang/String" "value" "[B") (.int (Int32.ofNat j))) (.int (sB 4 j))), w ∈ nrw := mem_r [1077, 1078, 1079, 1080, 1081] rfl
set_option maxRecDepth 20000 in
theorem en_el5 : ∀ w ∈ (List.range (sN 5)).map (fun j => Cond.eq (.elem (.field (tmS 5) "java/lang/String" "value" "[B") (.int (Int32.ofNat j))) (.int (sB 5 j))), w ∈ nrw := mem_r [1086, 1087, 1088, 1089] rfl
set_option maxRecDepth 20000 in
theorem en_el6 : ∀ w ∈ (List.range (sN 6)).map (fun j => Cond.eq (.elem (.field (tmS 6) "java/lang/String" "value" "[B") (.int (Int32.ofNat j))) (.int (sB 6 j))), w ∈ nrw := mem_r [1094, 1095, 1096, 1097, 1098] rfl
set_option maxRecDepth 20000 in
theorem en_el7 : ∀ w ∈ (List.range (sN 7)).map (fun j => Cond.eq (.elem (.field (tmS 7) "java/lang/String" "value" "[B") (.int (Int32.ofNat j))) (.int (sB 7 j))), w ∈ nrw := mem_r [1103, 1104, 1105, 1106] rfl
set_option maxRecDepth 20000 in
theorem en_el8 : ∀ w ∈ (List.range (sN 8)).map (fun j => Cond.eq (.elem (.field (tmS 8) "java/lang/String" "value" "[B") (.int (Int32.ofNat j))) (.int (sB 8 j))), w ∈ nrw := mem_r [849, 850, 851, 852, 853] rfl
set_option maxRecDepth 20000 in
theorem en_el9 : ∀ w ∈ (List.range (sN 9)).map (fun j => Cond.eq (.elem (.field (tmS 9) "java/lang/String" "value" "[B") (.int (Int32.ofNat j))) (.int (sB 9 j))), w ∈ nrw := mem_r [858, 859, 860, 861, 862, 863, 864, 865, 866, 867] rfl
set_option maxRecDepth 20000 in
theorem en_el10 : ∀ w ∈ (List.range (sN 10)).map (fun j => Cond.eq (.elem (.field (tmS 10) "java/lang/String" "value" "[B") (.int (Int32.ofNat j))) (.int (sB 10 j))), w ∈ nrw := mem_r [872] rfl
set_option maxRecDepth 20000 in
theorem en_el11 : ∀ w ∈ (List.range (sN 11)).map (fun j => Cond.eq (.elem (.field (tmS 11) "java/lang/String" "value" "[B") (.int (Int32.ofNat j))) (.int (sB 11 j))), w ∈ nrw := mem_r [877] rfl
set_option maxRecDepth 20000 in
theorem en_el12 : ∀ w ∈ (List.range (sN 12)).map (fun j => Cond.eq (.elem (.field (tmS 12) "java/lang/String" "value" "[B") (.int (Int32.ofNat j))) (.int (sB 12 j))), w ∈ nrw := mem_r [882, 883, 884, 885, 886, 887, 888, 889] rfl
set_option maxRecDepth 20000 in
theorem en_el13 : ∀ w ∈ (List.range (sN 13)).map (fun j => Cond.eq (.elem (.field (tmS 13) "java/lang/String" "value" "[B") (.int (Int32.ofNat j))) (.int (sB 13 j))), w ∈ nrw := mem_r [894] rfl
set_option maxRecDepth 20000 in
theorem en_el14 : ∀ w ∈ (List.range (sN 14)).map (fun j => Cond.eq (.elem (.field (tmS 14) "java/lang/String" "value" "[B") (.int (Int32.ofNat j))) (.int (sB 14 j))), w ∈ nrw := mem_r [899, 900, 901, 902, 903, 904, 905, 906, 907, 908, 909] rfl
set_option maxRecDepth 20000 in
theorem en_el15 : ∀ w ∈ (List.range (sN 15)).map (fun j => Cond.eq (.elem (.field (tmS 15) "java/lang/String" "value" "[B") (.int (Int32.ofNat j))) (.int (sB 15 j))), w ∈ nrw := mem_r [914, 915, 916, 917, 918, 919, 920, 921] rfl
set_option maxRecDepth 20000 in
theorem en_el16 : ∀ w ∈ (List.range (sN 16)).map (fun j => Cond.eq (.elem (.field (tmS 16) "java/lang/String" "value" "[B") (.int (Int32.ofNat j))) (.int (sB 16 j))), w ∈ nrw := mem_r [926, 927, 928, 929, 930, 931, 932, 933, 934, 935, 936, 937, 938, 939, 940, 941, 942, 943, 944] rfl
set_option maxRecDepth 20000 in
theorem en_el17 : ∀ w ∈ (List.range (sN 17)).map (fun j => Cond.eq (.elem (.field (tmS 17) "java/lang/String" "value" "[B") (.int (Int32.ofNat j))) (.int (sB 17 j))), w ∈ nrw := mem_r [949, 950, 951, 952] rfl
set_option maxRecDepth 20000 in
theorem en_el18 : ∀ w ∈ (List.range (sN 18)).map (fun j => Cond.eq (.elem (.field (tmS 18) "java/lang/String" "value" "[B") (.int (Int32.ofNat j))) (.int (sB 18 j))), w ∈ nrw := mem_r [957, 958, 959, 960, 961, 962, 963, 964] rfl
set_option maxRecDepth 20000 in
theorem en_el19 : ∀ w ∈ (List.range (sN 19)).map (fun j => Cond.eq (.elem (.field (tmS 19) "java/lang/String" "value" "[B") (.int (Int32.ofNat j))) (.int (sB 19 j))), w ∈ nrw := mem_r [969, 970, 971, 972, 973] rfl
set_option maxRecDepth 20000 in
theorem en_el20 : ∀ w ∈ (List.range (sN 20)).map (fun j => Cond.eq (.elem (.field (tmS 20) "java/lang/String" "value" "[B") (.int (Int32.ofNat j))) (.int (sB 20 j))), w ∈ nrw := mem_r [719, 720, 721, 722, 723, 724] rfl
set_option maxRecDepth 20000 in
theorem en_el21 : ∀ w ∈ (List.range (sN 21)).map (fun j => Cond.eq (.elem (.field (tmS 21) "java/lang/String" "value" "[B") (.int (Int32.ofNat j))) (.int (sB 21 j))), w ∈ nrw := mem_r [729] rfl
set_option maxRecDepth 20000 in
theorem en_el22 : ∀ w ∈ (List.range (sN 22)).map (fun j => Cond.eq (.elem (.field (tmS 22) "java/lang/String" "value" "[B") (.int (Int32.ofNat j))) (.int (sB 22 j))), w ∈ nrw := mem_r [734] rfl
set_option maxRecDepth 20000 in
theorem en_el23 : ∀ w ∈ (List.range (sN 23)).map (fun j => Cond.eq (.elem (.field (tmS 23) "java/lang/String" "value" "[B") (.int (Int32.ofNat j))) (.int (sB 23 j))), w ∈ nrw := mem_r [739, 740, 741, 742, 743] rfl
set_option maxRecDepth 20000 in
theorem en_el24 : ∀ w ∈ (List.range (sN 24)).map (fun j => Cond.eq (.elem (.field (tmS 24) "java/lang/String" "value" "[B") (.int (Int32.ofNat j))) (.int (sB 24 j))), w ∈ nrw := mem_r [748, 749, 750, 751, 752] rfl
set_option maxRecDepth 20000 in
theorem en_el25 : ∀ w ∈ (List.range (sN 25)).map (fun j => Cond.eq (.elem (.field (tmS 25) "java/lang/String" "value" "[B") (.int (Int32.ofNat j))) (.int (sB 25 j))), w ∈ nrw := mem_r [757, 758, 759, 760] rfl
set_option maxRecDepth 20000 in
theorem en_el26 : ∀ w ∈ (List.range (sN 26)).map (fun j => Cond.eq (.elem (.field (tmS 26) "java/lang/String" "value" "[B") (.int (Int32.ofNat j))) (.int (sB 26 j))), w ∈ nrw := mem_r [765, 766, 767, 768, 769, 770, 771] rfl
set_option maxRecDepth 20000 in
theorem en_el27 : ∀ w ∈ (List.range (sN 27)).map (fun j => Cond.eq (.elem (.field (tmS 27) "java/lang/String" "value" "[B") (.int (Int32.ofNat j))) (.int (sB 27 j))), w ∈ nrw := mem_r [776, 777] rfl
set_option maxRecDepth 20000 in
theorem en_el28 : ∀ w ∈ (List.range (sN 28)).map (fun j => Cond.eq (.elem (.field (tmS 28) "java/lang/String" "value" "[B") (.int (Int32.ofNat j))) (.int (sB 28 j))), w ∈ nrw := mem_r [782, 783, 784, 785, 786, 787] rfl
set_option maxRecDepth 20000 in
theorem en_el29 : ∀ w ∈ (List.range (sN 29)).map (fun j => Cond.eq (.elem (.field (tmS 29) "java/lang/String" "value" "[B") (.int (Int32.ofNat j))) (.int (sB 29 j))), w ∈ nrw := mem_r [792, 793, 794, 795, 796] rfl
set_option maxRecDepth 20000 in
theorem en_el30 : ∀ w ∈ (List.range (sN 30)).map (fun j => Cond.eq (.elem (.field (tmS 30) "java/lang/String" "value" "[B") (.int (Int32.ofNat j))) (.int (sB 30 j))), w ∈ nrw := mem_r [801, 802, 803, 804] rfl
set_option maxRecDepth 20000 in
theorem en_el31 : ∀ w ∈ (List.range (sN 31)).map (fun j => Cond.eq (.elem (.field (tmS 31) "java/lang/String" "value" "[B") (.int (Int32.ofNat j))) (.int (sB 31 j))), w ∈ nrw := mem_r [809, 810, 811, 812, 813, 814] rfl
set_option maxRecDepth 20000 in
theorem en_el32 : ∀ w ∈ (List.range (sN 32)).map (fun j => Cond.eq (.elem (.field (tmS 32) "java/lang/String" "value" "[B") (.int (Int32.ofNat j))) (.int (sB 32 j))), w ∈ nrw := mem_r [819, 820, 821, 822, 823, 824] rfl
set_option maxRecDepth 20000 in
theorem en_el33 : ∀ w ∈ (List.range (sN 33)).map (fun j => Cond.eq (.elem (.field (tmS 33) "java/lang/String" "value" "[B") (.int (Int32.ofNat j))) (.int (sB 33 j))), w ∈ nrw := mem_r [829, 830, 831, 832, 833, 834] rfl
set_option maxRecDepth 20000 in
theorem en_el34 : ∀ w ∈ (List.range (sN 34)).map (fun j => Cond.eq (.elem (.field (tmS 34) "java/lang/String" "value" "[B") (.int (Int32.ofNat j))) (.int (sB 34 j))), w ∈ nrw := mem_r [256, 257, 258, 259, 260, 261, 262, 263, 264, 265, 266, 267, 268, 269, 270, 271, 272, 273, 274, 275, 276, 277, 278, 279, 280, 281, 282, 283, 284, 285, 286, 287, 288, 289, 290, 291, 292, 293, 294, 295, 296, 297, 298, 299, 300, 301, 302, 303, 304, 305, 306, 307, 308, 309, 310, 311, 312, 313, 314, 315, 316, 317, 318, 319, 320, 321, 322, 323, 324, 325, 326, 327, 328, 329, 330, 331, 332, 333, 334, 335, 336, 337, 338, 339, 340, 341, 342, 343, 344, 345, 346, 347, 348, 349, 350, 351, 352, 353, 354, 355, 356, 357, 358, 359, 360, 361, 362, 363, 364, 365, 366, 367, 368, 369, 370, 371, 372, 373, 374, 375, 376, 377, 378, 379, 380, 381, 382, 383, 384, 385, 386, 387, 388, 389, 390, 391, 392, 393, 394, 395, 396, 397, 398, 399, 400, 401, 402, 403, 404, 405, 406, 407, 408, 409, 410, 411, 412, 413, 414, 415, 416, 417, 418, 419, 420, 421, 422] rfl
set_option maxRecDepth 20000 in
theorem en_el35 : ∀ w ∈ (List.range (sN 35)).map (fun j => Cond.eq (.elem (.field (tmS 35) "java/lang/String" "value" "[B") (.int (Int32.ofNat j))) (.int (sB 35 j))), w ∈ nrw := mem_r [839, 840, 841, 842, 843, 844] rfl
theorem en_el (i : Nat) (hi : i < 36) (j : Nat) (hj : j < sN i) : (Cond.eq (.elem (.field (tmS i) "java/lang/String" "value" "[B") (.int (Int32.ofNat j))) (.int (sB i j))) ∈ nrw := by
  match i, hi with
  | 0, _ => exact en_el0 _ (List.mem_map.mpr ⟨j, List.mem_range.mpr hj, rfl⟩)
  | 1, _ => exact en_el1 _ (List.mem_map.mpr ⟨j, List.mem_range.mpr hj, rfl⟩)
  | 2, _ => exact en_el2 _ (List.mem_map.mpr ⟨j, List.mem_range.mpr hj, rfl⟩)
  | 3, _ => exact en_el3 _ (List.mem_map.mpr ⟨j, List.mem_range.mpr hj, rfl⟩)
  | 4, _ => exact en_el4 _ (List.mem_map.mpr ⟨j, List.mem_range.mpr hj, rfl⟩)
  | 5, _ => exact en_el5 _ (List.mem_map.mpr ⟨j, List.mem_range.mpr hj, rfl⟩)
  | 6, _ => exact en_el6 _ (List.mem_map.mpr ⟨j, List.mem_range.mpr hj, rfl⟩)
  | 7, _ => exact en_el7 _ (List.mem_map.mpr ⟨j, List.mem_range.mpr hj, rfl⟩)
  | 8, _ => exact en_el8 _ (List.mem_map.mpr ⟨j, List.mem_range.mpr hj, rfl⟩)
  | 9, _ => exact en_el9 _ (List.mem_map.mpr ⟨j, List.mem_range.mpr hj, rfl⟩)
  | 10, _ => exact en_el10 _ (List.mem_map.mpr ⟨j, List.mem_range.mpr hj, rfl⟩)
  | 11, _ => exact en_el11 _ (List.mem_map.mpr ⟨j, List.mem_range.mpr hj, rfl⟩)
  | 12, _ => exact en_el12 _ (List.mem_map.mpr ⟨j, List.mem_range.mpr hj, rfl⟩)
  | 13, _ => exact en_el13 _ (List.mem_map.mpr ⟨j, List.mem_range.mpr hj, rfl⟩)
  | 14, _ => exact en_el14 _ (List.mem_map.mpr ⟨j, List.mem_range.mpr hj, rfl⟩)
  | 15, _ => exact en_el15 _ (List.mem_map.mpr ⟨j, List.mem_range.mpr hj, rfl⟩)
  | 16, _ => exact en_el16 _ (List.mem_map.mpr ⟨j, List.mem_range.mpr hj, rfl⟩)
  | 17, _ => exact en_el17 _ (List.mem_map.mpr ⟨j, List.mem_range.mpr hj, rfl⟩)
  | 18, _ => exact en_el18 _ (List.mem_map.mpr ⟨j, List.mem_range.mpr hj, rfl⟩)
  | 19, _ => exact en_el19 _ (List.mem_map.mpr ⟨j, List.mem_range.mpr hj, rfl⟩)
  | 20, _ => exact en_el20 _ (List.mem_map.mpr ⟨j, List.mem_range.mpr hj, rfl⟩)
  | 21, _ => exact en_el21 _ (List.mem_map.mpr ⟨j, List.mem_range.mpr hj, rfl⟩)
  | 22, _ => exact en_el22 _ (List.mem_map.mpr ⟨j, List.mem_range.mpr hj, rfl⟩)
  | 23, _ => exact en_el23 _ (List.mem_map.mpr ⟨j, List.mem_range.mpr hj, rfl⟩)
  | 24, _ => exact en_el24 _ (List.mem_map.mpr ⟨j, List.mem_range.mpr hj, rfl⟩)
  | 25, _ => exact en_el25 _ (List.mem_map.mpr ⟨j, List.mem_range.mpr hj, rfl⟩)
  | 26, _ => exact en_el26 _ (List.mem_map.mpr ⟨j, List.mem_range.mpr hj, rfl⟩)
  | 27, _ => exact en_el27 _ (List.mem_map.mpr ⟨j, List.mem_range.mpr hj, rfl⟩)
  | 28, _ => exact en_el28 _ (List.mem_map.mpr ⟨j, List.mem_range.mpr hj, rfl⟩)
  | 29, _ => exact en_el29 _ (List.mem_map.mpr ⟨j, List.mem_range.mpr hj, rfl⟩)
  | 30, _ => exact en_el30 _ (List.mem_map.mpr ⟨j, List.mem_range.mpr hj, rfl⟩)
  | 31, _ => exact en_el31 _ (List.mem_map.mpr ⟨j, List.mem_range.mpr hj, rfl⟩)
  | 32, _ => exact en_el32 _ (List.mem_map.mpr ⟨j, List.mem_range.mpr hj, rfl⟩)
  | 33, _ => exact en_el33 _ (List.mem_map.mpr ⟨j, List.mem_range.mpr hj, rfl⟩)
  | 34, _ => exact en_el34 _ (List.mem_map.mpr ⟨j, List.mem_range.mpr hj, rfl⟩)
  | 35, _ => exact en_el35 _ (List.mem_map.mpr ⟨j, List.mem_range.mpr hj, rfl⟩)
  | i + 36, hi => omega
theorem str_of {args : Array Value} {s : State} {N : Nat} {tm : Nat → Term} {len : List Nat} {byt : List (List Int32)} {A : Nat → Prop} (hN : ∀ i : Nat, i < N → len.getD i 0 < 2 ^ 31) (hex : ∀ i : Nat, i < N → (Cond.exactly (tm i) "java/lang/String").before args s = true) (hco : ∀ i : Nat, i < N → (Cond.eq (.field (tm i) "java/lang/String" "coder" "B") (.int 0)).before args s = true)
    (har : ∀ i : Nat, i < N → (Cond.arrayOf (.field (tm i) "java/lang/String" "value" "[B") .byte).before args s = true) (hle : ∀ i : Nat, i < N → (Cond.eq (.length (.field (tm i) "java/lang/String" "value" "[B")) (.int (Int32.ofNat (len.getD i 0)))).before args s = true)
    (hel : ∀ i : Nat, i < N → ∀ j : Nat, j < len.getD i 0 → (Cond.eq (.elem (.field (tm i) "java/lang/String" "value" "[B") (.int (Int32.ofNat j))) (.int ((byt.getD i []).getD j 0))).before args s = true)
    (hdf : ∀ i : Nat, i < N → ∀ j : Nat, j < N → len.getD i 0 = len.getD j 0 → (∀ k : Nat, k < len.getD i 0 → (byt.getD i []).getD k 0 = (byt.getD j []).getD k 0) → i = j) (hA : ∀ a : Nat, a < s.heap.size → ¬ A a) :
    ∃ adK adV : Nat → Nat, vk_S N len byt adK adV A s s.heap ∧ ∀ i : Nat, i < N → (tm i).eval args s none [] s = some (.ref (adK i)) := by
  refine vk_Sof hN hex hco har hle hel (fun i j hi hj hij => Or.inl ?_) hA
  obtain ⟨a, -, -, -, ha, -⟩ := Cond.exactly_spec (args := args) (first := s) (o := none) (s := s) (idx := []) (t := tm i) (cls := "java/lang/String") (hex i hi)
  obtain ⟨b, -, -, -, hb, -⟩ := Cond.exactly_spec (args := args) (first := s) (o := none) (s := s) (idx := []) (t := tm j) (cls := "java/lang/String") (hex j hj)
  have hne : a ≠ b := by
    intro e
    subst e
    have hf : (Term.field (tm i) "java/lang/String" "value" "[B").eval args s none [] s = (Term.field (tm j) "java/lang/String" "value" "[B").eval args s none [] s := by rw [va_fe ha, va_fe hb]
    have h1 := va_eqt (hle i hi)
    have h2 := va_eqt (hle j hj)
    have hl : (Term.length (Term.field (tm i) "java/lang/String" "value" "[B")).eval args s none [] s = (Term.length (Term.field (tm j) "java/lang/String" "value" "[B")).eval args s none [] s := by simp only [Term.eval, ha, hb]
    rw [hl, h2] at h1
    have h3 : Int32.ofNat (len.getD j 0) = Int32.ofNat (len.getD i 0) := by injection (Option.some.inj h1)
    have h4 : len.getD i 0 = len.getD j 0 := by
      have h5 := congrArg Int32.toInt h3
      rw [Int32.toInt_ofNat_of_lt (hN i hi), Int32.toInt_ofNat_of_lt (hN j hj)] at h5
      omega
    refine hij (hdf i hi j hj h4 (fun k hk => ?_))
    have g1 := va_eqt (hel i hi k hk)
    have g2 := va_eqt (hel j hj k (h4 ▸ hk))
    have hl2 : (Term.elem (Term.field (tm i) "java/lang/String" "value" "[B") (Term.int (Int32.ofNat k))).eval args s none [] s = (Term.elem (Term.field (tm j) "java/lang/String" "value" "[B") (Term.int (Int32.ofNat k))).eval args s none [] s := by simp only [Term.eval, ha, hb]
    rw [hl2, g2] at g1
    injection (Option.some.inj g1) with g3
    exact g3.symm
  simp [Cond.before, Cond.holds, Cond.value, ha, hb, hne]
theorem en_df : ∀ i : Nat, i < 36 → ∀ j : Nat, j < 36 → sLen.getD i 0 = sLen.getD j 0 → (∀ k : Nat, k < sLen.getD i 0 → (sByt.getD i []).getD k 0 = (sByt.getD j []).getD k 0) → i = j := by decide +kernel
set_option maxRecDepth 20000 in
theorem en_F : ∀ w ∈ nestF.map (fun q => Cond.fieldLinkNest q.1 q.2.1 q.2.2.1 q.2.2.2.1 q.2.2.2.2.1 q.2.2.2.2.2), w ∈ lw_tbl := mem_r [] rfl
set_option maxRecDepth 20000 in
theorem en_M : ∀ w ∈ nestM.map (fun q => Cond.methodLinkNest q.1 q.2.1 q.2.2.1 q.2.2.2), w ∈ lw_tbl := mem_r [92, 108, 345, 381, 165, 622, 1087] rfl
set_option maxRecDepth 20000 in
theorem en_C : (Cond.castable "[B" "java/lang/Cloneable") ∈ lw_tbl := List.mem_of_getElem? (i := 1169) rfl
set_option maxRecDepth 20000 in
theorem en_S : ∀ w ∈ sRef.map (fun q => Cond.stringRef q.1 q.2.1 q.2.2), w ∈ lw_tbl := mem_r [1417, 1418, 1419, 1420, 1422, 1423, 1424, 1425, 1364, 1365, 1366, 1367, 1368, 1369, 1370, 1371, 1372, 1373, 1374, 1375, 1131, 1261, 1264, 1268, 1269, 1270, 1271, 1274, 1275, 1298, 1299, 1357, 1358, 1359, 263, 1360] rfl
set_option maxRecDepth 20000 in
theorem en_l0 : (Cond.laysStatic "FlagAnts$Ant" "EAST" "[I") ∈ lw_tbl ∧ (Cond.initialized "FlagAnts$Ant") ∈ lw_tbl := ⟨List.mem_of_getElem? (i := 571) rfl, List.mem_of_getElem? (i := 71) rfl⟩
set_option maxRecDepth 20000 in
theorem en_l1 : (Cond.laysStatic "FlagAnts$Ant" "SOUTH" "[I") ∈ lw_tbl ∧ (Cond.initialized "FlagAnts$Ant") ∈ lw_tbl := ⟨List.mem_of_getElem? (i := 573) rfl, List.mem_of_getElem? (i := 71) rfl⟩
set_option maxRecDepth 20000 in
theorem en_l2 : (Cond.laysStatic "FlagAnts$Ant" "TURN_BY" "[I") ∈ lw_tbl ∧ (Cond.initialized "FlagAnts$Ant") ∈ lw_tbl := ⟨List.mem_of_getElem? (i := 712) rfl, List.mem_of_getElem? (i := 71) rfl⟩
set_option maxRecDepth 20000 in
theorem en_l3 : (Cond.laysStatic "FlagAntsLaw" "TURNS" "[Ljava/lang/String;") ∈ lw_tbl ∧ (Cond.initialized "FlagAntsLaw") ∈ lw_tbl := ⟨List.mem_of_getElem? (i := 1263) rfl, List.mem_of_getElem? (i := 54) rfl⟩
set_option maxRecDepth 20000 in
theorem en_l4 : (Cond.laysStatic "FlagAntsLaw" "SIDES" "[Ljava/lang/String;") ∈ lw_tbl ∧ (Cond.initialized "FlagAntsLaw") ∈ lw_tbl := ⟨List.mem_of_getElem? (i := 1273) rfl, List.mem_of_getElem? (i := 54) rfl⟩
set_option maxRecDepth 20000 in
theorem en_l5 : (Cond.laysStatic "java/lang/Integer" "DigitOnes" "[B") ∈ lw_tbl ∧ (Cond.initialized "java/lang/Integer") ∈ lw_tbl := ⟨List.mem_of_getElem? (i := 1250) rfl, List.mem_of_getElem? (i := 66) rfl⟩
set_option maxRecDepth 20000 in
theorem en_l6 : (Cond.laysStatic "java/lang/Integer" "DigitTens" "[B") ∈ lw_tbl ∧ (Cond.initialized "java/lang/Integer") ∈ lw_tbl := ⟨List.mem_of_getElem? (i := 1252) rfl, List.mem_of_getElem? (i := 66) rfl⟩
set_option maxRecDepth 20000 in
theorem en_l7 : (Cond.laysStatic "java/lang/String" "COMPACT_STRINGS" "Z") ∈ lw_tbl ∧ (Cond.initialized "java/lang/String") ∈ lw_tbl := ⟨List.mem_of_getElem? (i := 273) rfl, List.mem_of_getElem? (i := 57) rfl⟩
set_option maxRecDepth 20000 in
theorem en_l8 : (Cond.laysStatic "jdk/internal/util/Preconditions" "SIOOBE_FORMATTER" "Ljava/util/function/BiFunction;") ∈ lw_tbl ∧ (Cond.initialized "jdk/internal/util/Preconditions") ∈ lw_tbl := ⟨List.mem_of_getElem? (i := 289) rfl, List.mem_of_getElem? (i := 64) rfl⟩
set_option maxRecDepth 20000 in
theorem en_i0 : (Cond.instantiable RX0 9) ∈ lw_tbl := List.mem_of_getElem? (i := 164) rfl
set_option maxRecDepth 20000 in
theorem en_i1 : (Cond.instantiable RX2 8) ∈ lw_tbl := List.mem_of_getElem? (i := 248) rfl
set_option maxRecDepth 20000 in
theorem en_i2 : (Cond.instantiable RX3 11) ∈ lw_tbl := List.mem_of_getElem? (i := 107) rfl
set_option maxRecDepth 20000 in
theorem en_i3 : (Cond.instantiable RX4 2) ∈ lw_tbl := List.mem_of_getElem? (i := 380) rfl
set_option maxRecDepth 20000 in
theorem en_i4 : (Cond.instantiable RX5 2) ∈ lw_tbl := List.mem_of_getElem? (i := 374) rfl
set_option maxRecDepth 20000 in
theorem en_i5 : (Cond.instantiable RX6 2) ∈ lw_tbl := List.mem_of_getElem? (i := 91) rfl
set_option maxRecDepth 20000 in
theorem en_i6 : (Cond.instantiable RX7 6) ∈ lw_tbl := List.mem_of_getElem? (i := 254) rfl
set_option maxRecDepth 20000 in
theorem en_i7 : (Cond.instantiable RX8 9) ∈ lw_tbl := List.mem_of_getElem? (i := 157) rfl
set_option maxRecDepth 20000 in
theorem en_i8 : (Cond.instantiable RX9 7) ∈ lw_tbl := List.mem_of_getElem? (i := 83) rfl
set_option maxRecDepth 20000 in
theorem en_i9 : (Cond.instantiable RX10 9) ∈ lw_tbl := List.mem_of_getElem? (i := 762) rfl
set_option maxRecDepth 20000 in
theorem en_i10 : (Cond.instantiable RJ0 4) ∈ lw_tbl := List.mem_of_getElem? (i := 1305) rfl
set_option maxRecDepth 20000 in
theorem en_i11 : (Cond.instantiable RJ4 4) ∈ lw_tbl := List.mem_of_getElem? (i := 1278) rfl
set_option maxRecDepth 20000 in
theorem en_aI : (Cond.arrayClass .int) ∈ lw_tbl := List.mem_of_getElem? (i := 105) rfl
set_option maxRecDepth 20000 in
theorem en_aJ : (Cond.arrayClass .long) ∈ lw_tbl := List.mem_of_getElem? (i := 342) rfl
set_option maxRecDepth 20000 in
theorem en_aB : (Cond.arrayClass .byte) ∈ lw_tbl := List.mem_of_getElem? (i := 343) rfl
set_option maxRecDepth 20000 in
theorem en_aO : (Cond.arrayOver (.object "FlagAnts$Ant")) ∈ lw_tbl := List.mem_of_getElem? (i := 163) rfl
set_option maxRecDepth 20000 in
theorem en_aA : (Cond.arrayOver (.array .int)) ∈ lw_tbl := List.mem_of_getElem? (i := 1092) rfl
set_option maxRecDepth 20000 in
theorem en_rE : (Cond.arrayOf (.static "FlagAnts$Ant" "EAST" "[I") .int) ∈ nrw ∧ (Cond.eq (.length (.static "FlagAnts$Ant" "EAST" "[I")) (.int (Int32.ofNat 4))) ∈ nrw := ⟨List.mem_of_getElem? (i := 12) rfl, List.mem_of_getElem? (i := 13) rfl⟩
set_option maxRecDepth 20000 in
theorem en_eE : ∀ w ∈ (List.range 4).map (fun j => Cond.eq (.elem (.static "FlagAnts$Ant" "EAST" "[I") (.int (Int32.ofNat j))) (.int (f_E j))), w ∈ nrw := mem_r [14, 15, 16, 17] rfl
set_option maxRecDepth 20000 in
theorem en_rS : (Cond.arrayOf (.static "FlagAnts$Ant" "SOUTH" "[I") .int) ∈ nrw ∧ (Cond.eq (.length (.static "FlagAnts$Ant" "SOUTH" "[I")) (.int (Int32.ofNat 4))) ∈ nrw := ⟨List.mem_of_getElem? (i := 19) rfl, List.mem_of_getElem? (i := 20) rfl⟩
set_option maxRecDepth 20000 in
theorem en_eS : ∀ w ∈ (List.range 4).map (fun j => Cond.eq (.elem (.static "FlagAnts$Ant" "SOUTH" "[I") (.int (Int32.ofNat j))) (.int (f_S j))), w ∈ nrw := mem_r [21, 22, 23, 24] rfl
set_option maxRecDepth 20000 in
theorem en_rT : (Cond.arrayOf (.static "FlagAnts$Ant" "TURN_BY" "[I") .int) ∈ nrw ∧ (Cond.eq (.length (.static "FlagAnts$Ant" "TURN_BY" "[I")) (.int (Int32.ofNat 4))) ∈ nrw := ⟨List.mem_of_getElem? (i := 26) rfl, List.mem_of_getElem? (i := 27) rfl⟩
set_option maxRecDepth 20000 in
theorem en_eT : ∀ w ∈ (List.range 4).map (fun j => Cond.eq (.elem (.static "FlagAnts$Ant" "TURN_BY" "[I") (.int (Int32.ofNat j))) (.int (f_T j))), w ∈ nrw := mem_r [28, 29, 30, 31] rfl
set_option maxRecDepth 20000 in
theorem en_rW0 : (Cond.arrayOf (.static "FlagAntsLaw" "TURNS" "[Ljava/lang/String;") (.object "java/lang/String")) ∈ nrw ∧ (Cond.eq (.length (.static "FlagAntsLaw" "TURNS" "[Ljava/lang/String;")) (.int (Int32.ofNat 4))) ∈ nrw := ⟨List.mem_of_getElem? (i := 239) rfl, List.mem_of_getElem? (i := 240) rfl⟩
set_option maxRecDepth 20000 in
theorem en_eW0 : ∀ w ∈ (List.range 4).map (fun j => Cond.eq (.elem (.static "FlagAntsLaw" "TURNS" "[Ljava/lang/String;") (.int (Int32.ofNat j))) (tmS j)), w ∈ nrw := mem_r [241, 242, 243, 244] rfl
set_option maxRecDepth 20000 in
theorem en_rW1 : (Cond.arrayOf (.static "FlagAntsLaw" "SIDES" "[Ljava/lang/String;") (.object "java/lang/String")) ∈ nrw ∧ (Cond.eq (.length (.static "FlagAntsLaw" "SIDES" "[Ljava/lang/String;")) (.int (Int32.ofNat 4))) ∈ nrw := ⟨List.mem_of_getElem? (i := 246) rfl, List.mem_of_getElem? (i := 247) rfl⟩
set_option maxRecDepth 20000 in
theorem en_eW1 : ∀ w ∈ (List.range 4).map (fun j => Cond.eq (.elem (.static "FlagAntsLaw" "SIDES" "[Ljava/lang/String;") (.int (Int32.ofNat j))) (tmS (4 + j))), w ∈ nrw := mem_r [248, 249, 250, 251] rfl
set_option maxRecDepth 20000 in
theorem en_rD0 : (Cond.arrayOf (.static "java/lang/Integer" "DigitOnes" "[B") .byte) ∈ nrw ∧ (Cond.eq (.length (.static "java/lang/Integer" "DigitOnes" "[B")) (.int (Int32.ofNat 100))) ∈ nrw := ⟨List.mem_of_getElem? (i := 33) rfl, List.mem_of_getElem? (i := 34) rfl⟩
set_option maxRecDepth 20000 in
theorem en_eD0 : ∀ w ∈ (List.range 100).map (fun j => Cond.eq (.elem (.static "java/lang/Integer" "DigitOnes" "[B") (.int (Int32.ofNat j))) (.int (f_D 0 j))), w ∈ nrw := mem_r [35, 36, 37, 38, 39, 40, 41, 42, 43, 44, 45, 46, 47, 48, 49, 50, 51, 52, 53, 54, 55, 56, 57, 58, 59, 60, 61, 62, 63, 64, 65, 66, 67, 68, 69, 70, 71, 72, 73, 74, 75, 76, 77, 78, 79, 80, 81, 82, 83, 84, 85, 86, 87, 88, 89, 90, 91, 92, 93, 94, 95, 96, 97, 98, 99, 100, 101, 102, 103, 104, 105, 106, 107, 108, 109, 110, 111, 112, 113, 114, 115, 116, 117, 118, 119, 120, 121, 122, 123, 124, 125, 126, 127, 128, 129, 130, 131, 132, 133, 134] rfl
set_option maxRecDepth 20000 in
theorem en_rD1 : (Cond.arrayOf (.static "java/lang/Integer" "DigitTens" "[B") .byte) ∈ nrw ∧ (Cond.eq (.length (.static "java/lang/Integer" "DigitTens" "[B")) (.int (Int32.ofNat 100))) ∈ nrw := ⟨List.mem_of_getElem? (i := 136) rfl, List.mem_of_getElem? (i := 137) rfl⟩
set_option maxRecDepth 20000 in
theorem en_eD1 : ∀ w ∈ (List.range 100).map (fun j => Cond.eq (.elem (.static "java/lang/Integer" "DigitTens" "[B") (.int (Int32.ofNat j))) (.int (f_D 1 j))), w ∈ nrw := mem_r [138, 139, 140, 141, 142, 143, 144, 145, 146, 147, 148, 149, 150, 151, 152, 153, 154, 155, 156, 157, 158, 159, 160, 161, 162, 163, 164, 165, 166, 167, 168, 169, 170, 171, 172, 173, 174, 175, 176, 177, 178, 179, 180, 181, 182, 183, 184, 185, 186, 187, 188, 189, 190, 191, 192, 193, 194, 195, 196, 197, 198, 199, 200, 201, 202, 203, 204, 205, 206, 207, 208, 209, 210, 211, 212, 213, 214, 215, 216, 217, 218, 219, 220, 221, 222, 223, 224, 225, 226, 227, 228, 229, 230, 231, 232, 233, 234, 235, 236, 237] rfl
set_option maxRecDepth 20000 in
theorem en_w : (Cond.eq (.static "java/lang/String" "COMPACT_STRINGS" "Z") (.int 1)) ∈ nrw ∧ (Cond.isRef (.static "jdk/internal/util/Preconditions" "SIOOBE_FORMATTER" "Ljava/util/function/BiFunction;")) ∈ nrw := ⟨List.mem_of_getElem? (i := 4) rfl, List.mem_of_getElem? (i := 5) rfl⟩
