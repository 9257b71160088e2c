/-! the law's entry: what the Statement gives of the start, as the walk's own world -/
def nrw : List Cond := flatC (Jvm.Cond.and given_1 narrow_1)
def tmS (i : Nat) : Term := if i = 34 then .string "FlagAnts$Tokens" 32 else .string "FlagAntsModel" ([384, 385, 387, 389, 391, 393, 395, 397, 399, 401, 403, 405, 407, 409, 410, 411, 413, 415, 417, 419, 421, 422, 423, 425, 427, 428, 429, 431, 433, 435, 437, 439, 440, 93].getD i 0)
set_option maxRecDepth 20000 in
theorem en_ex : ∀ i, i < 35 → (Cond.exactly (tmS i) "java/lang/String") ∈ nrw := fun i h => mem_r (ws := (List.range 35).map (fun i => Cond.exactly (tmS i) "java/lang/String")) [677, 685, 693, 702, 714, 722, 729, 735, 741, 750, 759, 767, 776, 784, 793, 801, 807, 815, 823, 831, 839, 847, 855, 865, 873, 883, 890, 899, 909, 916, 923, 929, 936, 660, 110] rfl _ (List.mem_map.mpr ⟨i, List.mem_range.mpr h, rfl⟩)
set_option maxRecDepth 20000 in
theorem en_co : ∀ i, i < 35 → (Cond.eq (.field (tmS i) "java/lang/String" "coder" "B") (.int 0)) ∈ nrw := fun i h => mem_r (ws := (List.range 35).map (fun i => Cond.eq (.field (tmS i) "java/lang/String" "coder" "B") (.int 0))) [678, 686, 694, 703, 715, 723, 730, 736, 742, 751, 760, 768, 777, 785, 794, 802, 808, 816, 824, 832, 840, 848, 856, 866, 874, 884, 891, 900, 910, 917, 924, 930, 937, 661, 111] rfl _ (List.mem_map.mpr ⟨i, List.mem_range.mpr h, rfl⟩)
set_option maxRecDepth 20000 in
theorem en_ar : ∀ i, i < 35 → (Cond.arrayOf (.field (tmS i) "java/lang/String" "value" "[B") .byte) ∈ nrw := fun i h => mem_r (ws := (List.range 35).map (fun i => Cond.arrayOf (.field (tmS i) "java/lang/String" "value" "[B") .byte)) [679, 687, 695, 704, 716, 724, 731, 737, 743, 752, 761, 769, 778, 786, 795, 803, 809, 817, 825, 833, 841, 849, 857, 867, 875, 885, 892, 901, 911, 918, 925, 931, 938, 662, 112] rfl _ (List.mem_map.mpr ⟨i, List.mem_range.mpr h, rfl⟩)
set_option maxRecDepth 20000 in
theorem en_le : ∀ i, i < 35 → (Cond.eq (.length (.field (tmS i) "java/lang/String" "value" "[B")) (.int (Int32.ofNat (sN i)))) ∈ nrw := fun i h => mem_r (ws := (List.range 35).map (fun i => Cond.eq (.length (.field (tmS i) "java/lang/String" "value" "[B")) (.int (Int32.ofNat (sN i))))) [680, 688, 696, 705, 717, 725, 732, 738, 744, 753, 762, 770, 779, 787, 796, 804, 810, 818, 826, 834, 842, 850, 858, 868, 876, 886, 893, 902, 912, 919, 926, 932, 939, 663, 113] rfl _ (List.mem_map.mpr ⟨i, List.mem_range.mpr h, rfl⟩)
set_option maxRecDepth 20000 in
theorem en_el0 : ∀ w ∈ (List.range (sN 0)).map (fun j => Cond.eq (.elem (.field (tmS 0) "java/lang/String" "value" "[B") (.int (Int32.ofNat j))) (.int (sB 0 j))), w ∈ nrw := mem_r [681, 682, 683, 684] rfl
set_option maxRecDepth 20000 in
theorem en_el1 : ∀ w ∈ (List.range (sN 1)).map (fun j => Cond.eq (.elem (.field (tmS 1) "java/lang/String" "value" "[B") (.int (Int32.ofNat j))) (.int (sB 1 j))), w ∈ nrw := mem_r [689, 690, 691, 692] rfl
set_option maxRecDepth 20000 in
theorem en_el2 : ∀ w ∈ (List.range (sN 2)).map (fun j => Cond.eq (.elem (.field (tmS 2) "java/lang/String" "value" "[B") (.int (Int32.ofNat j))) (.int (sB 2 j))), w ∈ nrw := mem_r [697, 698, 699, 700, 701] rfl
set_option maxRecDepth 20000 in
theorem en_el3 : ∀ w ∈ (List.range (sN 3)).map (fun j => Cond.eq (.elem (.field (tmS 3) "java/lang/String" "value" "[B") (.int (Int32.ofNat j))) (.int (sB 3 j))), w ∈ nrw := mem_r [706, 707, 708, 709, 710, 711, 712, 713] rfl
set_option maxRecDepth 20000 in
theorem en_el4 : ∀ w ∈ (List.range (sN 4)).map (fun j => Cond.eq (.elem (.field (tmS 4) "java/lang/String" "value" "[B") (.int (Int32.ofNat j))) (.int (sB 4 j))), w ∈ nrw := mem_r [718, 719, 720, 721] rfl
set_option maxRecDepth 20000 in
theorem en_el5 : ∀ w ∈ (List.range (sN 5)).map (fun j => Cond.eq (.elem (.field (tmS 5) "java/lang/String" "value" "[B") (.int (Int32.ofNat j))) (.int (sB 5 j))), w ∈ nrw := mem_r [726, 727, 728] rfl
set_option maxRecDepth 20000 in
theorem en_el6 : ∀ w ∈ (List.range (sN 6)).map (fun j => Cond.eq (.elem (.field (tmS 6) "java/lang/String" "value" "[B") (.int (Int32.ofNat j))) (.int (sB 6 j))), w ∈ nrw := mem_r [733, 734] rfl
set_option maxRecDepth 20000 in
theorem en_el7 : ∀ w ∈ (List.range (sN 7)).map (fun j => Cond.eq (.elem (.field (tmS 7) "java/lang/String" "value" "[B") (.int (Int32.ofNat j))) (.int (sB 7 j))), w ∈ nrw := mem_r [739, 740] rfl
set_option maxRecDepth 20000 in
theorem en_el8 : ∀ w ∈ (List.range (sN 8)).map (fun j => Cond.eq (.elem (.field (tmS 8) "java/lang/String" "value" "[B") (.int (Int32.ofNat j))) (.int (sB 8 j))), w ∈ nrw := mem_r [745, 746, 747, 748, 749] rfl
set_option maxRecDepth 20000 in
theorem en_el9 : ∀ w ∈ (List.range (sN 9)).map (fun j => Cond.eq (.elem (.field (tmS 9) "java/lang/String" "value" "[B") (.int (Int32.ofNat j))) (.int (sB 9 j))), w ∈ nrw := mem_r [754, 755, 756, 757, 758] rfl
set_option maxRecDepth 20000 in
theorem en_el10 : ∀ w ∈ (List.range (sN 10)).map (fun j => Cond.eq (.elem (.field (tmS 10) "java/lang/String" "value" "[B") (.int (Int32.ofNat j))) (.int (sB 10 j))), w ∈ nrw := mem_r [763, 764, 765, 766] rfl
set_option maxRecDepth 20000 in
theorem en_el11 : ∀ w ∈ (List.range (sN 11)).map (fun j => Cond.eq (.elem (.field (tmS 11) "java/lang/String" "value" "[B") (.int (Int32.ofNat j))) (.int (sB 11 j))), w ∈ nrw := mem_r [771, 772, 773, 774, 775] rfl
set_option maxRecDepth 20000 in
theorem en_el12 : ∀ w ∈ (List.range (sN 12)).map (fun j => Cond.eq (.elem (.field (tmS 12) "java/lang/String" "value" "[B") (.int (Int32.ofNat j))) (.int (sB 12 j))), w ∈ nrw := mem_r [780, 781, 782, 783] rfl
set_option maxRecDepth 20000 in
theorem en_el13 : ∀ w ∈ (List.range (sN 13)).map (fun j => Cond.eq (.elem (.field (tmS 13) "java/lang/String" "value" "[B") (.int (Int32.ofNat j))) (.int (sB 13 j))), w ∈ nrw := mem_r [788, 789, 790, 791, 792] rfl
set_option maxRecDepth 20000 in
theorem en_el14 : ∀ w ∈ (List.range (sN 14)).map (fun j => Cond.eq (.elem (.field (tmS 14) "java/lang/String" "value" "[B") (.int (Int32.ofNat j))) (.int (sB 14 j))), w ∈ nrw := mem_r [797, 798, 799, 800] rfl
set_option maxRecDepth 20000 in
theorem en_el15 : ∀ w ∈ (List.range (sN 15)).map (fun j => Cond.eq (.elem (.field (tmS 15) "java/lang/String" "value" "[B") (.int (Int32.ofNat j))) (.int (sB 15 j))), w ∈ nrw := mem_r [805, 806] rfl
set_option maxRecDepth 20000 in
theorem en_el16 : ∀ w ∈ (List.range (sN 16)).map (fun j => Cond.eq (.elem (.field (tmS 16) "java/lang/String" "value" "[B") (.int (Int32.ofNat j))) (.int (sB 16 j))), w ∈ nrw := mem_r [811, 812, 813, 814] rfl
set_option maxRecDepth 20000 in
theorem en_el17 : ∀ w ∈ (List.range (sN 17)).map (fun j => Cond.eq (.elem (.field (tmS 17) "java/lang/String" "value" "[B") (.int (Int32.ofNat j))) (.int (sB 17 j))), w ∈ nrw := mem_r [819, 820, 821, 822] rfl
set_option maxRecDepth 20000 in
theorem en_el18 : ∀ w ∈ (List.range (sN 18)).map (fun j => Cond.eq (.elem (.field (tmS 18) "java/lang/String" "value" "[B") (.int (Int32.ofNat j))) (.int (sB 18 j))), w ∈ nrw := mem_r [827, 828, 829, 830] rfl
set_option maxRecDepth 20000 in
theorem en_el19 : ∀ w ∈ (List.range (sN 19)).map (fun j => Cond.eq (.elem (.field (tmS 19) "java/lang/String" "value" "[B") (.int (Int32.ofNat j))) (.int (sB 19 j))), w ∈ nrw := mem_r [835, 836, 837, 838] rfl
set_option maxRecDepth 20000 in
theorem en_el20 : ∀ w ∈ (List.range (sN 20)).map (fun j => Cond.eq (.elem (.field (tmS 20) "java/lang/String" "value" "[B") (.int (Int32.ofNat j))) (.int (sB 20 j))), w ∈ nrw := mem_r [843, 844, 845, 846] rfl
set_option maxRecDepth 20000 in
theorem en_el21 : ∀ w ∈ (List.range (sN 21)).map (fun j => Cond.eq (.elem (.field (tmS 21) "java/lang/String" "value" "[B") (.int (Int32.ofNat j))) (.int (sB 21 j))), w ∈ nrw := mem_r [851, 852, 853, 854] rfl
set_option maxRecDepth 20000 in
theorem en_el22 : ∀ w ∈ (List.range (sN 22)).map (fun j => Cond.eq (.elem (.field (tmS 22) "java/lang/String" "value" "[B") (.int (Int32.ofNat j))) (.int (sB 22 j))), w ∈ nrw := mem_r [859, 860, 861, 862, 863, 864] rfl
set_option maxRecDepth 20000 in
theorem en_el23 : ∀ w ∈ (List.range (sN 23)).map (fun j => Cond.eq (.elem (.field (tmS 23) "java/lang/String" "value" "[B") (.int (Int32.ofNat j))) (.int (sB 23 j))), w ∈ nrw := mem_r [869, 870, 871, 872] rfl
set_option maxRecDepth 20000 in
theorem en_el24 : ∀ w ∈ (List.range (sN 24)).map (fun j => Cond.eq (.elem (.field (tmS 24) "java/lang/String" "value" "[B") (.int (Int32.ofNat j))) (.int (sB 24 j))), w ∈ nrw := mem_r [877, 878, 879, 880, 881, 882] rfl
set_option maxRecDepth 20000 in
theorem en_el25 : ∀ w ∈ (List.range (sN 25)).map (fun j => Cond.eq (.elem (.field (tmS 25) "java/lang/String" "value" "[B") (.int (Int32.ofNat j))) (.int (sB 25 j))), w ∈ nrw := mem_r [887, 888, 889] rfl
set_option maxRecDepth 20000 in
theorem en_el26 : ∀ w ∈ (List.range (sN 26)).map (fun j => Cond.eq (.elem (.field (tmS 26) "java/lang/String" "value" "[B") (.int (Int32.ofNat j))) (.int (sB 26 j))), w ∈ nrw := mem_r [894, 895, 896, 897, 898] rfl
set_option maxRecDepth 20000 in
theorem en_el27 : ∀ w ∈ (List.range (sN 27)).map (fun j => Cond.eq (.elem (.field (tmS 27) "java/lang/String" "value" "[B") (.int (Int32.ofNat j))) (.int (sB 27 j))), w ∈ nrw := mem_r [903, 904, 905, 906, 907, 908] rfl
set_option maxRecDepth 20000 in
theorem en_el28 : ∀ w ∈ (List.range (sN 28)).map (fun j => Cond.eq (.elem (.field (tmS 28) "java/lang/String" "value" "[B") (.int (Int32.ofNat j))) (.int (sB 28 j))), w ∈ nrw := mem_r [913, 914, 915] rfl
set_option maxRecDepth 20000 in
theorem en_el29 : ∀ w ∈ (List.range (sN 29)).map (fun j => Cond.eq (.elem (.field (tmS 29) "java/lang/String" "value" "[B") (.int (Int32.ofNat j))) (.int (sB 29 j))), w ∈ nrw := mem_r [920, 921, 922] rfl
set_option maxRecDepth 20000 in
theorem en_el30 : ∀ w ∈ (List.range (sN 30)).map (fun j => Cond.eq (.elem (.field (tmS 30) "java/lang/String" "value" "[B") (.int (Int32.ofNat j))) (.int (sB 30 j))), w ∈ nrw := mem_r [927, 928] rfl
set_option maxRecDepth 20000 in
theorem en_el31 : ∀ w ∈ (List.range (sN 31)).map (fun j => Cond.eq (.elem (.field (tmS 31) "java/lang/String" "value" "[B") (.int (Int32.ofNat j))) (.int (sB 31 j))), w ∈ nrw := mem_r [933, 934, 935] rfl
set_option maxRecDepth 20000 in
theorem en_el32 : ∀ w ∈ (List.range (sN 32)).map (fun j => Cond.eq (.elem (.field (tmS 32) "java/lang/String" "value" "[B") (.int (Int32.ofNat j))) (.int (sB 32 j))), w ∈ nrw := mem_r [940, 941, 942] rfl
set_option maxRecDepth 20000 in
theorem en_el33 : ∀ w ∈ (List.range (sN 33)).map (fun j => Cond.eq (.elem (.field (tmS 33) "java/lang/String" "value" "[B") (.int (Int32.ofNat j))) (.int (sB 33 j))), w ∈ nrw := mem_r [664, 665, 666, 667, 668, 669, 670, 671, 672, 673, 674, 675, 676] rfl
set_option maxRecDepth 20000 in
theorem en_el34 : ∀ w ∈ (List.range (sN 34)).map (fun j => Cond.eq (.elem (.field (tmS 34) "java/lang/String" "value" "[B") (.int (Int32.ofNat j))) (.int (sB 34 j))), w ∈ nrw := mem_r [114, 115, 116, 117, 118, 119, 120, 121, 122, 123, 124, 125, 126, 127, 128, 129, 130, 131, 132, 133, 134, 135, 136, 137, 138, 139, 140, 141, 142, 143, 144, 145, 146, 147, 148, 149, 150, 151, 152, 153, 154, 155, 156, 157, 158, 159, 160, 161, 162, 163, 164, 165, 166, 167, 168, 169, 170, 171, 172, 173, 174, 175, 176, 177, 178, 179, 180, 181, 182, 183, 184, 185, 186, 187, 188, 189, 190, 191, 192, 193, 194, 195, 196, 197, 198, 199, 200, 201, 202, 203, 204, 205, 206, 207, 208, 209, 210, 211, 212, 213, 214, 215, 216, 217, 218, 219, 220, 221, 222, 223, 224, 225, 226, 227, 228, 229, 230, 231, 232, 233, 234, 235, 236, 237, 238, 239, 240, 241, 242, 243, 244, 245, 246, 247, 248, 249, 250, 251, 252, 253, 254, 255, 256, 257, 258, 259, 260, 261, 262, 263, 264, 265, 266, 267, 268, 269, 270, 271, 272, 273, 274, 275, 276, 277, 278, 279, 280] rfl
theorem en_el (i : Nat) (hi : i < 35) (j : Nat) (hj : j < sN i) : (Cond.eq (.elem (.field (tmS i) "java/lang/String" "value" "[B") (.int (Int32.ofNat j))) (.int (sB i j))) ∈ nrw := by
  match i, hi with
  | 0, _ => exact en_el0 _ (List.mem_map.mpr ⟨j, List.mem_range.mpr hj, rfl⟩)
  | 1, _ => exact en_el1 _ (List.mem_map.mpr ⟨j, List.mem_range.mpr hj, rfl⟩)
  | 2, _ => exact en_el2 _ (List.mem_map.mpr ⟨j, List.mem_range.mpr hj, rfl⟩)
  | 3, _ => exact en_el3 _ (List.mem_map.mpr ⟨j, List.mem_range.mpr hj, rfl⟩)
  | 4, _ => exact en_el4 _ (List.mem_map.mpr ⟨j, List.mem_range.mpr hj, rfl⟩)
  | 5, _ => exact en_el5 _ (List.mem_map.mpr ⟨j, List.mem_range.mpr hj, rfl⟩)
  | 6, _ => exact en_el6 _ (List.mem_map.mpr ⟨j, List.mem_range.mpr hj, rfl⟩)
  | 7, _ => exact en_el7 _ (List.mem_map.mpr ⟨j, List.mem_range.mpr hj, rfl⟩)
  | 8, _ => exact en_el8 _ (List.mem_map.mpr ⟨j, List.mem_range.mpr hj, rfl⟩)
  | 9, _ => exact en_el9 _ (List.mem_map.mpr ⟨j, List.mem_range.mpr hj, rfl⟩)
  | 10, _ => exact en_el10 _ (List.mem_map.mpr ⟨j, List.mem_range.mpr hj, rfl⟩)
  | 11, _ => exact en_el11 _ (List.mem_map.mpr ⟨j, List.mem_range.mpr hj, rfl⟩)
  | 12, _ => exact en_el12 _ (List.mem_map.mpr ⟨j, List.mem_range.mpr hj, rfl⟩)
  | 13, _ => exact en_el13 _ (List.mem_map.mpr ⟨j, List.mem_range.mpr hj, rfl⟩)
  | 14, _ => exact en_el14 _ (List.mem_map.mpr ⟨j, List.mem_range.mpr hj, rfl⟩)
  | 15, _ => exact en_el15 _ (List.mem_map.mpr ⟨j, List.mem_range.mpr hj, rfl⟩)
  | 16, _ => exact en_el16 _ (List.mem_map.mpr ⟨j, List.mem_range.mpr hj, rfl⟩)
  | 17, _ => exact en_el17 _ (List.mem_map.mpr ⟨j, List.mem_range.mpr hj, rfl⟩)
  | 18, _ => exact en_el18 _ (List.mem_map.mpr ⟨j, List.mem_range.mpr hj, rfl⟩)
  | 19, _ => exact en_el19 _ (List.mem_map.mpr ⟨j, List.mem_range.mpr hj, rfl⟩)
  | 20, _ => exact en_el20 _ (List.mem_map.mpr ⟨j, List.mem_range.mpr hj, rfl⟩)
  | 21, _ => exact en_el21 _ (List.mem_map.mpr ⟨j, List.mem_range.mpr hj, rfl⟩)
  | 22, _ => exact en_el22 _ (List.mem_map.mpr ⟨j, List.mem_range.mpr hj, rfl⟩)
  | 23, _ => exact en_el23 _ (List.mem_map.mpr ⟨j, List.mem_range.mpr hj, rfl⟩)
  | 24, _ => exact en_el24 _ (List.mem_map.mpr ⟨j, List.mem_range.mpr hj, rfl⟩)
  | 25, _ => exact en_el25 _ (List.mem_map.mpr ⟨j, List.mem_range.mpr hj, rfl⟩)
  | 26, _ => exact en_el26 _ (List.mem_map.mpr ⟨j, List.mem_range.mpr hj, rfl⟩)
  | 27, _ => exact en_el27 _ (List.mem_map.mpr ⟨j, List.mem_range.mpr hj, rfl⟩)
  | 28, _ => exact en_el28 _ (List.mem_map.mpr ⟨j, List.mem_range.mpr hj, rfl⟩)
  | 29, _ => exact en_el29 _ (List.mem_map.mpr ⟨j, List.mem_range.mpr hj, rfl⟩)
  | 30, _ => exact en_el30 _ (List.mem_map.mpr ⟨j, List.mem_range.mpr hj, rfl⟩)
  | 31, _ => exact en_el31 _ (List.mem_map.mpr ⟨j, List.mem_range.mpr hj, rfl⟩)
  | 32, _ => exact en_el32 _ (List.mem_map.mpr ⟨j, List.mem_range.mpr hj, rfl⟩)
  | 33, _ => exact en_el33 _ (List.mem_map.mpr ⟨j, List.mem_range.mpr hj, rfl⟩)
  | 34, _ => exact en_el34 _ (List.mem_map.mpr ⟨j, List.mem_range.mpr hj, rfl⟩)
  | i + 35, hi => omega
set_option maxRecDepth 20000 in
theorem en_wd : ∀ i, i < 33 → (Cond.eq (.elem (.static "FlagAntsModel" "WORDS" "[Ljava/lang/String;") (.int (Int32.ofNat i))) (tmS i)) ∈ nrw := fun i h => mem_r (ws := (List.range 33).map (fun i => Cond.eq (.elem (.static "FlagAntsModel" "WORDS" "[Ljava/lang/String;") (.int (Int32.ofNat i))) (tmS i))) [35, 36, 37, 38, 39, 40, 41, 42, 43, 44, 45, 46, 47, 48, 49, 50, 51, 52, 53, 54, 55, 56, 57, 58, 59, 60, 61, 62, 63, 64, 65, 66, 67] rfl _ (List.mem_map.mpr ⟨i, List.mem_range.mpr h, rfl⟩)
theorem str_of {args : Array Value} {s : State} {N : Nat} {tm : Nat → Term} {len : List Nat} {byt : List (List Int32)} {A : Nat → Prop} (hN : ∀ i : Nat, i < N → len.getD i 0 < 2 ^ 31) (hex : ∀ i : Nat, i < N → (Cond.exactly (tm i) "java/lang/String").before args s = true) (hco : ∀ i : Nat, i < N → (Cond.eq (.field (tm i) "java/lang/String" "coder" "B") (.int 0)).before args s = true)
    (har : ∀ i : Nat, i < N → (Cond.arrayOf (.field (tm i) "java/lang/String" "value" "[B") .byte).before args s = true) (hle : ∀ i : Nat, i < N → (Cond.eq (.length (.field (tm i) "java/lang/String" "value" "[B")) (.int (Int32.ofNat (len.getD i 0)))).before args s = true)
    (hel : ∀ i : Nat, i < N → ∀ j : Nat, j < len.getD i 0 → (Cond.eq (.elem (.field (tm i) "java/lang/String" "value" "[B") (.int (Int32.ofNat j))) (.int ((byt.getD i []).getD j 0))).before args s = true)
    (hdf : ∀ i : Nat, i < N → ∀ j : Nat, j < N → len.getD i 0 = len.getD j 0 → (∀ k : Nat, k < len.getD i 0 → (byt.getD i []).getD k 0 = (byt.getD j []).getD k 0) → i = j) (hA : ∀ a : Nat, a < s.heap.size → ¬ A a) :
    ∃ adK adV : Nat → Nat, vk_S N len byt adK adV A s s.heap ∧ ∀ i : Nat, i < N → (tm i).eval args s none [] s = some (.ref (adK i)) := by
  refine vk_Sof hN hex hco har hle hel (fun i j hi hj hij => Or.inl ?_) hA
  obtain ⟨a, -, -, -, ha, -⟩ := Cond.exactly_spec (args := args) (first := s) (o := none) (s := s) (idx := []) (t := tm i) (cls := "java/lang/String") (hex i hi)
  obtain ⟨b, -, -, -, hb, -⟩ := Cond.exactly_spec (args := args) (first := s) (o := none) (s := s) (idx := []) (t := tm j) (cls := "java/lang/String") (hex j hj)
  have hne : a ≠ b := by
    intro e
    subst e
    have hf : (Term.field (tm i) "java/lang/String" "value" "[B").eval args s none [] s = (Term.field (tm j) "java/lang/String" "value" "[B").eval args s none [] s := by rw [va_fe ha, va_fe hb]
    have h1 := va_eqt (hle i hi)
    have h2 := va_eqt (hle j hj)
    have hl : (Term.length (Term.field (tm i) "java/lang/String" "value" "[B")).eval args s none [] s = (Term.length (Term.field (tm j) "java/lang/String" "value" "[B")).eval args s none [] s := by simp only [Term.eval, ha, hb]
    rw [hl, h2] at h1
    have h3 : Int32.ofNat (len.getD j 0) = Int32.ofNat (len.getD i 0) := by injection (Option.some.inj h1)
    have h4 : len.getD i 0 = len.getD j 0 := by
      have h5 := congrArg Int32.toInt h3
      rw [Int32.toInt_ofNat_of_lt (hN i hi), Int32.toInt_ofNat_of_lt (hN j hj)] at h5
      omega
    refine hij (hdf i hi j hj h4 (fun k hk => ?_))
    have g1 := va_eqt (hel i hi k hk)
    have g2 := va_eqt (hel j hj k (h4 ▸ hk))
    have hl2 : (Term.elem (Term.field (tm i) "java/lang/String" "value" "[B") (Term.int (Int32.ofNat k))).eval args s none [] s = (Term.elem (Term.field (tm j) "java/lang/String" "value" "[B") (Term.int (Int32.ofNat k))).eval args s none [] s := by simp only [Term.eval, ha, hb]
    rw [hl2, g2] at g1
    injection (Option.some.inj g1) with g3
    exact g3.symm
  simp [Cond.before, Cond.holds, Cond.value, ha, hb, hne]
theorem en_df : ∀ i : Nat, i < 35 → ∀ j : Nat, j < 35 → sLen.getD i 0 = sLen.getD j 0 → (∀ k : Nat, k < sLen.getD i 0 → (sByt.getD i []).getD k 0 = (sByt.getD j []).getD k 0) → i = j := by decide +kernel
set_option maxRecDepth 20000 in
theorem en_F : ∀ w ∈ nestF.map (fun q => Cond.fieldLinkNest q.1 q.2.1 q.2.2.1 q.2.2.2.1 q.2.2.2.2.1 q.2.2.2.2.2), w ∈ lw_tbl := mem_r [1185, 1224, 1226, 1207, 1219, 1222, 1228, 1229, 1178, 1181, 1184, 1187, 1206, 1210, 1189, 1195, 1198, 1204, 1192, 1201, 1213, 1216, 1282, 1287, 1289, 1291, 1293, 1295, 1297, 1299, 1363, 1203, 1194, 1197, 1200, 1191, 1180, 1183, 1186, 1212, 1215, 1209, 1205, 1218, 1221, 1225] rfl
set_option maxRecDepth 20000 in
theorem en_M : ∀ w ∈ nestM.map (fun q => Cond.methodLinkNest q.1 q.2.1 q.2.2.1 q.2.2.2), w ∈ lw_tbl := mem_r [146, 162, 399, 435, 219, 636, 1174, 1277, 1842, 1779, 1795, 1796] rfl
set_option maxRecDepth 20000 in
theorem en_C : ∀ w ∈ castL.map (fun q => Cond.castable q.1 q.2), w ∈ lw_tbl := mem_r [1015, 986, 883] rfl
set_option maxRecDepth 20000 in
theorem en_D : ∀ w ∈ declL.map (fun q => Cond.declares q), w ∈ lw_tbl := mem_r [885, 887, 889] rfl
set_option maxRecDepth 20000 in
theorem en_N : ∀ w ∈ ncL.map (fun q => Cond.not (.castable q.1 q.2)), w ∈ nrw := mem_r [109, 95] rfl
set_option maxRecDepth 20000 in
theorem en_S : ∀ w ∈ strL.map (fun q => Cond.stringRef q.1 q.2.1 q.2.2), w ∈ lw_tbl := mem_r [993, 1022, 922, 1047, 1056, 1064, 1072, 1084, 1100, 1109, 1118, 1126, 1136, 1150, 1165, 317, 1451] rfl
set_option maxRecDepth 20000 in
theorem en_X : ∀ w ∈ strL.map (fun q => Cond.exactly (.string q.1 q.2.1) "java/lang/String"), w ∈ nrw := mem_r [304, 341, 281, 371, 388, 406, 421, 447, 485, 525, 548, 563, 587, 613, 635, 110, 660] rfl
set_option maxRecDepth 20000 in
theorem en_l0 : (Cond.laysStatic "FlagAnts$Ant" "EAST" "[I") ∈ lw_tbl ∧ (Cond.initialized "FlagAnts$Ant") ∈ lw_tbl := ⟨List.mem_of_getElem? (i := 756) rfl, List.mem_of_getElem? (i := 115) rfl⟩
set_option maxRecDepth 20000 in
theorem en_l1 : (Cond.laysStatic "FlagAnts$Ant" "SOUTH" "[I") ∈ lw_tbl ∧ (Cond.initialized "FlagAnts$Ant") ∈ lw_tbl := ⟨List.mem_of_getElem? (i := 758) rfl, List.mem_of_getElem? (i := 115) rfl⟩
set_option maxRecDepth 20000 in
theorem en_l2 : (Cond.laysStatic "FlagAnts$Ant" "TURN_BY" "[I") ∈ lw_tbl ∧ (Cond.initialized "FlagAnts$Ant") ∈ lw_tbl := ⟨List.mem_of_getElem? (i := 857) rfl, List.mem_of_getElem? (i := 115) rfl⟩
set_option maxRecDepth 20000 in
theorem en_l3 : (Cond.laysStatic "FlagAntsModel" "WORDS" "[Ljava/lang/String;") ∈ lw_tbl ∧ (Cond.initialized "FlagAntsModel") ∈ lw_tbl := ⟨List.mem_of_getElem? (i := 1448) rfl, List.mem_of_getElem? (i := 124) rfl⟩
set_option maxRecDepth 20000 in
theorem en_l4 : (Cond.laysStatic "java/lang/String" "COMPACT_STRINGS" "Z") ∈ lw_tbl ∧ (Cond.initialized "java/lang/String") ∈ lw_tbl := ⟨List.mem_of_getElem? (i := 327) rfl, List.mem_of_getElem? (i := 118) rfl⟩
set_option maxRecDepth 20000 in
theorem en_l5 : (Cond.laysStatic "jdk/internal/util/Preconditions" "SIOOBE_FORMATTER" "Ljava/util/function/BiFunction;") ∈ lw_tbl ∧ (Cond.initialized "jdk/internal/util/Preconditions") ∈ lw_tbl := ⟨List.mem_of_getElem? (i := 343) rfl, List.mem_of_getElem? (i := 120) rfl⟩
set_option maxRecDepth 20000 in
theorem en_l6 : (Cond.laysStatic "java/lang/Throwable" "UNASSIGNED_STACK" "[Ljava/lang/StackTraceElement;") ∈ lw_tbl ∧ (Cond.initialized "java/lang/Throwable") ∈ lw_tbl := ⟨List.mem_of_getElem? (i := 908) rfl, List.mem_of_getElem? (i := 128) rfl⟩
set_option maxRecDepth 20000 in
theorem en_l7 : (Cond.laysStatic "java/lang/Throwable" "SUPPRESSED_SENTINEL" "Ljava/util/List;") ∈ lw_tbl ∧ (Cond.initialized "java/lang/Throwable") ∈ lw_tbl := ⟨List.mem_of_getElem? (i := 910) rfl, List.mem_of_getElem? (i := 128) rfl⟩
set_option maxRecDepth 20000 in
theorem en_i0 : (Cond.instantiable RX0 9) ∈ lw_tbl := List.mem_of_getElem? (i := 218) rfl
set_option maxRecDepth 20000 in
theorem en_i1 : (Cond.instantiable RX2 8) ∈ lw_tbl := List.mem_of_getElem? (i := 302) rfl
set_option maxRecDepth 20000 in
theorem en_i2 : (Cond.instantiable RX3 11) ∈ lw_tbl := List.mem_of_getElem? (i := 161) rfl
set_option maxRecDepth 20000 in
theorem en_i3 : (Cond.instantiable RX4 2) ∈ lw_tbl := List.mem_of_getElem? (i := 434) rfl
set_option maxRecDepth 20000 in
theorem en_i4 : (Cond.instantiable RX5 2) ∈ lw_tbl := List.mem_of_getElem? (i := 428) rfl
set_option maxRecDepth 20000 in
theorem en_i5 : (Cond.instantiable RX6 2) ∈ lw_tbl := List.mem_of_getElem? (i := 145) rfl
set_option maxRecDepth 20000 in
theorem en_i6 : (Cond.instantiable RX7 6) ∈ lw_tbl := List.mem_of_getElem? (i := 308) rfl
set_option maxRecDepth 20000 in
theorem en_i7 : (Cond.instantiable RX8 9) ∈ lw_tbl := List.mem_of_getElem? (i := 211) rfl
set_option maxRecDepth 20000 in
theorem en_i8 : (Cond.instantiable RX9 7) ∈ lw_tbl := List.mem_of_getElem? (i := 137) rfl
set_option maxRecDepth 20000 in
theorem en_i9 : (Cond.instantiable RX10 22) ∈ lw_tbl := List.mem_of_getElem? (i := 1173) rfl
set_option maxRecDepth 20000 in
theorem en_i10 : (Cond.instantiable RX11 16) ∈ lw_tbl := List.mem_of_getElem? (i := 1276) rfl
set_option maxRecDepth 20000 in
theorem en_i11 : (Cond.instantiable RX12 15) ∈ lw_tbl := List.mem_of_getElem? (i := 1167) rfl
set_option maxRecDepth 20000 in
theorem en_aI : (Cond.arrayClass .int) ∈ lw_tbl := List.mem_of_getElem? (i := 159) rfl
set_option maxRecDepth 20000 in
theorem en_aJ : (Cond.arrayClass .long) ∈ lw_tbl := List.mem_of_getElem? (i := 396) rfl
set_option maxRecDepth 20000 in
theorem en_aO : (Cond.arrayOver (.object "FlagAnts$Ant")) ∈ lw_tbl := List.mem_of_getElem? (i := 217) rfl
set_option maxRecDepth 20000 in
theorem en_rf_E : (Cond.arrayOf (.static "FlagAnts$Ant" "EAST" "[I") .int) ∈ nrw ∧ (Cond.eq (.length (.static "FlagAnts$Ant" "EAST" "[I")) (.int (Int32.ofNat 4))) ∈ nrw := ⟨List.mem_of_getElem? (i := 10) rfl, List.mem_of_getElem? (i := 11) rfl⟩
set_option maxRecDepth 20000 in
theorem en_ef_E : ∀ w ∈ (List.range 4).map (fun j => Cond.eq (.elem (.static "FlagAnts$Ant" "EAST" "[I") (.int (Int32.ofNat j))) (.int (f_E j))), w ∈ nrw := mem_r [12, 13, 14, 15] rfl
set_option maxRecDepth 20000 in
theorem en_rf_S : (Cond.arrayOf (.static "FlagAnts$Ant" "SOUTH" "[I") .int) ∈ nrw ∧ (Cond.eq (.length (.static "FlagAnts$Ant" "SOUTH" "[I")) (.int (Int32.ofNat 4))) ∈ nrw := ⟨List.mem_of_getElem? (i := 17) rfl, List.mem_of_getElem? (i := 18) rfl⟩
set_option maxRecDepth 20000 in
theorem en_ef_S : ∀ w ∈ (List.range 4).map (fun j => Cond.eq (.elem (.static "FlagAnts$Ant" "SOUTH" "[I") (.int (Int32.ofNat j))) (.int (f_S j))), w ∈ nrw := mem_r [19, 20, 21, 22] rfl
set_option maxRecDepth 20000 in
theorem en_rf_T : (Cond.arrayOf (.static "FlagAnts$Ant" "TURN_BY" "[I") .int) ∈ nrw ∧ (Cond.eq (.length (.static "FlagAnts$Ant" "TURN_BY" "[I")) (.int (Int32.ofNat 4))) ∈ nrw := ⟨List.mem_of_getElem? (i := 24) rfl, List.mem_of_getElem? (i := 25) rfl⟩
set_option maxRecDepth 20000 in
theorem en_ef_T : ∀ w ∈ (List.range 4).map (fun j => Cond.eq (.elem (.static "FlagAnts$Ant" "TURN_BY" "[I") (.int (Int32.ofNat j))) (.int (f_T j))), w ∈ nrw := mem_r [26, 27, 28, 29] rfl
set_option maxRecDepth 20000 in
theorem en_w : (Cond.arrayOf (.static "FlagAntsModel" "WORDS" "[Ljava/lang/String;") (.object "java/lang/String")) ∈ nrw ∧ (Cond.eq (.length (.static "FlagAntsModel" "WORDS" "[Ljava/lang/String;")) (.int (Int32.ofNat 33))) ∈ nrw ∧ (Cond.eq (.static "java/lang/String" "COMPACT_STRINGS" "Z") (.int 1)) ∈ nrw ∧ (Cond.isRef (.static "jdk/internal/util/Preconditions" "SIOOBE_FORMATTER" "Ljava/util/function/BiFunction;")) ∈ nrw ∧ (Cond.isRef (.static "java/lang/Throwable" "UNASSIGNED_STACK" "[Ljava/lang/StackTraceElement;")) ∈ nrw ∧ (Cond.isRef (.static "java/lang/Throwable" "SUPPRESSED_SENTINEL" "Ljava/util/List;")) ∈ nrw := ⟨List.mem_of_getElem? (i := 33) rfl, List.mem_of_getElem? (i := 34) rfl, List.mem_of_getElem? (i := 4) rfl, List.mem_of_getElem? (i := 5) rfl, List.mem_of_getElem? (i := 30) rfl, List.mem_of_getElem? (i := 31) rfl⟩
