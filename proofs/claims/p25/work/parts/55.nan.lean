/-! the mean is a number -/
def nanOk (n : Nat) : Bool := decide ((FP.ddiv (FP.i2d (Int32.ofNat n)) (4661225614328463360 : UInt64)) &&& 0x7fffffffffffffff ≤ 0x7ff0000000000000 ∧ FP.dcmp (FP.ddiv (FP.i2d (Int32.ofNat n)) (4661225614328463360 : UInt64)) (FP.ddiv (FP.i2d (Int32.ofNat n)) (4661225614328463360 : UInt64)) = some Ordering.eq)
theorem nan_0 : ∀ b : Nat, b < 144 → nanOk (144 * 0 + b) = true := by decide +kernel
theorem nan_1 : ∀ b : Nat, b < 144 → nanOk (144 * 1 + b) = true := by decide +kernel
theorem nan_2 : ∀ b : Nat, b < 144 → nanOk (144 * 2 + b) = true := by decide +kernel
theorem nan_3 : ∀ b : Nat, b < 144 → nanOk (144 * 3 + b) = true := by decide +kernel
theorem nan_4 : ∀ b : Nat, b < 144 → nanOk (144 * 4 + b) = true := by decide +kernel
theorem nan_5 : ∀ b : Nat, b < 144 → nanOk (144 * 5 + b) = true := by decide +kernel
theorem nan_6 : ∀ b : Nat, b < 144 → nanOk (144 * 6 + b) = true := by decide +kernel
theorem nan_7 : ∀ b : Nat, b < 144 → nanOk (144 * 7 + b) = true := by decide +kernel
theorem nan_8 : ∀ b : Nat, b < 144 → nanOk (144 * 8 + b) = true := by decide +kernel
theorem nan_9 : ∀ b : Nat, b < 144 → nanOk (144 * 9 + b) = true := by decide +kernel
theorem nan_10 : ∀ b : Nat, b < 144 → nanOk (144 * 10 + b) = true := by decide +kernel
theorem nan_11 : ∀ b : Nat, b < 144 → nanOk (144 * 11 + b) = true := by decide +kernel
theorem nan_12 : ∀ b : Nat, b < 144 → nanOk (144 * 12 + b) = true := by decide +kernel
theorem nan_13 : ∀ b : Nat, b < 144 → nanOk (144 * 13 + b) = true := by decide +kernel
theorem nan_14 : ∀ b : Nat, b < 144 → nanOk (144 * 14 + b) = true := by decide +kernel
theorem nan_15 : ∀ b : Nat, b < 144 → nanOk (144 * 15 + b) = true := by decide +kernel
theorem nan_16 : ∀ b : Nat, b < 144 → nanOk (144 * 16 + b) = true := by decide +kernel
theorem nan_17 : ∀ b : Nat, b < 144 → nanOk (144 * 17 + b) = true := by decide +kernel
theorem nan_18 : ∀ b : Nat, b < 144 → nanOk (144 * 18 + b) = true := by decide +kernel
theorem nan_19 : ∀ b : Nat, b < 144 → nanOk (144 * 19 + b) = true := by decide +kernel
theorem nan_20 : ∀ b : Nat, b < 144 → nanOk (144 * 20 + b) = true := by decide +kernel
theorem nan_21 : ∀ b : Nat, b < 144 → nanOk (144 * 21 + b) = true := by decide +kernel
theorem nan_22 : ∀ b : Nat, b < 144 → nanOk (144 * 22 + b) = true := by decide +kernel
theorem nan_23 : ∀ b : Nat, b < 144 → nanOk (144 * 23 + b) = true := by decide +kernel
theorem nan_24 : ∀ b : Nat, b < 144 → nanOk (144 * 24 + b) = true := by decide +kernel
theorem nan_25 : ∀ b : Nat, b < 144 → nanOk (144 * 25 + b) = true := by decide +kernel
theorem nan_26 : ∀ b : Nat, b < 144 → nanOk (144 * 26 + b) = true := by decide +kernel
theorem nan_27 : ∀ b : Nat, b < 144 → nanOk (144 * 27 + b) = true := by decide +kernel
theorem nan_28 : ∀ b : Nat, b < 144 → nanOk (144 * 28 + b) = true := by decide +kernel
theorem nan_29 : ∀ b : Nat, b < 144 → nanOk (144 * 29 + b) = true := by decide +kernel
theorem nan_30 : ∀ b : Nat, b < 144 → nanOk (144 * 30 + b) = true := by decide +kernel
theorem nan_31 : ∀ b : Nat, b < 144 → nanOk (144 * 31 + b) = true := by decide +kernel
theorem nan_32 : ∀ b : Nat, b < 144 → nanOk (144 * 32 + b) = true := by decide +kernel
theorem nan_33 : ∀ b : Nat, b < 144 → nanOk (144 * 33 + b) = true := by decide +kernel
theorem nan_34 : ∀ b : Nat, b < 144 → nanOk (144 * 34 + b) = true := by decide +kernel
theorem nan_35 : ∀ b : Nat, b < 144 → nanOk (144 * 35 + b) = true := by decide +kernel
theorem nan_36 : ∀ b : Nat, b < 144 → nanOk (144 * 36 + b) = true := by decide +kernel
theorem nan_37 : ∀ b : Nat, b < 144 → nanOk (144 * 37 + b) = true := by decide +kernel
theorem nan_38 : ∀ b : Nat, b < 144 → nanOk (144 * 38 + b) = true := by decide +kernel
theorem nan_39 : ∀ b : Nat, b < 144 → nanOk (144 * 39 + b) = true := by decide +kernel
theorem nan_40 : ∀ b : Nat, b < 144 → nanOk (144 * 40 + b) = true := by decide +kernel
theorem nan_41 : ∀ b : Nat, b < 144 → nanOk (144 * 41 + b) = true := by decide +kernel
theorem nan_42 : ∀ b : Nat, b < 144 → nanOk (144 * 42 + b) = true := by decide +kernel
theorem nan_43 : ∀ b : Nat, b < 144 → nanOk (144 * 43 + b) = true := by decide +kernel
theorem nan_44 : ∀ b : Nat, b < 144 → nanOk (144 * 44 + b) = true := by decide +kernel
theorem nan_45 : ∀ b : Nat, b < 144 → nanOk (144 * 45 + b) = true := by decide +kernel
theorem nan_46 : ∀ b : Nat, b < 144 → nanOk (144 * 46 + b) = true := by decide +kernel
theorem nan_47 : ∀ b : Nat, b < 144 → nanOk (144 * 47 + b) = true := by decide +kernel
theorem nan_48 : ∀ b : Nat, b < 144 → nanOk (144 * 48 + b) = true := by decide +kernel
theorem nan_49 : ∀ b : Nat, b < 144 → nanOk (144 * 49 + b) = true := by decide +kernel
theorem nan_50 : ∀ b : Nat, b < 144 → nanOk (144 * 50 + b) = true := by decide +kernel
theorem nan_51 : ∀ b : Nat, b < 144 → nanOk (144 * 51 + b) = true := by decide +kernel
theorem nan_52 : ∀ b : Nat, b < 144 → nanOk (144 * 52 + b) = true := by decide +kernel
theorem nan_53 : ∀ b : Nat, b < 144 → nanOk (144 * 53 + b) = true := by decide +kernel
theorem nan_54 : ∀ b : Nat, b < 144 → nanOk (144 * 54 + b) = true := by decide +kernel
theorem nan_55 : ∀ b : Nat, b < 144 → nanOk (144 * 55 + b) = true := by decide +kernel
theorem nan_56 : ∀ b : Nat, b < 144 → nanOk (144 * 56 + b) = true := by decide +kernel
theorem nan_57 : ∀ b : Nat, b < 144 → nanOk (144 * 57 + b) = true := by decide +kernel
theorem nan_58 : ∀ b : Nat, b < 144 → nanOk (144 * 58 + b) = true := by decide +kernel
theorem nan_59 : ∀ b : Nat, b < 144 → nanOk (144 * 59 + b) = true := by decide +kernel
theorem nan_60 : ∀ b : Nat, b < 144 → nanOk (144 * 60 + b) = true := by decide +kernel
theorem nan_61 : ∀ b : Nat, b < 144 → nanOk (144 * 61 + b) = true := by decide +kernel
theorem nan_62 : ∀ b : Nat, b < 144 → nanOk (144 * 62 + b) = true := by decide +kernel
theorem nan_63 : ∀ b : Nat, b < 144 → nanOk (144 * 63 + b) = true := by decide +kernel
theorem nan_64 : ∀ b : Nat, b < 144 → nanOk (144 * 64 + b) = true := by decide +kernel
theorem nan_65 : ∀ b : Nat, b < 144 → nanOk (144 * 65 + b) = true := by decide +kernel
theorem nan_66 : ∀ b : Nat, b < 144 → nanOk (144 * 66 + b) = true := by decide +kernel
theorem nan_67 : ∀ b : Nat, b < 144 → nanOk (144 * 67 + b) = true := by decide +kernel
theorem nan_68 : ∀ b : Nat, b < 144 → nanOk (144 * 68 + b) = true := by decide +kernel
theorem nan_69 : ∀ b : Nat, b < 144 → nanOk (144 * 69 + b) = true := by decide +kernel
theorem nan_70 : ∀ b : Nat, b < 144 → nanOk (144 * 70 + b) = true := by decide +kernel
theorem nan_71 : ∀ b : Nat, b < 144 → nanOk (144 * 71 + b) = true := by decide +kernel
theorem nan_72 : ∀ b : Nat, b < 144 → nanOk (144 * 72 + b) = true := by decide +kernel
theorem nan_73 : ∀ b : Nat, b < 144 → nanOk (144 * 73 + b) = true := by decide +kernel
theorem nan_74 : ∀ b : Nat, b < 144 → nanOk (144 * 74 + b) = true := by decide +kernel
theorem nan_75 : ∀ b : Nat, b < 144 → nanOk (144 * 75 + b) = true := by decide +kernel
theorem nan_76 : ∀ b : Nat, b < 144 → nanOk (144 * 76 + b) = true := by decide +kernel
theorem nan_77 : ∀ b : Nat, b < 144 → nanOk (144 * 77 + b) = true := by decide +kernel
theorem nan_78 : ∀ b : Nat, b < 144 → nanOk (144 * 78 + b) = true := by decide +kernel
theorem nan_79 : ∀ b : Nat, b < 144 → nanOk (144 * 79 + b) = true := by decide +kernel
theorem nan_80 : ∀ b : Nat, b < 144 → nanOk (144 * 80 + b) = true := by decide +kernel
theorem nan_81 : ∀ b : Nat, b < 144 → nanOk (144 * 81 + b) = true := by decide +kernel
theorem nan_82 : ∀ b : Nat, b < 144 → nanOk (144 * 82 + b) = true := by decide +kernel
theorem nan_83 : ∀ b : Nat, b < 144 → nanOk (144 * 83 + b) = true := by decide +kernel
theorem nan_84 : ∀ b : Nat, b < 144 → nanOk (144 * 84 + b) = true := by decide +kernel
theorem nan_85 : ∀ b : Nat, b < 144 → nanOk (144 * 85 + b) = true := by decide +kernel
theorem nan_86 : ∀ b : Nat, b < 144 → nanOk (144 * 86 + b) = true := by decide +kernel
theorem nan_87 : ∀ b : Nat, b < 144 → nanOk (144 * 87 + b) = true := by decide +kernel
theorem nan_88 : ∀ b : Nat, b < 144 → nanOk (144 * 88 + b) = true := by decide +kernel
theorem nan_89 : ∀ b : Nat, b < 144 → nanOk (144 * 89 + b) = true := by decide +kernel
theorem nan_90 : ∀ b : Nat, b < 144 → nanOk (144 * 90 + b) = true := by decide +kernel
theorem nan_91 : ∀ b : Nat, b < 144 → nanOk (144 * 91 + b) = true := by decide +kernel
theorem nan_92 : ∀ b : Nat, b < 144 → nanOk (144 * 92 + b) = true := by decide +kernel
theorem nan_93 : ∀ b : Nat, b < 144 → nanOk (144 * 93 + b) = true := by decide +kernel
theorem nan_94 : ∀ b : Nat, b < 144 → nanOk (144 * 94 + b) = true := by decide +kernel
theorem nan_95 : ∀ b : Nat, b < 144 → nanOk (144 * 95 + b) = true := by decide +kernel
theorem nan_96 : ∀ b : Nat, b < 144 → nanOk (144 * 96 + b) = true := by decide +kernel
theorem nan_97 : ∀ b : Nat, b < 144 → nanOk (144 * 97 + b) = true := by decide +kernel
theorem nan_98 : ∀ b : Nat, b < 144 → nanOk (144 * 98 + b) = true := by decide +kernel
theorem nan_99 : ∀ b : Nat, b < 144 → nanOk (144 * 99 + b) = true := by decide +kernel
theorem nan_100 : ∀ b : Nat, b < 144 → nanOk (144 * 100 + b) = true := by decide +kernel
theorem nan_101 : ∀ b : Nat, b < 144 → nanOk (144 * 101 + b) = true := by decide +kernel
theorem nan_102 : ∀ b : Nat, b < 144 → nanOk (144 * 102 + b) = true := by decide +kernel
theorem nan_103 : ∀ b : Nat, b < 144 → nanOk (144 * 103 + b) = true := by decide +kernel
theorem nan_104 : ∀ b : Nat, b < 144 → nanOk (144 * 104 + b) = true := by decide +kernel
theorem nan_105 : ∀ b : Nat, b < 144 → nanOk (144 * 105 + b) = true := by decide +kernel
theorem nan_106 : ∀ b : Nat, b < 144 → nanOk (144 * 106 + b) = true := by decide +kernel
theorem nan_107 : ∀ b : Nat, b < 144 → nanOk (144 * 107 + b) = true := by decide +kernel
theorem nan_108 : ∀ b : Nat, b < 144 → nanOk (144 * 108 + b) = true := by decide +kernel
theorem nan_109 : ∀ b : Nat, b < 144 → nanOk (144 * 109 + b) = true := by decide +kernel
theorem nan_110 : ∀ b : Nat, b < 144 → nanOk (144 * 110 + b) = true := by decide +kernel
theorem nan_111 : ∀ b : Nat, b < 144 → nanOk (144 * 111 + b) = true := by decide +kernel
theorem nan_112 : ∀ b : Nat, b < 144 → nanOk (144 * 112 + b) = true := by decide +kernel
theorem nan_113 : ∀ b : Nat, b < 144 → nanOk (144 * 113 + b) = true := by decide +kernel
theorem nan_114 : ∀ b : Nat, b < 144 → nanOk (144 * 114 + b) = true := by decide +kernel
theorem nan_115 : ∀ b : Nat, b < 144 → nanOk (144 * 115 + b) = true := by decide +kernel
theorem nan_116 : ∀ b : Nat, b < 144 → nanOk (144 * 116 + b) = true := by decide +kernel
theorem nan_117 : ∀ b : Nat, b < 144 → nanOk (144 * 117 + b) = true := by decide +kernel
theorem nan_118 : ∀ b : Nat, b < 144 → nanOk (144 * 118 + b) = true := by decide +kernel
theorem nan_119 : ∀ b : Nat, b < 144 → nanOk (144 * 119 + b) = true := by decide +kernel
theorem nan_120 : ∀ b : Nat, b < 144 → nanOk (144 * 120 + b) = true := by decide +kernel
theorem nan_121 : ∀ b : Nat, b < 144 → nanOk (144 * 121 + b) = true := by decide +kernel
theorem nan_122 : ∀ b : Nat, b < 144 → nanOk (144 * 122 + b) = true := by decide +kernel
theorem nan_123 : ∀ b : Nat, b < 144 → nanOk (144 * 123 + b) = true := by decide +kernel
theorem nan_124 : ∀ b : Nat, b < 144 → nanOk (144 * 124 + b) = true := by decide +kernel
theorem nan_125 : ∀ b : Nat, b < 144 → nanOk (144 * 125 + b) = true := by decide +kernel
theorem nan_126 : ∀ b : Nat, b < 144 → nanOk (144 * 126 + b) = true := by decide +kernel
theorem nan_127 : ∀ b : Nat, b < 144 → nanOk (144 * 127 + b) = true := by decide +kernel
theorem nan_128 : ∀ b : Nat, b < 144 → nanOk (144 * 128 + b) = true := by decide +kernel
theorem nan_129 : ∀ b : Nat, b < 144 → nanOk (144 * 129 + b) = true := by decide +kernel
theorem nan_130 : ∀ b : Nat, b < 144 → nanOk (144 * 130 + b) = true := by decide +kernel
theorem nan_131 : ∀ b : Nat, b < 144 → nanOk (144 * 131 + b) = true := by decide +kernel
theorem nan_132 : ∀ b : Nat, b < 144 → nanOk (144 * 132 + b) = true := by decide +kernel
theorem nan_133 : ∀ b : Nat, b < 144 → nanOk (144 * 133 + b) = true := by decide +kernel
theorem nan_134 : ∀ b : Nat, b < 144 → nanOk (144 * 134 + b) = true := by decide +kernel
theorem nan_135 : ∀ b : Nat, b < 144 → nanOk (144 * 135 + b) = true := by decide +kernel
theorem nan_136 : ∀ b : Nat, b < 144 → nanOk (144 * 136 + b) = true := by decide +kernel
theorem nan_137 : ∀ b : Nat, b < 144 → nanOk (144 * 137 + b) = true := by decide +kernel
theorem nan_138 : ∀ b : Nat, b < 144 → nanOk (144 * 138 + b) = true := by decide +kernel
theorem nan_139 : ∀ b : Nat, b < 144 → nanOk (144 * 139 + b) = true := by decide +kernel
theorem nan_140 : ∀ b : Nat, b < 144 → nanOk (144 * 140 + b) = true := by decide +kernel
theorem nan_141 : ∀ b : Nat, b < 144 → nanOk (144 * 141 + b) = true := by decide +kernel
theorem nan_142 : ∀ b : Nat, b < 144 → nanOk (144 * 142 + b) = true := by decide +kernel
theorem nan_all : ∀ a : Nat, a < 143 → ∀ b : Nat, b < 144 → nanOk (144 * a + b) = true := by
  intro a ha
  by_cases h0 : a = 0
  · rw [h0]; exact nan_0
  by_cases h1 : a = 1
  · rw [h1]; exact nan_1
  by_cases h2 : a = 2
  · rw [h2]; exact nan_2
  by_cases h3 : a = 3
  · rw [h3]; exact nan_3
  by_cases h4 : a = 4
  · rw [h4]; exact nan_4
  by_cases h5 : a = 5
  · rw [h5]; exact nan_5
  by_cases h6 : a = 6
  · rw [h6]; exact nan_6
  by_cases h7 : a = 7
  · rw [h7]; exact nan_7
  by_cases h8 : a = 8
  · rw [h8]; exact nan_8
  by_cases h9 : a = 9
  · rw [h9]; exact nan_9
  by_cases h10 : a = 10
  · rw [h10]; exact nan_10
  by_cases h11 : a = 11
  · rw [h11]; exact nan_11
  by_cases h12 : a = 12
  · rw [h12]; exact nan_12
  by_cases h13 : a = 13
  · rw [h13]; exact nan_13
  by_cases h14 : a = 14
  · rw [h14]; exact nan_14
  by_cases h15 : a = 15
  · rw [h15]; exact nan_15
  by_cases h16 : a = 16
  · rw [h16]; exact nan_16
  by_cases h17 : a = 17
  · rw [h17]; exact nan_17
  by_cases h18 : a = 18
  · rw [h18]; exact nan_18
  by_cases h19 : a = 19
  · rw [h19]; exact nan_19
  by_cases h20 : a = 20
  · rw [h20]; exact nan_20
  by_cases h21 : a = 21
  · rw [h21]; exact nan_21
  by_cases h22 : a = 22
  · rw [h22]; exact nan_22
  by_cases h23 : a = 23
  · rw [h23]; exact nan_23
  by_cases h24 : a = 24
  · rw [h24]; exact nan_24
  by_cases h25 : a = 25
  · rw [h25]; exact nan_25
  by_cases h26 : a = 26
  · rw [h26]; exact nan_26
  by_cases h27 : a = 27
  · rw [h27]; exact nan_27
  by_cases h28 : a = 28
  · rw [h28]; exact nan_28
  by_cases h29 : a = 29
  · rw [h29]; exact nan_29
  by_cases h30 : a = 30
  · rw [h30]; exact nan_30
  by_cases h31 : a = 31
  · rw [h31]; exact nan_31
  by_cases h32 : a = 32
  · rw [h32]; exact nan_32
  by_cases h33 : a = 33
  · rw [h33]; exact nan_33
  by_cases h34 : a = 34
  · rw [h34]; exact nan_34
  by_cases h35 : a = 35
  · rw [h35]; exact nan_35
  by_cases h36 : a = 36
  · rw [h36]; exact nan_36
  by_cases h37 : a = 37
  · rw [h37]; exact nan_37
  by_cases h38 : a = 38
  · rw [h38]; exact nan_38
  by_cases h39 : a = 39
  · rw [h39]; exact nan_39
  by_cases h40 : a = 40
  · rw [h40]; exact nan_40
  by_cases h41 : a = 41
  · rw [h41]; exact nan_41
  by_cases h42 : a = 42
  · rw [h42]; exact nan_42
  by_cases h43 : a = 43
  · rw [h43]; exact nan_43
  by_cases h44 : a = 44
  · rw [h44]; exact nan_44
  by_cases h45 : a = 45
  · rw [h45]; exact nan_45
  by_cases h46 : a = 46
  · rw [h46]; exact nan_46
  by_cases h47 : a = 47
  · rw [h47]; exact nan_47
  by_cases h48 : a = 48
  · rw [h48]; exact nan_48
  by_cases h49 : a = 49
  · rw [h49]; exact nan_49
  by_cases h50 : a = 50
  · rw [h50]; exact nan_50
  by_cases h51 : a = 51
  · rw [h51]; exact nan_51
  by_cases h52 : a = 52
  · rw [h52]; exact nan_52
  by_cases h53 : a = 53
  · rw [h53]; exact nan_53
  by_cases h54 : a = 54
  · rw [h54]; exact nan_54
  by_cases h55 : a = 55
  · rw [h55]; exact nan_55
  by_cases h56 : a = 56
  · rw [h56]; exact nan_56
  by_cases h57 : a = 57
  · rw [h57]; exact nan_57
  by_cases h58 : a = 58
  · rw [h58]; exact nan_58
  by_cases h59 : a = 59
  · rw [h59]; exact nan_59
  by_cases h60 : a = 60
  · rw [h60]; exact nan_60
  by_cases h61 : a = 61
  · rw [h61]; exact nan_61
  by_cases h62 : a = 62
  · rw [h62]; exact nan_62
  by_cases h63 : a = 63
  · rw [h63]; exact nan_63
  by_cases h64 : a = 64
  · rw [h64]; exact nan_64
  by_cases h65 : a = 65
  · rw [h65]; exact nan_65
  by_cases h66 : a = 66
  · rw [h66]; exact nan_66
  by_cases h67 : a = 67
  · rw [h67]; exact nan_67
  by_cases h68 : a = 68
  · rw [h68]; exact nan_68
  by_cases h69 : a = 69
  · rw [h69]; exact nan_69
  by_cases h70 : a = 70
  · rw [h70]; exact nan_70
  by_cases h71 : a = 71
  · rw [h71]; exact nan_71
  by_cases h72 : a = 72
  · rw [h72]; exact nan_72
  by_cases h73 : a = 73
  · rw [h73]; exact nan_73
  by_cases h74 : a = 74
  · rw [h74]; exact nan_74
  by_cases h75 : a = 75
  · rw [h75]; exact nan_75
  by_cases h76 : a = 76
  · rw [h76]; exact nan_76
  by_cases h77 : a = 77
  · rw [h77]; exact nan_77
  by_cases h78 : a = 78
  · rw [h78]; exact nan_78
  by_cases h79 : a = 79
  · rw [h79]; exact nan_79
  by_cases h80 : a = 80
  · rw [h80]; exact nan_80
  by_cases h81 : a = 81
  · rw [h81]; exact nan_81
  by_cases h82 : a = 82
  · rw [h82]; exact nan_82
  by_cases h83 : a = 83
  · rw [h83]; exact nan_83
  by_cases h84 : a = 84
  · rw [h84]; exact nan_84
  by_cases h85 : a = 85
  · rw [h85]; exact nan_85
  by_cases h86 : a = 86
  · rw [h86]; exact nan_86
  by_cases h87 : a = 87
  · rw [h87]; exact nan_87
  by_cases h88 : a = 88
  · rw [h88]; exact nan_88
  by_cases h89 : a = 89
  · rw [h89]; exact nan_89
  by_cases h90 : a = 90
  · rw [h90]; exact nan_90
  by_cases h91 : a = 91
  · rw [h91]; exact nan_91
  by_cases h92 : a = 92
  · rw [h92]; exact nan_92
  by_cases h93 : a = 93
  · rw [h93]; exact nan_93
  by_cases h94 : a = 94
  · rw [h94]; exact nan_94
  by_cases h95 : a = 95
  · rw [h95]; exact nan_95
  by_cases h96 : a = 96
  · rw [h96]; exact nan_96
  by_cases h97 : a = 97
  · rw [h97]; exact nan_97
  by_cases h98 : a = 98
  · rw [h98]; exact nan_98
  by_cases h99 : a = 99
  · rw [h99]; exact nan_99
  by_cases h100 : a = 100
  · rw [h100]; exact nan_100
  by_cases h101 : a = 101
  · rw [h101]; exact nan_101
  by_cases h102 : a = 102
  · rw [h102]; exact nan_102
  by_cases h103 : a = 103
  · rw [h103]; exact nan_103
  by_cases h104 : a = 104
  · rw [h104]; exact nan_104
  by_cases h105 : a = 105
  · rw [h105]; exact nan_105
  by_cases h106 : a = 106
  · rw [h106]; exact nan_106
  by_cases h107 : a = 107
  · rw [h107]; exact nan_107
  by_cases h108 : a = 108
  · rw [h108]; exact nan_108
  by_cases h109 : a = 109
  · rw [h109]; exact nan_109
  by_cases h110 : a = 110
  · rw [h110]; exact nan_110
  by_cases h111 : a = 111
  · rw [h111]; exact nan_111
  by_cases h112 : a = 112
  · rw [h112]; exact nan_112
  by_cases h113 : a = 113
  · rw [h113]; exact nan_113
  by_cases h114 : a = 114
  · rw [h114]; exact nan_114
  by_cases h115 : a = 115
  · rw [h115]; exact nan_115
  by_cases h116 : a = 116
  · rw [h116]; exact nan_116
  by_cases h117 : a = 117
  · rw [h117]; exact nan_117
  by_cases h118 : a = 118
  · rw [h118]; exact nan_118
  by_cases h119 : a = 119
  · rw [h119]; exact nan_119
  by_cases h120 : a = 120
  · rw [h120]; exact nan_120
  by_cases h121 : a = 121
  · rw [h121]; exact nan_121
  by_cases h122 : a = 122
  · rw [h122]; exact nan_122
  by_cases h123 : a = 123
  · rw [h123]; exact nan_123
  by_cases h124 : a = 124
  · rw [h124]; exact nan_124
  by_cases h125 : a = 125
  · rw [h125]; exact nan_125
  by_cases h126 : a = 126
  · rw [h126]; exact nan_126
  by_cases h127 : a = 127
  · rw [h127]; exact nan_127
  by_cases h128 : a = 128
  · rw [h128]; exact nan_128
  by_cases h129 : a = 129
  · rw [h129]; exact nan_129
  by_cases h130 : a = 130
  · rw [h130]; exact nan_130
  by_cases h131 : a = 131
  · rw [h131]; exact nan_131
  by_cases h132 : a = 132
  · rw [h132]; exact nan_132
  by_cases h133 : a = 133
  · rw [h133]; exact nan_133
  by_cases h134 : a = 134
  · rw [h134]; exact nan_134
  by_cases h135 : a = 135
  · rw [h135]; exact nan_135
  by_cases h136 : a = 136
  · rw [h136]; exact nan_136
  by_cases h137 : a = 137
  · rw [h137]; exact nan_137
  by_cases h138 : a = 138
  · rw [h138]; exact nan_138
  by_cases h139 : a = 139
  · rw [h139]; exact nan_139
  by_cases h140 : a = 140
  · rw [h140]; exact nan_140
  by_cases h141 : a = 141
  · rw [h141]; exact nan_141
  by_cases h142 : a = 142
  · rw [h142]; exact nan_142
  omega
