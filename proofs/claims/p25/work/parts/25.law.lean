-- the law
abbrev bL : uS := (600086, 7301441)
theorem wb_L_law_X9 : ∀ w ∈ wsX90, w ∈ wsL_law := inlX9
theorem wb_L_law_X10 : ∀ w ∈ wsX100, w ∈ wsL_law := inlX10
theorem wb_L_law_J4 : ∀ w ∈ wsJ40, w ∈ wsL_law := inlJ4
def nb_L_law_233 (D : va_G) (post : gS → mS → Int32 → Prop) (u : uS) (G : gS) (M : mS) : Prop := False
def nb_L_law_455 (D : va_G) (post : gS → mS → Int32 → Prop) (u : uS) (G : gS) (M : mS) : Prop := False
def nb_L_law_398 (D : va_G) (kb45 : uS → gS → mS → Nat → Nat → Int32 → Int32 → Prop) (kb257 : uS → gS → mS → Nat → Nat → Int32 → Int32 → Int64 → Int32 → Nat → Nat → Int32 → Int32 → Prop) (post : gS → mS → Int32 → Prop) (u : uS) (G : gS) (M : mS) (v2 : Nat) (v3 : Nat) (v4 : Int32) (v5 : Int32) (v7 : Int64) (v11 : Int32) (v12 : Nat) (v13 : Nat) (v14 : Int32) (v15 : Int32) (s0 : Int32) (s1 : Int32) : Prop := p_if (s0 = s1) (p_ix v15 (gN G v12) (p_rf (gP G v12 (Int32.toNatClampNeg v15)) (fun q3 => p_ix (7 : Int32) (gN G q3) (p_ix v15 (gN G v12) (p_rf (gP G v12 (Int32.toNatClampNeg v15)) (fun q6 => p_ix (8 : Int32) (gN G q6) (p_ix v15 (gN G v12) (p_rf (gP G v12 (Int32.toNatClampNeg v15)) (fun q9 => p_ix (6 : Int32) (gN G q9) (p_if ((mI M q9 (Int32.toNatClampNeg (6 : Int32))) < ((if 0 ≤ (mI M q3 (Int32.toNatClampNeg (7 : Int32))) then (mI M q3 (Int32.toNatClampNeg (7 : Int32))) else 0 - (mI M q3 (Int32.toNatClampNeg (7 : Int32)))) + (if 0 ≤ (mI M q6 (Int32.toNatClampNeg (8 : Int32))) then (mI M q6 (Int32.toNatClampNeg (8 : Int32))) else 0 - (mI M q6 (Int32.toNatClampNeg (8 : Int32)))))) (nb_L_law_455 D post u G M) (p_ix v15 (gN G v12) (p_rf (gP G v12 (Int32.toNatClampNeg v15)) (fun q13 => p_ix (6 : Int32) (gN G q13) (p_ix v15 (gN G v12) (p_rf (gP G v12 (Int32.toNatClampNeg v15)) (fun q16 => p_ix (5 : Int32) (gN G q16) (p_if (((3 : Int32) * (mI M q13 (Int32.toNatClampNeg (6 : Int32)))) ≤ (mI M q16 (Int32.toNatClampNeg (5 : Int32)))) (p_bd (v15 + 1 : Int32) (fun x19 => kb257 u G M v2 v3 v4 v5 v7 v11 v12 v13 v14 x19)) (nb_L_law_455 D post u G M)))))))))))))))))) (nb_L_law_455 D post u G M)
def nb_L_law_393 (D : va_G) (kb45 : uS → gS → mS → Nat → Nat → Int32 → Int32 → Prop) (kb257 : uS → gS → mS → Nat → Nat → Int32 → Int32 → Int64 → Int32 → Nat → Nat → Int32 → Int32 → Prop) (post : gS → mS → Int32 → Prop) (u : uS) (G : gS) (M : mS) (v2 : Nat) (v3 : Nat) (v4 : Int32) (v5 : Int32) (v7 : Int64) (v11 : Int32) (v12 : Nat) (v13 : Nat) (v14 : Int32) (v15 : Int32) (s0 : Int32) : Prop := nb_L_law_398 D kb45 kb257 post u G M v2 v3 v4 v5 v7 v11 v12 v13 v14 v15 s0 ((1 : Int32))
def nb_L_law_371 (D : va_G) (kb45 : uS → gS → mS → Nat → Nat → Int32 → Int32 → Prop) (kb257 : uS → gS → mS → Nat → Nat → Int32 → Int32 → Int64 → Int32 → Nat → Nat → Int32 → Int32 → Prop) (post : gS → mS → Int32 → Prop) (u : uS) (G : gS) (M : mS) (v2 : Nat) (v3 : Nat) (v4 : Int32) (v5 : Int32) (v7 : Int64) (v11 : Int32) (v12 : Nat) (v13 : Nat) (v14 : Int32) (v15 : Int32) (s0 : Int32) : Prop := p_ix v15 (gN G v12) (p_rf (gP G v12 (Int32.toNatClampNeg v15)) (fun q2 => p_ix (7 : Int32) (gN G q2) (p_if ((mI M q2 (Int32.toNatClampNeg (7 : Int32))) = 0) (p_ix v15 (gN G v12) (p_rf (gP G v12 (Int32.toNatClampNeg v15)) (fun q6 => p_ix (8 : Int32) (gN G q6) (p_if ((mI M q6 (Int32.toNatClampNeg (8 : Int32))) = 0) (nb_L_law_398 D kb45 kb257 post u G M v2 v3 v4 v5 v7 v11 v12 v13 v14 v15 s0 ((0 : Int32))) (nb_L_law_393 D kb45 kb257 post u G M v2 v3 v4 v5 v7 v11 v12 v13 v14 v15 s0))))) (nb_L_law_393 D kb45 kb257 post u G M v2 v3 v4 v5 v7 v11 v12 v13 v14 v15 s0))))
def nb_L_law_267 (D : va_G) (kb45 : uS → gS → mS → Nat → Nat → Int32 → Int32 → Prop) (kb257 : uS → gS → mS → Nat → Nat → Int32 → Int32 → Int64 → Int32 → Nat → Nat → Int32 → Int32 → Prop) (post : gS → mS → Int32 → Prop) (back : uS → gS → mS → Nat → Nat → Int32 → Int32 → Int64 → Int32 → Nat → Nat → Int32 → Int32 → Int32 → Prop) (u : uS) (G : gS) (M : mS) (v2 : Nat) (v3 : Nat) (v4 : Int32) (v5 : Int32) (v7 : Int64) (v11 : Int32) (v12 : Nat) (v13 : Nat) (v14 : Int32) (v15 : Int32) (v16 : Int32) : Prop := p_if ((9 : Int32) ≤ v16) (p_ix v15 (gN G v12) (p_rf (gP G v12 (Int32.toNatClampNeg v15)) (fun q3 => p_ix (1 : Int32) (gN G q3) (p_ix v15 (gN G v12) (p_rf (gP G v12 (Int32.toNatClampNeg v15)) (fun q6 => p_ix (2 : Int32) (gN G q6) (p_cl (m_X9_stone G M v3 (mI M q3 (Int32.toNatClampNeg (1 : Int32))) (mI M q6 (Int32.toNatClampNeg (2 : Int32)))) (fun M8 r9 => p_ix v15 (gN G v13) (p_wI M8 v13 (Int32.toNatClampNeg v15) r9 (fun M12 => p_ix v15 (gN G v12) (p_rf (gP G v12 (Int32.toNatClampNeg v15)) (fun q14 => p_ix (4 : Int32) (gN G q14) (p_bd ((v14 + (mI M12 q14 (Int32.toNatClampNeg (4 : Int32))))) (fun x16 => p_ix v15 (gN G v12) (p_rf (gP G v12 (Int32.toNatClampNeg v15)) (fun q18 => p_ix (6 : Int32) (gN G q18) (p_if ((mI M12 q18 (Int32.toNatClampNeg (6 : Int32))) < 0) (nb_L_law_455 D post u G M12) (p_ix v15 (gN G v12) (p_rf (gP G v12 (Int32.toNatClampNeg v15)) (fun q22 => p_ix (6 : Int32) (gN G q22) (p_if ((120 : Int32) < (mI M12 q22 (Int32.toNatClampNeg (6 : Int32)))) (nb_L_law_455 D post u G M12) (p_ix v15 (gN G v12) (p_rf (gP G v12 (Int32.toNatClampNeg v15)) (fun q26 => p_ix (6 : Int32) (gN G q26) (p_if ((mI M12 q26 (Int32.toNatClampNeg (6 : Int32))) ≤ 0) (nb_L_law_371 D kb45 kb257 post u G M12 v2 v3 v4 v5 v7 v11 v12 v13 x16 v15 ((0 : Int32))) (nb_L_law_371 D kb45 kb257 post u G M12 v2 v3 v4 v5 v7 v11 v12 v13 x16 v15 ((1 : Int32)))))))))))))))))))))))))))) (p_ix v15 (gN G v12) (p_rf (gP G v12 (Int32.toNatClampNeg v15)) (fun q30 => p_cl (m_X9_ant G M v3 v15 v16) (fun M31 r32 => p_ix v16 (gN G q30) (p_wI M31 q30 (Int32.toNatClampNeg v16) r32 (fun M35 => p_bd (v16 + 1 : Int32) (fun x36 => back u G M35 v2 v3 v4 v5 v7 v11 v12 v13 v14 v15 x36)))))))
def nl_L_law_267 (D : va_G) (kb45 : uS → gS → mS → Nat → Nat → Int32 → Int32 → Prop) (kb257 : uS → gS → mS → Nat → Nat → Int32 → Int32 → Int64 → Int32 → Nat → Nat → Int32 → Int32 → Prop) (post : gS → mS → Int32 → Prop) (u : uS) (G : gS) (M : mS) (v2 : Nat) (v3 : Nat) (v4 : Int32) (v5 : Int32) (v7 : Int64) (v11 : Int32) (v12 : Nat) (v13 : Nat) (v14 : Int32) (v15 : Int32) (v16 : Int32) : Prop := ∃ (I : Nat → uS → gS → mS → Nat → Nat → Int32 → Int32 → Int64 → Int32 → Nat → Nat → Int32 → Int32 → Int32 → Prop) (n : Nat), I n u G M v2 v3 v4 v5 v7 v11 v12 v13 v14 v15 v16 ∧ ∀ (n : Nat) (u : uS) (G : gS) (M : mS) (v2 : Nat) (v3 : Nat) (v4 : Int32) (v5 : Int32) (v7 : Int64) (v11 : Int32) (v12 : Nat) (v13 : Nat) (v14 : Int32) (v15 : Int32) (v16 : Int32), I n u G M v2 v3 v4 v5 v7 v11 v12 v13 v14 v15 v16 → nb_L_law_267 D kb45 kb257 post (fun u G M v2 v3 v4 v5 v7 v11 v12 v13 v14 v15 v16 => ∃ k, k < n ∧ I k u G M v2 v3 v4 v5 v7 v11 v12 v13 v14 v15 v16) u G M v2 v3 v4 v5 v7 v11 v12 v13 v14 v15 v16
def nb_L_law_516 (D : va_G) (post : gS → mS → Int32 → Prop) (u : uS) (G : gS) (M : mS) : Prop := False
def nb_L_law_602 (D : va_G) (post : gS → mS → Int32 → Prop) (u : uS) (G : gS) (M : mS) : Prop := False
def nb_L_law_791 (D : va_G) (post : gS → mS → Int32 → Prop) (u : uS) (G : gS) (M : mS) : Prop := False
def nb_L_law_869 (D : va_G) (kb45 : uS → gS → mS → Nat → Nat → Int32 → Int32 → Prop) (kb625 : uS → gS → mS → Nat → Nat → Int32 → Int32 → Nat → Nat → Int32 → Int32 → Prop) (kb814 : uS → gS → mS → Nat → Nat → Int32 → Int32 → Nat → Nat → Int32 → Int32 → Int32 → Int32 → Int32 → Prop) (post : gS → mS → Int32 → Prop) (u : uS) (G : gS) (M : mS) (v2 : Nat) (v3 : Nat) (v4 : Int32) (v5 : Int32) (v12 : Nat) (v13 : Nat) (v20 : Int32) (v21 : Int32) (v23 : Int32) (v26 : Int32) (s0 : Int32) (s1 : Int32) : Prop := p_bd ((s0 &&& s1)) (fun x1 => p_bd (v26 + 1 : Int32) (fun x2 => kb814 u G M v2 v3 v4 v5 v12 v13 v20 v21 v23 x1 x2))
def nb_L_law_864 (D : va_G) (kb45 : uS → gS → mS → Nat → Nat → Int32 → Int32 → Prop) (kb625 : uS → gS → mS → Nat → Nat → Int32 → Int32 → Nat → Nat → Int32 → Int32 → Prop) (kb814 : uS → gS → mS → Nat → Nat → Int32 → Int32 → Nat → Nat → Int32 → Int32 → Int32 → Int32 → Int32 → Prop) (post : gS → mS → Int32 → Prop) (u : uS) (G : gS) (M : mS) (v2 : Nat) (v3 : Nat) (v4 : Int32) (v5 : Int32) (v12 : Nat) (v13 : Nat) (v20 : Int32) (v21 : Int32) (v23 : Int32) (v26 : Int32) (s0 : Int32) : Prop := nb_L_law_869 D kb45 kb625 kb814 post u G M v2 v3 v4 v5 v12 v13 v20 v21 v23 v26 s0 ((1 : Int32))
def nb_L_law_1077 (D : va_G) (kb45 : uS → gS → mS → Nat → Nat → Int32 → Int32 → Prop) (kb625 : uS → gS → mS → Nat → Nat → Int32 → Int32 → Nat → Nat → Int32 → Int32 → Prop) (post : gS → mS → Int32 → Prop) (u : uS) (G : gS) (M : mS) (v2 : Nat) (v3 : Nat) (v4 : Int32) (v5 : Int32) (v12 : Nat) (v13 : Nat) (v20 : Int32) (v21 : Int32) : Prop := p_bd (v21 + 1 : Int32) (fun x1 => kb625 u G M v2 v3 v4 v5 v12 v13 v20 x1)
def nb_L_law_1005 (D : va_G) (kb45 : uS → gS → mS → Nat → Nat → Int32 → Int32 → Prop) (kb625 : uS → gS → mS → Nat → Nat → Int32 → Int32 → Nat → Nat → Int32 → Int32 → Prop) (post : gS → mS → Int32 → Prop) (u : uS) (G : gS) (M : mS) (v2 : Nat) (v3 : Nat) (v4 : Int32) (v5 : Int32) (v12 : Nat) (v13 : Nat) (v20 : Int32) (v21 : Int32) (v23 : Int32) : Prop := p_ix v21 (gN G v12) (p_rf (gP G v12 (Int32.toNatClampNeg v21)) (fun q2 => p_ix (6 : Int32) (gN G q2) (p_if ((mI M q2 (Int32.toNatClampNeg (6 : Int32))) ≤ 0) (nb_L_law_1077 D kb45 kb625 post u G M v2 v3 v4 v5 v12 v13 v20 v21) (p_if (v20 = 0) (p_if (v23 = (1 : Int32)) (p_cl (m_X9_ant G M v3 v21 (6 : Int32)) (fun M7 r8 => p_ix v21 (gN G v12) (p_rf (gP G v12 (Int32.toNatClampNeg v21)) (fun q11 => p_ix (6 : Int32) (gN G q11) (p_if (r8 = (mI M7 q11 (Int32.toNatClampNeg (6 : Int32)))) (p_ix v21 (gN G v12) (p_rf (gP G v12 (Int32.toNatClampNeg v21)) (fun q15 => p_ix (6 : Int32) (gN G q15) (p_if ((mI M7 q15 (Int32.toNatClampNeg (6 : Int32))) = (1 : Int32)) (p_cl (m_X9_ant G M7 v3 v21 (3 : Int32)) (fun M18 r19 => p_ix v21 (gN G v12) (p_rf (gP G v12 (Int32.toNatClampNeg v21)) (fun q22 => p_ix (3 : Int32) (gN G q22) (p_if (r19 = (mI M18 q22 (Int32.toNatClampNeg (3 : Int32)))) (nb_L_law_1077 D kb45 kb625 post u G M18 v2 v3 v4 v5 v12 v13 v20 v21) (False)))))) (nb_L_law_1077 D kb45 kb625 post u G M7 v2 v3 v4 v5 v12 v13 v20 v21))))) (nb_L_law_1077 D kb45 kb625 post u G M7 v2 v3 v4 v5 v12 v13 v20 v21)))))) (nb_L_law_1077 D kb45 kb625 post u G M v2 v3 v4 v5 v12 v13 v20 v21)) (nb_L_law_1077 D kb45 kb625 post u G M v2 v3 v4 v5 v12 v13 v20 v21)))))
def nb_L_law_934 (D : va_G) (kb45 : uS → gS → mS → Nat → Nat → Int32 → Int32 → Prop) (kb625 : uS → gS → mS → Nat → Nat → Int32 → Int32 → Nat → Nat → Int32 → Int32 → Prop) (post : gS → mS → Int32 → Prop) (u : uS) (G : gS) (M : mS) (v2 : Nat) (v3 : Nat) (v4 : Int32) (v5 : Int32) (v12 : Nat) (v13 : Nat) (v20 : Int32) (v21 : Int32) (v23 : Int32) (v25 : Int32) : Prop := p_ix v21 (gN G v12) (p_rf (gP G v12 (Int32.toNatClampNeg v21)) (fun q2 => p_ix (0 : Int32) (gN G q2) (p_ix v21 (gN G v13) (p_cl (m_X9_turn G M v3 (mI M q2 (Int32.toNatClampNeg (0 : Int32))) (mI M v13 (Int32.toNatClampNeg v21))) (fun M5 r6 => q_na bL u G M5 12 (4 : Int32) (fun q8 u11 G9 M10 => p_ix (0 : Int32) (gN G9 q8) (p_wI M10 q8 (Int32.toNatClampNeg (0 : Int32)) (3 : Int32) (fun M13 => p_ix (1 : Int32) (gN G9 q8) (p_wI M13 q8 (Int32.toNatClampNeg (1 : Int32)) (1 : Int32) (fun M15 => p_ix (2 : Int32) (gN G9 q8) (p_wI M15 q8 (Int32.toNatClampNeg (2 : Int32)) (0 : Int32) (fun M17 => p_ix (3 : Int32) (gN G9 q8) (p_wI M17 q8 (Int32.toNatClampNeg (3 : Int32)) (2 : Int32) (fun M19 => p_if (v25 = 0) (nb_L_law_1005 D kb45 kb625 post u11 G9 M19 v2 v3 v4 v5 v12 v13 v20 v21 v23) (p_cl (m_X9_ant G9 M19 v3 v21 (3 : Int32)) (fun M21 r22 => p_ix v21 (gN G9 v12) (p_rf (gP G9 v12 (Int32.toNatClampNeg v21)) (fun q25 => p_ix (3 : Int32) (gN G9 q25) (p_ix r6 (gN G9 q8) (p_ck (¬ (4 : Int32) = 0) (p_if (r22 = (((mI M21 q25 (Int32.toNatClampNeg (3 : Int32))) + (mI M21 q8 (Int32.toNatClampNeg r6))) - ((mI M21 q25 (Int32.toNatClampNeg (3 : Int32))) + (mI M21 q8 (Int32.toNatClampNeg r6))) / (4 : Int32) * (4 : Int32))) (nb_L_law_1005 D kb45 kb625 post u11 G9 M21 v2 v3 v4 v5 v12 v13 v20 v21 v23) (False))))))))))))))))))))))
def nb_L_law_814 (D : va_G) (kb45 : uS → gS → mS → Nat → Nat → Int32 → Int32 → Prop) (kb625 : uS → gS → mS → Nat → Nat → Int32 → Int32 → Nat → Nat → Int32 → Int32 → Prop) (post : gS → mS → Int32 → Prop) (back : uS → gS → mS → Nat → Nat → Int32 → Int32 → Nat → Nat → Int32 → Int32 → Int32 → Int32 → Int32 → Prop) (u : uS) (G : gS) (M : mS) (v2 : Nat) (v3 : Nat) (v4 : Int32) (v5 : Int32) (v12 : Nat) (v13 : Nat) (v20 : Int32) (v21 : Int32) (v23 : Int32) (v25 : Int32) (v26 : Int32) : Prop := p_if (v4 ≤ v26) (p_rf (gP G v2 4) (fun q2 => p_ix v21 (gN G v12) (p_rf (gP G v12 (Int32.toNatClampNeg v21)) (fun q4 => p_ix (0 : Int32) (gN G q4) (p_ix (mI M q4 (Int32.toNatClampNeg (0 : Int32))) (gN G q2) (p_rf (gP G q2 (Int32.toNatClampNeg (mI M q4 (Int32.toNatClampNeg (0 : Int32))))) (fun q7 => p_bd ((Int32.ofNat (gN G q7))) (fun x8 => p_if (v25 = 0) (nb_L_law_934 D kb45 kb625 post u G M v2 v3 v4 v5 v12 v13 v20 v21 v23 v25) (p_ix v21 (gN G v12) (p_rf (gP G v12 (Int32.toNatClampNeg v21)) (fun q11 => p_ix (1 : Int32) (gN G q11) (p_ix v21 (gN G v12) (p_rf (gP G v12 (Int32.toNatClampNeg v21)) (fun q14 => p_ix (2 : Int32) (gN G q14) (p_cl (m_X9_stone G M v3 (mI M q11 (Int32.toNatClampNeg (1 : Int32))) (mI M q14 (Int32.toNatClampNeg (2 : Int32)))) (fun M16 r17 => p_ix v21 (gN G v13) (p_ck (¬ x8 = 0) (p_ck (¬ x8 = 0) (p_if (r17 = ((((mI M16 v13 (Int32.toNatClampNeg v21)) - (mI M16 v13 (Int32.toNatClampNeg v21)) / x8 * x8) + (1 : Int32)) - (((mI M16 v13 (Int32.toNatClampNeg v21)) - (mI M16 v13 (Int32.toNatClampNeg v21)) / x8 * x8) + (1 : Int32)) / x8 * x8)) (nb_L_law_934 D kb45 kb625 post u G M16 v2 v3 v4 v5 v12 v13 v20 v21 v23 v25) (False)))))))))))))))))))) (p_if (v26 = v21) (nb_L_law_864 D kb45 kb625 back post u G M v2 v3 v4 v5 v12 v13 v20 v21 v23 v26 v25) (p_ix v26 (gN G v12) (p_rf (gP G v12 (Int32.toNatClampNeg v26)) (fun q25 => p_ix (1 : Int32) (gN G q25) (p_ix v21 (gN G v12) (p_rf (gP G v12 (Int32.toNatClampNeg v21)) (fun q28 => p_ix (1 : Int32) (gN G q28) (p_if ((mI M q25 (Int32.toNatClampNeg (1 : Int32))) = (mI M q28 (Int32.toNatClampNeg (1 : Int32)))) (p_ix v26 (gN G v12) (p_rf (gP G v12 (Int32.toNatClampNeg v26)) (fun q32 => p_ix (2 : Int32) (gN G q32) (p_ix v21 (gN G v12) (p_rf (gP G v12 (Int32.toNatClampNeg v21)) (fun q35 => p_ix (2 : Int32) (gN G q35) (p_if ((mI M q32 (Int32.toNatClampNeg (2 : Int32))) = (mI M q35 (Int32.toNatClampNeg (2 : Int32)))) (nb_L_law_869 D kb45 kb625 back post u G M v2 v3 v4 v5 v12 v13 v20 v21 v23 v26 v25 ((0 : Int32))) (nb_L_law_864 D kb45 kb625 back post u G M v2 v3 v4 v5 v12 v13 v20 v21 v23 v26 v25)))))))) (nb_L_law_864 D kb45 kb625 back post u G M v2 v3 v4 v5 v12 v13 v20 v21 v23 v26 v25)))))))))
def nl_L_law_814 (D : va_G) (kb45 : uS → gS → mS → Nat → Nat → Int32 → Int32 → Prop) (kb625 : uS → gS → mS → Nat → Nat → Int32 → Int32 → Nat → Nat → Int32 → Int32 → Prop) (post : gS → mS → Int32 → Prop) (u : uS) (G : gS) (M : mS) (v2 : Nat) (v3 : Nat) (v4 : Int32) (v5 : Int32) (v12 : Nat) (v13 : Nat) (v20 : Int32) (v21 : Int32) (v23 : Int32) (v25 : Int32) (v26 : Int32) : Prop := ∃ (I : Nat → uS → gS → mS → Nat → Nat → Int32 → Int32 → Nat → Nat → Int32 → Int32 → Int32 → Int32 → Int32 → Prop) (n : Nat), I n u G M v2 v3 v4 v5 v12 v13 v20 v21 v23 v25 v26 ∧ ∀ (n : Nat) (u : uS) (G : gS) (M : mS) (v2 : Nat) (v3 : Nat) (v4 : Int32) (v5 : Int32) (v12 : Nat) (v13 : Nat) (v20 : Int32) (v21 : Int32) (v23 : Int32) (v25 : Int32) (v26 : Int32), I n u G M v2 v3 v4 v5 v12 v13 v20 v21 v23 v25 v26 → nb_L_law_814 D kb45 kb625 post (fun u G M v2 v3 v4 v5 v12 v13 v20 v21 v23 v25 v26 => ∃ k, k < n ∧ I k u G M v2 v3 v4 v5 v12 v13 v20 v21 v23 v25 v26) u G M v2 v3 v4 v5 v12 v13 v20 v21 v23 v25 v26
def nb_L_law_809 (D : va_G) (kb45 : uS → gS → mS → Nat → Nat → Int32 → Int32 → Prop) (kb625 : uS → gS → mS → Nat → Nat → Int32 → Int32 → Nat → Nat → Int32 → Int32 → Prop) (post : gS → mS → Int32 → Prop) (u : uS) (G : gS) (M : mS) (v2 : Nat) (v3 : Nat) (v4 : Int32) (v5 : Int32) (v12 : Nat) (v13 : Nat) (v20 : Int32) (v21 : Int32) (v23 : Int32) (s0 : Int32) : Prop := nl_L_law_814 D kb45 kb625 post u G M v2 v3 v4 v5 v12 v13 v20 v21 v23 s0 ((0 : Int32))
def nb_L_law_808 (D : va_G) (kb45 : uS → gS → mS → Nat → Nat → Int32 → Int32 → Prop) (kb625 : uS → gS → mS → Nat → Nat → Int32 → Int32 → Nat → Nat → Int32 → Int32 → Prop) (post : gS → mS → Int32 → Prop) (u : uS) (G : gS) (M : mS) (v2 : Nat) (v3 : Nat) (v4 : Int32) (v5 : Int32) (v12 : Nat) (v13 : Nat) (v20 : Int32) (v21 : Int32) (v23 : Int32) : Prop := nb_L_law_809 D kb45 kb625 post u G M v2 v3 v4 v5 v12 v13 v20 v21 v23 ((0 : Int32))
def nb_L_law_774 (D : va_G) (kb45 : uS → gS → mS → Nat → Nat → Int32 → Int32 → Prop) (kb625 : uS → gS → mS → Nat → Nat → Int32 → Int32 → Nat → Nat → Int32 → Int32 → Prop) (post : gS → mS → Int32 → Prop) (u : uS) (G : gS) (M : mS) (v2 : Nat) (v3 : Nat) (v4 : Int32) (v5 : Int32) (v12 : Nat) (v13 : Nat) (v20 : Int32) (v21 : Int32) (v23 : Int32) : Prop := p_cl (m_X9_ant G M v3 v21 (0 : Int32)) (fun M1 r2 => p_ix v21 (gN G v12) (p_rf (gP G v12 (Int32.toNatClampNeg v21)) (fun q5 => p_ix (0 : Int32) (gN G q5) (p_if (r2 = (mI M1 q5 (Int32.toNatClampNeg (0 : Int32)))) (p_if (v20 = 0) (p_if (v23 = (1 : Int32)) (nb_L_law_809 D kb45 kb625 post u G M1 v2 v3 v4 v5 v12 v13 v20 v21 v23 ((1 : Int32))) (nb_L_law_808 D kb45 kb625 post u G M1 v2 v3 v4 v5 v12 v13 v20 v21 v23)) (nb_L_law_808 D kb45 kb625 post u G M1 v2 v3 v4 v5 v12 v13 v20 v21 v23)) (nb_L_law_791 D post u G M1)))))
def nb_L_law_754 (D : va_G) (kb45 : uS → gS → mS → Nat → Nat → Int32 → Int32 → Prop) (kb625 : uS → gS → mS → Nat → Nat → Int32 → Int32 → Nat → Nat → Int32 → Int32 → Prop) (post : gS → mS → Int32 → Prop) (u : uS) (G : gS) (M : mS) (v2 : Nat) (v3 : Nat) (v4 : Int32) (v5 : Int32) (v12 : Nat) (v13 : Nat) (v20 : Int32) (v21 : Int32) (v23 : Int32) (s0 : Int32) (s1 : Int32) : Prop := p_if (s0 = s1) (p_if (v20 = 0) (p_ix v21 (gN G v12) (p_rf (gP G v12 (Int32.toNatClampNeg v21)) (fun q4 => p_ix (4 : Int32) (gN G q4) (p_if (v23 = (mI M q4 (Int32.toNatClampNeg (4 : Int32)))) (nb_L_law_774 D kb45 kb625 post u G M v2 v3 v4 v5 v12 v13 v20 v21 v23) (nb_L_law_791 D post u G M))))) (nb_L_law_774 D kb45 kb625 post u G M v2 v3 v4 v5 v12 v13 v20 v21 v23)) (nb_L_law_791 D post u G M)
def nb_L_law_1108 (D : va_G) (kb45 : uS → gS → mS → Nat → Nat → Int32 → Int32 → Prop) (post : gS → mS → Int32 → Prop) (back : uS → gS → mS → Nat → Nat → Int32 → Int32 → Int32 → Prop) (u : uS) (G : gS) (M : mS) (v2 : Nat) (v3 : Nat) (v4 : Int32) (v5 : Int32) (v21 : Int32) : Prop := p_if ((64 : Int32) ≤ v21) (p_bd (v5 + 1 : Int32) (fun x2 => kb45 u G M v2 v3 v4 x2)) (p_cl (m_X9_row G M v3 v21) (fun M3 r4 => p_if (r4 = 0) (p_bd (v21 + 1 : Int32) (fun x7 => back u G M3 v2 v3 v4 v5 x7)) (False)))
def nl_L_law_1108 (D : va_G) (kb45 : uS → gS → mS → Nat → Nat → Int32 → Int32 → Prop) (post : gS → mS → Int32 → Prop) (u : uS) (G : gS) (M : mS) (v2 : Nat) (v3 : Nat) (v4 : Int32) (v5 : Int32) (v21 : Int32) : Prop := ∃ (I : Nat → uS → gS → mS → Nat → Nat → Int32 → Int32 → Int32 → Prop) (n : Nat), I n u G M v2 v3 v4 v5 v21 ∧ ∀ (n : Nat) (u : uS) (G : gS) (M : mS) (v2 : Nat) (v3 : Nat) (v4 : Int32) (v5 : Int32) (v21 : Int32), I n u G M v2 v3 v4 v5 v21 → nb_L_law_1108 D kb45 post (fun u G M v2 v3 v4 v5 v21 => ∃ k, k < n ∧ I k u G M v2 v3 v4 v5 v21) u G M v2 v3 v4 v5 v21
def nb_L_law_625 (D : va_G) (kb45 : uS → gS → mS → Nat → Nat → Int32 → Int32 → Prop) (post : gS → mS → Int32 → Prop) (back : uS → gS → mS → Nat → Nat → Int32 → Int32 → Nat → Nat → Int32 → Int32 → Prop) (u : uS) (G : gS) (M : mS) (v2 : Nat) (v3 : Nat) (v4 : Int32) (v5 : Int32) (v12 : Nat) (v13 : Nat) (v20 : Int32) (v21 : Int32) : Prop := p_if (v4 ≤ v21) (p_cl (m_X9_wash G M v3 (40 : Int32) (63 : Int32)) (fun M2 r3 => q_ca bL u (fun v => n_X10_wash v G M2 v2 (40 : Int32) (63 : Int32)) (fun u7 G5 M6 r8 => p_if (r3 = r8) (nl_L_law_1108 D kb45 post u7 G5 M6 v2 v3 v4 v5 ((40 : Int32))) (False)))) (p_cl (m_X9_ant G M v3 v21 (1 : Int32)) (fun M10 r11 => p_ix v21 (gN G v12) (p_rf (gP G v12 (Int32.toNatClampNeg v21)) (fun q14 => p_ix (1 : Int32) (gN G q14) (p_ck (¬ (64 : Int32) = 0) (p_cl (m_X9_ant G M10 v3 v21 (2 : Int32)) (fun M17 r18 => p_ix v21 (gN G v12) (p_rf (gP G v12 (Int32.toNatClampNeg v21)) (fun q21 => p_ix (2 : Int32) (gN G q21) (p_ck (¬ (64 : Int32) = 0) (p_bd (((((r11 - (mI M10 q14 (Int32.toNatClampNeg (1 : Int32)))) + (64 : Int32)) - ((r11 - (mI M10 q14 (Int32.toNatClampNeg (1 : Int32)))) + (64 : Int32)) / (64 : Int32) * (64 : Int32)) + ((64 : Int32) * (((r18 - (mI M17 q21 (Int32.toNatClampNeg (2 : Int32)))) + (64 : Int32)) - ((r18 - (mI M17 q21 (Int32.toNatClampNeg (2 : Int32)))) + (64 : Int32)) / (64 : Int32) * (64 : Int32))))) (fun x24 => p_cl (m_X9_ant G M17 v3 v21 (5 : Int32)) (fun M25 r26 => p_ix v21 (gN G v12) (p_rf (gP G v12 (Int32.toNatClampNeg v21)) (fun q29 => p_ix (5 : Int32) (gN G q29) (p_bd ((r26 - (mI M25 q29 (Int32.toNatClampNeg (5 : Int32))))) (fun x31 => q_na bL u G M25 12 (4 : Int32) (fun q32 u35 G33 M34 => p_ix (0 : Int32) (gN G33 q32) (p_wI M34 q32 (Int32.toNatClampNeg (0 : Int32)) (4032 : Int32) (fun M37 => p_ix (1 : Int32) (gN G33 q32) (p_wI M37 q32 (Int32.toNatClampNeg (1 : Int32)) (1 : Int32) (fun M39 => p_ix (2 : Int32) (gN G33 q32) (p_wI M39 q32 (Int32.toNatClampNeg (2 : Int32)) (64 : Int32) (fun M41 => p_ix (3 : Int32) (gN G33 q32) (p_wI M41 q32 (Int32.toNatClampNeg (3 : Int32)) (63 : Int32) (fun M43 => p_if (x31 < 0) (nb_L_law_791 D post u35 G33 M43) (p_if ((1 : Int32) < x31) (nb_L_law_791 D post u35 G33 M43) (p_if (x31 = 0) (nb_L_law_754 D kb45 back post u35 G33 M43 v2 v3 v4 v5 v12 v13 v20 v21 x31 x24 ((0 : Int32))) (p_cl (m_X9_ant G33 M43 v3 v21 (3 : Int32)) (fun M47 r48 => p_ix r48 (gN G33 q32) (nb_L_law_754 D kb45 back post u35 G33 M47 v2 v3 v4 v5 v12 v13 v20 v21 x31 x24 ((mI M47 q32 (Int32.toNatClampNeg r48))))))))))))))))))))))))))))))))))
def nl_L_law_625 (D : va_G) (kb45 : uS → gS → mS → Nat → Nat → Int32 → Int32 → Prop) (post : gS → mS → Int32 → Prop) (u : uS) (G : gS) (M : mS) (v2 : Nat) (v3 : Nat) (v4 : Int32) (v5 : Int32) (v12 : Nat) (v13 : Nat) (v20 : Int32) (v21 : Int32) : Prop := ∃ (I : Nat → uS → gS → mS → Nat → Nat → Int32 → Int32 → Nat → Nat → Int32 → Int32 → Prop) (n : Nat), I n u G M v2 v3 v4 v5 v12 v13 v20 v21 ∧ ∀ (n : Nat) (u : uS) (G : gS) (M : mS) (v2 : Nat) (v3 : Nat) (v4 : Int32) (v5 : Int32) (v12 : Nat) (v13 : Nat) (v20 : Int32) (v21 : Int32), I n u G M v2 v3 v4 v5 v12 v13 v20 v21 → nb_L_law_625 D kb45 post (fun u G M v2 v3 v4 v5 v12 v13 v20 v21 => ∃ k, k < n ∧ I k u G M v2 v3 v4 v5 v12 v13 v20 v21) u G M v2 v3 v4 v5 v12 v13 v20 v21
def nb_L_law_620 (D : va_G) (kb45 : uS → gS → mS → Nat → Nat → Int32 → Int32 → Prop) (post : gS → mS → Int32 → Prop) (u : uS) (G : gS) (M : mS) (v2 : Nat) (v3 : Nat) (v4 : Int32) (v5 : Int32) (v12 : Nat) (v13 : Nat) (s0 : Int32) : Prop := nl_L_law_625 D kb45 post u G M v2 v3 v4 v5 v12 v13 s0 ((0 : Int32))
def nb_L_law_257 (D : va_G) (kb45 : uS → gS → mS → Nat → Nat → Int32 → Int32 → Prop) (post : gS → mS → Int32 → Prop) (back : uS → gS → mS → Nat → Nat → Int32 → Int32 → Int64 → Int32 → Nat → Nat → Int32 → Int32 → Prop) (u : uS) (G : gS) (M : mS) (v2 : Nat) (v3 : Nat) (v4 : Int32) (v5 : Int32) (v7 : Int64) (v11 : Int32) (v12 : Nat) (v13 : Nat) (v14 : Int32) (v15 : Int32) : Prop := p_if (v4 ≤ v15) (p_cl (m_X9_foresee G M v3 (1 : Int32) (4 : Int32)) (fun M2 r3 => p_cl (m_X9_count G M2 v3 (7 : Int32)) (fun M5 r6 => p_cl (m_X9_count G M5 v3 (8 : Int32)) (fun M8 r9 => p_cl (m_X9_count G M8 v3 (9 : Int32)) (fun M11 r12 => p_cl (m_X9_count G M11 v3 (6 : Int32)) (fun M14 r15 => p_if (v14 = r15) (p_cl (m_X9_digest G M14 v3) (fun M18 r19 => p_if ((lg_cmp r19 v7) = 0) (p_cl (m_X9_pass G M18 v3 (1 : Int32)) (fun M22 r23 => q_ca bL u (fun v => n_X10_go v G M22 v2) (fun u27 G25 M26 r28 => p_cl (m_X9_count G25 M26 v3 (4 : Int32)) (fun M29 r30 => p_if (r30 = (v11 + r23)) (p_cl (m_X9_count G25 M29 v3 (4 : Int32)) (fun M33 r34 => p_if (r34 = r3) (p_cl (m_X9_count G25 M33 v3 (7 : Int32)) (fun M37 r38 => p_if (r38 < r6) (nb_L_law_602 D post u27 G25 M37) (p_cl (m_X9_count G25 M37 v3 (8 : Int32)) (fun M41 r42 => p_if (r42 < r9) (nb_L_law_602 D post u27 G25 M41) (p_cl (m_X9_count G25 M41 v3 (9 : Int32)) (fun M45 r46 => p_if (r46 < r12) (nb_L_law_602 D post u27 G25 M45) (p_cl (m_X9_count G25 M45 v3 (9 : Int32)) (fun M49 r50 => p_cl (m_X9_count G25 M49 v3 (3 : Int32)) (fun M52 r53 => p_if (r50 ≤ (r12 + r53)) (p_cl (m_X9_count G25 M52 v3 (9 : Int32)) (fun M56 r57 => p_if (r57 ≤ r12) (nb_L_law_620 D kb45 post u27 G25 M56 v2 v3 v4 v5 v12 v13 ((0 : Int32))) (nb_L_law_620 D kb45 post u27 G25 M56 v2 v3 v4 v5 v12 v13 ((1 : Int32))))) (nb_L_law_602 D post u27 G25 M52)))))))))) (nb_L_law_602 D post u27 G25 M33))) (nb_L_law_602 D post u27 G25 M29))))) (nb_L_law_516 D post u G M18))) (nb_L_law_516 D post u G M14))))))) (nl_L_law_267 D kb45 back post u G M v2 v3 v4 v5 v7 v11 v12 v13 v14 v15 ((0 : Int32)))
def nl_L_law_257 (D : va_G) (kb45 : uS → gS → mS → Nat → Nat → Int32 → Int32 → Prop) (post : gS → mS → Int32 → Prop) (u : uS) (G : gS) (M : mS) (v2 : Nat) (v3 : Nat) (v4 : Int32) (v5 : Int32) (v7 : Int64) (v11 : Int32) (v12 : Nat) (v13 : Nat) (v14 : Int32) (v15 : Int32) : Prop := ∃ (I : Nat → uS → gS → mS → Nat → Nat → Int32 → Int32 → Int64 → Int32 → Nat → Nat → Int32 → Int32 → Prop) (n : Nat), I n u G M v2 v3 v4 v5 v7 v11 v12 v13 v14 v15 ∧ ∀ (n : Nat) (u : uS) (G : gS) (M : mS) (v2 : Nat) (v3 : Nat) (v4 : Int32) (v5 : Int32) (v7 : Int64) (v11 : Int32) (v12 : Nat) (v13 : Nat) (v14 : Int32) (v15 : Int32), I n u G M v2 v3 v4 v5 v7 v11 v12 v13 v14 v15 → nb_L_law_257 D kb45 post (fun u G M v2 v3 v4 v5 v7 v11 v12 v13 v14 v15 => ∃ k, k < n ∧ I k u G M v2 v3 v4 v5 v7 v11 v12 v13 v14 v15) u G M v2 v3 v4 v5 v7 v11 v12 v13 v14 v15
def nb_L_law_141 (D : va_G) (kb45 : uS → gS → mS → Nat → Nat → Int32 → Int32 → Prop) (post : gS → mS → Int32 → Prop) (back : uS → gS → mS → Nat → Nat → Int32 → Int32 → Int64 → Int32 → Int32 → Int32 → Int32 → Prop) (u : uS) (G : gS) (M : mS) (v2 : Nat) (v3 : Nat) (v4 : Int32) (v5 : Int32) (v7 : Int64) (v9 : Int32) (v10 : Int32) (v11 : Int32) (v12 : Int32) : Prop := p_if ((64 : Int32) ≤ v12) (p_if (v9 = (4096 : Int32)) (p_cl (m_X9_count G M v3 (5 : Int32)) (fun M3 r4 => p_if (v10 = r4) (p_cl (m_X9_count G M3 v3 (4 : Int32)) (fun M7 r8 => p_if (v11 = r8) (p_cl (m_X9_colour G M7 v3 (0 : Int32)) (fun M11 r12 => p_if (v11 = ((4096 : Int32) - r12)) (p_cl (m_X9_mean G M11 v3) (fun M15 r16 => p_ck ((FP.ddiv (FP.i2d v10) (4661225614328463360 : UInt64)) &&& 0x7fffffffffffffff ≤ 0x7ff0000000000000) (p_if ((Op.cmpValue (FP.dcmp r16 (FP.ddiv (FP.i2d v10) (4661225614328463360 : UInt64))) .l) = 0) (p_cl (m_X9_count G M15 v3 (6 : Int32)) (fun M20 r21 => p_if (r21 ≤ v4) (q_mn bL u G M20 v4 (9 : Int32) (fun q24 u27 G25 M26 => q_na bL u27 G25 M26 12 v4 (fun q28 u31 G29 M30 => nl_L_law_257 D kb45 post u31 G29 M30 v2 v3 v4 v5 v7 v11 q24 q28 ((0 : Int32)) ((0 : Int32))))) (nb_L_law_233 D post u G M20))) (nb_L_law_233 D post u G M15)))) (nb_L_law_233 D post u G M11))) (nb_L_law_233 D post u G M7))) (nb_L_law_233 D post u G M3))) (nb_L_law_233 D post u G M)) (p_cl (m_X9_row G M v3 v12) (fun M32 r33 => p_bd ((v11 + r33)) (fun x35 => p_bd (v12 + 1 : Int32) (fun x36 => back u G M32 v2 v3 v4 v5 v7 v9 v10 x35 x36))))
def nl_L_law_141 (D : va_G) (kb45 : uS → gS → mS → Nat → Nat → Int32 → Int32 → Prop) (post : gS → mS → Int32 → Prop) (u : uS) (G : gS) (M : mS) (v2 : Nat) (v3 : Nat) (v4 : Int32) (v5 : Int32) (v7 : Int64) (v9 : Int32) (v10 : Int32) (v11 : Int32) (v12 : Int32) : Prop := ∃ (I : Nat → uS → gS → mS → Nat → Nat → Int32 → Int32 → Int64 → Int32 → Int32 → Int32 → Int32 → Prop) (n : Nat), I n u G M v2 v3 v4 v5 v7 v9 v10 v11 v12 ∧ ∀ (n : Nat) (u : uS) (G : gS) (M : mS) (v2 : Nat) (v3 : Nat) (v4 : Int32) (v5 : Int32) (v7 : Int64) (v9 : Int32) (v10 : Int32) (v11 : Int32) (v12 : Int32), I n u G M v2 v3 v4 v5 v7 v9 v10 v11 v12 → nb_L_law_141 D kb45 post (fun u G M v2 v3 v4 v5 v7 v9 v10 v11 v12 => ∃ k, k < n ∧ I k u G M v2 v3 v4 v5 v7 v9 v10 v11 v12) u G M v2 v3 v4 v5 v7 v9 v10 v11 v12
def nb_L_law_100 (D : va_G) (kb45 : uS → gS → mS → Nat → Nat → Int32 → Int32 → Prop) (post : gS → mS → Int32 → Prop) (back : uS → gS → mS → Nat → Nat → Int32 → Int32 → Int64 → Int32 → Int32 → Int32 → Int32 → Prop) (u : uS) (G : gS) (M : mS) (v2 : Nat) (v3 : Nat) (v4 : Int32) (v5 : Int32) (v7 : Int64) (v9 : Int32) (v10 : Int32) (v11 : Int32) (v12 : Int32) : Prop := p_if ((6 : Int32) ≤ v12) (nl_L_law_141 D kb45 post u G M v2 v3 v4 v5 v7 v9 v10 v11 ((0 : Int32))) (p_cl (m_X9_colour G M v3 v12) (fun M2 r3 => p_bd ((v9 + r3)) (fun x5 => p_cl (m_X9_colour G M2 v3 v12) (fun M6 r7 => p_bd ((v10 + (v12 * r7))) (fun x9 => p_bd (v12 + 1 : Int32) (fun x10 => back u G M6 v2 v3 v4 v5 v7 x5 x9 v11 x10))))))
def nl_L_law_100 (D : va_G) (kb45 : uS → gS → mS → Nat → Nat → Int32 → Int32 → Prop) (post : gS → mS → Int32 → Prop) (u : uS) (G : gS) (M : mS) (v2 : Nat) (v3 : Nat) (v4 : Int32) (v5 : Int32) (v7 : Int64) (v9 : Int32) (v10 : Int32) (v11 : Int32) (v12 : Int32) : Prop := ∃ (I : Nat → uS → gS → mS → Nat → Nat → Int32 → Int32 → Int64 → Int32 → Int32 → Int32 → Int32 → Prop) (n : Nat), I n u G M v2 v3 v4 v5 v7 v9 v10 v11 v12 ∧ ∀ (n : Nat) (u : uS) (G : gS) (M : mS) (v2 : Nat) (v3 : Nat) (v4 : Int32) (v5 : Int32) (v7 : Int64) (v9 : Int32) (v10 : Int32) (v11 : Int32) (v12 : Int32), I n u G M v2 v3 v4 v5 v7 v9 v10 v11 v12 → nb_L_law_100 D kb45 post (fun u G M v2 v3 v4 v5 v7 v9 v10 v11 v12 => ∃ k, k < n ∧ I k u G M v2 v3 v4 v5 v7 v9 v10 v11 v12) u G M v2 v3 v4 v5 v7 v9 v10 v11 v12
def nb_L_law_45 (D : va_G) (post : gS → mS → Int32 → Prop) (back : uS → gS → mS → Nat → Nat → Int32 → Int32 → Prop) (u : uS) (G : gS) (M : mS) (v2 : Nat) (v3 : Nat) (v4 : Int32) (v5 : Int32) : Prop := p_if ((10 : Int32) ≤ v5) (q_ca bL u (fun v => n_X10_isSame v G M v2 v3) (fun u4 G2 M3 r5 => p_ck (r5 = 1) (post G2 M3 1))) (q_ca bL u (fun v => n_L_cell D v G M (v5 + (2 : Int32))) (fun u9 G7 M8 r10 => p_bd (((r10 >>> ((1 : Int32) &&& 31)) + ((67 : Int32) * v5))) (fun x11 => q_ca bL u9 (fun v => n_L_act D v G7 M8 v3 v2 x11) (fun u14 G12 M13 r15 => p_if (r15 = 0) (False) (p_cl (m_X9_digest G12 M13 v3) (fun M17 r18 => nl_L_law_100 D back post u14 G12 M17 v2 v3 v4 v5 r18 ((0 : Int32)) ((0 : Int32)) ((0 : Int32)) ((0 : Int32))))))))
def nl_L_law_45 (D : va_G) (post : gS → mS → Int32 → Prop) (u : uS) (G : gS) (M : mS) (v2 : Nat) (v3 : Nat) (v4 : Int32) (v5 : Int32) : Prop := ∃ (I : Nat → uS → gS → mS → Nat → Nat → Int32 → Int32 → Prop) (n : Nat), I n u G M v2 v3 v4 v5 ∧ ∀ (n : Nat) (u : uS) (G : gS) (M : mS) (v2 : Nat) (v3 : Nat) (v4 : Int32) (v5 : Int32), I n u G M v2 v3 v4 v5 → nb_L_law_45 D post (fun u G M v2 v3 v4 v5 => ∃ k, k < n ∧ I k u G M v2 v3 v4 v5) u G M v2 v3 v4 v5
def n_L_law (D : va_G) (G : gS) (M : mS) (post : gS → mS → Int32 → Prop) : Prop := q_nw bL (0, 0) G M 11 0 4 (fun q1 u4 G2 M3 => q_ca bL u4 (fun v => n_J4_init_da8c8 v G2 M3 q1) (fun u7 G5 M6 r8 => q_ca bL u7 (fun v => n_L_list D v G5 M6 q1) (fun u11 G9 M10 r12 => q_nw bL u11 G9 M10 8 0 7 (fun q13 u16 G14 M15 => q_cc bL u16 (65, 19797) (fun k => n_X9_init G14 M15 q13 k) (fun u19 G17 M18 => q_ca bL u19 (fun v => n_J4_toString_0e30d v G17 M18 q1) (fun u22 G20 M21 r23 => q_ca bL u22 (fun v => n_L_taught D v G20 M21 q13 r23) (fun u26 G24 M25 r27 => p_if (r27 = 0) (p_cl (m_X9_count G24 M25 q13 (2 : Int32)) (fun M29 r30 => nl_L_law_45 D post u26 G24 M29 r12 q13 r30 ((0 : Int32)))) (False))))))))
set_option maxHeartbeats 4000000 in
set_option maxRecDepth 100000 in
theorem bn_L_law_233 {p : Program} {l : Launch} {e : Env} {s : State} {m : MethodId} {args : Array Value} {below : List Frame} {meth : Method} {c : Code} {D : va_G} {cy : cyS} {G0 : gS} {A : Nat → Prop} {Q : State → Prop} {post : gS → mS → Int32 → Prop} (hq : ∀ (u : uS) (G : gS) (M : mS) (H : Heap) (locs : List Loc) (ls : Array Slot) (pc : Nat), post G M 1 → uL u bL → decode cL_law pc = .ok (.ireturn, 1) → wd D cy G M A s.heap H locs → W p l e room_1 s m args below meth c H locs u.1 u.2 Q (F0 m pc ls [.int 1])) : ∀ (u : uS) (G : gS) (M : mS) (H : Heap) (locs : List Loc) (ls : Array Slot), ext G0 G → uL u bL → nb_L_law_233 D post u G M → cX p s m args meth c cL_law RL 29 (some .boolean) wsL_law D cy G A → wd D cy G M A s.heap H locs → lv_has ls 29 [] → W p l e room_1 s m args below meth c H locs u.1 u.2 Q (F0 m 233 ls []) := by
  intro u G M H locs ls hext hu h cx w hl
  unfold nb_L_law_233 at h
  obtain ⟨hx, hb, hml, hown, hts, hr, hlocks, hK, hA, hG, hsx⟩ := id cx
  have hR : room_1.cells = bL.1 ∧ room_1.slots = bL.2 := ⟨rfl, rfl⟩
  refine lv_iconst (v := (0 : Int32)) hx hb dL_law_233 (by decide) ?_
  exact h.elim
set_option maxHeartbeats 4000000 in
set_option maxRecDepth 100000 in
theorem bn_L_law_455 {p : Program} {l : Launch} {e : Env} {s : State} {m : MethodId} {args : Array Value} {below : List Frame} {meth : Method} {c : Code} {D : va_G} {cy : cyS} {G0 : gS} {A : Nat → Prop} {Q : State → Prop} {post : gS → mS → Int32 → Prop} (hq : ∀ (u : uS) (G : gS) (M : mS) (H : Heap) (locs : List Loc) (ls : Array Slot) (pc : Nat), post G M 1 → uL u bL → decode cL_law pc = .ok (.ireturn, 1) → wd D cy G M A s.heap H locs → W p l e room_1 s m args below meth c H locs u.1 u.2 Q (F0 m pc ls [.int 1])) : ∀ (u : uS) (G : gS) (M : mS) (H : Heap) (locs : List Loc) (ls : Array Slot), ext G0 G → uL u bL → nb_L_law_455 D post u G M → cX p s m args meth c cL_law RL 29 (some .boolean) wsL_law D cy G A → wd D cy G M A s.heap H locs → lv_has ls 29 [] → W p l e room_1 s m args below meth c H locs u.1 u.2 Q (F0 m 455 ls []) := by
  intro u G M H locs ls hext hu h cx w hl
  unfold nb_L_law_455 at h
  obtain ⟨hx, hb, hml, hown, hts, hr, hlocks, hK, hA, hG, hsx⟩ := id cx
  have hR : room_1.cells = bL.1 ∧ room_1.slots = bL.2 := ⟨rfl, rfl⟩
  refine lv_iconst (v := (0 : Int32)) hx hb dL_law_455 (by decide) ?_
  exact h.elim
set_option maxHeartbeats 4000000 in
set_option maxRecDepth 100000 in
theorem bn_L_law_398 {p : Program} {l : Launch} {e : Env} {s : State} {m : MethodId} {args : Array Value} {below : List Frame} {meth : Method} {c : Code} {D : va_G} {cy : cyS} {G0 : gS} {A : Nat → Prop} {Q : State → Prop} {post : gS → mS → Int32 → Prop} (hq : ∀ (u : uS) (G : gS) (M : mS) (H : Heap) (locs : List Loc) (ls : Array Slot) (pc : Nat), post G M 1 → uL u bL → decode cL_law pc = .ok (.ireturn, 1) → wd D cy G M A s.heap H locs → W p l e room_1 s m args below meth c H locs u.1 u.2 Q (F0 m pc ls [.int 1])) {kb45 : uS → gS → mS → Nat → Nat → Int32 → Int32 → Prop} (hkb45 : ∀ (u : uS) (G : gS) (M : mS) (v2 : Nat) (v3 : Nat) (v4 : Int32) (v5 : Int32) (H : Heap) (locs : List Loc) (ls : Array Slot), v2 ∈ gL G → gK G v2 = 9 → v3 ∈ gL G → gK G v3 = 8 → ext G0 G → uL u bL → kb45 u G M v2 v3 v4 v5 → cX p s m args meth c cL_law RL 29 (some .boolean) wsL_law D cy G A → wd D cy G M A s.heap H locs → lv_has ls 29 [(0, .ref (stX D)), (2, .ref v2), (3, .ref v3), (4, .int v4), (5, .int v5)] → W p l e room_1 s m args below meth c H locs u.1 u.2 Q (F0 m 45 ls [])) {kb257 : uS → gS → mS → Nat → Nat → Int32 → Int32 → Int64 → Int32 → Nat → Nat → Int32 → Int32 → Prop} (hkb257 : ∀ (u : uS) (G : gS) (M : mS) (v2 : Nat) (v3 : Nat) (v4 : Int32) (v5 : Int32) (v7 : Int64) (v11 : Int32) (v12 : Nat) (v13 : Nat) (v14 : Int32) (v15 : Int32) (H : Heap) (locs : List Loc) (ls : Array Slot), v2 ∈ gL G → gK G v2 = 9 → v3 ∈ gL G → gK G v3 = 8 → v12 ∈ gL G → gK G v12 = 15 → v13 ∈ gL G → gK G v13 = 12 → ext G0 G → uL u bL → kb257 u G M v2 v3 v4 v5 v7 v11 v12 v13 v14 v15 → cX p s m args meth c cL_law RL 29 (some .boolean) wsL_law D cy G A → wd D cy G M A s.heap H locs → lv_has ls 29 [(0, .ref (stX D)), (2, .ref v2), (3, .ref v3), (4, .int v4), (5, .int v5), (7, .long v7), (11, .int v11), (12, .ref v12), (13, .ref v13), (14, .int v14), (15, .int v15)] → W p l e room_1 s m args below meth c H locs u.1 u.2 Q (F0 m 257 ls [])) : ∀ (u : uS) (G : gS) (M : mS) (v2 : Nat) (v3 : Nat) (v4 : Int32) (v5 : Int32) (v7 : Int64) (v11 : Int32) (v12 : Nat) (v13 : Nat) (v14 : Int32) (v15 : Int32) (s0 : Int32) (s1 : Int32) (H : Heap) (locs : List Loc) (ls : Array Slot), v2 ∈ gL G → gK G v2 = 9 → v3 ∈ gL G → gK G v3 = 8 → v12 ∈ gL G → gK G v12 = 15 → v13 ∈ gL G → gK G v13 = 12 → ext G0 G → uL u bL → nb_L_law_398 D kb45 kb257 post u G M v2 v3 v4 v5 v7 v11 v12 v13 v14 v15 s0 s1 → cX p s m args meth c cL_law RL 29 (some .boolean) wsL_law D cy G A → wd D cy G M A s.heap H locs → lv_has ls 29 [(0, .ref (stX D)), (2, .ref v2), (3, .ref v3), (4, .int v4), (5, .int v5), (7, .long v7), (11, .int v11), (12, .ref v12), (13, .ref v13), (14, .int v14), (15, .int v15)] → W p l e room_1 s m args below meth c H locs u.1 u.2 Q (F0 m 398 ls [.int s1, .int s0]) := by
  intro u G M v2 v3 v4 v5 v7 v11 v12 v13 v14 v15 s0 s1 H locs ls v2L v2K v3L v3K v12L v12K v13L v13K hext hu h cx w hl
  unfold nb_L_law_398 at h
  obtain ⟨hx, hb, hml, hown, hts, hr, hlocks, hK, hA, hG, hsx⟩ := id cx
  have hR : room_1.cells = bL.1 ∧ room_1.slots = bL.2 := ⟨rfl, rfl⟩
  refine lv_icmp_ne (tgt := 455) hx hb dL_law_398 (by decide) (fun k1 => ?_) (fun k1 => ?_)
  · have h := w_f h k1
    exact bn_L_law_455 hq u G M H locs ls hext hu h cx w (lv_sub hl [] rfl)
  · have h := w_t h k1
    refine lv_aload hx hb dL_law_401 (lv_at hl 7 rfl) ?_
    refine lv_iload hx hb dL_law_403 (lv_at hl 10 rfl) ?_
    obtain ⟨z2, h⟩ := w_ix h
    obtain ⟨q3, eq3, h⟩ := w_rf h
    obtain ⟨hLq3, hKq3⟩ := wt_q hG v12L v12K eq3
    have hKq3 : gK G q3 = 12 := hKq3
    refine r_aaldA cx w v12L v12K z2 eq3 dL_law_405 ?_
    refine lv_bipush (v := (7 : Int32)) hx hb dL_law_406 (by decide) ?_
    obtain ⟨z4, h⟩ := w_ix h
    refine r_iald cx w hLq3 hKq3 z4 dL_law_408 ?_
    refine va_mabs hx hb (hml.trans hl.1.symm) hown (hts _ (lkL_in wsL_law0_r1 (List.mem_of_getElem? (i := 0) rfl) _ (List.mem_of_getElem? (i := 9) rfl))) (hts _ (lkL_in wsL_law0_r1 (List.mem_of_getElem? (i := 0) rfl) _ (List.mem_of_getElem? (i := 10) rfl))) (hts _ (lkL_in wsL_law0_r1 (List.mem_of_getElem? (i := 0) rfl) _ (List.mem_of_getElem? (i := 11) rfl))) (hts _ (lkL_in wsL_law0_r1 (List.mem_of_getElem? (i := 0) rfl) _ (List.mem_of_getElem? (i := 12) rfl))) (Nat.le_of_ble_eq_true rfl) (Nat.le_of_ble_eq_true rfl) hu.1 hu.2 dL_law_409 ?_
    refine lv_aload hx hb dL_law_412 (lv_at hl 7 rfl) ?_
    refine lv_iload hx hb dL_law_414 (lv_at hl 10 rfl) ?_
    obtain ⟨z5, h⟩ := w_ix h
    obtain ⟨q6, eq6, h⟩ := w_rf h
    obtain ⟨hLq6, hKq6⟩ := wt_q hG v12L v12K eq6
    have hKq6 : gK G q6 = 12 := hKq6
    refine r_aaldA cx w v12L v12K z5 eq6 dL_law_416 ?_
    refine lv_bipush (v := (8 : Int32)) hx hb dL_law_417 (by decide) ?_
    obtain ⟨z7, h⟩ := w_ix h
    refine r_iald cx w hLq6 hKq6 z7 dL_law_419 ?_
    refine va_mabs hx hb (hml.trans hl.1.symm) hown (hts _ (lkL_in wsL_law0_r1 (List.mem_of_getElem? (i := 0) rfl) _ (List.mem_of_getElem? (i := 9) rfl))) (hts _ (lkL_in wsL_law0_r1 (List.mem_of_getElem? (i := 0) rfl) _ (List.mem_of_getElem? (i := 10) rfl))) (hts _ (lkL_in wsL_law0_r1 (List.mem_of_getElem? (i := 0) rfl) _ (List.mem_of_getElem? (i := 11) rfl))) (hts _ (lkL_in wsL_law0_r1 (List.mem_of_getElem? (i := 0) rfl) _ (List.mem_of_getElem? (i := 12) rfl))) (Nat.le_of_ble_eq_true rfl) (Nat.le_of_ble_eq_true rfl) hu.1 hu.2 dL_law_420 ?_
    refine lv_iadd hx hb dL_law_423 ?_
    refine lv_aload hx hb dL_law_424 (lv_at hl 7 rfl) ?_
    refine lv_iload hx hb dL_law_426 (lv_at hl 10 rfl) ?_
    obtain ⟨z8, h⟩ := w_ix h
    obtain ⟨q9, eq9, h⟩ := w_rf h
    obtain ⟨hLq9, hKq9⟩ := wt_q hG v12L v12K eq9
    have hKq9 : gK G q9 = 12 := hKq9
    refine r_aaldA cx w v12L v12K z8 eq9 dL_law_428 ?_
    refine lv_bipush (v := (6 : Int32)) hx hb dL_law_429 (by decide) ?_
    obtain ⟨z10, h⟩ := w_ix h
    refine r_iald cx w hLq9 hKq9 z10 dL_law_431 ?_
    refine lv_icmp_gt (tgt := 455) hx hb dL_law_432 (by decide) (fun k11 => ?_) (fun k11 => ?_)
    · have h := w_t h k11
      exact bn_L_law_455 hq u G M H locs ls hext hu h cx w (lv_sub hl [] rfl)
    · have h := w_f h k11
      refine lv_iconst (v := (3 : Int32)) hx hb dL_law_435 (by decide) ?_
      refine lv_aload hx hb dL_law_436 (lv_at hl 7 rfl) ?_
      refine lv_iload hx hb dL_law_438 (lv_at hl 10 rfl) ?_
      obtain ⟨z12, h⟩ := w_ix h
      obtain ⟨q13, eq13, h⟩ := w_rf h
      obtain ⟨hLq13, hKq13⟩ := wt_q hG v12L v12K eq13
      have hKq13 : gK G q13 = 12 := hKq13
      refine r_aaldA cx w v12L v12K z12 eq13 dL_law_440 ?_
      refine lv_bipush (v := (6 : Int32)) hx hb dL_law_441 (by decide) ?_
      obtain ⟨z14, h⟩ := w_ix h
      refine r_iald cx w hLq13 hKq13 z14 dL_law_443 ?_
      refine lv_imul hx hb dL_law_444 ?_
      refine lv_aload hx hb dL_law_445 (lv_at hl 7 rfl) ?_
      refine lv_iload hx hb dL_law_447 (lv_at hl 10 rfl) ?_
      obtain ⟨z15, h⟩ := w_ix h
      obtain ⟨q16, eq16, h⟩ := w_rf h
      obtain ⟨hLq16, hKq16⟩ := wt_q hG v12L v12K eq16
      have hKq16 : gK G q16 = 12 := hKq16
      refine r_aaldA cx w v12L v12K z15 eq16 dL_law_449 ?_
      refine lv_iconst (v := (5 : Int32)) hx hb dL_law_450 (by decide) ?_
      obtain ⟨z17, h⟩ := w_ix h
      refine r_iald cx w hLq16 hKq16 z17 dL_law_451 ?_
      refine lv_icmp_le (tgt := 457) hx hb dL_law_452 (by decide) (fun k18 => ?_) (fun k18 => ?_)
      · have h := w_t h k18
        obtain ⟨x19, ex19, h⟩ := w_bd h
        refine lv_iinc (v := x19) (lv' := [(15, .int x19), (0, .ref (stX D)), (2, .ref v2), (3, .ref v3), (4, .int v4), (5, .int v5), (7, .long v7), (11, .int v11), (12, .ref v12), (13, .ref v13), (14, .int v14)]) hx hb dL_law_457 hl (k := 10) rfl (by rw [ex19]; rfl) (by decide) rfl (fun ls hl => ?_)
        refine lv_goto (tgt := 257) hx hb dL_law_460 (by decide) ?_
        exact hkb257 u G M v2 v3 v4 v5 v7 v11 v12 v13 v14 x19 H locs ls v2L v2K v3L v3K v12L v12K v13L v13K hext hu h cx w (lv_sub hl [1, 2, 3, 4, 5, 6, 7, 8, 9, 10, 0] rfl)
      · have h := w_f h k18
        exact bn_L_law_455 hq u G M H locs ls hext hu h cx w (lv_sub hl [] rfl)
set_option maxHeartbeats 4000000 in
set_option maxRecDepth 100000 in
theorem bn_L_law_393 {p : Program} {l : Launch} {e : Env} {s : State} {m : MethodId} {args : Array Value} {below : List Frame} {meth : Method} {c : Code} {D : va_G} {cy : cyS} {G0 : gS} {A : Nat → Prop} {Q : State → Prop} {post : gS → mS → Int32 → Prop} (hq : ∀ (u : uS) (G : gS) (M : mS) (H : Heap) (locs : List Loc) (ls : Array Slot) (pc : Nat), post G M 1 → uL u bL → decode cL_law pc = .ok (.ireturn, 1) → wd D cy G M A s.heap H locs → W p l e room_1 s m args below meth c H locs u.1 u.2 Q (F0 m pc ls [.int 1])) {kb45 : uS → gS → mS → Nat → Nat → Int32 → Int32 → Prop} (hkb45 : ∀ (u : uS) (G : gS) (M : mS) (v2 : Nat) (v3 : Nat) (v4 : Int32) (v5 : Int32) (H : Heap) (locs : List Loc) (ls : Array Slot), v2 ∈ gL G → gK G v2 = 9 → v3 ∈ gL G → gK G v3 = 8 → ext G0 G → uL u bL → kb45 u G M v2 v3 v4 v5 → cX p s m args meth c cL_law RL 29 (some .boolean) wsL_law D cy G A → wd D cy G M A s.heap H locs → lv_has ls 29 [(0, .ref (stX D)), (2, .ref v2), (3, .ref v3), (4, .int v4), (5, .int v5)] → W p l e room_1 s m args below meth c H locs u.1 u.2 Q (F0 m 45 ls [])) {kb257 : uS → gS → mS → Nat → Nat → Int32 → Int32 → Int64 → Int32 → Nat → Nat → Int32 → Int32 → Prop} (hkb257 : ∀ (u : uS) (G : gS) (M : mS) (v2 : Nat) (v3 : Nat) (v4 : Int32) (v5 : Int32) (v7 : Int64) (v11 : Int32) (v12 : Nat) (v13 : Nat) (v14 : Int32) (v15 : Int32) (H : Heap) (locs : List Loc) (ls : Array Slot), v2 ∈ gL G → gK G v2 = 9 → v3 ∈ gL G → gK G v3 = 8 → v12 ∈ gL G → gK G v12 = 15 → v13 ∈ gL G → gK G v13 = 12 → ext G0 G → uL u bL → kb257 u G M v2 v3 v4 v5 v7 v11 v12 v13 v14 v15 → cX p s m args meth c cL_law RL 29 (some .boolean) wsL_law D cy G A → wd D cy G M A s.heap H locs → lv_has ls 29 [(0, .ref (stX D)), (2, .ref v2), (3, .ref v3), (4, .int v4), (5, .int v5), (7, .long v7), (11, .int v11), (12, .ref v12), (13, .ref v13), (14, .int v14), (15, .int v15)] → W p l e room_1 s m args below meth c H locs u.1 u.2 Q (F0 m 257 ls [])) : ∀ (u : uS) (G : gS) (M : mS) (v2 : Nat) (v3 : Nat) (v4 : Int32) (v5 : Int32) (v7 : Int64) (v11 : Int32) (v12 : Nat) (v13 : Nat) (v14 : Int32) (v15 : Int32) (s0 : Int32) (H : Heap) (locs : List Loc) (ls : Array Slot), v2 ∈ gL G → gK G v2 = 9 → v3 ∈ gL G → gK G v3 = 8 → v12 ∈ gL G → gK G v12 = 15 → v13 ∈ gL G → gK G v13 = 12 → ext G0 G → uL u bL → nb_L_law_393 D kb45 kb257 post u G M v2 v3 v4 v5 v7 v11 v12 v13 v14 v15 s0 → cX p s m args meth c cL_law RL 29 (some .boolean) wsL_law D cy G A → wd D cy G M A s.heap H locs → lv_has ls 29 [(0, .ref (stX D)), (2, .ref v2), (3, .ref v3), (4, .int v4), (5, .int v5), (7, .long v7), (11, .int v11), (12, .ref v12), (13, .ref v13), (14, .int v14), (15, .int v15)] → W p l e room_1 s m args below meth c H locs u.1 u.2 Q (F0 m 393 ls [.int s0]) := by
  intro u G M v2 v3 v4 v5 v7 v11 v12 v13 v14 v15 s0 H locs ls v2L v2K v3L v3K v12L v12K v13L v13K hext hu h cx w hl
  unfold nb_L_law_393 at h
  obtain ⟨hx, hb, hml, hown, hts, hr, hlocks, hK, hA, hG, hsx⟩ := id cx
  have hR : room_1.cells = bL.1 ∧ room_1.slots = bL.2 := ⟨rfl, rfl⟩
  refine lv_iconst (v := (1 : Int32)) hx hb dL_law_393 (by decide) ?_
  refine lv_goto (tgt := 398) hx hb dL_law_394 (by decide) ?_
  exact bn_L_law_398 hq (hkb45 := hkb45) (hkb257 := hkb257) u G M v2 v3 v4 v5 v7 v11 v12 v13 v14 v15 s0 ((1 : Int32)) H locs ls v2L v2K v3L v3K v12L v12K v13L v13K hext hu h cx w (lv_sub hl [0, 1, 2, 3, 4, 5, 6, 7, 8, 9, 10] rfl)
set_option maxHeartbeats 4000000 in
set_option maxRecDepth 100000 in
theorem bn_L_law_371 {p : Program} {l : Launch} {e : Env} {s : State} {m : MethodId} {args : Array Value} {below : List Frame} {meth : Method} {c : Code} {D : va_G} {cy : cyS} {G0 : gS} {A : Nat → Prop} {Q : State → Prop} {post : gS → mS → Int32 → Prop} (hq : ∀ (u : uS) (G : gS) (M : mS) (H : Heap) (locs : List Loc) (ls : Array Slot) (pc : Nat), post G M 1 → uL u bL → decode cL_law pc = .ok (.ireturn, 1) → wd D cy G M A s.heap H locs → W p l e room_1 s m args below meth c H locs u.1 u.2 Q (F0 m pc ls [.int 1])) {kb45 : uS → gS → mS → Nat → Nat → Int32 → Int32 → Prop} (hkb45 : ∀ (u : uS) (G : gS) (M : mS) (v2 : Nat) (v3 : Nat) (v4 : Int32) (v5 : Int32) (H : Heap) (locs : List Loc) (ls : Array Slot), v2 ∈ gL G → gK G v2 = 9 → v3 ∈ gL G → gK G v3 = 8 → ext G0 G → uL u bL → kb45 u G M v2 v3 v4 v5 → cX p s m args meth c cL_law RL 29 (some .boolean) wsL_law D cy G A → wd D cy G M A s.heap H locs → lv_has ls 29 [(0, .ref (stX D)), (2, .ref v2), (3, .ref v3), (4, .int v4), (5, .int v5)] → W p l e room_1 s m args below meth c H locs u.1 u.2 Q (F0 m 45 ls [])) {kb257 : uS → gS → mS → Nat → Nat → Int32 → Int32 → Int64 → Int32 → Nat → Nat → Int32 → Int32 → Prop} (hkb257 : ∀ (u : uS) (G : gS) (M : mS) (v2 : Nat) (v3 : Nat) (v4 : Int32) (v5 : Int32) (v7 : Int64) (v11 : Int32) (v12 : Nat) (v13 : Nat) (v14 : Int32) (v15 : Int32) (H : Heap) (locs : List Loc) (ls : Array Slot), v2 ∈ gL G → gK G v2 = 9 → v3 ∈ gL G → gK G v3 = 8 → v12 ∈ gL G → gK G v12 = 15 → v13 ∈ gL G → gK G v13 = 12 → ext G0 G → uL u bL → kb257 u G M v2 v3 v4 v5 v7 v11 v12 v13 v14 v15 → cX p s m args meth c cL_law RL 29 (some .boolean) wsL_law D cy G A → wd D cy G M A s.heap H locs → lv_has ls 29 [(0, .ref (stX D)), (2, .ref v2), (3, .ref v3), (4, .int v4), (5, .int v5), (7, .long v7), (11, .int v11), (12, .ref v12), (13, .ref v13), (14, .int v14), (15, .int v15)] → W p l e room_1 s m args below meth c H locs u.1 u.2 Q (F0 m 257 ls [])) : ∀ (u : uS) (G : gS) (M : mS) (v2 : Nat) (v3 : Nat) (v4 : Int32) (v5 : Int32) (v7 : Int64) (v11 : Int32) (v12 : Nat) (v13 : Nat) (v14 : Int32) (v15 : Int32) (s0 : Int32) (H : Heap) (locs : List Loc) (ls : Array Slot), v2 ∈ gL G → gK G v2 = 9 → v3 ∈ gL G → gK G v3 = 8 → v12 ∈ gL G → gK G v12 = 15 → v13 ∈ gL G → gK G v13 = 12 → ext G0 G → uL u bL → nb_L_law_371 D kb45 kb257 post u G M v2 v3 v4 v5 v7 v11 v12 v13 v14 v15 s0 → cX p s m args meth c cL_law RL 29 (some .boolean) wsL_law D cy G A → wd D cy G M A s.heap H locs → lv_has ls 29 [(0, .ref (stX D)), (2, .ref v2), (3, .ref v3), (4, .int v4), (5, .int v5), (7, .long v7), (11, .int v11), (12, .ref v12), (13, .ref v13), (14, .int v14), (15, .int v15)] → W p l e room_1 s m args below meth c H locs u.1 u.2 Q (F0 m 371 ls [.int s0]) := by
  intro u G M v2 v3 v4 v5 v7 v11 v12 v13 v14 v15 s0 H locs ls v2L v2K v3L v3K v12L v12K v13L v13K hext hu h cx w hl
  unfold nb_L_law_371 at h
  obtain ⟨hx, hb, hml, hown, hts, hr, hlocks, hK, hA, hG, hsx⟩ := id cx
  have hR : room_1.cells = bL.1 ∧ room_1.slots = bL.2 := ⟨rfl, rfl⟩
  refine lv_aload hx hb dL_law_371 (lv_at hl 7 rfl) ?_
  refine lv_iload hx hb dL_law_373 (lv_at hl 10 rfl) ?_
  obtain ⟨z1, h⟩ := w_ix h
  obtain ⟨q2, eq2, h⟩ := w_rf h
  obtain ⟨hLq2, hKq2⟩ := wt_q hG v12L v12K eq2
  have hKq2 : gK G q2 = 12 := hKq2
  refine r_aaldA cx w v12L v12K z1 eq2 dL_law_375 ?_
  refine lv_bipush (v := (7 : Int32)) hx hb dL_law_376 (by decide) ?_
  obtain ⟨z3, h⟩ := w_ix h
  refine r_iald cx w hLq2 hKq2 z3 dL_law_378 ?_
  refine lv_if_ne (tgt := 393) hx hb dL_law_379 (by decide) (fun k4 => ?_) (fun k4 => ?_)
  · have h := w_f h k4
    exact bn_L_law_393 hq (hkb45 := hkb45) (hkb257 := hkb257) u G M v2 v3 v4 v5 v7 v11 v12 v13 v14 v15 s0 H locs ls v2L v2K v3L v3K v12L v12K v13L v13K hext hu h cx w (lv_sub hl [0, 1, 2, 3, 4, 5, 6, 7, 8, 9, 10] rfl)
  · have h := w_t h k4
    refine lv_aload hx hb dL_law_382 (lv_at hl 7 rfl) ?_
    refine lv_iload hx hb dL_law_384 (lv_at hl 10 rfl) ?_
    obtain ⟨z5, h⟩ := w_ix h
    obtain ⟨q6, eq6, h⟩ := w_rf h
    obtain ⟨hLq6, hKq6⟩ := wt_q hG v12L v12K eq6
    have hKq6 : gK G q6 = 12 := hKq6
    refine r_aaldA cx w v12L v12K z5 eq6 dL_law_386 ?_
    refine lv_bipush (v := (8 : Int32)) hx hb dL_law_387 (by decide) ?_
    obtain ⟨z7, h⟩ := w_ix h
    refine r_iald cx w hLq6 hKq6 z7 dL_law_389 ?_
    refine lv_if_eq (tgt := 397) hx hb dL_law_390 (by decide) (fun k8 => ?_) (fun k8 => ?_)
    · have h := w_t h k8
      refine lv_iconst (v := (0 : Int32)) hx hb dL_law_397 (by decide) ?_
      exact bn_L_law_398 hq (hkb45 := hkb45) (hkb257 := hkb257) u G M v2 v3 v4 v5 v7 v11 v12 v13 v14 v15 s0 ((0 : Int32)) H locs ls v2L v2K v3L v3K v12L v12K v13L v13K hext hu h cx w (lv_sub hl [0, 1, 2, 3, 4, 5, 6, 7, 8, 9, 10] rfl)
    · have h := w_f h k8
      exact bn_L_law_393 hq (hkb45 := hkb45) (hkb257 := hkb257) u G M v2 v3 v4 v5 v7 v11 v12 v13 v14 v15 s0 H locs ls v2L v2K v3L v3K v12L v12K v13L v13K hext hu h cx w (lv_sub hl [0, 1, 2, 3, 4, 5, 6, 7, 8, 9, 10] rfl)
set_option maxHeartbeats 4000000 in
set_option maxRecDepth 100000 in
theorem bn_L_law_267 {p : Program} {l : Launch} {e : Env} {s : State} {m : MethodId} {args : Array Value} {below : List Frame} {meth : Method} {c : Code} {D : va_G} {cy : cyS} {G0 : gS} {A : Nat → Prop} {Q : State → Prop} {post : gS → mS → Int32 → Prop} (hq : ∀ (u : uS) (G : gS) (M : mS) (H : Heap) (locs : List Loc) (ls : Array Slot) (pc : Nat), post G M 1 → uL u bL → decode cL_law pc = .ok (.ireturn, 1) → wd D cy G M A s.heap H locs → W p l e room_1 s m args below meth c H locs u.1 u.2 Q (F0 m pc ls [.int 1])) {kb45 : uS → gS → mS → Nat → Nat → Int32 → Int32 → Prop} (hkb45 : ∀ (u : uS) (G : gS) (M : mS) (v2 : Nat) (v3 : Nat) (v4 : Int32) (v5 : Int32) (H : Heap) (locs : List Loc) (ls : Array Slot), v2 ∈ gL G → gK G v2 = 9 → v3 ∈ gL G → gK G v3 = 8 → ext G0 G → uL u bL → kb45 u G M v2 v3 v4 v5 → cX p s m args meth c cL_law RL 29 (some .boolean) wsL_law D cy G A → wd D cy G M A s.heap H locs → lv_has ls 29 [(0, .ref (stX D)), (2, .ref v2), (3, .ref v3), (4, .int v4), (5, .int v5)] → W p l e room_1 s m args below meth c H locs u.1 u.2 Q (F0 m 45 ls [])) {kb257 : uS → gS → mS → Nat → Nat → Int32 → Int32 → Int64 → Int32 → Nat → Nat → Int32 → Int32 → Prop} (hkb257 : ∀ (u : uS) (G : gS) (M : mS) (v2 : Nat) (v3 : Nat) (v4 : Int32) (v5 : Int32) (v7 : Int64) (v11 : Int32) (v12 : Nat) (v13 : Nat) (v14 : Int32) (v15 : Int32) (H : Heap) (locs : List Loc) (ls : Array Slot), v2 ∈ gL G → gK G v2 = 9 → v3 ∈ gL G → gK G v3 = 8 → v12 ∈ gL G → gK G v12 = 15 → v13 ∈ gL G → gK G v13 = 12 → ext G0 G → uL u bL → kb257 u G M v2 v3 v4 v5 v7 v11 v12 v13 v14 v15 → cX p s m args meth c cL_law RL 29 (some .boolean) wsL_law D cy G A → wd D cy G M A s.heap H locs → lv_has ls 29 [(0, .ref (stX D)), (2, .ref v2), (3, .ref v3), (4, .int v4), (5, .int v5), (7, .long v7), (11, .int v11), (12, .ref v12), (13, .ref v13), (14, .int v14), (15, .int v15)] → W p l e room_1 s m args below meth c H locs u.1 u.2 Q (F0 m 257 ls [])) : ∀ (u : uS) (G : gS) (M : mS) (v2 : Nat) (v3 : Nat) (v4 : Int32) (v5 : Int32) (v7 : Int64) (v11 : Int32) (v12 : Nat) (v13 : Nat) (v14 : Int32) (v15 : Int32) (v16 : Int32) (H : Heap) (locs : List Loc) (ls : Array Slot), v2 ∈ gL G → gK G v2 = 9 → v3 ∈ gL G → gK G v3 = 8 → v12 ∈ gL G → gK G v12 = 15 → v13 ∈ gL G → gK G v13 = 12 → ext G0 G → uL u bL → nl_L_law_267 D kb45 kb257 post u G M v2 v3 v4 v5 v7 v11 v12 v13 v14 v15 v16 → cX p s m args meth c cL_law RL 29 (some .boolean) wsL_law D cy G A → wd D cy G M A s.heap H locs → lv_has ls 29 [(0, .ref (stX D)), (2, .ref v2), (3, .ref v3), (4, .int v4), (5, .int v5), (7, .long v7), (11, .int v11), (12, .ref v12), (13, .ref v13), (14, .int v14), (15, .int v15), (16, .int v16)] → W p l e room_1 s m args below meth c H locs u.1 u.2 Q (F0 m 267 ls []) := by
  intro u G M v2 v3 v4 v5 v7 v11 v12 v13 v14 v15 v16 H locs ls v2L v2K v3L v3K v12L v12K v13L v13K hext hu h cx w hl
  obtain ⟨I, n, hI, hB⟩ := h
  have key : ∀ n : Nat, ∀ (u : uS) (G : gS) (M : mS) (v2 : Nat) (v3 : Nat) (v4 : Int32) (v5 : Int32) (v7 : Int64) (v11 : Int32) (v12 : Nat) (v13 : Nat) (v14 : Int32) (v15 : Int32) (v16 : Int32) (H : Heap) (locs : List Loc) (ls : Array Slot), v2 ∈ gL G → gK G v2 = 9 → v3 ∈ gL G → gK G v3 = 8 → v12 ∈ gL G → gK G v12 = 15 → v13 ∈ gL G → gK G v13 = 12 → ext G0 G → uL u bL → I n u G M v2 v3 v4 v5 v7 v11 v12 v13 v14 v15 v16 → cX p s m args meth c cL_law RL 29 (some .boolean) wsL_law D cy G A → wd D cy G M A s.heap H locs → lv_has ls 29 [(0, .ref (stX D)), (2, .ref v2), (3, .ref v3), (4, .int v4), (5, .int v5), (7, .long v7), (11, .int v11), (12, .ref v12), (13, .ref v13), (14, .int v14), (15, .int v15), (16, .int v16)] → W p l e room_1 s m args below meth c H locs u.1 u.2 Q (F0 m 267 ls []) := by
    intro n
    induction n using Nat.strongRecOn with
    | ind n ih =>
      intro u G M v2 v3 v4 v5 v7 v11 v12 v13 v14 v15 v16 H locs ls v2L v2K v3L v3K v12L v12K v13L v13K hext hu hI cx w hl
      have h := hB n u G M v2 v3 v4 v5 v7 v11 v12 v13 v14 v15 v16 hI
      unfold nb_L_law_267 at h
      obtain ⟨hx, hb, hml, hown, hts, hr, hlocks, hK, hA, hG, hsx⟩ := id cx
      have hR : room_1.cells = bL.1 ∧ room_1.slots = bL.2 := ⟨rfl, rfl⟩
      refine lv_iload hx hb dL_law_267 (lv_at hl 11 rfl) ?_
      refine lv_bipush (v := (9 : Int32)) hx hb dL_law_269 (by decide) ?_
      refine lv_icmp_ge (tgt := 296) hx hb dL_law_271 (by decide) (fun k1 => ?_) (fun k1 => ?_)
      · have h := w_t h k1
        refine lv_aload hx hb dL_law_296 (lv_at hl 8 rfl) ?_
        refine lv_iload hx hb dL_law_298 (lv_at hl 10 rfl) ?_
        refine lv_aload_n hx hb dL_law_300 rfl (lv_at hl 2 rfl) ?_
        refine lv_aload hx hb dL_law_301 (lv_at hl 7 rfl) ?_
        refine lv_iload hx hb dL_law_303 (lv_at hl 10 rfl) ?_
        obtain ⟨z2, h⟩ := w_ix h
        obtain ⟨q3, eq3, h⟩ := w_rf h
        obtain ⟨hLq3, hKq3⟩ := wt_q hG v12L v12K eq3
        have hKq3 : gK G q3 = 12 := hKq3
        refine r_aaldA cx w v12L v12K z2 eq3 dL_law_305 ?_
        refine lv_iconst (v := (1 : Int32)) hx hb dL_law_306 (by decide) ?_
        obtain ⟨z4, h⟩ := w_ix h
        refine r_iald cx w hLq3 hKq3 z4 dL_law_307 ?_
        refine lv_aload hx hb dL_law_308 (lv_at hl 7 rfl) ?_
        refine lv_iload hx hb dL_law_310 (lv_at hl 10 rfl) ?_
        obtain ⟨z5, h⟩ := w_ix h
        obtain ⟨q6, eq6, h⟩ := w_rf h
        obtain ⟨hLq6, hKq6⟩ := wt_q hG v12L v12K eq6
        have hKq6 : gK G q6 = 12 := hKq6
        refine r_aaldA cx w v12L v12K z5 eq6 dL_law_312 ?_
        refine lv_iconst (v := (2 : Int32)) hx hb dL_law_313 (by decide) ?_
        obtain ⟨z7, h⟩ := w_ix h
        refine r_iald cx w hLq6 hKq6 z7 dL_law_314 ?_
        obtain ⟨M8, r9, y10, h⟩ := w_cl h
        refine r_callVi (As := [.int ((mI M q3 (Int32.toNatClampNeg (1 : Int32)))), .int ((mI M q6 (Int32.toNatClampNeg (2 : Int32))))]) (rest := [.int v15, .ref v13]) cx w hu hl.1 (k_X9_stone hG v3L v3K y10) (cwV 2 hts gL_law_X9_stone rfl rfl rfl (by decide +kernel) ⟨(Nat.le_of_ble_eq_true rfl), (Nat.le_of_ble_eq_true rfl)⟩) v3L v3K (by decide) rfl rfl rfl (Nat.le_of_ble_eq_true rfl) dL_law_315 (fun H locs w => ?_)
        obtain ⟨z11, h⟩ := w_ix h
        obtain ⟨M12, eM12, h⟩ := w_wI h
        refine r_iast cx w v13L v13K z11 dL_law_318 eM12 (fun H locs w => ?_)
        refine lv_iload hx hb dL_law_319 (lv_at hl 9 rfl) ?_
        refine lv_aload hx hb dL_law_321 (lv_at hl 7 rfl) ?_
        refine lv_iload hx hb dL_law_323 (lv_at hl 10 rfl) ?_
        obtain ⟨z13, h⟩ := w_ix h
        obtain ⟨q14, eq14, h⟩ := w_rf h
        obtain ⟨hLq14, hKq14⟩ := wt_q hG v12L v12K eq14
        have hKq14 : gK G q14 = 12 := hKq14
        refine r_aaldA cx w v12L v12K z13 eq14 dL_law_325 ?_
        refine lv_iconst (v := (4 : Int32)) hx hb dL_law_326 (by decide) ?_
        obtain ⟨z15, h⟩ := w_ix h
        refine r_iald cx w hLq14 hKq14 z15 dL_law_327 ?_
        refine lv_iadd hx hb dL_law_328 ?_
        obtain ⟨x16, ex16, h⟩ := w_bd h
        refine r_topI ex16 ?_
        refine lv_istore (lv' := [(14, .int x16), (0, .ref (stX D)), (2, .ref v2), (3, .ref v3), (4, .int v4), (5, .int v5), (7, .long v7), (11, .int v11), (12, .ref v12), (13, .ref v13), (15, .int v15), (16, .int v16)]) hx hb dL_law_329 hl (by decide) rfl (fun ls hl => ?_)
        refine lv_aload hx hb dL_law_331 (lv_at hl 8 rfl) ?_
        refine lv_iload hx hb dL_law_333 (lv_at hl 10 rfl) ?_
        obtain ⟨z17, h⟩ := w_ix h
        obtain ⟨q18, eq18, h⟩ := w_rf h
        obtain ⟨hLq18, hKq18⟩ := wt_q hG v12L v12K eq18
        have hKq18 : gK G q18 = 12 := hKq18
        refine r_aaldA cx w v12L v12K z17 eq18 dL_law_335 ?_
        refine lv_bipush (v := (6 : Int32)) hx hb dL_law_336 (by decide) ?_
        obtain ⟨z19, h⟩ := w_ix h
        refine r_iald cx w hLq18 hKq18 z19 dL_law_338 ?_
        refine lv_if_lt (tgt := 455) hx hb dL_law_339 (by decide) (fun k20 => ?_) (fun k20 => ?_)
        · have h := w_t h k20
          exact bn_L_law_455 hq u G M12 H locs ls hext hu h cx w (lv_sub hl [] rfl)
        · have h := w_f h k20
          refine lv_aload hx hb dL_law_342 (lv_at hl 8 rfl) ?_
          refine lv_iload hx hb dL_law_344 (lv_at hl 10 rfl) ?_
          obtain ⟨z21, h⟩ := w_ix h
          obtain ⟨q22, eq22, h⟩ := w_rf h
          obtain ⟨hLq22, hKq22⟩ := wt_q hG v12L v12K eq22
          have hKq22 : gK G q22 = 12 := hKq22
          refine r_aaldA cx w v12L v12K z21 eq22 dL_law_346 ?_
          refine lv_bipush (v := (6 : Int32)) hx hb dL_law_347 (by decide) ?_
          obtain ⟨z23, h⟩ := w_ix h
          refine r_iald cx w hLq22 hKq22 z23 dL_law_349 ?_
          refine lv_bipush (v := (120 : Int32)) hx hb dL_law_350 (by decide) ?_
          refine lv_icmp_gt (tgt := 455) hx hb dL_law_352 (by decide) (fun k24 => ?_) (fun k24 => ?_)
          · have h := w_t h k24
            exact bn_L_law_455 hq u G M12 H locs ls hext hu h cx w (lv_sub hl [] rfl)
          · have h := w_f h k24
            refine lv_aload hx hb dL_law_355 (lv_at hl 8 rfl) ?_
            refine lv_iload hx hb dL_law_357 (lv_at hl 10 rfl) ?_
            obtain ⟨z25, h⟩ := w_ix h
            obtain ⟨q26, eq26, h⟩ := w_rf h
            obtain ⟨hLq26, hKq26⟩ := wt_q hG v12L v12K eq26
            have hKq26 : gK G q26 = 12 := hKq26
            refine r_aaldA cx w v12L v12K z25 eq26 dL_law_359 ?_
            refine lv_bipush (v := (6 : Int32)) hx hb dL_law_360 (by decide) ?_
            obtain ⟨z27, h⟩ := w_ix h
            refine r_iald cx w hLq26 hKq26 z27 dL_law_362 ?_
            refine lv_if_le (tgt := 370) hx hb dL_law_363 (by decide) (fun k28 => ?_) (fun k28 => ?_)
            · have h := w_t h k28
              refine lv_iconst (v := (0 : Int32)) hx hb dL_law_370 (by decide) ?_
              exact bn_L_law_371 hq (hkb45 := hkb45) (hkb257 := hkb257) u G M12 v2 v3 v4 v5 v7 v11 v12 v13 x16 v15 ((0 : Int32)) H locs ls v2L v2K v3L v3K v12L v12K v13L v13K hext hu h cx w (lv_sub hl [1, 2, 3, 4, 5, 6, 7, 8, 9, 0, 10] rfl)
            · have h := w_f h k28
              refine lv_iconst (v := (1 : Int32)) hx hb dL_law_366 (by decide) ?_
              refine lv_goto (tgt := 371) hx hb dL_law_367 (by decide) ?_
              exact bn_L_law_371 hq (hkb45 := hkb45) (hkb257 := hkb257) u G M12 v2 v3 v4 v5 v7 v11 v12 v13 x16 v15 ((1 : Int32)) H locs ls v2L v2K v3L v3K v12L v12K v13L v13K hext hu h cx w (lv_sub hl [1, 2, 3, 4, 5, 6, 7, 8, 9, 0, 10] rfl)
      · have h := w_f h k1
        refine lv_aload hx hb dL_law_274 (lv_at hl 7 rfl) ?_
        refine lv_iload hx hb dL_law_276 (lv_at hl 10 rfl) ?_
        obtain ⟨z29, h⟩ := w_ix h
        obtain ⟨q30, eq30, h⟩ := w_rf h
        obtain ⟨hLq30, hKq30⟩ := wt_q hG v12L v12K eq30
        have hKq30 : gK G q30 = 12 := hKq30
        refine r_aaldA cx w v12L v12K z29 eq30 dL_law_278 ?_
        refine lv_iload hx hb dL_law_279 (lv_at hl 11 rfl) ?_
        refine lv_aload_n hx hb dL_law_281 rfl (lv_at hl 2 rfl) ?_
        refine lv_iload hx hb dL_law_282 (lv_at hl 10 rfl) ?_
        refine lv_iload hx hb dL_law_284 (lv_at hl 11 rfl) ?_
        obtain ⟨M31, r32, y33, h⟩ := w_cl h
        refine r_callVi (As := [.int v15, .int v16]) (rest := [.int v16, .ref q30]) cx w hu hl.1 (k_X9_ant hG v3L v3K y33) (cwV 2 hts gL_law_X9_ant rfl rfl rfl (by decide +kernel) ⟨(Nat.le_of_ble_eq_true rfl), (Nat.le_of_ble_eq_true rfl)⟩) v3L v3K (by decide) rfl rfl rfl (Nat.le_of_ble_eq_true rfl) dL_law_286 (fun H locs w => ?_)
        obtain ⟨z34, h⟩ := w_ix h
        obtain ⟨M35, eM35, h⟩ := w_wI h
        refine r_iast cx w hLq30 hKq30 z34 dL_law_289 eM35 (fun H locs w => ?_)
        obtain ⟨x36, ex36, h⟩ := w_bd h
        refine lv_iinc (v := x36) (lv' := [(16, .int x36), (0, .ref (stX D)), (2, .ref v2), (3, .ref v3), (4, .int v4), (5, .int v5), (7, .long v7), (11, .int v11), (12, .ref v12), (13, .ref v13), (14, .int v14), (15, .int v15)]) hx hb dL_law_290 hl (k := 11) rfl (by rw [ex36]; rfl) (by decide) rfl (fun ls hl => ?_)
        refine lv_goto (tgt := 267) hx hb dL_law_293 (by decide) ?_
        obtain ⟨k, hk, hI⟩ := h
        exact ih k hk u G M35 v2 v3 v4 v5 v7 v11 v12 v13 v14 v15 x36 H locs ls v2L v2K v3L v3K v12L v12K v13L v13K hext hu hI cx w (lv_sub hl [1, 2, 3, 4, 5, 6, 7, 8, 9, 10, 11, 0] rfl)
  exact key n u G M v2 v3 v4 v5 v7 v11 v12 v13 v14 v15 v16 H locs ls v2L v2K v3L v3K v12L v12K v13L v13K hext hu hI cx w hl
set_option maxHeartbeats 4000000 in
set_option maxRecDepth 100000 in
theorem bn_L_law_516 {p : Program} {l : Launch} {e : Env} {s : State} {m : MethodId} {args : Array Value} {below : List Frame} {meth : Method} {c : Code} {D : va_G} {cy : cyS} {G0 : gS} {A : Nat → Prop} {Q : State → Prop} {post : gS → mS → Int32 → Prop} (hq : ∀ (u : uS) (G : gS) (M : mS) (H : Heap) (locs : List Loc) (ls : Array Slot) (pc : Nat), post G M 1 → uL u bL → decode cL_law pc = .ok (.ireturn, 1) → wd D cy G M A s.heap H locs → W p l e room_1 s m args below meth c H locs u.1 u.2 Q (F0 m pc ls [.int 1])) : ∀ (u : uS) (G : gS) (M : mS) (H : Heap) (locs : List Loc) (ls : Array Slot), ext G0 G → uL u bL → nb_L_law_516 D post u G M → cX p s m args meth c cL_law RL 29 (some .boolean) wsL_law D cy G A → wd D cy G M A s.heap H locs → lv_has ls 29 [] → W p l e room_1 s m args below meth c H locs u.1 u.2 Q (F0 m 516 ls []) := by
  intro u G M H locs ls hext hu h cx w hl
  unfold nb_L_law_516 at h
  obtain ⟨hx, hb, hml, hown, hts, hr, hlocks, hK, hA, hG, hsx⟩ := id cx
  have hR : room_1.cells = bL.1 ∧ room_1.slots = bL.2 := ⟨rfl, rfl⟩
  refine lv_iconst (v := (0 : Int32)) hx hb dL_law_516 (by decide) ?_
  exact h.elim
set_option maxHeartbeats 4000000 in
set_option maxRecDepth 100000 in
theorem bn_L_law_602 {p : Program} {l : Launch} {e : Env} {s : State} {m : MethodId} {args : Array Value} {below : List Frame} {meth : Method} {c : Code} {D : va_G} {cy : cyS} {G0 : gS} {A : Nat → Prop} {Q : State → Prop} {post : gS → mS → Int32 → Prop} (hq : ∀ (u : uS) (G : gS) (M : mS) (H : Heap) (locs : List Loc) (ls : Array Slot) (pc : Nat), post G M 1 → uL u bL → decode cL_law pc = .ok (.ireturn, 1) → wd D cy G M A s.heap H locs → W p l e room_1 s m args below meth c H locs u.1 u.2 Q (F0 m pc ls [.int 1])) : ∀ (u : uS) (G : gS) (M : mS) (H : Heap) (locs : List Loc) (ls : Array Slot), ext G0 G → uL u bL → nb_L_law_602 D post u G M → cX p s m args meth c cL_law RL 29 (some .boolean) wsL_law D cy G A → wd D cy G M A s.heap H locs → lv_has ls 29 [] → W p l e room_1 s m args below meth c H locs u.1 u.2 Q (F0 m 602 ls []) := by
  intro u G M H locs ls hext hu h cx w hl
  unfold nb_L_law_602 at h
  obtain ⟨hx, hb, hml, hown, hts, hr, hlocks, hK, hA, hG, hsx⟩ := id cx
  have hR : room_1.cells = bL.1 ∧ room_1.slots = bL.2 := ⟨rfl, rfl⟩
  refine lv_iconst (v := (0 : Int32)) hx hb dL_law_602 (by decide) ?_
  exact h.elim
set_option maxHeartbeats 4000000 in
set_option maxRecDepth 100000 in
theorem bn_L_law_791 {p : Program} {l : Launch} {e : Env} {s : State} {m : MethodId} {args : Array Value} {below : List Frame} {meth : Method} {c : Code} {D : va_G} {cy : cyS} {G0 : gS} {A : Nat → Prop} {Q : State → Prop} {post : gS → mS → Int32 → Prop} (hq : ∀ (u : uS) (G : gS) (M : mS) (H : Heap) (locs : List Loc) (ls : Array Slot) (pc : Nat), post G M 1 → uL u bL → decode cL_law pc = .ok (.ireturn, 1) → wd D cy G M A s.heap H locs → W p l e room_1 s m args below meth c H locs u.1 u.2 Q (F0 m pc ls [.int 1])) : ∀ (u : uS) (G : gS) (M : mS) (H : Heap) (locs : List Loc) (ls : Array Slot), ext G0 G → uL u bL → nb_L_law_791 D post u G M → cX p s m args meth c cL_law RL 29 (some .boolean) wsL_law D cy G A → wd D cy G M A s.heap H locs → lv_has ls 29 [] → W p l e room_1 s m args below meth c H locs u.1 u.2 Q (F0 m 791 ls []) := by
  intro u G M H locs ls hext hu h cx w hl
  unfold nb_L_law_791 at h
  obtain ⟨hx, hb, hml, hown, hts, hr, hlocks, hK, hA, hG, hsx⟩ := id cx
  have hR : room_1.cells = bL.1 ∧ room_1.slots = bL.2 := ⟨rfl, rfl⟩
  refine lv_iconst (v := (0 : Int32)) hx hb dL_law_791 (by decide) ?_
  exact h.elim
set_option maxHeartbeats 4000000 in
set_option maxRecDepth 100000 in
theorem bn_L_law_869 {p : Program} {l : Launch} {e : Env} {s : State} {m : MethodId} {args : Array Value} {below : List Frame} {meth : Method} {c : Code} {D : va_G} {cy : cyS} {G0 : gS} {A : Nat → Prop} {Q : State → Prop} {post : gS → mS → Int32 → Prop} (hq : ∀ (u : uS) (G : gS) (M : mS) (H : Heap) (locs : List Loc) (ls : Array Slot) (pc : Nat), post G M 1 → uL u bL → decode cL_law pc = .ok (.ireturn, 1) → wd D cy G M A s.heap H locs → W p l e room_1 s m args below meth c H locs u.1 u.2 Q (F0 m pc ls [.int 1])) {kb45 : uS → gS → mS → Nat → Nat → Int32 → Int32 → Prop} (hkb45 : ∀ (u : uS) (G : gS) (M : mS) (v2 : Nat) (v3 : Nat) (v4 : Int32) (v5 : Int32) (H : Heap) (locs : List Loc) (ls : Array Slot), v2 ∈ gL G → gK G v2 = 9 → v3 ∈ gL G → gK G v3 = 8 → ext G0 G → uL u bL → kb45 u G M v2 v3 v4 v5 → cX p s m args meth c cL_law RL 29 (some .boolean) wsL_law D cy G A → wd D cy G M A s.heap H locs → lv_has ls 29 [(0, .ref (stX D)), (2, .ref v2), (3, .ref v3), (4, .int v4), (5, .int v5)] → W p l e room_1 s m args below meth c H locs u.1 u.2 Q (F0 m 45 ls [])) {kb625 : uS → gS → mS → Nat → Nat → Int32 → Int32 → Nat → Nat → Int32 → Int32 → Prop} (hkb625 : ∀ (u : uS) (G : gS) (M : mS) (v2 : Nat) (v3 : Nat) (v4 : Int32) (v5 : Int32) (v12 : Nat) (v13 : Nat) (v20 : Int32) (v21 : Int32) (H : Heap) (locs : List Loc) (ls : Array Slot), v2 ∈ gL G → gK G v2 = 9 → v3 ∈ gL G → gK G v3 = 8 → v12 ∈ gL G → gK G v12 = 15 → v13 ∈ gL G → gK G v13 = 12 → ext G0 G → uL u bL → kb625 u G M v2 v3 v4 v5 v12 v13 v20 v21 → cX p s m args meth c cL_law RL 29 (some .boolean) wsL_law D cy G A → wd D cy G M A s.heap H locs → lv_has ls 29 [(0, .ref (stX D)), (2, .ref v2), (3, .ref v3), (4, .int v4), (5, .int v5), (12, .ref v12), (13, .ref v13), (20, .int v20), (21, .int v21)] → W p l e room_1 s m args below meth c H locs u.1 u.2 Q (F0 m 625 ls [])) {kb814 : uS → gS → mS → Nat → Nat → Int32 → Int32 → Nat → Nat → Int32 → Int32 → Int32 → Int32 → Int32 → Prop} (hkb814 : ∀ (u : uS) (G : gS) (M : mS) (v2 : Nat) (v3 : Nat) (v4 : Int32) (v5 : Int32) (v12 : Nat) (v13 : Nat) (v20 : Int32) (v21 : Int32) (v23 : Int32) (v25 : Int32) (v26 : Int32) (H : Heap) (locs : List Loc) (ls : Array Slot), v2 ∈ gL G → gK G v2 = 9 → v3 ∈ gL G → gK G v3 = 8 → v12 ∈ gL G → gK G v12 = 15 → v13 ∈ gL G → gK G v13 = 12 → ext G0 G → uL u bL → kb814 u G M v2 v3 v4 v5 v12 v13 v20 v21 v23 v25 v26 → cX p s m args meth c cL_law RL 29 (some .boolean) wsL_law D cy G A → wd D cy G M A s.heap H locs → lv_has ls 29 [(0, .ref (stX D)), (2, .ref v2), (3, .ref v3), (4, .int v4), (5, .int v5), (12, .ref v12), (13, .ref v13), (20, .int v20), (21, .int v21), (23, .int v23), (25, .int v25), (26, .int v26)] → W p l e room_1 s m args below meth c H locs u.1 u.2 Q (F0 m 814 ls [])) : ∀ (u : uS) (G : gS) (M : mS) (v2 : Nat) (v3 : Nat) (v4 : Int32) (v5 : Int32) (v12 : Nat) (v13 : Nat) (v20 : Int32) (v21 : Int32) (v23 : Int32) (v26 : Int32) (s0 : Int32) (s1 : Int32) (H : Heap) (locs : List Loc) (ls : Array Slot), v2 ∈ gL G → gK G v2 = 9 → v3 ∈ gL G → gK G v3 = 8 → v12 ∈ gL G → gK G v12 = 15 → v13 ∈ gL G → gK G v13 = 12 → ext G0 G → uL u bL → nb_L_law_869 D kb45 kb625 kb814 post u G M v2 v3 v4 v5 v12 v13 v20 v21 v23 v26 s0 s1 → cX p s m args meth c cL_law RL 29 (some .boolean) wsL_law D cy G A → wd D cy G M A s.heap H locs → lv_has ls 29 [(0, .ref (stX D)), (2, .ref v2), (3, .ref v3), (4, .int v4), (5, .int v5), (12, .ref v12), (13, .ref v13), (20, .int v20), (21, .int v21), (23, .int v23), (26, .int v26)] → W p l e room_1 s m args below meth c H locs u.1 u.2 Q (F0 m 869 ls [.int s1, .int s0]) := by
  intro u G M v2 v3 v4 v5 v12 v13 v20 v21 v23 v26 s0 s1 H locs ls v2L v2K v3L v3K v12L v12K v13L v13K hext hu h cx w hl
  unfold nb_L_law_869 at h
  obtain ⟨hx, hb, hml, hown, hts, hr, hlocks, hK, hA, hG, hsx⟩ := id cx
  have hR : room_1.cells = bL.1 ∧ room_1.slots = bL.2 := ⟨rfl, rfl⟩
  refine lv_iand hx hb dL_law_869 ?_
  obtain ⟨x1, ex1, h⟩ := w_bd h
  refine r_topI ex1 ?_
  refine lv_istore (lv' := [(25, .int x1), (0, .ref (stX D)), (2, .ref v2), (3, .ref v3), (4, .int v4), (5, .int v5), (12, .ref v12), (13, .ref v13), (20, .int v20), (21, .int v21), (23, .int v23), (26, .int v26)]) hx hb dL_law_870 hl (by decide) rfl (fun ls hl => ?_)
  obtain ⟨x2, ex2, h⟩ := w_bd h
  refine lv_iinc (v := x2) (lv' := [(26, .int x2), (25, .int x1), (0, .ref (stX D)), (2, .ref v2), (3, .ref v3), (4, .int v4), (5, .int v5), (12, .ref v12), (13, .ref v13), (20, .int v20), (21, .int v21), (23, .int v23)]) hx hb dL_law_872 hl (k := 11) rfl (by rw [ex2]; rfl) (by decide) rfl (fun ls hl => ?_)
  refine lv_goto (tgt := 814) hx hb dL_law_875 (by decide) ?_
  exact hkb814 u G M v2 v3 v4 v5 v12 v13 v20 v21 v23 x1 x2 H locs ls v2L v2K v3L v3K v12L v12K v13L v13K hext hu h cx w (lv_sub hl [2, 3, 4, 5, 6, 7, 8, 9, 10, 11, 1, 0] rfl)
set_option maxHeartbeats 4000000 in
set_option maxRecDepth 100000 in
theorem bn_L_law_864 {p : Program} {l : Launch} {e : Env} {s : State} {m : MethodId} {args : Array Value} {below : List Frame} {meth : Method} {c : Code} {D : va_G} {cy : cyS} {G0 : gS} {A : Nat → Prop} {Q : State → Prop} {post : gS → mS → Int32 → Prop} (hq : ∀ (u : uS) (G : gS) (M : mS) (H : Heap) (locs : List Loc) (ls : Array Slot) (pc : Nat), post G M 1 → uL u bL → decode cL_law pc = .ok (.ireturn, 1) → wd D cy G M A s.heap H locs → W p l e room_1 s m args below meth c H locs u.1 u.2 Q (F0 m pc ls [.int 1])) {kb45 : uS → gS → mS → Nat → Nat → Int32 → Int32 → Prop} (hkb45 : ∀ (u : uS) (G : gS) (M : mS) (v2 : Nat) (v3 : Nat) (v4 : Int32) (v5 : Int32) (H : Heap) (locs : List Loc) (ls : Array Slot), v2 ∈ gL G → gK G v2 = 9 → v3 ∈ gL G → gK G v3 = 8 → ext G0 G → uL u bL → kb45 u G M v2 v3 v4 v5 → cX p s m args meth c cL_law RL 29 (some .boolean) wsL_law D cy G A → wd D cy G M A s.heap H locs → lv_has ls 29 [(0, .ref (stX D)), (2, .ref v2), (3, .ref v3), (4, .int v4), (5, .int v5)] → W p l e room_1 s m args below meth c H locs u.1 u.2 Q (F0 m 45 ls [])) {kb625 : uS → gS → mS → Nat → Nat → Int32 → Int32 → Nat → Nat → Int32 → Int32 → Prop} (hkb625 : ∀ (u : uS) (G : gS) (M : mS) (v2 : Nat) (v3 : Nat) (v4 : Int32) (v5 : Int32) (v12 : Nat) (v13 : Nat) (v20 : Int32) (v21 : Int32) (H : Heap) (locs : List Loc) (ls : Array Slot), v2 ∈ gL G → gK G v2 = 9 → v3 ∈ gL G → gK G v3 = 8 → v12 ∈ gL G → gK G v12 = 15 → v13 ∈ gL G → gK G v13 = 12 → ext G0 G → uL u bL → kb625 u G M v2 v3 v4 v5 v12 v13 v20 v21 → cX p s m args meth c cL_law RL 29 (some .boolean) wsL_law D cy G A → wd D cy G M A s.heap H locs → lv_has ls 29 [(0, .ref (stX D)), (2, .ref v2), (3, .ref v3), (4, .int v4), (5, .int v5), (12, .ref v12), (13, .ref v13), (20, .int v20), (21, .int v21)] → W p l e room_1 s m args below meth c H locs u.1 u.2 Q (F0 m 625 ls [])) {kb814 : uS → gS → mS → Nat → Nat → Int32 → Int32 → Nat → Nat → Int32 → Int32 → Int32 → Int32 → Int32 → Prop} (hkb814 : ∀ (u : uS) (G : gS) (M : mS) (v2 : Nat) (v3 : Nat) (v4 : Int32) (v5 : Int32) (v12 : Nat) (v13 : Nat) (v20 : Int32) (v21 : Int32) (v23 : Int32) (v25 : Int32) (v26 : Int32) (H : Heap) (locs : List Loc) (ls : Array Slot), v2 ∈ gL G → gK G v2 = 9 → v3 ∈ gL G → gK G v3 = 8 → v12 ∈ gL G → gK G v12 = 15 → v13 ∈ gL G → gK G v13 = 12 → ext G0 G → uL u bL → kb814 u G M v2 v3 v4 v5 v12 v13 v20 v21 v23 v25 v26 → cX p s m args meth c cL_law RL 29 (some .boolean) wsL_law D cy G A → wd D cy G M A s.heap H locs → lv_has ls 29 [(0, .ref (stX D)), (2, .ref v2), (3, .ref v3), (4, .int v4), (5, .int v5), (12, .ref v12), (13, .ref v13), (20, .int v20), (21, .int v21), (23, .int v23), (25, .int v25), (26, .int v26)] → W p l e room_1 s m args below meth c H locs u.1 u.2 Q (F0 m 814 ls [])) : ∀ (u : uS) (G : gS) (M : mS) (v2 : Nat) (v3 : Nat) (v4 : Int32) (v5 : Int32) (v12 : Nat) (v13 : Nat) (v20 : Int32) (v21 : Int32) (v23 : Int32) (v26 : Int32) (s0 : Int32) (H : Heap) (locs : List Loc) (ls : Array Slot), v2 ∈ gL G → gK G v2 = 9 → v3 ∈ gL G → gK G v3 = 8 → v12 ∈ gL G → gK G v12 = 15 → v13 ∈ gL G → gK G v13 = 12 → ext G0 G → uL u bL → nb_L_law_864 D kb45 kb625 kb814 post u G M v2 v3 v4 v5 v12 v13 v20 v21 v23 v26 s0 → cX p s m args meth c cL_law RL 29 (some .boolean) wsL_law D cy G A → wd D cy G M A s.heap H locs → lv_has ls 29 [(0, .ref (stX D)), (2, .ref v2), (3, .ref v3), (4, .int v4), (5, .int v5), (12, .ref v12), (13, .ref v13), (20, .int v20), (21, .int v21), (23, .int v23), (26, .int v26)] → W p l e room_1 s m args below meth c H locs u.1 u.2 Q (F0 m 864 ls [.int s0]) := by
  intro u G M v2 v3 v4 v5 v12 v13 v20 v21 v23 v26 s0 H locs ls v2L v2K v3L v3K v12L v12K v13L v13K hext hu h cx w hl
  unfold nb_L_law_864 at h
  obtain ⟨hx, hb, hml, hown, hts, hr, hlocks, hK, hA, hG, hsx⟩ := id cx
  have hR : room_1.cells = bL.1 ∧ room_1.slots = bL.2 := ⟨rfl, rfl⟩
  refine lv_iconst (v := (1 : Int32)) hx hb dL_law_864 (by decide) ?_
  refine lv_goto (tgt := 869) hx hb dL_law_865 (by decide) ?_
  exact bn_L_law_869 hq (hkb45 := hkb45) (hkb625 := hkb625) (hkb814 := hkb814) u G M v2 v3 v4 v5 v12 v13 v20 v21 v23 v26 s0 ((1 : Int32)) H locs ls v2L v2K v3L v3K v12L v12K v13L v13K hext hu h cx w (lv_sub hl [0, 1, 2, 3, 4, 5, 6, 7, 8, 9, 10] rfl)
set_option maxHeartbeats 4000000 in
set_option maxRecDepth 100000 in
theorem bn_L_law_1077 {p : Program} {l : Launch} {e : Env} {s : State} {m : MethodId} {args : Array Value} {below : List Frame} {meth : Method} {c : Code} {D : va_G} {cy : cyS} {G0 : gS} {A : Nat → Prop} {Q : State → Prop} {post : gS → mS → Int32 → Prop} (hq : ∀ (u : uS) (G : gS) (M : mS) (H : Heap) (locs : List Loc) (ls : Array Slot) (pc : Nat), post G M 1 → uL u bL → decode cL_law pc = .ok (.ireturn, 1) → wd D cy G M A s.heap H locs → W p l e room_1 s m args below meth c H locs u.1 u.2 Q (F0 m pc ls [.int 1])) {kb45 : uS → gS → mS → Nat → Nat → Int32 → Int32 → Prop} (hkb45 : ∀ (u : uS) (G : gS) (M : mS) (v2 : Nat) (v3 : Nat) (v4 : Int32) (v5 : Int32) (H : Heap) (locs : List Loc) (ls : Array Slot), v2 ∈ gL G → gK G v2 = 9 → v3 ∈ gL G → gK G v3 = 8 → ext G0 G → uL u bL → kb45 u G M v2 v3 v4 v5 → cX p s m args meth c cL_law RL 29 (some .boolean) wsL_law D cy G A → wd D cy G M A s.heap H locs → lv_has ls 29 [(0, .ref (stX D)), (2, .ref v2), (3, .ref v3), (4, .int v4), (5, .int v5)] → W p l e room_1 s m args below meth c H locs u.1 u.2 Q (F0 m 45 ls [])) {kb625 : uS → gS → mS → Nat → Nat → Int32 → Int32 → Nat → Nat → Int32 → Int32 → Prop} (hkb625 : ∀ (u : uS) (G : gS) (M : mS) (v2 : Nat) (v3 : Nat) (v4 : Int32) (v5 : Int32) (v12 : Nat) (v13 : Nat) (v20 : Int32) (v21 : Int32) (H : Heap) (locs : List Loc) (ls : Array Slot), v2 ∈ gL G → gK G v2 = 9 → v3 ∈ gL G → gK G v3 = 8 → v12 ∈ gL G → gK G v12 = 15 → v13 ∈ gL G → gK G v13 = 12 → ext G0 G → uL u bL → kb625 u G M v2 v3 v4 v5 v12 v13 v20 v21 → cX p s m args meth c cL_law RL 29 (some .boolean) wsL_law D cy G A → wd D cy G M A s.heap H locs → lv_has ls 29 [(0, .ref (stX D)), (2, .ref v2), (3, .ref v3), (4, .int v4), (5, .int v5), (12, .ref v12), (13, .ref v13), (20, .int v20), (21, .int v21)] → W p l e room_1 s m args below meth c H locs u.1 u.2 Q (F0 m 625 ls [])) : ∀ (u : uS) (G : gS) (M : mS) (v2 : Nat) (v3 : Nat) (v4 : Int32) (v5 : Int32) (v12 : Nat) (v13 : Nat) (v20 : Int32) (v21 : Int32) (H : Heap) (locs : List Loc) (ls : Array Slot), v2 ∈ gL G → gK G v2 = 9 → v3 ∈ gL G → gK G v3 = 8 → v12 ∈ gL G → gK G v12 = 15 → v13 ∈ gL G → gK G v13 = 12 → ext G0 G → uL u bL → nb_L_law_1077 D kb45 kb625 post u G M v2 v3 v4 v5 v12 v13 v20 v21 → cX p s m args meth c cL_law RL 29 (some .boolean) wsL_law D cy G A → wd D cy G M A s.heap H locs → lv_has ls 29 [(0, .ref (stX D)), (2, .ref v2), (3, .ref v3), (4, .int v4), (5, .int v5), (12, .ref v12), (13, .ref v13), (20, .int v20), (21, .int v21)] → W p l e room_1 s m args below meth c H locs u.1 u.2 Q (F0 m 1077 ls []) := by
  intro u G M v2 v3 v4 v5 v12 v13 v20 v21 H locs ls v2L v2K v3L v3K v12L v12K v13L v13K hext hu h cx w hl
  unfold nb_L_law_1077 at h
  obtain ⟨hx, hb, hml, hown, hts, hr, hlocks, hK, hA, hG, hsx⟩ := id cx
  have hR : room_1.cells = bL.1 ∧ room_1.slots = bL.2 := ⟨rfl, rfl⟩
  obtain ⟨x1, ex1, h⟩ := w_bd h
  refine lv_iinc (v := x1) (lv' := [(21, .int x1), (0, .ref (stX D)), (2, .ref v2), (3, .ref v3), (4, .int v4), (5, .int v5), (12, .ref v12), (13, .ref v13), (20, .int v20)]) hx hb dL_law_1077 hl (k := 8) rfl (by rw [ex1]; rfl) (by decide) rfl (fun ls hl => ?_)
  refine lv_goto (tgt := 625) hx hb dL_law_1080 (by decide) ?_
  exact hkb625 u G M v2 v3 v4 v5 v12 v13 v20 x1 H locs ls v2L v2K v3L v3K v12L v12K v13L v13K hext hu h cx w (lv_sub hl [1, 2, 3, 4, 5, 6, 7, 8, 0] rfl)
set_option maxHeartbeats 4000000 in
set_option maxRecDepth 100000 in
theorem bn_L_law_1005 {p : Program} {l : Launch} {e : Env} {s : State} {m : MethodId} {args : Array Value} {below : List Frame} {meth : Method} {c : Code} {D : va_G} {cy : cyS} {G0 : gS} {A : Nat → Prop} {Q : State → Prop} {post : gS → mS → Int32 → Prop} (hq : ∀ (u : uS) (G : gS) (M : mS) (H : Heap) (locs : List Loc) (ls : Array Slot) (pc : Nat), post G M 1 → uL u bL → decode cL_law pc = .ok (.ireturn, 1) → wd D cy G M A s.heap H locs → W p l e room_1 s m args below meth c H locs u.1 u.2 Q (F0 m pc ls [.int 1])) {kb45 : uS → gS → mS → Nat → Nat → Int32 → Int32 → Prop} (hkb45 : ∀ (u : uS) (G : gS) (M : mS) (v2 : Nat) (v3 : Nat) (v4 : Int32) (v5 : Int32) (H : Heap) (locs : List Loc) (ls : Array Slot), v2 ∈ gL G → gK G v2 = 9 → v3 ∈ gL G → gK G v3 = 8 → ext G0 G → uL u bL → kb45 u G M v2 v3 v4 v5 → cX p s m args meth c cL_law RL 29 (some .boolean) wsL_law D cy G A → wd D cy G M A s.heap H locs → lv_has ls 29 [(0, .ref (stX D)), (2, .ref v2), (3, .ref v3), (4, .int v4), (5, .int v5)] → W p l e room_1 s m args below meth c H locs u.1 u.2 Q (F0 m 45 ls [])) {kb625 : uS → gS → mS → Nat → Nat → Int32 → Int32 → Nat → Nat → Int32 → Int32 → Prop} (hkb625 : ∀ (u : uS) (G : gS) (M : mS) (v2 : Nat) (v3 : Nat) (v4 : Int32) (v5 : Int32) (v12 : Nat) (v13 : Nat) (v20 : Int32) (v21 : Int32) (H : Heap) (locs : List Loc) (ls : Array Slot), v2 ∈ gL G → gK G v2 = 9 → v3 ∈ gL G → gK G v3 = 8 → v12 ∈ gL G → gK G v12 = 15 → v13 ∈ gL G → gK G v13 = 12 → ext G0 G → uL u bL → kb625 u G M v2 v3 v4 v5 v12 v13 v20 v21 → cX p s m args meth c cL_law RL 29 (some .boolean) wsL_law D cy G A → wd D cy G M A s.heap H locs → lv_has ls 29 [(0, .ref (stX D)), (2, .ref v2), (3, .ref v3), (4, .int v4), (5, .int v5), (12, .ref v12), (13, .ref v13), (20, .int v20), (21, .int v21)] → W p l e room_1 s m args below meth c H locs u.1 u.2 Q (F0 m 625 ls [])) : ∀ (u : uS) (G : gS) (M : mS) (v2 : Nat) (v3 : Nat) (v4 : Int32) (v5 : Int32) (v12 : Nat) (v13 : Nat) (v20 : Int32) (v21 : Int32) (v23 : Int32) (H : Heap) (locs : List Loc) (ls : Array Slot), v2 ∈ gL G → gK G v2 = 9 → v3 ∈ gL G → gK G v3 = 8 → v12 ∈ gL G → gK G v12 = 15 → v13 ∈ gL G → gK G v13 = 12 → ext G0 G → uL u bL → nb_L_law_1005 D kb45 kb625 post u G M v2 v3 v4 v5 v12 v13 v20 v21 v23 → cX p s m args meth c cL_law RL 29 (some .boolean) wsL_law D cy G A → wd D cy G M A s.heap H locs → lv_has ls 29 [(0, .ref (stX D)), (2, .ref v2), (3, .ref v3), (4, .int v4), (5, .int v5), (12, .ref v12), (13, .ref v13), (20, .int v20), (21, .int v21), (23, .int v23)] → W p l e room_1 s m args below meth c H locs u.1 u.2 Q (F0 m 1005 ls []) := by
  intro u G M v2 v3 v4 v5 v12 v13 v20 v21 v23 H locs ls v2L v2K v3L v3K v12L v12K v13L v13K hext hu h cx w hl
  unfold nb_L_law_1005 at h
  obtain ⟨hx, hb, hml, hown, hts, hr, hlocks, hK, hA, hG, hsx⟩ := id cx
  have hR : room_1.cells = bL.1 ∧ room_1.slots = bL.2 := ⟨rfl, rfl⟩
  refine lv_aload hx hb dL_law_1005 (lv_at hl 5 rfl) ?_
  refine lv_iload hx hb dL_law_1007 (lv_at hl 8 rfl) ?_
  obtain ⟨z1, h⟩ := w_ix h
  obtain ⟨q2, eq2, h⟩ := w_rf h
  obtain ⟨hLq2, hKq2⟩ := wt_q hG v12L v12K eq2
  have hKq2 : gK G q2 = 12 := hKq2
  refine r_aaldA cx w v12L v12K z1 eq2 dL_law_1009 ?_
  refine lv_bipush (v := (6 : Int32)) hx hb dL_law_1010 (by decide) ?_
  obtain ⟨z3, h⟩ := w_ix h
  refine r_iald cx w hLq2 hKq2 z3 dL_law_1012 ?_
  refine lv_if_le (tgt := 1077) hx hb dL_law_1013 (by decide) (fun k4 => ?_) (fun k4 => ?_)
  · have h := w_t h k4
    exact bn_L_law_1077 hq (hkb45 := hkb45) (hkb625 := hkb625) u G M v2 v3 v4 v5 v12 v13 v20 v21 H locs ls v2L v2K v3L v3K v12L v12K v13L v13K hext hu h cx w (lv_sub hl [0, 1, 2, 3, 4, 5, 6, 7, 8] rfl)
  · have h := w_f h k4
    refine lv_iload hx hb dL_law_1016 (lv_at hl 7 rfl) ?_
    refine lv_if_ne (tgt := 1077) hx hb dL_law_1018 (by decide) (fun k5 => ?_) (fun k5 => ?_)
    · have h := w_f h k5
      exact bn_L_law_1077 hq (hkb45 := hkb45) (hkb625 := hkb625) u G M v2 v3 v4 v5 v12 v13 v20 v21 H locs ls v2L v2K v3L v3K v12L v12K v13L v13K hext hu h cx w (lv_sub hl [0, 1, 2, 3, 4, 5, 6, 7, 8] rfl)
    · have h := w_t h k5
      refine lv_iload hx hb dL_law_1021 (lv_at hl 9 rfl) ?_
      refine lv_iconst (v := (1 : Int32)) hx hb dL_law_1023 (by decide) ?_
      refine lv_icmp_ne (tgt := 1077) hx hb dL_law_1024 (by decide) (fun k6 => ?_) (fun k6 => ?_)
      · have h := w_f h k6
        exact bn_L_law_1077 hq (hkb45 := hkb45) (hkb625 := hkb625) u G M v2 v3 v4 v5 v12 v13 v20 v21 H locs ls v2L v2K v3L v3K v12L v12K v13L v13K hext hu h cx w (lv_sub hl [0, 1, 2, 3, 4, 5, 6, 7, 8] rfl)
      · have h := w_t h k6
        refine lv_aload_n hx hb dL_law_1027 rfl (lv_at hl 2 rfl) ?_
        refine lv_iload hx hb dL_law_1028 (lv_at hl 8 rfl) ?_
        refine lv_bipush (v := (6 : Int32)) hx hb dL_law_1030 (by decide) ?_
        obtain ⟨M7, r8, y9, h⟩ := w_cl h
        refine r_callVi (As := [.int v21, .int ((6 : Int32))]) (rest := []) cx w hu hl.1 (k_X9_ant hG v3L v3K y9) (cwV 2 hts gL_law_X9_ant rfl rfl rfl (by decide +kernel) ⟨(Nat.le_of_ble_eq_true rfl), (Nat.le_of_ble_eq_true rfl)⟩) v3L v3K (by decide) rfl rfl rfl (Nat.le_of_ble_eq_true rfl) dL_law_1032 (fun H locs w => ?_)
        refine lv_aload hx hb dL_law_1035 (lv_at hl 5 rfl) ?_
        refine lv_iload hx hb dL_law_1037 (lv_at hl 8 rfl) ?_
        obtain ⟨z10, h⟩ := w_ix h
        obtain ⟨q11, eq11, h⟩ := w_rf h
        obtain ⟨hLq11, hKq11⟩ := wt_q hG v12L v12K eq11
        have hKq11 : gK G q11 = 12 := hKq11
        refine r_aaldA cx w v12L v12K z10 eq11 dL_law_1039 ?_
        refine lv_bipush (v := (6 : Int32)) hx hb dL_law_1040 (by decide) ?_
        obtain ⟨z12, h⟩ := w_ix h
        refine r_iald cx w hLq11 hKq11 z12 dL_law_1042 ?_
        refine lv_icmp_ne (tgt := 1077) hx hb dL_law_1043 (by decide) (fun k13 => ?_) (fun k13 => ?_)
        · have h := w_f h k13
          exact bn_L_law_1077 hq (hkb45 := hkb45) (hkb625 := hkb625) u G M7 v2 v3 v4 v5 v12 v13 v20 v21 H locs ls v2L v2K v3L v3K v12L v12K v13L v13K hext hu h cx w (lv_sub hl [0, 1, 2, 3, 4, 5, 6, 7, 8] rfl)
        · have h := w_t h k13
          refine lv_aload hx hb dL_law_1046 (lv_at hl 5 rfl) ?_
          refine lv_iload hx hb dL_law_1048 (lv_at hl 8 rfl) ?_
          obtain ⟨z14, h⟩ := w_ix h
          obtain ⟨q15, eq15, h⟩ := w_rf h
          obtain ⟨hLq15, hKq15⟩ := wt_q hG v12L v12K eq15
          have hKq15 : gK G q15 = 12 := hKq15
          refine r_aaldA cx w v12L v12K z14 eq15 dL_law_1050 ?_
          refine lv_bipush (v := (6 : Int32)) hx hb dL_law_1051 (by decide) ?_
          obtain ⟨z16, h⟩ := w_ix h
          refine r_iald cx w hLq15 hKq15 z16 dL_law_1053 ?_
          refine lv_iconst (v := (1 : Int32)) hx hb dL_law_1054 (by decide) ?_
          refine lv_icmp_ne (tgt := 1077) hx hb dL_law_1055 (by decide) (fun k17 => ?_) (fun k17 => ?_)
          · have h := w_f h k17
            exact bn_L_law_1077 hq (hkb45 := hkb45) (hkb625 := hkb625) u G M7 v2 v3 v4 v5 v12 v13 v20 v21 H locs ls v2L v2K v3L v3K v12L v12K v13L v13K hext hu h cx w (lv_sub hl [0, 1, 2, 3, 4, 5, 6, 7, 8] rfl)
          · have h := w_t h k17
            refine lv_aload_n hx hb dL_law_1058 rfl (lv_at hl 2 rfl) ?_
            refine lv_iload hx hb dL_law_1059 (lv_at hl 8 rfl) ?_
            refine lv_iconst (v := (3 : Int32)) hx hb dL_law_1061 (by decide) ?_
            obtain ⟨M18, r19, y20, h⟩ := w_cl h
            refine r_callVi (As := [.int v21, .int ((3 : Int32))]) (rest := []) cx w hu hl.1 (k_X9_ant hG v3L v3K y20) (cwV 2 hts gL_law_X9_ant rfl rfl rfl (by decide +kernel) ⟨(Nat.le_of_ble_eq_true rfl), (Nat.le_of_ble_eq_true rfl)⟩) v3L v3K (by decide) rfl rfl rfl (Nat.le_of_ble_eq_true rfl) dL_law_1062 (fun H locs w => ?_)
            refine lv_aload hx hb dL_law_1065 (lv_at hl 5 rfl) ?_
            refine lv_iload hx hb dL_law_1067 (lv_at hl 8 rfl) ?_
            obtain ⟨z21, h⟩ := w_ix h
            obtain ⟨q22, eq22, h⟩ := w_rf h
            obtain ⟨hLq22, hKq22⟩ := wt_q hG v12L v12K eq22
            have hKq22 : gK G q22 = 12 := hKq22
            refine r_aaldA cx w v12L v12K z21 eq22 dL_law_1069 ?_
            refine lv_iconst (v := (3 : Int32)) hx hb dL_law_1070 (by decide) ?_
            obtain ⟨z23, h⟩ := w_ix h
            refine r_iald cx w hLq22 hKq22 z23 dL_law_1071 ?_
            refine lv_icmp_eq (tgt := 1077) hx hb dL_law_1072 (by decide) (fun k24 => ?_) (fun k24 => ?_)
            · have h := w_t h k24
              exact bn_L_law_1077 hq (hkb45 := hkb45) (hkb625 := hkb625) u G M18 v2 v3 v4 v5 v12 v13 v20 v21 H locs ls v2L v2K v3L v3K v12L v12K v13L v13K hext hu h cx w (lv_sub hl [0, 1, 2, 3, 4, 5, 6, 7, 8] rfl)
            · have h := w_f h k24
              refine lv_iconst (v := (0 : Int32)) hx hb dL_law_1075 (by decide) ?_
              exact h.elim
set_option maxHeartbeats 4000000 in
set_option maxRecDepth 100000 in
theorem bn_L_law_934 {p : Program} {l : Launch} {e : Env} {s : State} {m : MethodId} {args : Array Value} {below : List Frame} {meth : Method} {c : Code} {D : va_G} {cy : cyS} {G0 : gS} {A : Nat → Prop} {Q : State → Prop} {post : gS → mS → Int32 → Prop} (hq : ∀ (u : uS) (G : gS) (M : mS) (H : Heap) (locs : List Loc) (ls : Array Slot) (pc : Nat), post G M 1 → uL u bL → decode cL_law pc = .ok (.ireturn, 1) → wd D cy G M A s.heap H locs → W p l e room_1 s m args below meth c H locs u.1 u.2 Q (F0 m pc ls [.int 1])) {kb45 : uS → gS → mS → Nat → Nat → Int32 → Int32 → Prop} (hkb45 : ∀ (u : uS) (G : gS) (M : mS) (v2 : Nat) (v3 : Nat) (v4 : Int32) (v5 : Int32) (H : Heap) (locs : List Loc) (ls : Array Slot), v2 ∈ gL G → gK G v2 = 9 → v3 ∈ gL G → gK G v3 = 8 → ext G0 G → uL u bL → kb45 u G M v2 v3 v4 v5 → cX p s m args meth c cL_law RL 29 (some .boolean) wsL_law D cy G A → wd D cy G M A s.heap H locs → lv_has ls 29 [(0, .ref (stX D)), (2, .ref v2), (3, .ref v3), (4, .int v4), (5, .int v5)] → W p l e room_1 s m args below meth c H locs u.1 u.2 Q (F0 m 45 ls [])) {kb625 : uS → gS → mS → Nat → Nat → Int32 → Int32 → Nat → Nat → Int32 → Int32 → Prop} (hkb625 : ∀ (u : uS) (G : gS) (M : mS) (v2 : Nat) (v3 : Nat) (v4 : Int32) (v5 : Int32) (v12 : Nat) (v13 : Nat) (v20 : Int32) (v21 : Int32) (H : Heap) (locs : List Loc) (ls : Array Slot), v2 ∈ gL G → gK G v2 = 9 → v3 ∈ gL G → gK G v3 = 8 → v12 ∈ gL G → gK G v12 = 15 → v13 ∈ gL G → gK G v13 = 12 → ext G0 G → uL u bL → kb625 u G M v2 v3 v4 v5 v12 v13 v20 v21 → cX p s m args meth c cL_law RL 29 (some .boolean) wsL_law D cy G A → wd D cy G M A s.heap H locs → lv_has ls 29 [(0, .ref (stX D)), (2, .ref v2), (3, .ref v3), (4, .int v4), (5, .int v5), (12, .ref v12), (13, .ref v13), (20, .int v20), (21, .int v21)] → W p l e room_1 s m args below meth c H locs u.1 u.2 Q (F0 m 625 ls [])) : ∀ (u : uS) (G : gS) (M : mS) (v2 : Nat) (v3 : Nat) (v4 : Int32) (v5 : Int32) (v12 : Nat) (v13 : Nat) (v20 : Int32) (v21 : Int32) (v23 : Int32) (v25 : Int32) (H : Heap) (locs : List Loc) (ls : Array Slot), v2 ∈ gL G → gK G v2 = 9 → v3 ∈ gL G → gK G v3 = 8 → v12 ∈ gL G → gK G v12 = 15 → v13 ∈ gL G → gK G v13 = 12 → ext G0 G → uL u bL → nb_L_law_934 D kb45 kb625 post u G M v2 v3 v4 v5 v12 v13 v20 v21 v23 v25 → cX p s m args meth c cL_law RL 29 (some .boolean) wsL_law D cy G A → wd D cy G M A s.heap H locs → lv_has ls 29 [(0, .ref (stX D)), (2, .ref v2), (3, .ref v3), (4, .int v4), (5, .int v5), (12, .ref v12), (13, .ref v13), (20, .int v20), (21, .int v21), (23, .int v23), (25, .int v25)] → W p l e room_1 s m args below meth c H locs u.1 u.2 Q (F0 m 934 ls []) := by
  intro u G M v2 v3 v4 v5 v12 v13 v20 v21 v23 v25 H locs ls v2L v2K v3L v3K v12L v12K v13L v13K hext hu h cx w hl
  unfold nb_L_law_934 at h
  obtain ⟨hx, hb, hml, hown, hts, hr, hlocks, hK, hA, hG, hsx⟩ := id cx
  have hR : room_1.cells = bL.1 ∧ room_1.slots = bL.2 := ⟨rfl, rfl⟩
  refine lv_aload_n hx hb dL_law_934 rfl (lv_at hl 2 rfl) ?_
  refine lv_aload hx hb dL_law_935 (lv_at hl 5 rfl) ?_
  refine lv_iload hx hb dL_law_937 (lv_at hl 8 rfl) ?_
  obtain ⟨z1, h⟩ := w_ix h
  obtain ⟨q2, eq2, h⟩ := w_rf h
  obtain ⟨hLq2, hKq2⟩ := wt_q hG v12L v12K eq2
  have hKq2 : gK G q2 = 12 := hKq2
  refine r_aaldA cx w v12L v12K z1 eq2 dL_law_939 ?_
  refine lv_iconst (v := (0 : Int32)) hx hb dL_law_940 (by decide) ?_
  obtain ⟨z3, h⟩ := w_ix h
  refine r_iald cx w hLq2 hKq2 z3 dL_law_941 ?_
  refine lv_aload hx hb dL_law_942 (lv_at hl 6 rfl) ?_
  refine lv_iload hx hb dL_law_944 (lv_at hl 8 rfl) ?_
  obtain ⟨z4, h⟩ := w_ix h
  refine r_iald cx w v13L v13K z4 dL_law_946 ?_
  obtain ⟨M5, r6, y7, h⟩ := w_cl h
  refine r_callVi (As := [.int ((mI M q2 (Int32.toNatClampNeg (0 : Int32)))), .int ((mI M v13 (Int32.toNatClampNeg v21)))]) (rest := []) cx w hu hl.1 (k_X9_turn hG v3L v3K y7) (cwV 2 hts gL_law_X9_turn rfl rfl rfl (by decide +kernel) ⟨(Nat.le_of_ble_eq_true rfl), (Nat.le_of_ble_eq_true rfl)⟩) v3L v3K (by decide) rfl rfl rfl (Nat.le_of_ble_eq_true rfl) dL_law_947 (fun H locs w => ?_)
  refine lv_istore (lv' := [(27, .int r6), (0, .ref (stX D)), (2, .ref v2), (3, .ref v3), (4, .int v4), (5, .int v5), (12, .ref v12), (13, .ref v13), (20, .int v20), (21, .int v21), (23, .int v23), (25, .int v25)]) hx hb dL_law_950 hl (by decide) rfl (fun ls hl => ?_)
  refine lv_iconst (v := (4 : Int32)) hx hb dL_law_952 (by decide) ?_
  refine rb_newI (b := bL) (u := u) cx w hR (lkL_in wsL_law0_r1 (List.mem_of_getElem? (i := 0) rfl) _ (List.mem_of_getElem? (i := 8) rfl)) h dL_law_953 (fun q8 u11 G9 M10 H h hu xe hLq8 hKq8 cx w => ?_)
  obtain ⟨v2L, v2K⟩ := ext_wt xe v2L v2K
  obtain ⟨v3L, v3K⟩ := ext_wt xe v3L v3K
  obtain ⟨v12L, v12K⟩ := ext_wt xe v12L v12K
  obtain ⟨v13L, v13K⟩ := ext_wt xe v13L v13K
  have hext := ext_tr hext xe
  clear xe
  have hG := cX_wt cx
  refine lv_dup hx hb dL_law_955 rfl ?_
  refine lv_iconst (v := (0 : Int32)) hx hb dL_law_956 (by decide) ?_
  refine lv_iconst (v := (3 : Int32)) hx hb dL_law_957 (by decide) ?_
  obtain ⟨z12, h⟩ := w_ix h
  obtain ⟨M13, eM13, h⟩ := w_wI h
  refine r_iast cx w hLq8 hKq8 z12 dL_law_958 eM13 (fun H locs w => ?_)
  refine lv_dup hx hb dL_law_959 rfl ?_
  refine lv_iconst (v := (1 : Int32)) hx hb dL_law_960 (by decide) ?_
  refine lv_iconst (v := (1 : Int32)) hx hb dL_law_961 (by decide) ?_
  obtain ⟨z14, h⟩ := w_ix h
  obtain ⟨M15, eM15, h⟩ := w_wI h
  refine r_iast cx w hLq8 hKq8 z14 dL_law_962 eM15 (fun H locs w => ?_)
  refine lv_dup hx hb dL_law_963 rfl ?_
  refine lv_iconst (v := (2 : Int32)) hx hb dL_law_964 (by decide) ?_
  refine lv_iconst (v := (0 : Int32)) hx hb dL_law_965 (by decide) ?_
  obtain ⟨z16, h⟩ := w_ix h
  obtain ⟨M17, eM17, h⟩ := w_wI h
  refine r_iast cx w hLq8 hKq8 z16 dL_law_966 eM17 (fun H locs w => ?_)
  refine lv_dup hx hb dL_law_967 rfl ?_
  refine lv_iconst (v := (3 : Int32)) hx hb dL_law_968 (by decide) ?_
  refine lv_iconst (v := (2 : Int32)) hx hb dL_law_969 (by decide) ?_
  obtain ⟨z18, h⟩ := w_ix h
  obtain ⟨M19, eM19, h⟩ := w_wI h
  refine r_iast cx w hLq8 hKq8 z18 dL_law_970 eM19 (fun H locs w => ?_)
  refine lv_astore (lv' := [(28, .ref q8), (27, .int r6), (0, .ref (stX D)), (2, .ref v2), (3, .ref v3), (4, .int v4), (5, .int v5), (12, .ref v12), (13, .ref v13), (20, .int v20), (21, .int v21), (23, .int v23), (25, .int v25)]) hx hb dL_law_971 hl (by decide) rfl (fun ls hl => ?_)
  refine lv_iload hx hb dL_law_973 (lv_at hl 12 rfl) ?_
  refine lv_if_eq (tgt := 1005) hx hb dL_law_975 (by decide) (fun k20 => ?_) (fun k20 => ?_)
  · have h := w_t h k20
    exact bn_L_law_1005 hq (hkb45 := hkb45) (hkb625 := hkb625) u11 G9 M19 v2 v3 v4 v5 v12 v13 v20 v21 v23 H locs ls v2L v2K v3L v3K v12L v12K v13L v13K hext hu h cx w (lv_sub hl [2, 3, 4, 5, 6, 7, 8, 9, 10, 11] rfl)
  · have h := w_f h k20
    refine lv_aload_n hx hb dL_law_978 rfl (lv_at hl 4 rfl) ?_
    refine lv_iload hx hb dL_law_979 (lv_at hl 10 rfl) ?_
    refine lv_iconst (v := (3 : Int32)) hx hb dL_law_981 (by decide) ?_
    obtain ⟨M21, r22, y23, h⟩ := w_cl h
    refine r_callVi (As := [.int v21, .int ((3 : Int32))]) (rest := []) cx w hu hl.1 (k_X9_ant hG v3L v3K y23) (cwV 2 hts gL_law_X9_ant rfl rfl rfl (by decide +kernel) ⟨(Nat.le_of_ble_eq_true rfl), (Nat.le_of_ble_eq_true rfl)⟩) v3L v3K (by decide) rfl rfl rfl (Nat.le_of_ble_eq_true rfl) dL_law_982 (fun H locs w => ?_)
    refine lv_aload hx hb dL_law_985 (lv_at hl 7 rfl) ?_
    refine lv_iload hx hb dL_law_987 (lv_at hl 10 rfl) ?_
    obtain ⟨z24, h⟩ := w_ix h
    obtain ⟨q25, eq25, h⟩ := w_rf h
    obtain ⟨hLq25, hKq25⟩ := wt_q hG v12L v12K eq25
    have hKq25 : gK G9 q25 = 12 := hKq25
    refine r_aaldA cx w v12L v12K z24 eq25 dL_law_989 ?_
    refine lv_iconst (v := (3 : Int32)) hx hb dL_law_990 (by decide) ?_
    obtain ⟨z26, h⟩ := w_ix h
    refine r_iald cx w hLq25 hKq25 z26 dL_law_991 ?_
    refine lv_aload hx hb dL_law_992 (lv_at hl 0 rfl) ?_
    refine lv_iload hx hb dL_law_994 (lv_at hl 1 rfl) ?_
    obtain ⟨z27, h⟩ := w_ix h
    refine r_iald cx w hLq8 hKq8 z27 dL_law_996 ?_
    refine lv_iadd hx hb dL_law_997 ?_
    refine lv_iconst (v := (4 : Int32)) hx hb dL_law_998 (by decide) ?_
    obtain ⟨z28, h⟩ := w_ck h
    refine lv_irem hx hb dL_law_999 z28 ?_
    refine lv_icmp_eq (tgt := 1005) hx hb dL_law_1000 (by decide) (fun k29 => ?_) (fun k29 => ?_)
    · have h := w_t h k29
      exact bn_L_law_1005 hq (hkb45 := hkb45) (hkb625 := hkb625) u11 G9 M21 v2 v3 v4 v5 v12 v13 v20 v21 v23 H locs ls v2L v2K v3L v3K v12L v12K v13L v13K hext hu h cx w (lv_sub hl [2, 3, 4, 5, 6, 7, 8, 9, 10, 11] rfl)
    · have h := w_f h k29
      refine lv_iconst (v := (0 : Int32)) hx hb dL_law_1003 (by decide) ?_
      exact h.elim
set_option maxHeartbeats 4000000 in
set_option maxRecDepth 100000 in
theorem bn_L_law_814 {p : Program} {l : Launch} {e : Env} {s : State} {m : MethodId} {args : Array Value} {below : List Frame} {meth : Method} {c : Code} {D : va_G} {cy : cyS} {G0 : gS} {A : Nat → Prop} {Q : State → Prop} {post : gS → mS → Int32 → Prop} (hq : ∀ (u : uS) (G : gS) (M : mS) (H : Heap) (locs : List Loc) (ls : Array Slot) (pc : Nat), post G M 1 → uL u bL → decode cL_law pc = .ok (.ireturn, 1) → wd D cy G M A s.heap H locs → W p l e room_1 s m args below meth c H locs u.1 u.2 Q (F0 m pc ls [.int 1])) {kb45 : uS → gS → mS → Nat → Nat → Int32 → Int32 → Prop} (hkb45 : ∀ (u : uS) (G : gS) (M : mS) (v2 : Nat) (v3 : Nat) (v4 : Int32) (v5 : Int32) (H : Heap) (locs : List Loc) (ls : Array Slot), v2 ∈ gL G → gK G v2 = 9 → v3 ∈ gL G → gK G v3 = 8 → ext G0 G → uL u bL → kb45 u G M v2 v3 v4 v5 → cX p s m args meth c cL_law RL 29 (some .boolean) wsL_law D cy G A → wd D cy G M A s.heap H locs → lv_has ls 29 [(0, .ref (stX D)), (2, .ref v2), (3, .ref v3), (4, .int v4), (5, .int v5)] → W p l e room_1 s m args below meth c H locs u.1 u.2 Q (F0 m 45 ls [])) {kb625 : uS → gS → mS → Nat → Nat → Int32 → Int32 → Nat → Nat → Int32 → Int32 → Prop} (hkb625 : ∀ (u : uS) (G : gS) (M : mS) (v2 : Nat) (v3 : Nat) (v4 : Int32) (v5 : Int32) (v12 : Nat) (v13 : Nat) (v20 : Int32) (v21 : Int32) (H : Heap) (locs : List Loc) (ls : Array Slot), v2 ∈ gL G → gK G v2 = 9 → v3 ∈ gL G → gK G v3 = 8 → v12 ∈ gL G → gK G v12 = 15 → v13 ∈ gL G → gK G v13 = 12 → ext G0 G → uL u bL → kb625 u G M v2 v3 v4 v5 v12 v13 v20 v21 → cX p s m args meth c cL_law RL 29 (some .boolean) wsL_law D cy G A → wd D cy G M A s.heap H locs → lv_has ls 29 [(0, .ref (stX D)), (2, .ref v2), (3, .ref v3), (4, .int v4), (5, .int v5), (12, .ref v12), (13, .ref v13), (20, .int v20), (21, .int v21)] → W p l e room_1 s m args below meth c H locs u.1 u.2 Q (F0 m 625 ls [])) : ∀ (u : uS) (G : gS) (M : mS) (v2 : Nat) (v3 : Nat) (v4 : Int32) (v5 : Int32) (v12 : Nat) (v13 : Nat) (v20 : Int32) (v21 : Int32) (v23 : Int32) (v25 : Int32) (v26 : Int32) (H : Heap) (locs : List Loc) (ls : Array Slot), v2 ∈ gL G → gK G v2 = 9 → v3 ∈ gL G → gK G v3 = 8 → v12 ∈ gL G → gK G v12 = 15 → v13 ∈ gL G → gK G v13 = 12 → ext G0 G → uL u bL → nl_L_law_814 D kb45 kb625 post u G M v2 v3 v4 v5 v12 v13 v20 v21 v23 v25 v26 → cX p s m args meth c cL_law RL 29 (some .boolean) wsL_law D cy G A → wd D cy G M A s.heap H locs → lv_has ls 29 [(0, .ref (stX D)), (2, .ref v2), (3, .ref v3), (4, .int v4), (5, .int v5), (12, .ref v12), (13, .ref v13), (20, .int v20), (21, .int v21), (23, .int v23), (25, .int v25), (26, .int v26)] → W p l e room_1 s m args below meth c H locs u.1 u.2 Q (F0 m 814 ls []) := by
  intro u G M v2 v3 v4 v5 v12 v13 v20 v21 v23 v25 v26 H locs ls v2L v2K v3L v3K v12L v12K v13L v13K hext hu h cx w hl
  obtain ⟨I, n, hI, hB⟩ := h
  have key : ∀ n : Nat, ∀ (u : uS) (G : gS) (M : mS) (v2 : Nat) (v3 : Nat) (v4 : Int32) (v5 : Int32) (v12 : Nat) (v13 : Nat) (v20 : Int32) (v21 : Int32) (v23 : Int32) (v25 : Int32) (v26 : Int32) (H : Heap) (locs : List Loc) (ls : Array Slot), v2 ∈ gL G → gK G v2 = 9 → v3 ∈ gL G → gK G v3 = 8 → v12 ∈ gL G → gK G v12 = 15 → v13 ∈ gL G → gK G v13 = 12 → ext G0 G → uL u bL → I n u G M v2 v3 v4 v5 v12 v13 v20 v21 v23 v25 v26 → cX p s m args meth c cL_law RL 29 (some .boolean) wsL_law D cy G A → wd D cy G M A s.heap H locs → lv_has ls 29 [(0, .ref (stX D)), (2, .ref v2), (3, .ref v3), (4, .int v4), (5, .int v5), (12, .ref v12), (13, .ref v13), (20, .int v20), (21, .int v21), (23, .int v23), (25, .int v25), (26, .int v26)] → W p l e room_1 s m args below meth c H locs u.1 u.2 Q (F0 m 814 ls []) := by
    intro n
    induction n using Nat.strongRecOn with
    | ind n ih =>
      intro u G M v2 v3 v4 v5 v12 v13 v20 v21 v23 v25 v26 H locs ls v2L v2K v3L v3K v12L v12K v13L v13K hext hu hI cx w hl
      have h := hB n u G M v2 v3 v4 v5 v12 v13 v20 v21 v23 v25 v26 hI
      unfold nb_L_law_814 at h
      obtain ⟨hx, hb, hml, hown, hts, hr, hlocks, hK, hA, hG, hsx⟩ := id cx
      have hR : room_1.cells = bL.1 ∧ room_1.slots = bL.2 := ⟨rfl, rfl⟩
      refine lv_iload hx hb dL_law_814 (lv_at hl 11 rfl) ?_
      refine lv_iload hx hb dL_law_816 (lv_at hl 3 rfl) ?_
      refine lv_icmp_ge (tgt := 878) hx hb dL_law_818 (by decide) (fun k1 => ?_) (fun k1 => ?_)
      · have h := w_t h k1
        refine lv_aload_n hx hb dL_law_878 rfl (lv_at hl 1 rfl) ?_
        obtain ⟨q2, eq2, h⟩ := w_rf h
        obtain ⟨hLq2, hKq2⟩ := wt_q hG v2L v2K eq2
        have hKq2 : gK G q2 = 15 := hKq2
        refine r_getR (k := 4) cx w v2L v2K (by decide) rfl wb_L_law_X10 (by decide) rfl eq2 (lkL_in wsL_law0_r1 (List.mem_of_getElem? (i := 0) rfl) _ (List.mem_of_getElem? (i := 13) rfl)) dL_law_879 ?_
        refine lv_aload hx hb dL_law_882 (lv_at hl 5 rfl) ?_
        refine lv_iload hx hb dL_law_884 (lv_at hl 8 rfl) ?_
        obtain ⟨z3, h⟩ := w_ix h
        obtain ⟨q4, eq4, h⟩ := w_rf h
        obtain ⟨hLq4, hKq4⟩ := wt_q hG v12L v12K eq4
        have hKq4 : gK G q4 = 12 := hKq4
        refine r_aaldA cx w v12L v12K z3 eq4 dL_law_886 ?_
        refine lv_iconst (v := (0 : Int32)) hx hb dL_law_887 (by decide) ?_
        obtain ⟨z5, h⟩ := w_ix h
        refine r_iald cx w hLq4 hKq4 z5 dL_law_888 ?_
        obtain ⟨z6, h⟩ := w_ix h
        obtain ⟨q7, eq7, h⟩ := w_rf h
        obtain ⟨hLq7, hKq7⟩ := wt_q hG hLq2 hKq2 eq7
        have hKq7 : gK G q7 = 12 := hKq7
        refine r_aaldA cx w hLq2 hKq2 z6 eq7 dL_law_889 ?_
        refine r_alen cx w hLq7 hKq7 (by decide) dL_law_890 ?_
        obtain ⟨x8, ex8, h⟩ := w_bd h
        refine r_topI ex8 ?_
        refine lv_istore (lv' := [(26, .int x8), (0, .ref (stX D)), (2, .ref v2), (3, .ref v3), (4, .int v4), (5, .int v5), (12, .ref v12), (13, .ref v13), (20, .int v20), (21, .int v21), (23, .int v23), (25, .int v25)]) hx hb dL_law_891 hl (by decide) rfl (fun ls hl => ?_)
        refine lv_iload hx hb dL_law_893 (lv_at hl 11 rfl) ?_
        refine lv_if_eq (tgt := 934) hx hb dL_law_895 (by decide) (fun k9 => ?_) (fun k9 => ?_)
        · have h := w_t h k9
          exact bn_L_law_934 hq (hkb45 := hkb45) (hkb625 := hkb625) u G M v2 v3 v4 v5 v12 v13 v20 v21 v23 v25 H locs ls v2L v2K v3L v3K v12L v12K v13L v13K hext hu h cx w (lv_sub hl [1, 2, 3, 4, 5, 6, 7, 8, 9, 10, 11] rfl)
        · have h := w_f h k9
          refine lv_aload_n hx hb dL_law_898 rfl (lv_at hl 3 rfl) ?_
          refine lv_aload hx hb dL_law_899 (lv_at hl 6 rfl) ?_
          refine lv_iload hx hb dL_law_901 (lv_at hl 9 rfl) ?_
          obtain ⟨z10, h⟩ := w_ix h
          obtain ⟨q11, eq11, h⟩ := w_rf h
          obtain ⟨hLq11, hKq11⟩ := wt_q hG v12L v12K eq11
          have hKq11 : gK G q11 = 12 := hKq11
          refine r_aaldA cx w v12L v12K z10 eq11 dL_law_903 ?_
          refine lv_iconst (v := (1 : Int32)) hx hb dL_law_904 (by decide) ?_
          obtain ⟨z12, h⟩ := w_ix h
          refine r_iald cx w hLq11 hKq11 z12 dL_law_905 ?_
          refine lv_aload hx hb dL_law_906 (lv_at hl 6 rfl) ?_
          refine lv_iload hx hb dL_law_908 (lv_at hl 9 rfl) ?_
          obtain ⟨z13, h⟩ := w_ix h
          obtain ⟨q14, eq14, h⟩ := w_rf h
          obtain ⟨hLq14, hKq14⟩ := wt_q hG v12L v12K eq14
          have hKq14 : gK G q14 = 12 := hKq14
          refine r_aaldA cx w v12L v12K z13 eq14 dL_law_910 ?_
          refine lv_iconst (v := (2 : Int32)) hx hb dL_law_911 (by decide) ?_
          obtain ⟨z15, h⟩ := w_ix h
          refine r_iald cx w hLq14 hKq14 z15 dL_law_912 ?_
          obtain ⟨M16, r17, y18, h⟩ := w_cl h
          refine r_callVi (As := [.int ((mI M q11 (Int32.toNatClampNeg (1 : Int32)))), .int ((mI M q14 (Int32.toNatClampNeg (2 : Int32))))]) (rest := []) cx w hu hl.1 (k_X9_stone hG v3L v3K y18) (cwV 2 hts gL_law_X9_stone rfl rfl rfl (by decide +kernel) ⟨(Nat.le_of_ble_eq_true rfl), (Nat.le_of_ble_eq_true rfl)⟩) v3L v3K (by decide) rfl rfl rfl (Nat.le_of_ble_eq_true rfl) dL_law_913 (fun H locs w => ?_)
          refine lv_aload hx hb dL_law_916 (lv_at hl 7 rfl) ?_
          refine lv_iload hx hb dL_law_918 (lv_at hl 9 rfl) ?_
          obtain ⟨z19, h⟩ := w_ix h
          refine r_iald cx w v13L v13K z19 dL_law_920 ?_
          refine lv_iload hx hb dL_law_921 (lv_at hl 0 rfl) ?_
          obtain ⟨z20, h⟩ := w_ck h
          refine lv_irem hx hb dL_law_923 z20 ?_
          refine lv_iconst (v := (1 : Int32)) hx hb dL_law_924 (by decide) ?_
          refine lv_iadd hx hb dL_law_925 ?_
          refine lv_iload hx hb dL_law_926 (lv_at hl 0 rfl) ?_
          obtain ⟨z21, h⟩ := w_ck h
          refine lv_irem hx hb dL_law_928 z21 ?_
          refine lv_icmp_eq (tgt := 934) hx hb dL_law_929 (by decide) (fun k22 => ?_) (fun k22 => ?_)
          · have h := w_t h k22
            exact bn_L_law_934 hq (hkb45 := hkb45) (hkb625 := hkb625) u G M16 v2 v3 v4 v5 v12 v13 v20 v21 v23 v25 H locs ls v2L v2K v3L v3K v12L v12K v13L v13K hext hu h cx w (lv_sub hl [1, 2, 3, 4, 5, 6, 7, 8, 9, 10, 11] rfl)
          · have h := w_f h k22
            refine lv_iconst (v := (0 : Int32)) hx hb dL_law_932 (by decide) ?_
            exact h.elim
      · have h := w_f h k1
        refine lv_iload hx hb dL_law_821 (lv_at hl 10 rfl) ?_
        refine lv_iload hx hb dL_law_823 (lv_at hl 11 rfl) ?_
        refine lv_iload hx hb dL_law_825 (lv_at hl 8 rfl) ?_
        refine lv_icmp_eq (tgt := 864) hx hb dL_law_827 (by decide) (fun k23 => ?_) (fun k23 => ?_)
        · have h := w_t h k23
          exact bn_L_law_864 hq (hkb45 := hkb45) (hkb625 := hkb625) (hkb814 := fun u G M v2 v3 v4 v5 v12 v13 v20 v21 v23 v25 v26 H locs ls v2L v2K v3L v3K v12L v12K v13L v13K hext hu h cx w hl => by obtain ⟨k, hk, hI⟩ := h; exact ih k hk u G M v2 v3 v4 v5 v12 v13 v20 v21 v23 v25 v26 H locs ls v2L v2K v3L v3K v12L v12K v13L v13K hext hu hI cx w hl) u G M v2 v3 v4 v5 v12 v13 v20 v21 v23 v26 v25 H locs ls v2L v2K v3L v3K v12L v12K v13L v13K hext hu h cx w (lv_sub hl [0, 1, 2, 3, 4, 5, 6, 7, 8, 9, 11] rfl)
        · have h := w_f h k23
          refine lv_aload hx hb dL_law_830 (lv_at hl 5 rfl) ?_
          refine lv_iload hx hb dL_law_832 (lv_at hl 11 rfl) ?_
          obtain ⟨z24, h⟩ := w_ix h
          obtain ⟨q25, eq25, h⟩ := w_rf h
          obtain ⟨hLq25, hKq25⟩ := wt_q hG v12L v12K eq25
          have hKq25 : gK G q25 = 12 := hKq25
          refine r_aaldA cx w v12L v12K z24 eq25 dL_law_834 ?_
          refine lv_iconst (v := (1 : Int32)) hx hb dL_law_835 (by decide) ?_
          obtain ⟨z26, h⟩ := w_ix h
          refine r_iald cx w hLq25 hKq25 z26 dL_law_836 ?_
          refine lv_aload hx hb dL_law_837 (lv_at hl 5 rfl) ?_
          refine lv_iload hx hb dL_law_839 (lv_at hl 8 rfl) ?_
          obtain ⟨z27, h⟩ := w_ix h
          obtain ⟨q28, eq28, h⟩ := w_rf h
          obtain ⟨hLq28, hKq28⟩ := wt_q hG v12L v12K eq28
          have hKq28 : gK G q28 = 12 := hKq28
          refine r_aaldA cx w v12L v12K z27 eq28 dL_law_841 ?_
          refine lv_iconst (v := (1 : Int32)) hx hb dL_law_842 (by decide) ?_
          obtain ⟨z29, h⟩ := w_ix h
          refine r_iald cx w hLq28 hKq28 z29 dL_law_843 ?_
          refine lv_icmp_ne (tgt := 864) hx hb dL_law_844 (by decide) (fun k30 => ?_) (fun k30 => ?_)
          · have h := w_f h k30
            exact bn_L_law_864 hq (hkb45 := hkb45) (hkb625 := hkb625) (hkb814 := fun u G M v2 v3 v4 v5 v12 v13 v20 v21 v23 v25 v26 H locs ls v2L v2K v3L v3K v12L v12K v13L v13K hext hu h cx w hl => by obtain ⟨k, hk, hI⟩ := h; exact ih k hk u G M v2 v3 v4 v5 v12 v13 v20 v21 v23 v25 v26 H locs ls v2L v2K v3L v3K v12L v12K v13L v13K hext hu hI cx w hl) u G M v2 v3 v4 v5 v12 v13 v20 v21 v23 v26 v25 H locs ls v2L v2K v3L v3K v12L v12K v13L v13K hext hu h cx w (lv_sub hl [0, 1, 2, 3, 4, 5, 6, 7, 8, 9, 11] rfl)
          · have h := w_t h k30
            refine lv_aload hx hb dL_law_847 (lv_at hl 5 rfl) ?_
            refine lv_iload hx hb dL_law_849 (lv_at hl 11 rfl) ?_
            obtain ⟨z31, h⟩ := w_ix h
            obtain ⟨q32, eq32, h⟩ := w_rf h
            obtain ⟨hLq32, hKq32⟩ := wt_q hG v12L v12K eq32
            have hKq32 : gK G q32 = 12 := hKq32
            refine r_aaldA cx w v12L v12K z31 eq32 dL_law_851 ?_
            refine lv_iconst (v := (2 : Int32)) hx hb dL_law_852 (by decide) ?_
            obtain ⟨z33, h⟩ := w_ix h
            refine r_iald cx w hLq32 hKq32 z33 dL_law_853 ?_
            refine lv_aload hx hb dL_law_854 (lv_at hl 5 rfl) ?_
            refine lv_iload hx hb dL_law_856 (lv_at hl 8 rfl) ?_
            obtain ⟨z34, h⟩ := w_ix h
            obtain ⟨q35, eq35, h⟩ := w_rf h
            obtain ⟨hLq35, hKq35⟩ := wt_q hG v12L v12K eq35
            have hKq35 : gK G q35 = 12 := hKq35
            refine r_aaldA cx w v12L v12K z34 eq35 dL_law_858 ?_
            refine lv_iconst (v := (2 : Int32)) hx hb dL_law_859 (by decide) ?_
            obtain ⟨z36, h⟩ := w_ix h
            refine r_iald cx w hLq35 hKq35 z36 dL_law_860 ?_
            refine lv_icmp_eq (tgt := 868) hx hb dL_law_861 (by decide) (fun k37 => ?_) (fun k37 => ?_)
            · have h := w_t h k37
              refine lv_iconst (v := (0 : Int32)) hx hb dL_law_868 (by decide) ?_
              exact bn_L_law_869 hq (hkb45 := hkb45) (hkb625 := hkb625) (hkb814 := fun u G M v2 v3 v4 v5 v12 v13 v20 v21 v23 v25 v26 H locs ls v2L v2K v3L v3K v12L v12K v13L v13K hext hu h cx w hl => by obtain ⟨k, hk, hI⟩ := h; exact ih k hk u G M v2 v3 v4 v5 v12 v13 v20 v21 v23 v25 v26 H locs ls v2L v2K v3L v3K v12L v12K v13L v13K hext hu hI cx w hl) u G M v2 v3 v4 v5 v12 v13 v20 v21 v23 v26 v25 ((0 : Int32)) H locs ls v2L v2K v3L v3K v12L v12K v13L v13K hext hu h cx w (lv_sub hl [0, 1, 2, 3, 4, 5, 6, 7, 8, 9, 11] rfl)
            · have h := w_f h k37
              exact bn_L_law_864 hq (hkb45 := hkb45) (hkb625 := hkb625) (hkb814 := fun u G M v2 v3 v4 v5 v12 v13 v20 v21 v23 v25 v26 H locs ls v2L v2K v3L v3K v12L v12K v13L v13K hext hu h cx w hl => by obtain ⟨k, hk, hI⟩ := h; exact ih k hk u G M v2 v3 v4 v5 v12 v13 v20 v21 v23 v25 v26 H locs ls v2L v2K v3L v3K v12L v12K v13L v13K hext hu hI cx w hl) u G M v2 v3 v4 v5 v12 v13 v20 v21 v23 v26 v25 H locs ls v2L v2K v3L v3K v12L v12K v13L v13K hext hu h cx w (lv_sub hl [0, 1, 2, 3, 4, 5, 6, 7, 8, 9, 11] rfl)
  exact key n u G M v2 v3 v4 v5 v12 v13 v20 v21 v23 v25 v26 H locs ls v2L v2K v3L v3K v12L v12K v13L v13K hext hu hI cx w hl
set_option maxHeartbeats 4000000 in
set_option maxRecDepth 100000 in
theorem bn_L_law_809 {p : Program} {l : Launch} {e : Env} {s : State} {m : MethodId} {args : Array Value} {below : List Frame} {meth : Method} {c : Code} {D : va_G} {cy : cyS} {G0 : gS} {A : Nat → Prop} {Q : State → Prop} {post : gS → mS → Int32 → Prop} (hq : ∀ (u : uS) (G : gS) (M : mS) (H : Heap) (locs : List Loc) (ls : Array Slot) (pc : Nat), post G M 1 → uL u bL → decode cL_law pc = .ok (.ireturn, 1) → wd D cy G M A s.heap H locs → W p l e room_1 s m args below meth c H locs u.1 u.2 Q (F0 m pc ls [.int 1])) {kb45 : uS → gS → mS → Nat → Nat → Int32 → Int32 → Prop} (hkb45 : ∀ (u : uS) (G : gS) (M : mS) (v2 : Nat) (v3 : Nat) (v4 : Int32) (v5 : Int32) (H : Heap) (locs : List Loc) (ls : Array Slot), v2 ∈ gL G → gK G v2 = 9 → v3 ∈ gL G → gK G v3 = 8 → ext G0 G → uL u bL → kb45 u G M v2 v3 v4 v5 → cX p s m args meth c cL_law RL 29 (some .boolean) wsL_law D cy G A → wd D cy G M A s.heap H locs → lv_has ls 29 [(0, .ref (stX D)), (2, .ref v2), (3, .ref v3), (4, .int v4), (5, .int v5)] → W p l e room_1 s m args below meth c H locs u.1 u.2 Q (F0 m 45 ls [])) {kb625 : uS → gS → mS → Nat → Nat → Int32 → Int32 → Nat → Nat → Int32 → Int32 → Prop} (hkb625 : ∀ (u : uS) (G : gS) (M : mS) (v2 : Nat) (v3 : Nat) (v4 : Int32) (v5 : Int32) (v12 : Nat) (v13 : Nat) (v20 : Int32) (v21 : Int32) (H : Heap) (locs : List Loc) (ls : Array Slot), v2 ∈ gL G → gK G v2 = 9 → v3 ∈ gL G → gK G v3 = 8 → v12 ∈ gL G → gK G v12 = 15 → v13 ∈ gL G → gK G v13 = 12 → ext G0 G → uL u bL → kb625 u G M v2 v3 v4 v5 v12 v13 v20 v21 → cX p s m args meth c cL_law RL 29 (some .boolean) wsL_law D cy G A → wd D cy G M A s.heap H locs → lv_has ls 29 [(0, .ref (stX D)), (2, .ref v2), (3, .ref v3), (4, .int v4), (5, .int v5), (12, .ref v12), (13, .ref v13), (20, .int v20), (21, .int v21)] → W p l e room_1 s m args below meth c H locs u.1 u.2 Q (F0 m 625 ls [])) : ∀ (u : uS) (G : gS) (M : mS) (v2 : Nat) (v3 : Nat) (v4 : Int32) (v5 : Int32) (v12 : Nat) (v13 : Nat) (v20 : Int32) (v21 : Int32) (v23 : Int32) (s0 : Int32) (H : Heap) (locs : List Loc) (ls : Array Slot), v2 ∈ gL G → gK G v2 = 9 → v3 ∈ gL G → gK G v3 = 8 → v12 ∈ gL G → gK G v12 = 15 → v13 ∈ gL G → gK G v13 = 12 → ext G0 G → uL u bL → nb_L_law_809 D kb45 kb625 post u G M v2 v3 v4 v5 v12 v13 v20 v21 v23 s0 → cX p s m args meth c cL_law RL 29 (some .boolean) wsL_law D cy G A → wd D cy G M A s.heap H locs → lv_has ls 29 [(0, .ref (stX D)), (2, .ref v2), (3, .ref v3), (4, .int v4), (5, .int v5), (12, .ref v12), (13, .ref v13), (20, .int v20), (21, .int v21), (23, .int v23)] → W p l e room_1 s m args below meth c H locs u.1 u.2 Q (F0 m 809 ls [.int s0]) := by
  intro u G M v2 v3 v4 v5 v12 v13 v20 v21 v23 s0 H locs ls v2L v2K v3L v3K v12L v12K v13L v13K hext hu h cx w hl
  unfold nb_L_law_809 at h
  obtain ⟨hx, hb, hml, hown, hts, hr, hlocks, hK, hA, hG, hsx⟩ := id cx
  have hR : room_1.cells = bL.1 ∧ room_1.slots = bL.2 := ⟨rfl, rfl⟩
  refine lv_istore (lv' := [(25, .int s0), (0, .ref (stX D)), (2, .ref v2), (3, .ref v3), (4, .int v4), (5, .int v5), (12, .ref v12), (13, .ref v13), (20, .int v20), (21, .int v21), (23, .int v23)]) hx hb dL_law_809 hl (by decide) rfl (fun ls hl => ?_)
  refine lv_iconst (v := (0 : Int32)) hx hb dL_law_811 (by decide) ?_
  refine lv_istore (lv' := [(26, .int ((0 : Int32))), (25, .int s0), (0, .ref (stX D)), (2, .ref v2), (3, .ref v3), (4, .int v4), (5, .int v5), (12, .ref v12), (13, .ref v13), (20, .int v20), (21, .int v21), (23, .int v23)]) hx hb dL_law_812 hl (by decide) rfl (fun ls hl => ?_)
  exact bn_L_law_814 hq (hkb45 := hkb45) (hkb625 := hkb625) u G M v2 v3 v4 v5 v12 v13 v20 v21 v23 s0 ((0 : Int32)) H locs ls v2L v2K v3L v3K v12L v12K v13L v13K hext hu h cx w (lv_sub hl [2, 3, 4, 5, 6, 7, 8, 9, 10, 11, 1, 0] rfl)
set_option maxHeartbeats 4000000 in
set_option maxRecDepth 100000 in
theorem bn_L_law_808 {p : Program} {l : Launch} {e : Env} {s : State} {m : MethodId} {args : Array Value} {below : List Frame} {meth : Method} {c : Code} {D : va_G} {cy : cyS} {G0 : gS} {A : Nat → Prop} {Q : State → Prop} {post : gS → mS → Int32 → Prop} (hq : ∀ (u : uS) (G : gS) (M : mS) (H : Heap) (locs : List Loc) (ls : Array Slot) (pc : Nat), post G M 1 → uL u bL → decode cL_law pc = .ok (.ireturn, 1) → wd D cy G M A s.heap H locs → W p l e room_1 s m args below meth c H locs u.1 u.2 Q (F0 m pc ls [.int 1])) {kb45 : uS → gS → mS → Nat → Nat → Int32 → Int32 → Prop} (hkb45 : ∀ (u : uS) (G : gS) (M : mS) (v2 : Nat) (v3 : Nat) (v4 : Int32) (v5 : Int32) (H : Heap) (locs : List Loc) (ls : Array Slot), v2 ∈ gL G → gK G v2 = 9 → v3 ∈ gL G → gK G v3 = 8 → ext G0 G → uL u bL → kb45 u G M v2 v3 v4 v5 → cX p s m args meth c cL_law RL 29 (some .boolean) wsL_law D cy G A → wd D cy G M A s.heap H locs → lv_has ls 29 [(0, .ref (stX D)), (2, .ref v2), (3, .ref v3), (4, .int v4), (5, .int v5)] → W p l e room_1 s m args below meth c H locs u.1 u.2 Q (F0 m 45 ls [])) {kb625 : uS → gS → mS → Nat → Nat → Int32 → Int32 → Nat → Nat → Int32 → Int32 → Prop} (hkb625 : ∀ (u : uS) (G : gS) (M : mS) (v2 : Nat) (v3 : Nat) (v4 : Int32) (v5 : Int32) (v12 : Nat) (v13 : Nat) (v20 : Int32) (v21 : Int32) (H : Heap) (locs : List Loc) (ls : Array Slot), v2 ∈ gL G → gK G v2 = 9 → v3 ∈ gL G → gK G v3 = 8 → v12 ∈ gL G → gK G v12 = 15 → v13 ∈ gL G → gK G v13 = 12 → ext G0 G → uL u bL → kb625 u G M v2 v3 v4 v5 v12 v13 v20 v21 → cX p s m args meth c cL_law RL 29 (some .boolean) wsL_law D cy G A → wd D cy G M A s.heap H locs → lv_has ls 29 [(0, .ref (stX D)), (2, .ref v2), (3, .ref v3), (4, .int v4), (5, .int v5), (12, .ref v12), (13, .ref v13), (20, .int v20), (21, .int v21)] → W p l e room_1 s m args below meth c H locs u.1 u.2 Q (F0 m 625 ls [])) : ∀ (u : uS) (G : gS) (M : mS) (v2 : Nat) (v3 : Nat) (v4 : Int32) (v5 : Int32) (v12 : Nat) (v13 : Nat) (v20 : Int32) (v21 : Int32) (v23 : Int32) (H : Heap) (locs : List Loc) (ls : Array Slot), v2 ∈ gL G → gK G v2 = 9 → v3 ∈ gL G → gK G v3 = 8 → v12 ∈ gL G → gK G v12 = 15 → v13 ∈ gL G → gK G v13 = 12 → ext G0 G → uL u bL → nb_L_law_808 D kb45 kb625 post u G M v2 v3 v4 v5 v12 v13 v20 v21 v23 → cX p s m args meth c cL_law RL 29 (some .boolean) wsL_law D cy G A → wd D cy G M A s.heap H locs → lv_has ls 29 [(0, .ref (stX D)), (2, .ref v2), (3, .ref v3), (4, .int v4), (5, .int v5), (12, .ref v12), (13, .ref v13), (20, .int v20), (21, .int v21), (23, .int v23)] → W p l e room_1 s m args below meth c H locs u.1 u.2 Q (F0 m 808 ls []) := by
  intro u G M v2 v3 v4 v5 v12 v13 v20 v21 v23 H locs ls v2L v2K v3L v3K v12L v12K v13L v13K hext hu h cx w hl
  unfold nb_L_law_808 at h
  obtain ⟨hx, hb, hml, hown, hts, hr, hlocks, hK, hA, hG, hsx⟩ := id cx
  have hR : room_1.cells = bL.1 ∧ room_1.slots = bL.2 := ⟨rfl, rfl⟩
  refine lv_iconst (v := (0 : Int32)) hx hb dL_law_808 (by decide) ?_
  exact bn_L_law_809 hq (hkb45 := hkb45) (hkb625 := hkb625) u G M v2 v3 v4 v5 v12 v13 v20 v21 v23 ((0 : Int32)) H locs ls v2L v2K v3L v3K v12L v12K v13L v13K hext hu h cx w (lv_sub hl [0, 1, 2, 3, 4, 5, 6, 7, 8, 9] rfl)
set_option maxHeartbeats 4000000 in
set_option maxRecDepth 100000 in
theorem bn_L_law_774 {p : Program} {l : Launch} {e : Env} {s : State} {m : MethodId} {args : Array Value} {below : List Frame} {meth : Method} {c : Code} {D : va_G} {cy : cyS} {G0 : gS} {A : Nat → Prop} {Q : State → Prop} {post : gS → mS → Int32 → Prop} (hq : ∀ (u : uS) (G : gS) (M : mS) (H : Heap) (locs : List Loc) (ls : Array Slot) (pc : Nat), post G M 1 → uL u bL → decode cL_law pc = .ok (.ireturn, 1) → wd D cy G M A s.heap H locs → W p l e room_1 s m args below meth c H locs u.1 u.2 Q (F0 m pc ls [.int 1])) {kb45 : uS → gS → mS → Nat → Nat → Int32 → Int32 → Prop} (hkb45 : ∀ (u : uS) (G : gS) (M : mS) (v2 : Nat) (v3 : Nat) (v4 : Int32) (v5 : Int32) (H : Heap) (locs : List Loc) (ls : Array Slot), v2 ∈ gL G → gK G v2 = 9 → v3 ∈ gL G → gK G v3 = 8 → ext G0 G → uL u bL → kb45 u G M v2 v3 v4 v5 → cX p s m args meth c cL_law RL 29 (some .boolean) wsL_law D cy G A → wd D cy G M A s.heap H locs → lv_has ls 29 [(0, .ref (stX D)), (2, .ref v2), (3, .ref v3), (4, .int v4), (5, .int v5)] → W p l e room_1 s m args below meth c H locs u.1 u.2 Q (F0 m 45 ls [])) {kb625 : uS → gS → mS → Nat → Nat → Int32 → Int32 → Nat → Nat → Int32 → Int32 → Prop} (hkb625 : ∀ (u : uS) (G : gS) (M : mS) (v2 : Nat) (v3 : Nat) (v4 : Int32) (v5 : Int32) (v12 : Nat) (v13 : Nat) (v20 : Int32) (v21 : Int32) (H : Heap) (locs : List Loc) (ls : Array Slot), v2 ∈ gL G → gK G v2 = 9 → v3 ∈ gL G → gK G v3 = 8 → v12 ∈ gL G → gK G v12 = 15 → v13 ∈ gL G → gK G v13 = 12 → ext G0 G → uL u bL → kb625 u G M v2 v3 v4 v5 v12 v13 v20 v21 → cX p s m args meth c cL_law RL 29 (some .boolean) wsL_law D cy G A → wd D cy G M A s.heap H locs → lv_has ls 29 [(0, .ref (stX D)), (2, .ref v2), (3, .ref v3), (4, .int v4), (5, .int v5), (12, .ref v12), (13, .ref v13), (20, .int v20), (21, .int v21)] → W p l e room_1 s m args below meth c H locs u.1 u.2 Q (F0 m 625 ls [])) : ∀ (u : uS) (G : gS) (M : mS) (v2 : Nat) (v3 : Nat) (v4 : Int32) (v5 : Int32) (v12 : Nat) (v13 : Nat) (v20 : Int32) (v21 : Int32) (v23 : Int32) (H : Heap) (locs : List Loc) (ls : Array Slot), v2 ∈ gL G → gK G v2 = 9 → v3 ∈ gL G → gK G v3 = 8 → v12 ∈ gL G → gK G v12 = 15 → v13 ∈ gL G → gK G v13 = 12 → ext G0 G → uL u bL → nb_L_law_774 D kb45 kb625 post u G M v2 v3 v4 v5 v12 v13 v20 v21 v23 → cX p s m args meth c cL_law RL 29 (some .boolean) wsL_law D cy G A → wd D cy G M A s.heap H locs → lv_has ls 29 [(0, .ref (stX D)), (2, .ref v2), (3, .ref v3), (4, .int v4), (5, .int v5), (12, .ref v12), (13, .ref v13), (20, .int v20), (21, .int v21), (23, .int v23)] → W p l e room_1 s m args below meth c H locs u.1 u.2 Q (F0 m 774 ls []) := by
  intro u G M v2 v3 v4 v5 v12 v13 v20 v21 v23 H locs ls v2L v2K v3L v3K v12L v12K v13L v13K hext hu h cx w hl
  unfold nb_L_law_774 at h
  obtain ⟨hx, hb, hml, hown, hts, hr, hlocks, hK, hA, hG, hsx⟩ := id cx
  have hR : room_1.cells = bL.1 ∧ room_1.slots = bL.2 := ⟨rfl, rfl⟩
  refine lv_aload_n hx hb dL_law_774 rfl (lv_at hl 2 rfl) ?_
  refine lv_iload hx hb dL_law_775 (lv_at hl 8 rfl) ?_
  refine lv_iconst (v := (0 : Int32)) hx hb dL_law_777 (by decide) ?_
  obtain ⟨M1, r2, y3, h⟩ := w_cl h
  refine r_callVi (As := [.int v21, .int ((0 : Int32))]) (rest := []) cx w hu hl.1 (k_X9_ant hG v3L v3K y3) (cwV 2 hts gL_law_X9_ant rfl rfl rfl (by decide +kernel) ⟨(Nat.le_of_ble_eq_true rfl), (Nat.le_of_ble_eq_true rfl)⟩) v3L v3K (by decide) rfl rfl rfl (Nat.le_of_ble_eq_true rfl) dL_law_778 (fun H locs w => ?_)
  refine lv_aload hx hb dL_law_781 (lv_at hl 5 rfl) ?_
  refine lv_iload hx hb dL_law_783 (lv_at hl 8 rfl) ?_
  obtain ⟨z4, h⟩ := w_ix h
  obtain ⟨q5, eq5, h⟩ := w_rf h
  obtain ⟨hLq5, hKq5⟩ := wt_q hG v12L v12K eq5
  have hKq5 : gK G q5 = 12 := hKq5
  refine r_aaldA cx w v12L v12K z4 eq5 dL_law_785 ?_
  refine lv_iconst (v := (0 : Int32)) hx hb dL_law_786 (by decide) ?_
  obtain ⟨z6, h⟩ := w_ix h
  refine r_iald cx w hLq5 hKq5 z6 dL_law_787 ?_
  refine lv_icmp_eq (tgt := 793) hx hb dL_law_788 (by decide) (fun k7 => ?_) (fun k7 => ?_)
  · have h := w_t h k7
    refine lv_iload hx hb dL_law_793 (lv_at hl 7 rfl) ?_
    refine lv_if_ne (tgt := 808) hx hb dL_law_795 (by decide) (fun k8 => ?_) (fun k8 => ?_)
    · have h := w_f h k8
      exact bn_L_law_808 hq (hkb45 := hkb45) (hkb625 := hkb625) u G M1 v2 v3 v4 v5 v12 v13 v20 v21 v23 H locs ls v2L v2K v3L v3K v12L v12K v13L v13K hext hu h cx w (lv_sub hl [0, 1, 2, 3, 4, 5, 6, 7, 8, 9] rfl)
    · have h := w_t h k8
      refine lv_iload hx hb dL_law_798 (lv_at hl 9 rfl) ?_
      refine lv_iconst (v := (1 : Int32)) hx hb dL_law_800 (by decide) ?_
      refine lv_icmp_ne (tgt := 808) hx hb dL_law_801 (by decide) (fun k9 => ?_) (fun k9 => ?_)
      · have h := w_f h k9
        exact bn_L_law_808 hq (hkb45 := hkb45) (hkb625 := hkb625) u G M1 v2 v3 v4 v5 v12 v13 v20 v21 v23 H locs ls v2L v2K v3L v3K v12L v12K v13L v13K hext hu h cx w (lv_sub hl [0, 1, 2, 3, 4, 5, 6, 7, 8, 9] rfl)
      · have h := w_t h k9
        refine lv_iconst (v := (1 : Int32)) hx hb dL_law_804 (by decide) ?_
        refine lv_goto (tgt := 809) hx hb dL_law_805 (by decide) ?_
        exact bn_L_law_809 hq (hkb45 := hkb45) (hkb625 := hkb625) u G M1 v2 v3 v4 v5 v12 v13 v20 v21 v23 ((1 : Int32)) H locs ls v2L v2K v3L v3K v12L v12K v13L v13K hext hu h cx w (lv_sub hl [0, 1, 2, 3, 4, 5, 6, 7, 8, 9] rfl)
  · have h := w_f h k7
    exact bn_L_law_791 hq u G M1 H locs ls hext hu h cx w (lv_sub hl [] rfl)
set_option maxHeartbeats 4000000 in
set_option maxRecDepth 100000 in
theorem bn_L_law_754 {p : Program} {l : Launch} {e : Env} {s : State} {m : MethodId} {args : Array Value} {below : List Frame} {meth : Method} {c : Code} {D : va_G} {cy : cyS} {G0 : gS} {A : Nat → Prop} {Q : State → Prop} {post : gS → mS → Int32 → Prop} (hq : ∀ (u : uS) (G : gS) (M : mS) (H : Heap) (locs : List Loc) (ls : Array Slot) (pc : Nat), post G M 1 → uL u bL → decode cL_law pc = .ok (.ireturn, 1) → wd D cy G M A s.heap H locs → W p l e room_1 s m args below meth c H locs u.1 u.2 Q (F0 m pc ls [.int 1])) {kb45 : uS → gS → mS → Nat → Nat → Int32 → Int32 → Prop} (hkb45 : ∀ (u : uS) (G : gS) (M : mS) (v2 : Nat) (v3 : Nat) (v4 : Int32) (v5 : Int32) (H : Heap) (locs : List Loc) (ls : Array Slot), v2 ∈ gL G → gK G v2 = 9 → v3 ∈ gL G → gK G v3 = 8 → ext G0 G → uL u bL → kb45 u G M v2 v3 v4 v5 → cX p s m args meth c cL_law RL 29 (some .boolean) wsL_law D cy G A → wd D cy G M A s.heap H locs → lv_has ls 29 [(0, .ref (stX D)), (2, .ref v2), (3, .ref v3), (4, .int v4), (5, .int v5)] → W p l e room_1 s m args below meth c H locs u.1 u.2 Q (F0 m 45 ls [])) {kb625 : uS → gS → mS → Nat → Nat → Int32 → Int32 → Nat → Nat → Int32 → Int32 → Prop} (hkb625 : ∀ (u : uS) (G : gS) (M : mS) (v2 : Nat) (v3 : Nat) (v4 : Int32) (v5 : Int32) (v12 : Nat) (v13 : Nat) (v20 : Int32) (v21 : Int32) (H : Heap) (locs : List Loc) (ls : Array Slot), v2 ∈ gL G → gK G v2 = 9 → v3 ∈ gL G → gK G v3 = 8 → v12 ∈ gL G → gK G v12 = 15 → v13 ∈ gL G → gK G v13 = 12 → ext G0 G → uL u bL → kb625 u G M v2 v3 v4 v5 v12 v13 v20 v21 → cX p s m args meth c cL_law RL 29 (some .boolean) wsL_law D cy G A → wd D cy G M A s.heap H locs → lv_has ls 29 [(0, .ref (stX D)), (2, .ref v2), (3, .ref v3), (4, .int v4), (5, .int v5), (12, .ref v12), (13, .ref v13), (20, .int v20), (21, .int v21)] → W p l e room_1 s m args below meth c H locs u.1 u.2 Q (F0 m 625 ls [])) : ∀ (u : uS) (G : gS) (M : mS) (v2 : Nat) (v3 : Nat) (v4 : Int32) (v5 : Int32) (v12 : Nat) (v13 : Nat) (v20 : Int32) (v21 : Int32) (v23 : Int32) (s0 : Int32) (s1 : Int32) (H : Heap) (locs : List Loc) (ls : Array Slot), v2 ∈ gL G → gK G v2 = 9 → v3 ∈ gL G → gK G v3 = 8 → v12 ∈ gL G → gK G v12 = 15 → v13 ∈ gL G → gK G v13 = 12 → ext G0 G → uL u bL → nb_L_law_754 D kb45 kb625 post u G M v2 v3 v4 v5 v12 v13 v20 v21 v23 s0 s1 → cX p s m args meth c cL_law RL 29 (some .boolean) wsL_law D cy G A → wd D cy G M A s.heap H locs → lv_has ls 29 [(0, .ref (stX D)), (2, .ref v2), (3, .ref v3), (4, .int v4), (5, .int v5), (12, .ref v12), (13, .ref v13), (20, .int v20), (21, .int v21), (23, .int v23)] → W p l e room_1 s m args below meth c H locs u.1 u.2 Q (F0 m 754 ls [.int s1, .int s0]) := by
  intro u G M v2 v3 v4 v5 v12 v13 v20 v21 v23 s0 s1 H locs ls v2L v2K v3L v3K v12L v12K v13L v13K hext hu h cx w hl
  unfold nb_L_law_754 at h
  obtain ⟨hx, hb, hml, hown, hts, hr, hlocks, hK, hA, hG, hsx⟩ := id cx
  have hR : room_1.cells = bL.1 ∧ room_1.slots = bL.2 := ⟨rfl, rfl⟩
  refine lv_icmp_ne (tgt := 791) hx hb dL_law_754 (by decide) (fun k1 => ?_) (fun k1 => ?_)
  · have h := w_f h k1
    exact bn_L_law_791 hq u G M H locs ls hext hu h cx w (lv_sub hl [] rfl)
  · have h := w_t h k1
    refine lv_iload hx hb dL_law_757 (lv_at hl 7 rfl) ?_
    refine lv_if_ne (tgt := 774) hx hb dL_law_759 (by decide) (fun k2 => ?_) (fun k2 => ?_)
    · have h := w_f h k2
      exact bn_L_law_774 hq (hkb45 := hkb45) (hkb625 := hkb625) u G M v2 v3 v4 v5 v12 v13 v20 v21 v23 H locs ls v2L v2K v3L v3K v12L v12K v13L v13K hext hu h cx w (lv_sub hl [0, 1, 2, 3, 4, 5, 6, 7, 8, 9] rfl)
    · have h := w_t h k2
      refine lv_iload hx hb dL_law_762 (lv_at hl 9 rfl) ?_
      refine lv_aload hx hb dL_law_764 (lv_at hl 5 rfl) ?_
      refine lv_iload hx hb dL_law_766 (lv_at hl 8 rfl) ?_
      obtain ⟨z3, h⟩ := w_ix h
      obtain ⟨q4, eq4, h⟩ := w_rf h
      obtain ⟨hLq4, hKq4⟩ := wt_q hG v12L v12K eq4
      have hKq4 : gK G q4 = 12 := hKq4
      refine r_aaldA cx w v12L v12K z3 eq4 dL_law_768 ?_
      refine lv_iconst (v := (4 : Int32)) hx hb dL_law_769 (by decide) ?_
      obtain ⟨z5, h⟩ := w_ix h
      refine r_iald cx w hLq4 hKq4 z5 dL_law_770 ?_
      refine lv_icmp_ne (tgt := 791) hx hb dL_law_771 (by decide) (fun k6 => ?_) (fun k6 => ?_)
      · have h := w_f h k6
        exact bn_L_law_791 hq u G M H locs ls hext hu h cx w (lv_sub hl [] rfl)
      · have h := w_t h k6
        exact bn_L_law_774 hq (hkb45 := hkb45) (hkb625 := hkb625) u G M v2 v3 v4 v5 v12 v13 v20 v21 v23 H locs ls v2L v2K v3L v3K v12L v12K v13L v13K hext hu h cx w (lv_sub hl [0, 1, 2, 3, 4, 5, 6, 7, 8, 9] rfl)
set_option maxHeartbeats 4000000 in
set_option maxRecDepth 100000 in
theorem bn_L_law_1108 {p : Program} {l : Launch} {e : Env} {s : State} {m : MethodId} {args : Array Value} {below : List Frame} {meth : Method} {c : Code} {D : va_G} {cy : cyS} {G0 : gS} {A : Nat → Prop} {Q : State → Prop} {post : gS → mS → Int32 → Prop} (hq : ∀ (u : uS) (G : gS) (M : mS) (H : Heap) (locs : List Loc) (ls : Array Slot) (pc : Nat), post G M 1 → uL u bL → decode cL_law pc = .ok (.ireturn, 1) → wd D cy G M A s.heap H locs → W p l e room_1 s m args below meth c H locs u.1 u.2 Q (F0 m pc ls [.int 1])) {kb45 : uS → gS → mS → Nat → Nat → Int32 → Int32 → Prop} (hkb45 : ∀ (u : uS) (G : gS) (M : mS) (v2 : Nat) (v3 : Nat) (v4 : Int32) (v5 : Int32) (H : Heap) (locs : List Loc) (ls : Array Slot), v2 ∈ gL G → gK G v2 = 9 → v3 ∈ gL G → gK G v3 = 8 → ext G0 G → uL u bL → kb45 u G M v2 v3 v4 v5 → cX p s m args meth c cL_law RL 29 (some .boolean) wsL_law D cy G A → wd D cy G M A s.heap H locs → lv_has ls 29 [(0, .ref (stX D)), (2, .ref v2), (3, .ref v3), (4, .int v4), (5, .int v5)] → W p l e room_1 s m args below meth c H locs u.1 u.2 Q (F0 m 45 ls [])) : ∀ (u : uS) (G : gS) (M : mS) (v2 : Nat) (v3 : Nat) (v4 : Int32) (v5 : Int32) (v21 : Int32) (H : Heap) (locs : List Loc) (ls : Array Slot), v2 ∈ gL G → gK G v2 = 9 → v3 ∈ gL G → gK G v3 = 8 → ext G0 G → uL u bL → nl_L_law_1108 D kb45 post u G M v2 v3 v4 v5 v21 → cX p s m args meth c cL_law RL 29 (some .boolean) wsL_law D cy G A → wd D cy G M A s.heap H locs → lv_has ls 29 [(0, .ref (stX D)), (2, .ref v2), (3, .ref v3), (4, .int v4), (5, .int v5), (21, .int v21)] → W p l e room_1 s m args below meth c H locs u.1 u.2 Q (F0 m 1108 ls []) := by
  intro u G M v2 v3 v4 v5 v21 H locs ls v2L v2K v3L v3K hext hu h cx w hl
  obtain ⟨I, n, hI, hB⟩ := h
  have key : ∀ n : Nat, ∀ (u : uS) (G : gS) (M : mS) (v2 : Nat) (v3 : Nat) (v4 : Int32) (v5 : Int32) (v21 : Int32) (H : Heap) (locs : List Loc) (ls : Array Slot), v2 ∈ gL G → gK G v2 = 9 → v3 ∈ gL G → gK G v3 = 8 → ext G0 G → uL u bL → I n u G M v2 v3 v4 v5 v21 → cX p s m args meth c cL_law RL 29 (some .boolean) wsL_law D cy G A → wd D cy G M A s.heap H locs → lv_has ls 29 [(0, .ref (stX D)), (2, .ref v2), (3, .ref v3), (4, .int v4), (5, .int v5), (21, .int v21)] → W p l e room_1 s m args below meth c H locs u.1 u.2 Q (F0 m 1108 ls []) := by
    intro n
    induction n using Nat.strongRecOn with
    | ind n ih =>
      intro u G M v2 v3 v4 v5 v21 H locs ls v2L v2K v3L v3K hext hu hI cx w hl
      have h := hB n u G M v2 v3 v4 v5 v21 hI
      unfold nb_L_law_1108 at h
      obtain ⟨hx, hb, hml, hown, hts, hr, hlocks, hK, hA, hG, hsx⟩ := id cx
      have hR : room_1.cells = bL.1 ∧ room_1.slots = bL.2 := ⟨rfl, rfl⟩
      refine lv_iload hx hb dL_law_1108 (lv_at hl 5 rfl) ?_
      refine lv_bipush (v := (64 : Int32)) hx hb dL_law_1110 (by decide) ?_
      refine lv_icmp_ge (tgt := 1132) hx hb dL_law_1112 (by decide) (fun k1 => ?_) (fun k1 => ?_)
      · have h := w_t h k1
        obtain ⟨x2, ex2, h⟩ := w_bd h
        refine lv_iinc (v := x2) (lv' := [(5, .int x2), (0, .ref (stX D)), (2, .ref v2), (3, .ref v3), (4, .int v4), (21, .int v21)]) hx hb dL_law_1132 hl (k := 4) rfl (by rw [ex2]; rfl) (by decide) rfl (fun ls hl => ?_)
        refine lv_goto (tgt := 45) hx hb dL_law_1135 (by decide) ?_
        exact hkb45 u G M v2 v3 v4 x2 H locs ls v2L v2K v3L v3K hext hu h cx w (lv_sub hl [1, 2, 3, 4, 0] rfl)
      · have h := w_f h k1
        refine lv_aload_n hx hb dL_law_1115 rfl (lv_at hl 2 rfl) ?_
        refine lv_iload hx hb dL_law_1116 (lv_at hl 5 rfl) ?_
        obtain ⟨M3, r4, y5, h⟩ := w_cl h
        refine r_callVi (As := [.int v21]) (rest := []) cx w hu hl.1 (k_X9_row hG v3L v3K y5) (cwV 1 hts gL_law_X9_row rfl rfl rfl (by decide +kernel) ⟨(Nat.le_of_ble_eq_true rfl), (Nat.le_of_ble_eq_true rfl)⟩) v3L v3K (by decide) rfl rfl rfl (Nat.le_of_ble_eq_true rfl) dL_law_1118 (fun H locs w => ?_)
        refine lv_if_eq (tgt := 1126) hx hb dL_law_1121 (by decide) (fun k6 => ?_) (fun k6 => ?_)
        · have h := w_t h k6
          obtain ⟨x7, ex7, h⟩ := w_bd h
          refine lv_iinc (v := x7) (lv' := [(21, .int x7), (0, .ref (stX D)), (2, .ref v2), (3, .ref v3), (4, .int v4), (5, .int v5)]) hx hb dL_law_1126 hl (k := 5) rfl (by rw [ex7]; rfl) (by decide) rfl (fun ls hl => ?_)
          refine lv_goto (tgt := 1108) hx hb dL_law_1129 (by decide) ?_
          obtain ⟨k, hk, hI⟩ := h
          exact ih k hk u G M3 v2 v3 v4 v5 x7 H locs ls v2L v2K v3L v3K hext hu hI cx w (lv_sub hl [1, 2, 3, 4, 5, 0] rfl)
        · have h := w_f h k6
          refine lv_iconst (v := (0 : Int32)) hx hb dL_law_1124 (by decide) ?_
          exact h.elim
  exact key n u G M v2 v3 v4 v5 v21 H locs ls v2L v2K v3L v3K hext hu hI cx w hl
set_option maxHeartbeats 4000000 in
set_option maxRecDepth 100000 in
theorem bn_L_law_625 {p : Program} {l : Launch} {e : Env} {s : State} {m : MethodId} {args : Array Value} {below : List Frame} {meth : Method} {c : Code} {D : va_G} {cy : cyS} {G0 : gS} {A : Nat → Prop} {Q : State → Prop} {post : gS → mS → Int32 → Prop} (hq : ∀ (u : uS) (G : gS) (M : mS) (H : Heap) (locs : List Loc) (ls : Array Slot) (pc : Nat), post G M 1 → uL u bL → decode cL_law pc = .ok (.ireturn, 1) → wd D cy G M A s.heap H locs → W p l e room_1 s m args below meth c H locs u.1 u.2 Q (F0 m pc ls [.int 1])) {kb45 : uS → gS → mS → Nat → Nat → Int32 → Int32 → Prop} (hkb45 : ∀ (u : uS) (G : gS) (M : mS) (v2 : Nat) (v3 : Nat) (v4 : Int32) (v5 : Int32) (H : Heap) (locs : List Loc) (ls : Array Slot), v2 ∈ gL G → gK G v2 = 9 → v3 ∈ gL G → gK G v3 = 8 → ext G0 G → uL u bL → kb45 u G M v2 v3 v4 v5 → cX p s m args meth c cL_law RL 29 (some .boolean) wsL_law D cy G A → wd D cy G M A s.heap H locs → lv_has ls 29 [(0, .ref (stX D)), (2, .ref v2), (3, .ref v3), (4, .int v4), (5, .int v5)] → W p l e room_1 s m args below meth c H locs u.1 u.2 Q (F0 m 45 ls [])) : ∀ (u : uS) (G : gS) (M : mS) (v2 : Nat) (v3 : Nat) (v4 : Int32) (v5 : Int32) (v12 : Nat) (v13 : Nat) (v20 : Int32) (v21 : Int32) (H : Heap) (locs : List Loc) (ls : Array Slot), v2 ∈ gL G → gK G v2 = 9 → v3 ∈ gL G → gK G v3 = 8 → v12 ∈ gL G → gK G v12 = 15 → v13 ∈ gL G → gK G v13 = 12 → ext G0 G → uL u bL → nl_L_law_625 D kb45 post u G M v2 v3 v4 v5 v12 v13 v20 v21 → cX p s m args meth c cL_law RL 29 (some .boolean) wsL_law D cy G A → wd D cy G M A s.heap H locs → lv_has ls 29 [(0, .ref (stX D)), (2, .ref v2), (3, .ref v3), (4, .int v4), (5, .int v5), (12, .ref v12), (13, .ref v13), (20, .int v20), (21, .int v21)] → W p l e room_1 s m args below meth c H locs u.1 u.2 Q (F0 m 625 ls []) := by
  intro u G M v2 v3 v4 v5 v12 v13 v20 v21 H locs ls v2L v2K v3L v3K v12L v12K v13L v13K hext hu h cx w hl
  obtain ⟨I, n, hI, hB⟩ := h
  have key : ∀ n : Nat, ∀ (u : uS) (G : gS) (M : mS) (v2 : Nat) (v3 : Nat) (v4 : Int32) (v5 : Int32) (v12 : Nat) (v13 : Nat) (v20 : Int32) (v21 : Int32) (H : Heap) (locs : List Loc) (ls : Array Slot), v2 ∈ gL G → gK G v2 = 9 → v3 ∈ gL G → gK G v3 = 8 → v12 ∈ gL G → gK G v12 = 15 → v13 ∈ gL G → gK G v13 = 12 → ext G0 G → uL u bL → I n u G M v2 v3 v4 v5 v12 v13 v20 v21 → cX p s m args meth c cL_law RL 29 (some .boolean) wsL_law D cy G A → wd D cy G M A s.heap H locs → lv_has ls 29 [(0, .ref (stX D)), (2, .ref v2), (3, .ref v3), (4, .int v4), (5, .int v5), (12, .ref v12), (13, .ref v13), (20, .int v20), (21, .int v21)] → W p l e room_1 s m args below meth c H locs u.1 u.2 Q (F0 m 625 ls []) := by
    intro n
    induction n using Nat.strongRecOn with
    | ind n ih =>
      intro u G M v2 v3 v4 v5 v12 v13 v20 v21 H locs ls v2L v2K v3L v3K v12L v12K v13L v13K hext hu hI cx w hl
      have h := hB n u G M v2 v3 v4 v5 v12 v13 v20 v21 hI
      unfold nb_L_law_625 at h
      obtain ⟨hx, hb, hml, hown, hts, hr, hlocks, hK, hA, hG, hsx⟩ := id cx
      have hR : room_1.cells = bL.1 ∧ room_1.slots = bL.2 := ⟨rfl, rfl⟩
      refine lv_iload hx hb dL_law_625 (lv_at hl 8 rfl) ?_
      refine lv_iload hx hb dL_law_627 (lv_at hl 3 rfl) ?_
      refine lv_icmp_ge (tgt := 1083) hx hb dL_law_629 (by decide) (fun k1 => ?_) (fun k1 => ?_)
      · have h := w_t h k1
        refine lv_aload_n hx hb dL_law_1083 rfl (lv_at hl 2 rfl) ?_
        refine lv_bipush (v := (40 : Int32)) hx hb dL_law_1084 (by decide) ?_
        refine lv_bipush (v := (63 : Int32)) hx hb dL_law_1086 (by decide) ?_
        obtain ⟨M2, r3, y4, h⟩ := w_cl h
        refine r_callVi (As := [.int ((40 : Int32)), .int ((63 : Int32))]) (rest := []) cx w hu hl.1 (k_X9_wash hG v3L v3K y4) (cwV 2 hts gL_law_X9_wash rfl rfl rfl (by decide +kernel) ⟨(Nat.le_of_ble_eq_true rfl), (Nat.le_of_ble_eq_true rfl)⟩) v3L v3K (by decide) rfl rfl rfl (Nat.le_of_ble_eq_true rfl) dL_law_1088 (fun H locs w => ?_)
        refine lv_aload_n hx hb dL_law_1091 rfl (lv_at hl 1 rfl) ?_
        refine lv_bipush (v := (40 : Int32)) hx hb dL_law_1092 (by decide) ?_
        refine lv_bipush (v := (63 : Int32)) hx hb dL_law_1094 (by decide) ?_
        refine rb_VI (b := bL) (u := u) (rf := 1) (rl := 26) (As := [.int ((40 : Int32)), .int ((63 : Int32))]) (rest := [.int r3]) cx w hR hl.1 h (fun h => kn_X10_wash hG v2L v2K h) (fun v => cwV 2 hts gL_law_X10_wash rfl rfl rfl (by decide +kernel) ⟨(Nat.le_of_ble_eq_true rfl), (Nat.le_of_ble_eq_true rfl)⟩) v2L v2K (by decide) rfl rfl rfl (Nat.le_of_ble_eq_true rfl) dL_law_1096 (fun u7 G5 M6 r8 H locs h hu xe cx w => ?_)
        obtain ⟨v2L, v2K⟩ := ext_wt xe v2L v2K
        obtain ⟨v3L, v3K⟩ := ext_wt xe v3L v3K
        obtain ⟨v12L, v12K⟩ := ext_wt xe v12L v12K
        obtain ⟨v13L, v13K⟩ := ext_wt xe v13L v13K
        have hext := ext_tr hext xe
        clear xe
        have hG := cX_wt cx
        refine lv_icmp_eq (tgt := 1104) hx hb dL_law_1099 (by decide) (fun k9 => ?_) (fun k9 => ?_)
        · have h := w_t h k9
          refine lv_bipush (v := (40 : Int32)) hx hb dL_law_1104 (by decide) ?_
          refine lv_istore (lv' := [(21, .int ((40 : Int32))), (0, .ref (stX D)), (2, .ref v2), (3, .ref v3), (4, .int v4), (5, .int v5), (12, .ref v12), (13, .ref v13), (20, .int v20)]) hx hb dL_law_1106 hl (by decide) rfl (fun ls hl => ?_)
          exact bn_L_law_1108 hq (hkb45 := hkb45) u7 G5 M6 v2 v3 v4 v5 ((40 : Int32)) H locs ls v2L v2K v3L v3K hext hu h cx w (lv_sub hl [1, 2, 3, 4, 5, 0] rfl)
        · have h := w_f h k9
          refine lv_iconst (v := (0 : Int32)) hx hb dL_law_1102 (by decide) ?_
          exact h.elim
      · have h := w_f h k1
        refine lv_aload_n hx hb dL_law_632 rfl (lv_at hl 2 rfl) ?_
        refine lv_iload hx hb dL_law_633 (lv_at hl 8 rfl) ?_
        refine lv_iconst (v := (1 : Int32)) hx hb dL_law_635 (by decide) ?_
        obtain ⟨M10, r11, y12, h⟩ := w_cl h
        refine r_callVi (As := [.int v21, .int ((1 : Int32))]) (rest := []) cx w hu hl.1 (k_X9_ant hG v3L v3K y12) (cwV 2 hts gL_law_X9_ant rfl rfl rfl (by decide +kernel) ⟨(Nat.le_of_ble_eq_true rfl), (Nat.le_of_ble_eq_true rfl)⟩) v3L v3K (by decide) rfl rfl rfl (Nat.le_of_ble_eq_true rfl) dL_law_636 (fun H locs w => ?_)
        refine lv_aload hx hb dL_law_639 (lv_at hl 5 rfl) ?_
        refine lv_iload hx hb dL_law_641 (lv_at hl 8 rfl) ?_
        obtain ⟨z13, h⟩ := w_ix h
        obtain ⟨q14, eq14, h⟩ := w_rf h
        obtain ⟨hLq14, hKq14⟩ := wt_q hG v12L v12K eq14
        have hKq14 : gK G q14 = 12 := hKq14
        refine r_aaldA cx w v12L v12K z13 eq14 dL_law_643 ?_
        refine lv_iconst (v := (1 : Int32)) hx hb dL_law_644 (by decide) ?_
        obtain ⟨z15, h⟩ := w_ix h
        refine r_iald cx w hLq14 hKq14 z15 dL_law_645 ?_
        refine lv_isub hx hb dL_law_646 ?_
        refine lv_bipush (v := (64 : Int32)) hx hb dL_law_647 (by decide) ?_
        refine lv_iadd hx hb dL_law_649 ?_
        refine lv_bipush (v := (64 : Int32)) hx hb dL_law_650 (by decide) ?_
        obtain ⟨z16, h⟩ := w_ck h
        refine lv_irem hx hb dL_law_652 z16 ?_
        refine lv_bipush (v := (64 : Int32)) hx hb dL_law_653 (by decide) ?_
        refine lv_aload_n hx hb dL_law_655 rfl (lv_at hl 2 rfl) ?_
        refine lv_iload hx hb dL_law_656 (lv_at hl 8 rfl) ?_
        refine lv_iconst (v := (2 : Int32)) hx hb dL_law_658 (by decide) ?_
        obtain ⟨M17, r18, y19, h⟩ := w_cl h
        refine r_callVi (As := [.int v21, .int ((2 : Int32))]) (rest := [.int ((64 : Int32)), .int ((((r11 - (mI M10 q14 (Int32.toNatClampNeg (1 : Int32)))) + (64 : Int32)) - ((r11 - (mI M10 q14 (Int32.toNatClampNeg (1 : Int32)))) + (64 : Int32)) / (64 : Int32) * (64 : Int32)))]) cx w hu hl.1 (k_X9_ant hG v3L v3K y19) (cwV 2 hts gL_law_X9_ant rfl rfl rfl (by decide +kernel) ⟨(Nat.le_of_ble_eq_true rfl), (Nat.le_of_ble_eq_true rfl)⟩) v3L v3K (by decide) rfl rfl rfl (Nat.le_of_ble_eq_true rfl) dL_law_659 (fun H locs w => ?_)
        refine lv_aload hx hb dL_law_662 (lv_at hl 5 rfl) ?_
        refine lv_iload hx hb dL_law_664 (lv_at hl 8 rfl) ?_
        obtain ⟨z20, h⟩ := w_ix h
        obtain ⟨q21, eq21, h⟩ := w_rf h
        obtain ⟨hLq21, hKq21⟩ := wt_q hG v12L v12K eq21
        have hKq21 : gK G q21 = 12 := hKq21
        refine r_aaldA cx w v12L v12K z20 eq21 dL_law_666 ?_
        refine lv_iconst (v := (2 : Int32)) hx hb dL_law_667 (by decide) ?_
        obtain ⟨z22, h⟩ := w_ix h
        refine r_iald cx w hLq21 hKq21 z22 dL_law_668 ?_
        refine lv_isub hx hb dL_law_669 ?_
        refine lv_bipush (v := (64 : Int32)) hx hb dL_law_670 (by decide) ?_
        refine lv_iadd hx hb dL_law_672 ?_
        refine lv_bipush (v := (64 : Int32)) hx hb dL_law_673 (by decide) ?_
        obtain ⟨z23, h⟩ := w_ck h
        refine lv_irem hx hb dL_law_675 z23 ?_
        refine lv_imul hx hb dL_law_676 ?_
        refine lv_iadd hx hb dL_law_677 ?_
        obtain ⟨x24, ex24, h⟩ := w_bd h
        refine r_topI ex24 ?_
        refine lv_istore (lv' := [(22, .int x24), (0, .ref (stX D)), (2, .ref v2), (3, .ref v3), (4, .int v4), (5, .int v5), (12, .ref v12), (13, .ref v13), (20, .int v20), (21, .int v21)]) hx hb dL_law_678 hl (by decide) rfl (fun ls hl => ?_)
        refine lv_aload_n hx hb dL_law_680 rfl (lv_at hl 3 rfl) ?_
        refine lv_iload hx hb dL_law_681 (lv_at hl 9 rfl) ?_
        refine lv_iconst (v := (5 : Int32)) hx hb dL_law_683 (by decide) ?_
        obtain ⟨M25, r26, y27, h⟩ := w_cl h
        refine r_callVi (As := [.int v21, .int ((5 : Int32))]) (rest := []) cx w hu hl.1 (k_X9_ant hG v3L v3K y27) (cwV 2 hts gL_law_X9_ant rfl rfl rfl (by decide +kernel) ⟨(Nat.le_of_ble_eq_true rfl), (Nat.le_of_ble_eq_true rfl)⟩) v3L v3K (by decide) rfl rfl rfl (Nat.le_of_ble_eq_true rfl) dL_law_684 (fun H locs w => ?_)
        refine lv_aload hx hb dL_law_687 (lv_at hl 6 rfl) ?_
        refine lv_iload hx hb dL_law_689 (lv_at hl 9 rfl) ?_
        obtain ⟨z28, h⟩ := w_ix h
        obtain ⟨q29, eq29, h⟩ := w_rf h
        obtain ⟨hLq29, hKq29⟩ := wt_q hG v12L v12K eq29
        have hKq29 : gK G q29 = 12 := hKq29
        refine r_aaldA cx w v12L v12K z28 eq29 dL_law_691 ?_
        refine lv_iconst (v := (5 : Int32)) hx hb dL_law_692 (by decide) ?_
        obtain ⟨z30, h⟩ := w_ix h
        refine r_iald cx w hLq29 hKq29 z30 dL_law_693 ?_
        refine lv_isub hx hb dL_law_694 ?_
        obtain ⟨x31, ex31, h⟩ := w_bd h
        refine r_topI ex31 ?_
        refine lv_istore (lv' := [(23, .int x31), (22, .int x24), (0, .ref (stX D)), (2, .ref v2), (3, .ref v3), (4, .int v4), (5, .int v5), (12, .ref v12), (13, .ref v13), (20, .int v20), (21, .int v21)]) hx hb dL_law_695 hl (by decide) rfl (fun ls hl => ?_)
        refine lv_iconst (v := (4 : Int32)) hx hb dL_law_697 (by decide) ?_
        refine rb_newI (b := bL) (u := u) cx w hR (lkL_in wsL_law0_r1 (List.mem_of_getElem? (i := 0) rfl) _ (List.mem_of_getElem? (i := 8) rfl)) h dL_law_698 (fun q32 u35 G33 M34 H h hu xe hLq32 hKq32 cx w => ?_)
        obtain ⟨v2L, v2K⟩ := ext_wt xe v2L v2K
        obtain ⟨v3L, v3K⟩ := ext_wt xe v3L v3K
        obtain ⟨v12L, v12K⟩ := ext_wt xe v12L v12K
        obtain ⟨v13L, v13K⟩ := ext_wt xe v13L v13K
        have hext := ext_tr hext xe
        clear xe
        have hG := cX_wt cx
        refine lv_dup hx hb dL_law_700 rfl ?_
        refine lv_iconst (v := (0 : Int32)) hx hb dL_law_701 (by decide) ?_
        refine lv_sipush (v := (4032 : Int32)) hx hb dL_law_702 (by decide) ?_
        obtain ⟨z36, h⟩ := w_ix h
        obtain ⟨M37, eM37, h⟩ := w_wI h
        refine r_iast cx w hLq32 hKq32 z36 dL_law_705 eM37 (fun H locs w => ?_)
        refine lv_dup hx hb dL_law_706 rfl ?_
        refine lv_iconst (v := (1 : Int32)) hx hb dL_law_707 (by decide) ?_
        refine lv_iconst (v := (1 : Int32)) hx hb dL_law_708 (by decide) ?_
        obtain ⟨z38, h⟩ := w_ix h
        obtain ⟨M39, eM39, h⟩ := w_wI h
        refine r_iast cx w hLq32 hKq32 z38 dL_law_709 eM39 (fun H locs w => ?_)
        refine lv_dup hx hb dL_law_710 rfl ?_
        refine lv_iconst (v := (2 : Int32)) hx hb dL_law_711 (by decide) ?_
        refine lv_bipush (v := (64 : Int32)) hx hb dL_law_712 (by decide) ?_
        obtain ⟨z40, h⟩ := w_ix h
        obtain ⟨M41, eM41, h⟩ := w_wI h
        refine r_iast cx w hLq32 hKq32 z40 dL_law_714 eM41 (fun H locs w => ?_)
        refine lv_dup hx hb dL_law_715 rfl ?_
        refine lv_iconst (v := (3 : Int32)) hx hb dL_law_716 (by decide) ?_
        refine lv_bipush (v := (63 : Int32)) hx hb dL_law_717 (by decide) ?_
        obtain ⟨z42, h⟩ := w_ix h
        obtain ⟨M43, eM43, h⟩ := w_wI h
        refine r_iast cx w hLq32 hKq32 z42 dL_law_719 eM43 (fun H locs w => ?_)
        refine lv_astore (lv' := [(24, .ref q32), (23, .int x31), (22, .int x24), (0, .ref (stX D)), (2, .ref v2), (3, .ref v3), (4, .int v4), (5, .int v5), (12, .ref v12), (13, .ref v13), (20, .int v20), (21, .int v21)]) hx hb dL_law_720 hl (by decide) rfl (fun ls hl => ?_)
        refine lv_iload hx hb dL_law_722 (lv_at hl 1 rfl) ?_
        refine lv_if_lt (tgt := 791) hx hb dL_law_724 (by decide) (fun k44 => ?_) (fun k44 => ?_)
        · have h := w_t h k44
          exact bn_L_law_791 hq u35 G33 M43 H locs ls hext hu h cx w (lv_sub hl [] rfl)
        · have h := w_f h k44
          refine lv_iload hx hb dL_law_727 (lv_at hl 1 rfl) ?_
          refine lv_iconst (v := (1 : Int32)) hx hb dL_law_729 (by decide) ?_
          refine lv_icmp_gt (tgt := 791) hx hb dL_law_730 (by decide) (fun k45 => ?_) (fun k45 => ?_)
          · have h := w_t h k45
            exact bn_L_law_791 hq u35 G33 M43 H locs ls hext hu h cx w (lv_sub hl [] rfl)
          · have h := w_f h k45
            refine lv_iload hx hb dL_law_733 (lv_at hl 2 rfl) ?_
            refine lv_iload hx hb dL_law_735 (lv_at hl 1 rfl) ?_
            refine lv_if_ne (tgt := 744) hx hb dL_law_737 (by decide) (fun k46 => ?_) (fun k46 => ?_)
            · have h := w_f h k46
              refine lv_aload hx hb dL_law_744 (lv_at hl 0 rfl) ?_
              refine lv_aload_n hx hb dL_law_746 rfl (lv_at hl 5 rfl) ?_
              refine lv_iload hx hb dL_law_747 (lv_at hl 11 rfl) ?_
              refine lv_iconst (v := (3 : Int32)) hx hb dL_law_749 (by decide) ?_
              obtain ⟨M47, r48, y49, h⟩ := w_cl h
              refine r_callVi (As := [.int v21, .int ((3 : Int32))]) (rest := [.ref q32, .int x24]) cx w hu hl.1 (k_X9_ant hG v3L v3K y49) (cwV 2 hts gL_law_X9_ant rfl rfl rfl (by decide +kernel) ⟨(Nat.le_of_ble_eq_true rfl), (Nat.le_of_ble_eq_true rfl)⟩) v3L v3K (by decide) rfl rfl rfl (Nat.le_of_ble_eq_true rfl) dL_law_750 (fun H locs w => ?_)
              obtain ⟨z50, h⟩ := w_ix h
              refine r_iald cx w hLq32 hKq32 z50 dL_law_753 ?_
              exact bn_L_law_754 hq (hkb45 := hkb45) (hkb625 := fun u G M v2 v3 v4 v5 v12 v13 v20 v21 H locs ls v2L v2K v3L v3K v12L v12K v13L v13K hext hu h cx w hl => by obtain ⟨k, hk, hI⟩ := h; exact ih k hk u G M v2 v3 v4 v5 v12 v13 v20 v21 H locs ls v2L v2K v3L v3K v12L v12K v13L v13K hext hu hI cx w hl) u35 G33 M47 v2 v3 v4 v5 v12 v13 v20 v21 x31 x24 ((mI M47 q32 (Int32.toNatClampNeg r48))) H locs ls v2L v2K v3L v3K v12L v12K v13L v13K hext hu h cx w (lv_sub hl [3, 4, 5, 6, 7, 8, 9, 10, 11, 1] rfl)
            · have h := w_t h k46
              refine lv_iconst (v := (0 : Int32)) hx hb dL_law_740 (by decide) ?_
              refine lv_goto (tgt := 754) hx hb dL_law_741 (by decide) ?_
              exact bn_L_law_754 hq (hkb45 := hkb45) (hkb625 := fun u G M v2 v3 v4 v5 v12 v13 v20 v21 H locs ls v2L v2K v3L v3K v12L v12K v13L v13K hext hu h cx w hl => by obtain ⟨k, hk, hI⟩ := h; exact ih k hk u G M v2 v3 v4 v5 v12 v13 v20 v21 H locs ls v2L v2K v3L v3K v12L v12K v13L v13K hext hu hI cx w hl) u35 G33 M43 v2 v3 v4 v5 v12 v13 v20 v21 x31 x24 ((0 : Int32)) H locs ls v2L v2K v3L v3K v12L v12K v13L v13K hext hu h cx w (lv_sub hl [3, 4, 5, 6, 7, 8, 9, 10, 11, 1] rfl)
  exact key n u G M v2 v3 v4 v5 v12 v13 v20 v21 H locs ls v2L v2K v3L v3K v12L v12K v13L v13K hext hu hI cx w hl
set_option maxHeartbeats 4000000 in
set_option maxRecDepth 100000 in
theorem bn_L_law_620 {p : Program} {l : Launch} {e : Env} {s : State} {m : MethodId} {args : Array Value} {below : List Frame} {meth : Method} {c : Code} {D : va_G} {cy : cyS} {G0 : gS} {A : Nat → Prop} {Q : State → Prop} {post : gS → mS → Int32 → Prop} (hq : ∀ (u : uS) (G : gS) (M : mS) (H : Heap) (locs : List Loc) (ls : Array Slot) (pc : Nat), post G M 1 → uL u bL → decode cL_law pc = .ok (.ireturn, 1) → wd D cy G M A s.heap H locs → W p l e room_1 s m args below meth c H locs u.1 u.2 Q (F0 m pc ls [.int 1])) {kb45 : uS → gS → mS → Nat → Nat → Int32 → Int32 → Prop} (hkb45 : ∀ (u : uS) (G : gS) (M : mS) (v2 : Nat) (v3 : Nat) (v4 : Int32) (v5 : Int32) (H : Heap) (locs : List Loc) (ls : Array Slot), v2 ∈ gL G → gK G v2 = 9 → v3 ∈ gL G → gK G v3 = 8 → ext G0 G → uL u bL → kb45 u G M v2 v3 v4 v5 → cX p s m args meth c cL_law RL 29 (some .boolean) wsL_law D cy G A → wd D cy G M A s.heap H locs → lv_has ls 29 [(0, .ref (stX D)), (2, .ref v2), (3, .ref v3), (4, .int v4), (5, .int v5)] → W p l e room_1 s m args below meth c H locs u.1 u.2 Q (F0 m 45 ls [])) : ∀ (u : uS) (G : gS) (M : mS) (v2 : Nat) (v3 : Nat) (v4 : Int32) (v5 : Int32) (v12 : Nat) (v13 : Nat) (s0 : Int32) (H : Heap) (locs : List Loc) (ls : Array Slot), v2 ∈ gL G → gK G v2 = 9 → v3 ∈ gL G → gK G v3 = 8 → v12 ∈ gL G → gK G v12 = 15 → v13 ∈ gL G → gK G v13 = 12 → ext G0 G → uL u bL → nb_L_law_620 D kb45 post u G M v2 v3 v4 v5 v12 v13 s0 → cX p s m args meth c cL_law RL 29 (some .boolean) wsL_law D cy G A → wd D cy G M A s.heap H locs → lv_has ls 29 [(0, .ref (stX D)), (2, .ref v2), (3, .ref v3), (4, .int v4), (5, .int v5), (12, .ref v12), (13, .ref v13)] → W p l e room_1 s m args below meth c H locs u.1 u.2 Q (F0 m 620 ls [.int s0]) := by
  intro u G M v2 v3 v4 v5 v12 v13 s0 H locs ls v2L v2K v3L v3K v12L v12K v13L v13K hext hu h cx w hl
  unfold nb_L_law_620 at h
  obtain ⟨hx, hb, hml, hown, hts, hr, hlocks, hK, hA, hG, hsx⟩ := id cx
  have hR : room_1.cells = bL.1 ∧ room_1.slots = bL.2 := ⟨rfl, rfl⟩
  refine lv_istore (lv' := [(20, .int s0), (0, .ref (stX D)), (2, .ref v2), (3, .ref v3), (4, .int v4), (5, .int v5), (12, .ref v12), (13, .ref v13)]) hx hb dL_law_620 hl (by decide) rfl (fun ls hl => ?_)
  refine lv_iconst (v := (0 : Int32)) hx hb dL_law_622 (by decide) ?_
  refine lv_istore (lv' := [(21, .int ((0 : Int32))), (20, .int s0), (0, .ref (stX D)), (2, .ref v2), (3, .ref v3), (4, .int v4), (5, .int v5), (12, .ref v12), (13, .ref v13)]) hx hb dL_law_623 hl (by decide) rfl (fun ls hl => ?_)
  exact bn_L_law_625 hq (hkb45 := hkb45) u G M v2 v3 v4 v5 v12 v13 s0 ((0 : Int32)) H locs ls v2L v2K v3L v3K v12L v12K v13L v13K hext hu h cx w (lv_sub hl [2, 3, 4, 5, 6, 7, 8, 1, 0] rfl)
set_option maxHeartbeats 4000000 in
set_option maxRecDepth 100000 in
theorem bn_L_law_257 {p : Program} {l : Launch} {e : Env} {s : State} {m : MethodId} {args : Array Value} {below : List Frame} {meth : Method} {c : Code} {D : va_G} {cy : cyS} {G0 : gS} {A : Nat → Prop} {Q : State → Prop} {post : gS → mS → Int32 → Prop} (hq : ∀ (u : uS) (G : gS) (M : mS) (H : Heap) (locs : List Loc) (ls : Array Slot) (pc : Nat), post G M 1 → uL u bL → decode cL_law pc = .ok (.ireturn, 1) → wd D cy G M A s.heap H locs → W p l e room_1 s m args below meth c H locs u.1 u.2 Q (F0 m pc ls [.int 1])) {kb45 : uS → gS → mS → Nat → Nat → Int32 → Int32 → Prop} (hkb45 : ∀ (u : uS) (G : gS) (M : mS) (v2 : Nat) (v3 : Nat) (v4 : Int32) (v5 : Int32) (H : Heap) (locs : List Loc) (ls : Array Slot), v2 ∈ gL G → gK G v2 = 9 → v3 ∈ gL G → gK G v3 = 8 → ext G0 G → uL u bL → kb45 u G M v2 v3 v4 v5 → cX p s m args meth c cL_law RL 29 (some .boolean) wsL_law D cy G A → wd D cy G M A s.heap H locs → lv_has ls 29 [(0, .ref (stX D)), (2, .ref v2), (3, .ref v3), (4, .int v4), (5, .int v5)] → W p l e room_1 s m args below meth c H locs u.1 u.2 Q (F0 m 45 ls [])) : ∀ (u : uS) (G : gS) (M : mS) (v2 : Nat) (v3 : Nat) (v4 : Int32) (v5 : Int32) (v7 : Int64) (v11 : Int32) (v12 : Nat) (v13 : Nat) (v14 : Int32) (v15 : Int32) (H : Heap) (locs : List Loc) (ls : Array Slot), v2 ∈ gL G → gK G v2 = 9 → v3 ∈ gL G → gK G v3 = 8 → v12 ∈ gL G → gK G v12 = 15 → v13 ∈ gL G → gK G v13 = 12 → ext G0 G → uL u bL → nl_L_law_257 D kb45 post u G M v2 v3 v4 v5 v7 v11 v12 v13 v14 v15 → cX p s m args meth c cL_law RL 29 (some .boolean) wsL_law D cy G A → wd D cy G M A s.heap H locs → lv_has ls 29 [(0, .ref (stX D)), (2, .ref v2), (3, .ref v3), (4, .int v4), (5, .int v5), (7, .long v7), (11, .int v11), (12, .ref v12), (13, .ref v13), (14, .int v14), (15, .int v15)] → W p l e room_1 s m args below meth c H locs u.1 u.2 Q (F0 m 257 ls []) := by
  intro u G M v2 v3 v4 v5 v7 v11 v12 v13 v14 v15 H locs ls v2L v2K v3L v3K v12L v12K v13L v13K hext hu h cx w hl
  obtain ⟨I, n, hI, hB⟩ := h
  have key : ∀ n : Nat, ∀ (u : uS) (G : gS) (M : mS) (v2 : Nat) (v3 : Nat) (v4 : Int32) (v5 : Int32) (v7 : Int64) (v11 : Int32) (v12 : Nat) (v13 : Nat) (v14 : Int32) (v15 : Int32) (H : Heap) (locs : List Loc) (ls : Array Slot), v2 ∈ gL G → gK G v2 = 9 → v3 ∈ gL G → gK G v3 = 8 → v12 ∈ gL G → gK G v12 = 15 → v13 ∈ gL G → gK G v13 = 12 → ext G0 G → uL u bL → I n u G M v2 v3 v4 v5 v7 v11 v12 v13 v14 v15 → cX p s m args meth c cL_law RL 29 (some .boolean) wsL_law D cy G A → wd D cy G M A s.heap H locs → lv_has ls 29 [(0, .ref (stX D)), (2, .ref v2), (3, .ref v3), (4, .int v4), (5, .int v5), (7, .long v7), (11, .int v11), (12, .ref v12), (13, .ref v13), (14, .int v14), (15, .int v15)] → W p l e room_1 s m args below meth c H locs u.1 u.2 Q (F0 m 257 ls []) := by
    intro n
    induction n using Nat.strongRecOn with
    | ind n ih =>
      intro u G M v2 v3 v4 v5 v7 v11 v12 v13 v14 v15 H locs ls v2L v2K v3L v3K v12L v12K v13L v13K hext hu hI cx w hl
      have h := hB n u G M v2 v3 v4 v5 v7 v11 v12 v13 v14 v15 hI
      unfold nb_L_law_257 at h
      obtain ⟨hx, hb, hml, hown, hts, hr, hlocks, hK, hA, hG, hsx⟩ := id cx
      have hR : room_1.cells = bL.1 ∧ room_1.slots = bL.2 := ⟨rfl, rfl⟩
      refine lv_iload hx hb dL_law_257 (lv_at hl 10 rfl) ?_
      refine lv_iload hx hb dL_law_259 (lv_at hl 3 rfl) ?_
      refine lv_icmp_ge (tgt := 463) hx hb dL_law_261 (by decide) (fun k1 => ?_) (fun k1 => ?_)
      · have h := w_t h k1
        refine lv_aload_n hx hb dL_law_463 rfl (lv_at hl 2 rfl) ?_
        refine lv_iconst (v := (1 : Int32)) hx hb dL_law_464 (by decide) ?_
        refine lv_iconst (v := (4 : Int32)) hx hb dL_law_465 (by decide) ?_
        obtain ⟨M2, r3, y4, h⟩ := w_cl h
        refine r_callVi (As := [.int ((1 : Int32)), .int ((4 : Int32))]) (rest := []) cx w hu hl.1 (k_X9_foresee hG v3L v3K y4) (cwV 2 hts gL_law_X9_foresee rfl rfl rfl (by decide +kernel) ⟨(Nat.le_of_ble_eq_true rfl), (Nat.le_of_ble_eq_true rfl)⟩) v3L v3K (by decide) rfl rfl rfl (Nat.le_of_ble_eq_true rfl) dL_law_466 (fun H locs w => ?_)
        refine lv_istore (lv' := [(15, .int r3), (0, .ref (stX D)), (2, .ref v2), (3, .ref v3), (4, .int v4), (5, .int v5), (7, .long v7), (11, .int v11), (12, .ref v12), (13, .ref v13), (14, .int v14)]) hx hb dL_law_469 hl (by decide) rfl (fun ls hl => ?_)
        refine lv_aload_n hx hb dL_law_471 rfl (lv_at hl 3 rfl) ?_
        refine lv_bipush (v := (7 : Int32)) hx hb dL_law_472 (by decide) ?_
        obtain ⟨M5, r6, y7, h⟩ := w_cl h
        refine r_callVi (As := [.int ((7 : Int32))]) (rest := []) cx w hu hl.1 (k_X9_count hG v3L v3K y7) (cwV 1 hts gL_law_X9_count rfl rfl rfl (by decide +kernel) ⟨(Nat.le_of_ble_eq_true rfl), (Nat.le_of_ble_eq_true rfl)⟩) v3L v3K (by decide) rfl rfl rfl (Nat.le_of_ble_eq_true rfl) dL_law_474 (fun H locs w => ?_)
        refine lv_istore (lv' := [(16, .int r6), (15, .int r3), (0, .ref (stX D)), (2, .ref v2), (3, .ref v3), (4, .int v4), (5, .int v5), (7, .long v7), (11, .int v11), (12, .ref v12), (13, .ref v13), (14, .int v14)]) hx hb dL_law_477 hl (by decide) rfl (fun ls hl => ?_)
        refine lv_aload_n hx hb dL_law_479 rfl (lv_at hl 4 rfl) ?_
        refine lv_bipush (v := (8 : Int32)) hx hb dL_law_480 (by decide) ?_
        obtain ⟨M8, r9, y10, h⟩ := w_cl h
        refine r_callVi (As := [.int ((8 : Int32))]) (rest := []) cx w hu hl.1 (k_X9_count hG v3L v3K y10) (cwV 1 hts gL_law_X9_count rfl rfl rfl (by decide +kernel) ⟨(Nat.le_of_ble_eq_true rfl), (Nat.le_of_ble_eq_true rfl)⟩) v3L v3K (by decide) rfl rfl rfl (Nat.le_of_ble_eq_true rfl) dL_law_482 (fun H locs w => ?_)
        refine lv_istore (lv' := [(17, .int r9), (16, .int r6), (15, .int r3), (0, .ref (stX D)), (2, .ref v2), (3, .ref v3), (4, .int v4), (5, .int v5), (7, .long v7), (11, .int v11), (12, .ref v12), (13, .ref v13), (14, .int v14)]) hx hb dL_law_485 hl (by decide) rfl (fun ls hl => ?_)
        refine lv_aload_n hx hb dL_law_487 rfl (lv_at hl 5 rfl) ?_
        refine lv_bipush (v := (9 : Int32)) hx hb dL_law_488 (by decide) ?_
        obtain ⟨M11, r12, y13, h⟩ := w_cl h
        refine r_callVi (As := [.int ((9 : Int32))]) (rest := []) cx w hu hl.1 (k_X9_count hG v3L v3K y13) (cwV 1 hts gL_law_X9_count rfl rfl rfl (by decide +kernel) ⟨(Nat.le_of_ble_eq_true rfl), (Nat.le_of_ble_eq_true rfl)⟩) v3L v3K (by decide) rfl rfl rfl (Nat.le_of_ble_eq_true rfl) dL_law_490 (fun H locs w => ?_)
        refine lv_istore (lv' := [(18, .int r12), (17, .int r9), (16, .int r6), (15, .int r3), (0, .ref (stX D)), (2, .ref v2), (3, .ref v3), (4, .int v4), (5, .int v5), (7, .long v7), (11, .int v11), (12, .ref v12), (13, .ref v13), (14, .int v14)]) hx hb dL_law_493 hl (by decide) rfl (fun ls hl => ?_)
        refine lv_iload hx hb dL_law_495 (lv_at hl 13 rfl) ?_
        refine lv_aload_n hx hb dL_law_497 rfl (lv_at hl 6 rfl) ?_
        refine lv_bipush (v := (6 : Int32)) hx hb dL_law_498 (by decide) ?_
        obtain ⟨M14, r15, y16, h⟩ := w_cl h
        refine r_callVi (As := [.int ((6 : Int32))]) (rest := [.int v14]) cx w hu hl.1 (k_X9_count hG v3L v3K y16) (cwV 1 hts gL_law_X9_count rfl rfl rfl (by decide +kernel) ⟨(Nat.le_of_ble_eq_true rfl), (Nat.le_of_ble_eq_true rfl)⟩) v3L v3K (by decide) rfl rfl rfl (Nat.le_of_ble_eq_true rfl) dL_law_500 (fun H locs w => ?_)
        refine lv_icmp_ne (tgt := 516) hx hb dL_law_503 (by decide) (fun k17 => ?_) (fun k17 => ?_)
        · have h := w_f h k17
          exact bn_L_law_516 hq u G M14 H locs ls hext hu h cx w (lv_sub hl [] rfl)
        · have h := w_t h k17
          refine lv_aload_n hx hb dL_law_506 rfl (lv_at hl 6 rfl) ?_
          obtain ⟨M18, r19, y20, h⟩ := w_cl h
          refine r_callVl (As := []) (rest := []) cx w hu hl.1 (k_X9_digest hG v3L v3K y20) (cwV 0 hts gL_law_X9_digest rfl rfl rfl (by decide +kernel) ⟨(Nat.le_of_ble_eq_true rfl), (Nat.le_of_ble_eq_true rfl)⟩) v3L v3K (by decide) rfl rfl rfl (Nat.le_of_ble_eq_true rfl) dL_law_507 (fun H locs w => ?_)
          refine lv_lload hx hb dL_law_510 (lv_at hl 9 rfl) ?_
          refine W.lcmp hx hb dL_law_512 ?_
          refine lv_if_eq (tgt := 518) hx hb dL_law_513 (by decide) (fun k21 => ?_) (fun k21 => ?_)
          · have h := w_t h k21
            refine lv_aload_n hx hb dL_law_518 rfl (lv_at hl 6 rfl) ?_
            refine lv_iconst (v := (1 : Int32)) hx hb dL_law_519 (by decide) ?_
            obtain ⟨M22, r23, y24, h⟩ := w_cl h
            refine r_callVi (As := [.int ((1 : Int32))]) (rest := []) cx w hu hl.1 (k_X9_pass hG v3L v3K y24) (cwV 1 hts gL_law_X9_pass rfl rfl rfl (by decide +kernel) ⟨(Nat.le_of_ble_eq_true rfl), (Nat.le_of_ble_eq_true rfl)⟩) v3L v3K (by decide) rfl rfl rfl (Nat.le_of_ble_eq_true rfl) dL_law_520 (fun H locs w => ?_)
            refine lv_istore (lv' := [(19, .int r23), (18, .int r12), (17, .int r9), (16, .int r6), (15, .int r3), (0, .ref (stX D)), (2, .ref v2), (3, .ref v3), (4, .int v4), (5, .int v5), (7, .long v7), (11, .int v11), (12, .ref v12), (13, .ref v13), (14, .int v14)]) hx hb dL_law_523 hl (by decide) rfl (fun ls hl => ?_)
            refine lv_aload_n hx hb dL_law_525 rfl (lv_at hl 6 rfl) ?_
            refine rb_VV (b := bL) (u := u) (rf := 3) (rl := 74) (As := []) (rest := []) cx w hR hl.1 h (fun h => kn_X10_go hG v2L v2K h) (fun v => cwV 0 hts gL_law_X10_go rfl rfl rfl (by decide +kernel) ⟨(Nat.le_of_ble_eq_true rfl), (Nat.le_of_ble_eq_true rfl)⟩) v2L v2K (by decide) rfl rfl rfl (Nat.le_of_ble_eq_true rfl) dL_law_526 (fun u27 G25 M26 r28 H locs h hu xe cx w => ?_)
            obtain ⟨v2L, v2K⟩ := ext_wt xe v2L v2K
            obtain ⟨v3L, v3K⟩ := ext_wt xe v3L v3K
            obtain ⟨v12L, v12K⟩ := ext_wt xe v12L v12K
            obtain ⟨v13L, v13K⟩ := ext_wt xe v13L v13K
            have hext := ext_tr hext xe
            clear xe
            have hG := cX_wt cx
            refine lv_aload_n hx hb dL_law_529 rfl (lv_at hl 7 rfl) ?_
            refine lv_iconst (v := (4 : Int32)) hx hb dL_law_530 (by decide) ?_
            obtain ⟨M29, r30, y31, h⟩ := w_cl h
            refine r_callVi (As := [.int ((4 : Int32))]) (rest := []) cx w hu hl.1 (k_X9_count hG v3L v3K y31) (cwV 1 hts gL_law_X9_count rfl rfl rfl (by decide +kernel) ⟨(Nat.le_of_ble_eq_true rfl), (Nat.le_of_ble_eq_true rfl)⟩) v3L v3K (by decide) rfl rfl rfl (Nat.le_of_ble_eq_true rfl) dL_law_531 (fun H locs w => ?_)
            refine lv_iload hx hb dL_law_534 (lv_at hl 11 rfl) ?_
            refine lv_iload hx hb dL_law_536 (lv_at hl 0 rfl) ?_
            refine lv_iadd hx hb dL_law_538 ?_
            refine lv_icmp_ne (tgt := 602) hx hb dL_law_539 (by decide) (fun k32 => ?_) (fun k32 => ?_)
            · have h := w_f h k32
              exact bn_L_law_602 hq u27 G25 M29 H locs ls hext hu h cx w (lv_sub hl [] rfl)
            · have h := w_t h k32
              refine lv_aload_n hx hb dL_law_542 rfl (lv_at hl 7 rfl) ?_
              refine lv_iconst (v := (4 : Int32)) hx hb dL_law_543 (by decide) ?_
              obtain ⟨M33, r34, y35, h⟩ := w_cl h
              refine r_callVi (As := [.int ((4 : Int32))]) (rest := []) cx w hu hl.1 (k_X9_count hG v3L v3K y35) (cwV 1 hts gL_law_X9_count rfl rfl rfl (by decide +kernel) ⟨(Nat.le_of_ble_eq_true rfl), (Nat.le_of_ble_eq_true rfl)⟩) v3L v3K (by decide) rfl rfl rfl (Nat.le_of_ble_eq_true rfl) dL_law_544 (fun H locs w => ?_)
              refine lv_iload hx hb dL_law_547 (lv_at hl 4 rfl) ?_
              refine lv_icmp_ne (tgt := 602) hx hb dL_law_549 (by decide) (fun k36 => ?_) (fun k36 => ?_)
              · have h := w_f h k36
                exact bn_L_law_602 hq u27 G25 M33 H locs ls hext hu h cx w (lv_sub hl [] rfl)
              · have h := w_t h k36
                refine lv_aload_n hx hb dL_law_552 rfl (lv_at hl 7 rfl) ?_
                refine lv_bipush (v := (7 : Int32)) hx hb dL_law_553 (by decide) ?_
                obtain ⟨M37, r38, y39, h⟩ := w_cl h
                refine r_callVi (As := [.int ((7 : Int32))]) (rest := []) cx w hu hl.1 (k_X9_count hG v3L v3K y39) (cwV 1 hts gL_law_X9_count rfl rfl rfl (by decide +kernel) ⟨(Nat.le_of_ble_eq_true rfl), (Nat.le_of_ble_eq_true rfl)⟩) v3L v3K (by decide) rfl rfl rfl (Nat.le_of_ble_eq_true rfl) dL_law_555 (fun H locs w => ?_)
                refine lv_iload hx hb dL_law_558 (lv_at hl 3 rfl) ?_
                refine lv_icmp_lt (tgt := 602) hx hb dL_law_560 (by decide) (fun k40 => ?_) (fun k40 => ?_)
                · have h := w_t h k40
                  exact bn_L_law_602 hq u27 G25 M37 H locs ls hext hu h cx w (lv_sub hl [] rfl)
                · have h := w_f h k40
                  refine lv_aload_n hx hb dL_law_563 rfl (lv_at hl 7 rfl) ?_
                  refine lv_bipush (v := (8 : Int32)) hx hb dL_law_564 (by decide) ?_
                  obtain ⟨M41, r42, y43, h⟩ := w_cl h
                  refine r_callVi (As := [.int ((8 : Int32))]) (rest := []) cx w hu hl.1 (k_X9_count hG v3L v3K y43) (cwV 1 hts gL_law_X9_count rfl rfl rfl (by decide +kernel) ⟨(Nat.le_of_ble_eq_true rfl), (Nat.le_of_ble_eq_true rfl)⟩) v3L v3K (by decide) rfl rfl rfl (Nat.le_of_ble_eq_true rfl) dL_law_566 (fun H locs w => ?_)
                  refine lv_iload hx hb dL_law_569 (lv_at hl 2 rfl) ?_
                  refine lv_icmp_lt (tgt := 602) hx hb dL_law_571 (by decide) (fun k44 => ?_) (fun k44 => ?_)
                  · have h := w_t h k44
                    exact bn_L_law_602 hq u27 G25 M41 H locs ls hext hu h cx w (lv_sub hl [] rfl)
                  · have h := w_f h k44
                    refine lv_aload_n hx hb dL_law_574 rfl (lv_at hl 7 rfl) ?_
                    refine lv_bipush (v := (9 : Int32)) hx hb dL_law_575 (by decide) ?_
                    obtain ⟨M45, r46, y47, h⟩ := w_cl h
                    refine r_callVi (As := [.int ((9 : Int32))]) (rest := []) cx w hu hl.1 (k_X9_count hG v3L v3K y47) (cwV 1 hts gL_law_X9_count rfl rfl rfl (by decide +kernel) ⟨(Nat.le_of_ble_eq_true rfl), (Nat.le_of_ble_eq_true rfl)⟩) v3L v3K (by decide) rfl rfl rfl (Nat.le_of_ble_eq_true rfl) dL_law_577 (fun H locs w => ?_)
                    refine lv_iload hx hb dL_law_580 (lv_at hl 1 rfl) ?_
                    refine lv_icmp_lt (tgt := 602) hx hb dL_law_582 (by decide) (fun k48 => ?_) (fun k48 => ?_)
                    · have h := w_t h k48
                      exact bn_L_law_602 hq u27 G25 M45 H locs ls hext hu h cx w (lv_sub hl [] rfl)
                    · have h := w_f h k48
                      refine lv_aload_n hx hb dL_law_585 rfl (lv_at hl 7 rfl) ?_
                      refine lv_bipush (v := (9 : Int32)) hx hb dL_law_586 (by decide) ?_
                      obtain ⟨M49, r50, y51, h⟩ := w_cl h
                      refine r_callVi (As := [.int ((9 : Int32))]) (rest := []) cx w hu hl.1 (k_X9_count hG v3L v3K y51) (cwV 1 hts gL_law_X9_count rfl rfl rfl (by decide +kernel) ⟨(Nat.le_of_ble_eq_true rfl), (Nat.le_of_ble_eq_true rfl)⟩) v3L v3K (by decide) rfl rfl rfl (Nat.le_of_ble_eq_true rfl) dL_law_588 (fun H locs w => ?_)
                      refine lv_iload hx hb dL_law_591 (lv_at hl 1 rfl) ?_
                      refine lv_aload_n hx hb dL_law_593 rfl (lv_at hl 7 rfl) ?_
                      refine lv_iconst (v := (3 : Int32)) hx hb dL_law_594 (by decide) ?_
                      obtain ⟨M52, r53, y54, h⟩ := w_cl h
                      refine r_callVi (As := [.int ((3 : Int32))]) (rest := [.int r12, .int r50]) cx w hu hl.1 (k_X9_count hG v3L v3K y54) (cwV 1 hts gL_law_X9_count rfl rfl rfl (by decide +kernel) ⟨(Nat.le_of_ble_eq_true rfl), (Nat.le_of_ble_eq_true rfl)⟩) v3L v3K (by decide) rfl rfl rfl (Nat.le_of_ble_eq_true rfl) dL_law_595 (fun H locs w => ?_)
                      refine lv_iadd hx hb dL_law_598 ?_
                      refine lv_icmp_le (tgt := 604) hx hb dL_law_599 (by decide) (fun k55 => ?_) (fun k55 => ?_)
                      · have h := w_t h k55
                        refine lv_aload_n hx hb dL_law_604 rfl (lv_at hl 7 rfl) ?_
                        refine lv_bipush (v := (9 : Int32)) hx hb dL_law_605 (by decide) ?_
                        obtain ⟨M56, r57, y58, h⟩ := w_cl h
                        refine r_callVi (As := [.int ((9 : Int32))]) (rest := []) cx w hu hl.1 (k_X9_count hG v3L v3K y58) (cwV 1 hts gL_law_X9_count rfl rfl rfl (by decide +kernel) ⟨(Nat.le_of_ble_eq_true rfl), (Nat.le_of_ble_eq_true rfl)⟩) v3L v3K (by decide) rfl rfl rfl (Nat.le_of_ble_eq_true rfl) dL_law_607 (fun H locs w => ?_)
                        refine lv_iload hx hb dL_law_610 (lv_at hl 1 rfl) ?_
                        refine lv_icmp_le (tgt := 619) hx hb dL_law_612 (by decide) (fun k59 => ?_) (fun k59 => ?_)
                        · have h := w_t h k59
                          refine lv_iconst (v := (0 : Int32)) hx hb dL_law_619 (by decide) ?_
                          exact bn_L_law_620 hq (hkb45 := hkb45) u27 G25 M56 v2 v3 v4 v5 v12 v13 ((0 : Int32)) H locs ls v2L v2K v3L v3K v12L v12K v13L v13K hext hu h cx w (lv_sub hl [5, 6, 7, 8, 9, 12, 13] rfl)
                        · have h := w_f h k59
                          refine lv_iconst (v := (1 : Int32)) hx hb dL_law_615 (by decide) ?_
                          refine lv_goto (tgt := 620) hx hb dL_law_616 (by decide) ?_
                          exact bn_L_law_620 hq (hkb45 := hkb45) u27 G25 M56 v2 v3 v4 v5 v12 v13 ((1 : Int32)) H locs ls v2L v2K v3L v3K v12L v12K v13L v13K hext hu h cx w (lv_sub hl [5, 6, 7, 8, 9, 12, 13] rfl)
                      · have h := w_f h k55
                        exact bn_L_law_602 hq u27 G25 M52 H locs ls hext hu h cx w (lv_sub hl [] rfl)
          · have h := w_f h k21
            exact bn_L_law_516 hq u G M18 H locs ls hext hu h cx w (lv_sub hl [] rfl)
      · have h := w_f h k1
        refine lv_iconst (v := (0 : Int32)) hx hb dL_law_264 (by decide) ?_
        refine lv_istore (lv' := [(16, .int ((0 : Int32))), (0, .ref (stX D)), (2, .ref v2), (3, .ref v3), (4, .int v4), (5, .int v5), (7, .long v7), (11, .int v11), (12, .ref v12), (13, .ref v13), (14, .int v14), (15, .int v15)]) hx hb dL_law_265 hl (by decide) rfl (fun ls hl => ?_)
        exact bn_L_law_267 hq (hkb45 := hkb45) (hkb257 := fun u G M v2 v3 v4 v5 v7 v11 v12 v13 v14 v15 H locs ls v2L v2K v3L v3K v12L v12K v13L v13K hext hu h cx w hl => by obtain ⟨k, hk, hI⟩ := h; exact ih k hk u G M v2 v3 v4 v5 v7 v11 v12 v13 v14 v15 H locs ls v2L v2K v3L v3K v12L v12K v13L v13K hext hu hI cx w hl) u G M v2 v3 v4 v5 v7 v11 v12 v13 v14 v15 ((0 : Int32)) H locs ls v2L v2K v3L v3K v12L v12K v13L v13K hext hu h cx w (lv_sub hl [1, 2, 3, 4, 5, 6, 7, 8, 9, 10, 11, 0] rfl)
  exact key n u G M v2 v3 v4 v5 v7 v11 v12 v13 v14 v15 H locs ls v2L v2K v3L v3K v12L v12K v13L v13K hext hu hI cx w hl
set_option maxHeartbeats 4000000 in
set_option maxRecDepth 100000 in
theorem bn_L_law_141 {p : Program} {l : Launch} {e : Env} {s : State} {m : MethodId} {args : Array Value} {below : List Frame} {meth : Method} {c : Code} {D : va_G} {cy : cyS} {G0 : gS} {A : Nat → Prop} {Q : State → Prop} {post : gS → mS → Int32 → Prop} (hq : ∀ (u : uS) (G : gS) (M : mS) (H : Heap) (locs : List Loc) (ls : Array Slot) (pc : Nat), post G M 1 → uL u bL → decode cL_law pc = .ok (.ireturn, 1) → wd D cy G M A s.heap H locs → W p l e room_1 s m args below meth c H locs u.1 u.2 Q (F0 m pc ls [.int 1])) {kb45 : uS → gS → mS → Nat → Nat → Int32 → Int32 → Prop} (hkb45 : ∀ (u : uS) (G : gS) (M : mS) (v2 : Nat) (v3 : Nat) (v4 : Int32) (v5 : Int32) (H : Heap) (locs : List Loc) (ls : Array Slot), v2 ∈ gL G → gK G v2 = 9 → v3 ∈ gL G → gK G v3 = 8 → ext G0 G → uL u bL → kb45 u G M v2 v3 v4 v5 → cX p s m args meth c cL_law RL 29 (some .boolean) wsL_law D cy G A → wd D cy G M A s.heap H locs → lv_has ls 29 [(0, .ref (stX D)), (2, .ref v2), (3, .ref v3), (4, .int v4), (5, .int v5)] → W p l e room_1 s m args below meth c H locs u.1 u.2 Q (F0 m 45 ls [])) : ∀ (u : uS) (G : gS) (M : mS) (v2 : Nat) (v3 : Nat) (v4 : Int32) (v5 : Int32) (v7 : Int64) (v9 : Int32) (v10 : Int32) (v11 : Int32) (v12 : Int32) (H : Heap) (locs : List Loc) (ls : Array Slot), v2 ∈ gL G → gK G v2 = 9 → v3 ∈ gL G → gK G v3 = 8 → ext G0 G → uL u bL → nl_L_law_141 D kb45 post u G M v2 v3 v4 v5 v7 v9 v10 v11 v12 → cX p s m args meth c cL_law RL 29 (some .boolean) wsL_law D cy G A → wd D cy G M A s.heap H locs → lv_has ls 29 [(0, .ref (stX D)), (2, .ref v2), (3, .ref v3), (4, .int v4), (5, .int v5), (7, .long v7), (9, .int v9), (10, .int v10), (11, .int v11), (12, .int v12)] → W p l e room_1 s m args below meth c H locs u.1 u.2 Q (F0 m 141 ls []) := by
  intro u G M v2 v3 v4 v5 v7 v9 v10 v11 v12 H locs ls v2L v2K v3L v3K hext hu h cx w hl
  obtain ⟨I, n, hI, hB⟩ := h
  have key : ∀ n : Nat, ∀ (u : uS) (G : gS) (M : mS) (v2 : Nat) (v3 : Nat) (v4 : Int32) (v5 : Int32) (v7 : Int64) (v9 : Int32) (v10 : Int32) (v11 : Int32) (v12 : Int32) (H : Heap) (locs : List Loc) (ls : Array Slot), v2 ∈ gL G → gK G v2 = 9 → v3 ∈ gL G → gK G v3 = 8 → ext G0 G → uL u bL → I n u G M v2 v3 v4 v5 v7 v9 v10 v11 v12 → cX p s m args meth c cL_law RL 29 (some .boolean) wsL_law D cy G A → wd D cy G M A s.heap H locs → lv_has ls 29 [(0, .ref (stX D)), (2, .ref v2), (3, .ref v3), (4, .int v4), (5, .int v5), (7, .long v7), (9, .int v9), (10, .int v10), (11, .int v11), (12, .int v12)] → W p l e room_1 s m args below meth c H locs u.1 u.2 Q (F0 m 141 ls []) := by
    intro n
    induction n using Nat.strongRecOn with
    | ind n ih =>
      intro u G M v2 v3 v4 v5 v7 v9 v10 v11 v12 H locs ls v2L v2K v3L v3K hext hu hI cx w hl
      have h := hB n u G M v2 v3 v4 v5 v7 v9 v10 v11 v12 hI
      unfold nb_L_law_141 at h
      obtain ⟨hx, hb, hml, hown, hts, hr, hlocks, hK, hA, hG, hsx⟩ := id cx
      have hR : room_1.cells = bL.1 ∧ room_1.slots = bL.2 := ⟨rfl, rfl⟩
      refine lv_iload hx hb dL_law_141 (lv_at hl 9 rfl) ?_
      refine lv_bipush (v := (64 : Int32)) hx hb dL_law_143 (by decide) ?_
      refine lv_icmp_ge (tgt := 165) hx hb dL_law_145 (by decide) (fun k1 => ?_) (fun k1 => ?_)
      · have h := w_t h k1
        refine lv_iload hx hb dL_law_165 (lv_at hl 6 rfl) ?_
        refine lv_sipush (v := (4096 : Int32)) hx hb dL_law_167 (by decide) ?_
        refine lv_icmp_ne (tgt := 233) hx hb dL_law_170 (by decide) (fun k2 => ?_) (fun k2 => ?_)
        · have h := w_f h k2
          exact bn_L_law_233 hq u G M H locs ls hext hu h cx w (lv_sub hl [] rfl)
        · have h := w_t h k2
          refine lv_iload hx hb dL_law_173 (lv_at hl 7 rfl) ?_
          refine lv_aload_n hx hb dL_law_175 rfl (lv_at hl 2 rfl) ?_
          refine lv_iconst (v := (5 : Int32)) hx hb dL_law_176 (by decide) ?_
          obtain ⟨M3, r4, y5, h⟩ := w_cl h
          refine r_callVi (As := [.int ((5 : Int32))]) (rest := [.int v10]) cx w hu hl.1 (k_X9_count hG v3L v3K y5) (cwV 1 hts gL_law_X9_count rfl rfl rfl (by decide +kernel) ⟨(Nat.le_of_ble_eq_true rfl), (Nat.le_of_ble_eq_true rfl)⟩) v3L v3K (by decide) rfl rfl rfl (Nat.le_of_ble_eq_true rfl) dL_law_177 (fun H locs w => ?_)
          refine lv_icmp_ne (tgt := 233) hx hb dL_law_180 (by decide) (fun k6 => ?_) (fun k6 => ?_)
          · have h := w_f h k6
            exact bn_L_law_233 hq u G M3 H locs ls hext hu h cx w (lv_sub hl [] rfl)
          · have h := w_t h k6
            refine lv_iload hx hb dL_law_183 (lv_at hl 8 rfl) ?_
            refine lv_aload_n hx hb dL_law_185 rfl (lv_at hl 2 rfl) ?_
            refine lv_iconst (v := (4 : Int32)) hx hb dL_law_186 (by decide) ?_
            obtain ⟨M7, r8, y9, h⟩ := w_cl h
            refine r_callVi (As := [.int ((4 : Int32))]) (rest := [.int v11]) cx w hu hl.1 (k_X9_count hG v3L v3K y9) (cwV 1 hts gL_law_X9_count rfl rfl rfl (by decide +kernel) ⟨(Nat.le_of_ble_eq_true rfl), (Nat.le_of_ble_eq_true rfl)⟩) v3L v3K (by decide) rfl rfl rfl (Nat.le_of_ble_eq_true rfl) dL_law_187 (fun H locs w => ?_)
            refine lv_icmp_ne (tgt := 233) hx hb dL_law_190 (by decide) (fun k10 => ?_) (fun k10 => ?_)
            · have h := w_f h k10
              exact bn_L_law_233 hq u G M7 H locs ls hext hu h cx w (lv_sub hl [] rfl)
            · have h := w_t h k10
              refine lv_iload hx hb dL_law_193 (lv_at hl 8 rfl) ?_
              refine lv_sipush (v := (4096 : Int32)) hx hb dL_law_195 (by decide) ?_
              refine lv_aload_n hx hb dL_law_198 rfl (lv_at hl 2 rfl) ?_
              refine lv_iconst (v := (0 : Int32)) hx hb dL_law_199 (by decide) ?_
              obtain ⟨M11, r12, y13, h⟩ := w_cl h
              refine r_callVi (As := [.int ((0 : Int32))]) (rest := [.int ((4096 : Int32)), .int v11]) cx w hu hl.1 (k_X9_colour hG v3L v3K y13) (cwV 1 hts gL_law_X9_colour rfl rfl rfl (by decide +kernel) ⟨(Nat.le_of_ble_eq_true rfl), (Nat.le_of_ble_eq_true rfl)⟩) v3L v3K (by decide) rfl rfl rfl (Nat.le_of_ble_eq_true rfl) dL_law_200 (fun H locs w => ?_)
              refine lv_isub hx hb dL_law_203 ?_
              refine lv_icmp_ne (tgt := 233) hx hb dL_law_204 (by decide) (fun k14 => ?_) (fun k14 => ?_)
              · have h := w_f h k14
                exact bn_L_law_233 hq u G M11 H locs ls hext hu h cx w (lv_sub hl [] rfl)
              · have h := w_t h k14
                refine lv_aload_n hx hb dL_law_207 rfl (lv_at hl 2 rfl) ?_
                obtain ⟨M15, r16, y17, h⟩ := w_cl h
                refine r_callVd (As := []) (rest := []) cx w hu hl.1 (k_X9_mean hG v3L v3K y17) (cwV 0 hts gL_law_X9_mean rfl rfl rfl (by decide +kernel) ⟨(Nat.le_of_ble_eq_true rfl), (Nat.le_of_ble_eq_true rfl)⟩) v3L v3K (by decide) rfl rfl rfl (Nat.le_of_ble_eq_true rfl) dL_law_208 (fun H locs w => ?_)
                refine lv_iload hx hb dL_law_211 (lv_at hl 7 rfl) ?_
                refine lv_i2d hx hb dL_law_213 ?_
                refine lv_ldc2d (v := 4661225614328463360) hx hb hown (hts (.constantDouble RL 206 (4661225614328463360)) (lkL_in wsL_law0_r1 (List.mem_of_getElem? (i := 0) rfl) _ (List.mem_of_getElem? (i := 6) rfl))) dL_law_214 ?_
                obtain ⟨z18, h⟩ := w_ck h
                refine lv_ddiv hx hb dL_law_217 z18 ?_
                refine lv_dcmp hx hb dL_law_218 ?_
                refine lv_if_ne (tgt := 233) hx hb dL_law_219 (by decide) (fun k19 => ?_) (fun k19 => ?_)
                · have h := w_f h k19
                  exact bn_L_law_233 hq u G M15 H locs ls hext hu h cx w (lv_sub hl [] rfl)
                · have h := w_t h k19
                  refine lv_aload_n hx hb dL_law_222 rfl (lv_at hl 2 rfl) ?_
                  refine lv_bipush (v := (6 : Int32)) hx hb dL_law_223 (by decide) ?_
                  obtain ⟨M20, r21, y22, h⟩ := w_cl h
                  refine r_callVi (As := [.int ((6 : Int32))]) (rest := []) cx w hu hl.1 (k_X9_count hG v3L v3K y22) (cwV 1 hts gL_law_X9_count rfl rfl rfl (by decide +kernel) ⟨(Nat.le_of_ble_eq_true rfl), (Nat.le_of_ble_eq_true rfl)⟩) v3L v3K (by decide) rfl rfl rfl (Nat.le_of_ble_eq_true rfl) dL_law_225 (fun H locs w => ?_)
                  refine lv_iload hx hb dL_law_228 (lv_at hl 3 rfl) ?_
                  refine lv_icmp_le (tgt := 235) hx hb dL_law_230 (by decide) (fun k23 => ?_) (fun k23 => ?_)
                  · have h := w_t h k23
                    refine lv_iload hx hb dL_law_235 (lv_at hl 3 rfl) ?_
                    refine lv_bipush (v := (9 : Int32)) hx hb dL_law_237 (by decide) ?_
                    refine rb_mn (b := bL) (u := u) cx w hR (lkL_in wsL_law0_r1 (List.mem_of_getElem? (i := 0) rfl) _ (List.mem_of_getElem? (i := 7) rfl)) (lkL_in wsL_law0_r1 (List.mem_of_getElem? (i := 0) rfl) _ (List.mem_of_getElem? (i := 8) rfl)) h dL_law_239 (fun q24 u27 G25 M26 H h hu xe hLq24 hKq24 cx w => ?_)
                    obtain ⟨v2L, v2K⟩ := ext_wt xe v2L v2K
                    obtain ⟨v3L, v3K⟩ := ext_wt xe v3L v3K
                    have hext := ext_tr hext xe
                    clear xe
                    have hG := cX_wt cx
                    refine lv_astore (lv' := [(12, .ref q24), (0, .ref (stX D)), (2, .ref v2), (3, .ref v3), (4, .int v4), (5, .int v5), (7, .long v7), (9, .int v9), (10, .int v10), (11, .int v11)]) hx hb dL_law_243 hl (by decide) rfl (fun ls hl => ?_)
                    refine lv_iload hx hb dL_law_245 (lv_at hl 4 rfl) ?_
                    refine rb_newI (b := bL) (u := u27) cx w hR (lkL_in wsL_law0_r1 (List.mem_of_getElem? (i := 0) rfl) _ (List.mem_of_getElem? (i := 8) rfl)) h dL_law_247 (fun q28 u31 G29 M30 H h hu xe hLq28 hKq28 cx w => ?_)
                    obtain ⟨v2L, v2K⟩ := ext_wt xe v2L v2K
                    obtain ⟨v3L, v3K⟩ := ext_wt xe v3L v3K
                    obtain ⟨hLq24, hKq24⟩ := ext_wt xe hLq24 hKq24
                    have hext := ext_tr hext xe
                    clear xe
                    have hG := cX_wt cx
                    refine lv_astore (lv' := [(13, .ref q28), (12, .ref q24), (0, .ref (stX D)), (2, .ref v2), (3, .ref v3), (4, .int v4), (5, .int v5), (7, .long v7), (9, .int v9), (10, .int v10), (11, .int v11)]) hx hb dL_law_249 hl (by decide) rfl (fun ls hl => ?_)
                    refine lv_iconst (v := (0 : Int32)) hx hb dL_law_251 (by decide) ?_
                    refine lv_istore (lv' := [(14, .int ((0 : Int32))), (13, .ref q28), (12, .ref q24), (0, .ref (stX D)), (2, .ref v2), (3, .ref v3), (4, .int v4), (5, .int v5), (7, .long v7), (9, .int v9), (10, .int v10), (11, .int v11)]) hx hb dL_law_252 hl (by decide) rfl (fun ls hl => ?_)
                    refine lv_iconst (v := (0 : Int32)) hx hb dL_law_254 (by decide) ?_
                    refine lv_istore (lv' := [(15, .int ((0 : Int32))), (14, .int ((0 : Int32))), (13, .ref q28), (12, .ref q24), (0, .ref (stX D)), (2, .ref v2), (3, .ref v3), (4, .int v4), (5, .int v5), (7, .long v7), (9, .int v9), (10, .int v10), (11, .int v11)]) hx hb dL_law_255 hl (by decide) rfl (fun ls hl => ?_)
                    exact bn_L_law_257 hq (hkb45 := hkb45) u31 G29 M30 v2 v3 v4 v5 v7 v11 q24 q28 ((0 : Int32)) ((0 : Int32)) H locs ls v2L v2K v3L v3K hLq24 hKq24 hLq28 hKq28 hext hu h cx w (lv_sub hl [4, 5, 6, 7, 8, 9, 12, 3, 2, 1, 0] rfl)
                  · have h := w_f h k23
                    exact bn_L_law_233 hq u G M20 H locs ls hext hu h cx w (lv_sub hl [] rfl)
      · have h := w_f h k1
        refine lv_iload hx hb dL_law_148 (lv_at hl 8 rfl) ?_
        refine lv_aload_n hx hb dL_law_150 rfl (lv_at hl 2 rfl) ?_
        refine lv_iload hx hb dL_law_151 (lv_at hl 9 rfl) ?_
        obtain ⟨M32, r33, y34, h⟩ := w_cl h
        refine r_callVi (As := [.int v12]) (rest := [.int v11]) cx w hu hl.1 (k_X9_row hG v3L v3K y34) (cwV 1 hts gL_law_X9_row rfl rfl rfl (by decide +kernel) ⟨(Nat.le_of_ble_eq_true rfl), (Nat.le_of_ble_eq_true rfl)⟩) v3L v3K (by decide) rfl rfl rfl (Nat.le_of_ble_eq_true rfl) dL_law_153 (fun H locs w => ?_)
        refine lv_iadd hx hb dL_law_156 ?_
        obtain ⟨x35, ex35, h⟩ := w_bd h
        refine r_topI ex35 ?_
        refine lv_istore (lv' := [(11, .int x35), (0, .ref (stX D)), (2, .ref v2), (3, .ref v3), (4, .int v4), (5, .int v5), (7, .long v7), (9, .int v9), (10, .int v10), (12, .int v12)]) hx hb dL_law_157 hl (by decide) rfl (fun ls hl => ?_)
        obtain ⟨x36, ex36, h⟩ := w_bd h
        refine lv_iinc (v := x36) (lv' := [(12, .int x36), (11, .int x35), (0, .ref (stX D)), (2, .ref v2), (3, .ref v3), (4, .int v4), (5, .int v5), (7, .long v7), (9, .int v9), (10, .int v10)]) hx hb dL_law_159 hl (k := 9) rfl (by rw [ex36]; rfl) (by decide) rfl (fun ls hl => ?_)
        refine lv_goto (tgt := 141) hx hb dL_law_162 (by decide) ?_
        obtain ⟨k, hk, hI⟩ := h
        exact ih k hk u G M32 v2 v3 v4 v5 v7 v9 v10 x35 x36 H locs ls v2L v2K v3L v3K hext hu hI cx w (lv_sub hl [2, 3, 4, 5, 6, 7, 8, 9, 1, 0] rfl)
  exact key n u G M v2 v3 v4 v5 v7 v9 v10 v11 v12 H locs ls v2L v2K v3L v3K hext hu hI cx w hl
set_option maxHeartbeats 4000000 in
set_option maxRecDepth 100000 in
theorem bn_L_law_100 {p : Program} {l : Launch} {e : Env} {s : State} {m : MethodId} {args : Array Value} {below : List Frame} {meth : Method} {c : Code} {D : va_G} {cy : cyS} {G0 : gS} {A : Nat → Prop} {Q : State → Prop} {post : gS → mS → Int32 → Prop} (hq : ∀ (u : uS) (G : gS) (M : mS) (H : Heap) (locs : List Loc) (ls : Array Slot) (pc : Nat), post G M 1 → uL u bL → decode cL_law pc = .ok (.ireturn, 1) → wd D cy G M A s.heap H locs → W p l e room_1 s m args below meth c H locs u.1 u.2 Q (F0 m pc ls [.int 1])) {kb45 : uS → gS → mS → Nat → Nat → Int32 → Int32 → Prop} (hkb45 : ∀ (u : uS) (G : gS) (M : mS) (v2 : Nat) (v3 : Nat) (v4 : Int32) (v5 : Int32) (H : Heap) (locs : List Loc) (ls : Array Slot), v2 ∈ gL G → gK G v2 = 9 → v3 ∈ gL G → gK G v3 = 8 → ext G0 G → uL u bL → kb45 u G M v2 v3 v4 v5 → cX p s m args meth c cL_law RL 29 (some .boolean) wsL_law D cy G A → wd D cy G M A s.heap H locs → lv_has ls 29 [(0, .ref (stX D)), (2, .ref v2), (3, .ref v3), (4, .int v4), (5, .int v5)] → W p l e room_1 s m args below meth c H locs u.1 u.2 Q (F0 m 45 ls [])) : ∀ (u : uS) (G : gS) (M : mS) (v2 : Nat) (v3 : Nat) (v4 : Int32) (v5 : Int32) (v7 : Int64) (v9 : Int32) (v10 : Int32) (v11 : Int32) (v12 : Int32) (H : Heap) (locs : List Loc) (ls : Array Slot), v2 ∈ gL G → gK G v2 = 9 → v3 ∈ gL G → gK G v3 = 8 → ext G0 G → uL u bL → nl_L_law_100 D kb45 post u G M v2 v3 v4 v5 v7 v9 v10 v11 v12 → cX p s m args meth c cL_law RL 29 (some .boolean) wsL_law D cy G A → wd D cy G M A s.heap H locs → lv_has ls 29 [(0, .ref (stX D)), (2, .ref v2), (3, .ref v3), (4, .int v4), (5, .int v5), (7, .long v7), (9, .int v9), (10, .int v10), (11, .int v11), (12, .int v12)] → W p l e room_1 s m args below meth c H locs u.1 u.2 Q (F0 m 100 ls []) := by
  intro u G M v2 v3 v4 v5 v7 v9 v10 v11 v12 H locs ls v2L v2K v3L v3K hext hu h cx w hl
  obtain ⟨I, n, hI, hB⟩ := h
  have key : ∀ n : Nat, ∀ (u : uS) (G : gS) (M : mS) (v2 : Nat) (v3 : Nat) (v4 : Int32) (v5 : Int32) (v7 : Int64) (v9 : Int32) (v10 : Int32) (v11 : Int32) (v12 : Int32) (H : Heap) (locs : List Loc) (ls : Array Slot), v2 ∈ gL G → gK G v2 = 9 → v3 ∈ gL G → gK G v3 = 8 → ext G0 G → uL u bL → I n u G M v2 v3 v4 v5 v7 v9 v10 v11 v12 → cX p s m args meth c cL_law RL 29 (some .boolean) wsL_law D cy G A → wd D cy G M A s.heap H locs → lv_has ls 29 [(0, .ref (stX D)), (2, .ref v2), (3, .ref v3), (4, .int v4), (5, .int v5), (7, .long v7), (9, .int v9), (10, .int v10), (11, .int v11), (12, .int v12)] → W p l e room_1 s m args below meth c H locs u.1 u.2 Q (F0 m 100 ls []) := by
    intro n
    induction n using Nat.strongRecOn with
    | ind n ih =>
      intro u G M v2 v3 v4 v5 v7 v9 v10 v11 v12 H locs ls v2L v2K v3L v3K hext hu hI cx w hl
      have h := hB n u G M v2 v3 v4 v5 v7 v9 v10 v11 v12 hI
      unfold nb_L_law_100 at h
      obtain ⟨hx, hb, hml, hown, hts, hr, hlocks, hK, hA, hG, hsx⟩ := id cx
      have hR : room_1.cells = bL.1 ∧ room_1.slots = bL.2 := ⟨rfl, rfl⟩
      refine lv_iload hx hb dL_law_100 (lv_at hl 9 rfl) ?_
      refine lv_bipush (v := (6 : Int32)) hx hb dL_law_102 (by decide) ?_
      refine lv_icmp_ge (tgt := 138) hx hb dL_law_104 (by decide) (fun k1 => ?_) (fun k1 => ?_)
      · have h := w_t h k1
        refine lv_iconst (v := (0 : Int32)) hx hb dL_law_138 (by decide) ?_
        refine lv_istore (lv' := [(12, .int ((0 : Int32))), (0, .ref (stX D)), (2, .ref v2), (3, .ref v3), (4, .int v4), (5, .int v5), (7, .long v7), (9, .int v9), (10, .int v10), (11, .int v11)]) hx hb dL_law_139 hl (by decide) rfl (fun ls hl => ?_)
        exact bn_L_law_141 hq (hkb45 := hkb45) u G M v2 v3 v4 v5 v7 v9 v10 v11 ((0 : Int32)) H locs ls v2L v2K v3L v3K hext hu h cx w (lv_sub hl [1, 2, 3, 4, 5, 6, 7, 8, 9, 0] rfl)
      · have h := w_f h k1
        refine lv_iload hx hb dL_law_107 (lv_at hl 6 rfl) ?_
        refine lv_aload_n hx hb dL_law_109 rfl (lv_at hl 2 rfl) ?_
        refine lv_iload hx hb dL_law_110 (lv_at hl 9 rfl) ?_
        obtain ⟨M2, r3, y4, h⟩ := w_cl h
        refine r_callVi (As := [.int v12]) (rest := [.int v9]) cx w hu hl.1 (k_X9_colour hG v3L v3K y4) (cwV 1 hts gL_law_X9_colour rfl rfl rfl (by decide +kernel) ⟨(Nat.le_of_ble_eq_true rfl), (Nat.le_of_ble_eq_true rfl)⟩) v3L v3K (by decide) rfl rfl rfl (Nat.le_of_ble_eq_true rfl) dL_law_112 (fun H locs w => ?_)
        refine lv_iadd hx hb dL_law_115 ?_
        obtain ⟨x5, ex5, h⟩ := w_bd h
        refine r_topI ex5 ?_
        refine lv_istore (lv' := [(9, .int x5), (0, .ref (stX D)), (2, .ref v2), (3, .ref v3), (4, .int v4), (5, .int v5), (7, .long v7), (10, .int v10), (11, .int v11), (12, .int v12)]) hx hb dL_law_116 hl (by decide) rfl (fun ls hl => ?_)
        refine lv_iload hx hb dL_law_118 (lv_at hl 7 rfl) ?_
        refine lv_iload hx hb dL_law_120 (lv_at hl 9 rfl) ?_
        refine lv_aload_n hx hb dL_law_122 rfl (lv_at hl 3 rfl) ?_
        refine lv_iload hx hb dL_law_123 (lv_at hl 9 rfl) ?_
        obtain ⟨M6, r7, y8, h⟩ := w_cl h
        refine r_callVi (As := [.int v12]) (rest := [.int v12, .int v10]) cx w hu hl.1 (k_X9_colour hG v3L v3K y8) (cwV 1 hts gL_law_X9_colour rfl rfl rfl (by decide +kernel) ⟨(Nat.le_of_ble_eq_true rfl), (Nat.le_of_ble_eq_true rfl)⟩) v3L v3K (by decide) rfl rfl rfl (Nat.le_of_ble_eq_true rfl) dL_law_125 (fun H locs w => ?_)
        refine lv_imul hx hb dL_law_128 ?_
        refine lv_iadd hx hb dL_law_129 ?_
        obtain ⟨x9, ex9, h⟩ := w_bd h
        refine r_topI ex9 ?_
        refine lv_istore (lv' := [(10, .int x9), (9, .int x5), (0, .ref (stX D)), (2, .ref v2), (3, .ref v3), (4, .int v4), (5, .int v5), (7, .long v7), (11, .int v11), (12, .int v12)]) hx hb dL_law_130 hl (by decide) rfl (fun ls hl => ?_)
        obtain ⟨x10, ex10, h⟩ := w_bd h
        refine lv_iinc (v := x10) (lv' := [(12, .int x10), (10, .int x9), (9, .int x5), (0, .ref (stX D)), (2, .ref v2), (3, .ref v3), (4, .int v4), (5, .int v5), (7, .long v7), (11, .int v11)]) hx hb dL_law_132 hl (k := 9) rfl (by rw [ex10]; rfl) (by decide) rfl (fun ls hl => ?_)
        refine lv_goto (tgt := 100) hx hb dL_law_135 (by decide) ?_
        obtain ⟨k, hk, hI⟩ := h
        exact ih k hk u G M6 v2 v3 v4 v5 v7 x5 x9 v11 x10 H locs ls v2L v2K v3L v3K hext hu hI cx w (lv_sub hl [3, 4, 5, 6, 7, 8, 2, 1, 9, 0] rfl)
  exact key n u G M v2 v3 v4 v5 v7 v9 v10 v11 v12 H locs ls v2L v2K v3L v3K hext hu hI cx w hl
set_option maxHeartbeats 4000000 in
set_option maxRecDepth 100000 in
theorem bn_L_law_45 {p : Program} {l : Launch} {e : Env} {s : State} {m : MethodId} {args : Array Value} {below : List Frame} {meth : Method} {c : Code} {D : va_G} {cy : cyS} {G0 : gS} {A : Nat → Prop} {Q : State → Prop} {post : gS → mS → Int32 → Prop} (hq : ∀ (u : uS) (G : gS) (M : mS) (H : Heap) (locs : List Loc) (ls : Array Slot) (pc : Nat), post G M 1 → uL u bL → decode cL_law pc = .ok (.ireturn, 1) → wd D cy G M A s.heap H locs → W p l e room_1 s m args below meth c H locs u.1 u.2 Q (F0 m pc ls [.int 1])) : ∀ (u : uS) (G : gS) (M : mS) (v2 : Nat) (v3 : Nat) (v4 : Int32) (v5 : Int32) (H : Heap) (locs : List Loc) (ls : Array Slot), v2 ∈ gL G → gK G v2 = 9 → v3 ∈ gL G → gK G v3 = 8 → ext G0 G → uL u bL → nl_L_law_45 D post u G M v2 v3 v4 v5 → cX p s m args meth c cL_law RL 29 (some .boolean) wsL_law D cy G A → wd D cy G M A s.heap H locs → lv_has ls 29 [(0, .ref (stX D)), (2, .ref v2), (3, .ref v3), (4, .int v4), (5, .int v5)] → W p l e room_1 s m args below meth c H locs u.1 u.2 Q (F0 m 45 ls []) := by
  intro u G M v2 v3 v4 v5 H locs ls v2L v2K v3L v3K hext hu h cx w hl
  obtain ⟨I, n, hI, hB⟩ := h
  have key : ∀ n : Nat, ∀ (u : uS) (G : gS) (M : mS) (v2 : Nat) (v3 : Nat) (v4 : Int32) (v5 : Int32) (H : Heap) (locs : List Loc) (ls : Array Slot), v2 ∈ gL G → gK G v2 = 9 → v3 ∈ gL G → gK G v3 = 8 → ext G0 G → uL u bL → I n u G M v2 v3 v4 v5 → cX p s m args meth c cL_law RL 29 (some .boolean) wsL_law D cy G A → wd D cy G M A s.heap H locs → lv_has ls 29 [(0, .ref (stX D)), (2, .ref v2), (3, .ref v3), (4, .int v4), (5, .int v5)] → W p l e room_1 s m args below meth c H locs u.1 u.2 Q (F0 m 45 ls []) := by
    intro n
    induction n using Nat.strongRecOn with
    | ind n ih =>
      intro u G M v2 v3 v4 v5 H locs ls v2L v2K v3L v3K hext hu hI cx w hl
      have h := hB n u G M v2 v3 v4 v5 hI
      unfold nb_L_law_45 at h
      obtain ⟨hx, hb, hml, hown, hts, hr, hlocks, hK, hA, hG, hsx⟩ := id cx
      have hR : room_1.cells = bL.1 ∧ room_1.slots = bL.2 := ⟨rfl, rfl⟩
      refine lv_iload hx hb dL_law_45 (lv_at hl 4 rfl) ?_
      refine lv_bipush (v := (10 : Int32)) hx hb dL_law_47 (by decide) ?_
      refine lv_icmp_ge (tgt := 1138) hx hb dL_law_49 (by decide) (fun k1 => ?_) (fun k1 => ?_)
      · have h := w_t h k1
        refine lv_aload_n hx hb dL_law_1138 rfl (lv_at hl 1 rfl) ?_
        refine lv_aload_n hx hb dL_law_1139 rfl (lv_at hl 2 rfl) ?_
        refine rb_VI (b := bL) (u := u) (rf := 5) (rl := 112) (As := [.ref v3]) (rest := []) cx w hR hl.1 h (fun h => kn_X10_isSame hG v2L v2K v3L v3K h) (fun v => cwV 1 hts gL_law_X10_isSame rfl rfl rfl (by decide +kernel) ⟨(Nat.le_of_ble_eq_true rfl), (Nat.le_of_ble_eq_true rfl)⟩) v2L v2K (by decide) rfl rfl rfl (Nat.le_of_ble_eq_true rfl) dL_law_1140 (fun u4 G2 M3 r5 H locs h hu xe cx w => ?_)
        obtain ⟨v2L, v2K⟩ := ext_wt xe v2L v2K
        obtain ⟨v3L, v3K⟩ := ext_wt xe v3L v3K
        have hext := ext_tr hext xe
        clear xe
        have hG := cX_wt cx
        obtain ⟨z6, h⟩ := w_ck h
        refine r_topI z6.symm ?_
        exact hq _ _ _ _ _ _ _ h hu dL_law_1143 w
      · have h := w_f h k1
        refine lv_aload_n hx hb dL_law_52 rfl (lv_at hl 0 rfl) ?_
        refine lv_iload hx hb dL_law_53 (lv_at hl 4 rfl) ?_
        refine lv_iconst (v := (2 : Int32)) hx hb dL_law_55 (by decide) ?_
        refine lv_iadd hx hb dL_law_56 ?_
        refine rb_SI (b := bL) (u := u) (rf := 0) (rl := 0) (As := [.ref (stX D), .int ((v5 + (2 : Int32)))]) (rest := []) cx w hR hl.1 h (fun h => kn_L_cell hG h) (fun v => va_cwS 2 hts gL_law_L_cell rfl rfl rfl (by decide +kernel) ⟨(Nat.le_of_ble_eq_true rfl), (Nat.le_of_ble_eq_true rfl)⟩) rfl rfl (Nat.le_of_ble_eq_true rfl) dL_law_57 (fun u9 G7 M8 r10 H locs h hu xe cx w => ?_)
        obtain ⟨v2L, v2K⟩ := ext_wt xe v2L v2K
        obtain ⟨v3L, v3K⟩ := ext_wt xe v3L v3K
        have hext := ext_tr hext xe
        clear xe
        have hG := cX_wt cx
        refine lv_iconst (v := (1 : Int32)) hx hb dL_law_60 (by decide) ?_
        refine lv_ishr hx hb dL_law_61 ?_
        refine lv_bipush (v := (67 : Int32)) hx hb dL_law_62 (by decide) ?_
        refine lv_iload hx hb dL_law_64 (lv_at hl 4 rfl) ?_
        refine lv_imul hx hb dL_law_66 ?_
        refine lv_iadd hx hb dL_law_67 ?_
        obtain ⟨x11, ex11, h⟩ := w_bd h
        refine r_topI ex11 ?_
        refine lv_istore (lv' := [(6, .int x11), (0, .ref (stX D)), (2, .ref v2), (3, .ref v3), (4, .int v4), (5, .int v5)]) hx hb dL_law_68 hl (by decide) rfl (fun ls hl => ?_)
        refine lv_aload_n hx hb dL_law_70 rfl (lv_at hl 3 rfl) ?_
        refine lv_aload_n hx hb dL_law_71 rfl (lv_at hl 2 rfl) ?_
        refine lv_iload hx hb dL_law_72 (lv_at hl 0 rfl) ?_
        refine rb_SI (b := bL) (u := u9) (rf := 8) (rl := 200) (As := [.ref v3, .ref v2, .int x11]) (rest := []) cx w hR hl.1 h (fun h => kn_L_act hG v3L v3K v2L v2K h) (fun v => va_cwS 3 hts gL_law_L_act rfl rfl rfl (by decide +kernel) ⟨(Nat.le_of_ble_eq_true rfl), (Nat.le_of_ble_eq_true rfl)⟩) rfl rfl (Nat.le_of_ble_eq_true rfl) dL_law_74 (fun u14 G12 M13 r15 H locs h hu xe cx w => ?_)
        obtain ⟨v2L, v2K⟩ := ext_wt xe v2L v2K
        obtain ⟨v3L, v3K⟩ := ext_wt xe v3L v3K
        have hext := ext_tr hext xe
        clear xe
        have hG := cX_wt cx
        refine lv_if_ne (tgt := 82) hx hb dL_law_77 (by decide) (fun k16 => ?_) (fun k16 => ?_)
        · have h := w_f h k16
          refine lv_aload_n hx hb dL_law_82 rfl (lv_at hl 3 rfl) ?_
          obtain ⟨M17, r18, y19, h⟩ := w_cl h
          refine r_callVl (As := []) (rest := []) cx w hu hl.1 (k_X9_digest hG v3L v3K y19) (cwV 0 hts gL_law_X9_digest rfl rfl rfl (by decide +kernel) ⟨(Nat.le_of_ble_eq_true rfl), (Nat.le_of_ble_eq_true rfl)⟩) v3L v3K (by decide) rfl rfl rfl (Nat.le_of_ble_eq_true rfl) dL_law_83 (fun H locs w => ?_)
          refine lv_lstore (lv' := [(7, .long r18), (6, .int x11), (0, .ref (stX D)), (2, .ref v2), (3, .ref v3), (4, .int v4), (5, .int v5)]) hx hb dL_law_86 hl (by decide) rfl (fun ls hl => ?_)
          refine lv_iconst (v := (0 : Int32)) hx hb dL_law_88 (by decide) ?_
          refine lv_istore (lv' := [(9, .int ((0 : Int32))), (7, .long r18), (6, .int x11), (0, .ref (stX D)), (2, .ref v2), (3, .ref v3), (4, .int v4), (5, .int v5)]) hx hb dL_law_89 hl (by decide) rfl (fun ls hl => ?_)
          refine lv_iconst (v := (0 : Int32)) hx hb dL_law_91 (by decide) ?_
          refine lv_istore (lv' := [(10, .int ((0 : Int32))), (9, .int ((0 : Int32))), (7, .long r18), (6, .int x11), (0, .ref (stX D)), (2, .ref v2), (3, .ref v3), (4, .int v4), (5, .int v5)]) hx hb dL_law_92 hl (by decide) rfl (fun ls hl => ?_)
          refine lv_iconst (v := (0 : Int32)) hx hb dL_law_94 (by decide) ?_
          refine lv_istore (lv' := [(11, .int ((0 : Int32))), (10, .int ((0 : Int32))), (9, .int ((0 : Int32))), (7, .long r18), (6, .int x11), (0, .ref (stX D)), (2, .ref v2), (3, .ref v3), (4, .int v4), (5, .int v5)]) hx hb dL_law_95 hl (by decide) rfl (fun ls hl => ?_)
          refine lv_iconst (v := (0 : Int32)) hx hb dL_law_97 (by decide) ?_
          refine lv_istore (lv' := [(12, .int ((0 : Int32))), (11, .int ((0 : Int32))), (10, .int ((0 : Int32))), (9, .int ((0 : Int32))), (7, .long r18), (6, .int x11), (0, .ref (stX D)), (2, .ref v2), (3, .ref v3), (4, .int v4), (5, .int v5)]) hx hb dL_law_98 hl (by decide) rfl (fun ls hl => ?_)
          exact bn_L_law_100 hq (hkb45 := fun u G M v2 v3 v4 v5 H locs ls v2L v2K v3L v3K hext hu h cx w hl => by obtain ⟨k, hk, hI⟩ := h; exact ih k hk u G M v2 v3 v4 v5 H locs ls v2L v2K v3L v3K hext hu hI cx w hl) u14 G12 M17 v2 v3 v4 v5 r18 ((0 : Int32)) ((0 : Int32)) ((0 : Int32)) ((0 : Int32)) H locs ls v2L v2K v3L v3K hext hu h cx w (lv_sub hl [6, 7, 8, 9, 10, 4, 3, 2, 1, 0] rfl)
        · have h := w_t h k16
          refine lv_iconst (v := (0 : Int32)) hx hb dL_law_80 (by decide) ?_
          exact h.elim
  exact key n u G M v2 v3 v4 v5 H locs ls v2L v2K v3L v3K hext hu hI cx w hl
set_option maxHeartbeats 4000000 in
set_option maxRecDepth 100000 in
theorem kn_L_law {p : Program} {l : Launch} {e : Env} {s : State} {m : MethodId} {args : Array Value} {below : List Frame} {meth : Method} {c : Code} {D : va_G} {cy : cyS} {A : Nat → Prop} {Q : State → Prop} {G : gS} {M : mS} {ls : Array Slot} {post : gS → mS → Int32 → Prop} (hq : ∀ (u : uS) (G : gS) (M : mS) (H : Heap) (locs : List Loc) (ls : Array Slot) (pc : Nat), post G M 1 → uL u bL → decode cL_law pc = .ok (.ireturn, 1) → wd D cy G M A s.heap H locs → W p l e room_1 s m args below meth c H locs u.1 u.2 Q (F0 m pc ls [.int 1])) (cx : cX p s m args meth c cL_law RL 29 (some .boolean) wsL_law D cy G A) (w : wd D cy G M A s.heap s.heap []) (hl : lv_has ls 29 [(0, .ref (stX D))]) (h : n_L_law D G M post) : W p l e room_1 s m args below meth c s.heap [] ((0, 0) : uS).1 ((0, 0) : uS).2 Q (F0 m 0 ls []) := by
  unfold n_L_law at h
  obtain ⟨hx, hb, hml, hown, hts, hr, hlocks, hK, hA, hG, hsx⟩ := id cx
  have hext := ext_rf (G := G)
  have hu : uL (0, 0) bL := ⟨Nat.zero_le _, Nat.zero_le _⟩
  have hR : room_1.cells = bL.1 ∧ room_1.slots = bL.2 := ⟨rfl, rfl⟩
  refine rb_newO (b := bL) (u := (0, 0)) cx w hR tyJ4 tyJ4_ok rfl (by decide) wb_L_law_J4 (lkL_in wsL_law0_r1 (List.mem_of_getElem? (i := 0) rfl) _ (List.mem_of_getElem? (i := 0) rfl)) (lkL_in wsL_law0_r1 (List.mem_of_getElem? (i := 0) rfl) _ (List.mem_of_getElem? (i := 1) rfl)) (lkL_in wsL_law0_r1 (List.mem_of_getElem? (i := 0) rfl) _ (List.mem_of_getElem? (i := 2) rfl)) df_11 h dL_law_0 (fun q1 u4 G2 M3 H h hu xe hLq1 hKq1 cx w => ?_)
  have hext := ext_tr hext xe
  clear xe
  have hG := cX_wt cx
  refine lv_dup hx hb dL_law_3 rfl ?_
  refine rb_NV (b := bL) (u := u4) (rf := 2) (rl := 81) (As := []) (rest := [.ref q1]) cx w hR hl.1 h (fun h => kn_J4_init_da8c8 hG hLq1 hKq1 h) (fun v => cwI 0 hts gL_law_J4_init_da8c8 rfl rfl rfl (hts _ (lkL_in wsL_law0_r1 (List.mem_of_getElem? (i := 0) rfl) _ (List.mem_of_getElem? (i := 2) rfl))) (hts _ (lkL_in wsL_law0_r1 (List.mem_of_getElem? (i := 0) rfl) _ (List.mem_of_getElem? (i := 14) rfl))) (hts _ (lkL_in wsL_law0_r1 (List.mem_of_getElem? (i := 0) rfl) _ (List.mem_of_getElem? (i := 15) rfl))) rfl (by decide +kernel) ⟨(Nat.le_of_ble_eq_true rfl), (Nat.le_of_ble_eq_true rfl)⟩) rfl rfl (Nat.le_of_ble_eq_true rfl) dL_law_4 (fun u7 G5 M6 r8 H locs h hu xe cx w => ?_)
  obtain ⟨hLq1, hKq1⟩ := ext_wt xe hLq1 hKq1
  have hext := ext_tr hext xe
  clear xe
  have hG := cX_wt cx
  refine lv_astore_n (lv' := [(1, .ref q1), (0, .ref (stX D))]) hx hb dL_law_7 rfl hl (by decide) rfl (fun ls hl => ?_)
  refine lv_aload_n hx hb dL_law_8 rfl (lv_at hl 1 rfl) ?_
  refine lv_aload_n hx hb dL_law_9 rfl (lv_at hl 0 rfl) ?_
  refine rb_SR (kr := 9) (b := bL) (u := u7) (rf := 7) (rl := 194) (As := [.ref (stX D), .ref q1]) (rest := []) cx w hR hl.1 h (fun h => kn_L_list hG hLq1 hKq1 h) (fun v => va_cwS 2 hts gL_law_L_list rfl rfl rfl (by decide +kernel) ⟨(Nat.le_of_ble_eq_true rfl), (Nat.le_of_ble_eq_true rfl)⟩) rfl rfl (Nat.le_of_ble_eq_true rfl) dL_law_10 (fun u11 G9 M10 r12 H locs h hu xe hLr12 hKr12 cx w => ?_)
  obtain ⟨hLq1, hKq1⟩ := ext_wt xe hLq1 hKq1
  have hext := ext_tr hext xe
  clear xe
  have hG := cX_wt cx
  refine lv_astore_n (lv' := [(2, .ref r12), (1, .ref q1), (0, .ref (stX D))]) hx hb dL_law_13 rfl hl (by decide) rfl (fun ls hl => ?_)
  refine rb_newO (b := bL) (u := u11) cx w hR tyX9 tyX9_ok rfl (by decide) wb_L_law_X9 (lkL_in wsL_law0_r1 (List.mem_of_getElem? (i := 0) rfl) _ (List.mem_of_getElem? (i := 3) rfl)) (lkL_in wsL_law0_r1 (List.mem_of_getElem? (i := 0) rfl) _ (List.mem_of_getElem? (i := 4) rfl)) (lkL_in wsL_law0_r1 (List.mem_of_getElem? (i := 0) rfl) _ (List.mem_of_getElem? (i := 5) rfl)) df_8 h dL_law_14 (fun q13 u16 G14 M15 H h hu xe hLq13 hKq13 cx w => ?_)
  obtain ⟨hLq1, hKq1⟩ := ext_wt xe hLq1 hKq1
  obtain ⟨hLr12, hKr12⟩ := ext_wt xe hLr12 hKr12
  have hext := ext_tr hext xe
  clear xe
  have hG := cX_wt cx
  refine lv_dup hx hb dL_law_17 rfl ?_
  refine rb_cc (b := bL) (u := u16) (v := (65, 19797)) (As := []) (rest := [.ref q13]) cx w hR hl.1 h (fun h => kn_X9_init hG hLq13 hKq13 h) (cwI 0 hts gL_law_X9_init rfl rfl rfl (hts _ (lkL_in wsL_law0_r1 (List.mem_of_getElem? (i := 0) rfl) _ (List.mem_of_getElem? (i := 5) rfl))) (hts _ (lkL_in wsL_law0_r12 (List.mem_of_getElem? (i := 11) rfl) _ (List.mem_of_getElem? (i := 18) rfl))) (hts _ (lkL_in wsL_law0_r12 (List.mem_of_getElem? (i := 11) rfl) _ (List.mem_of_getElem? (i := 19) rfl))) rfl (by decide +kernel) ⟨(Nat.le_of_ble_eq_true rfl), (Nat.le_of_ble_eq_true rfl)⟩) rfl rfl (Nat.le_of_ble_eq_true rfl) dL_law_18 (fun u19 G17 M18 H locs h hu xe cx w => ?_)
  obtain ⟨hLq1, hKq1⟩ := ext_wt xe hLq1 hKq1
  obtain ⟨hLr12, hKr12⟩ := ext_wt xe hLr12 hKr12
  obtain ⟨hLq13, hKq13⟩ := ext_wt xe hLq13 hKq13
  have hext := ext_tr hext xe
  clear xe
  have hG := cX_wt cx
  refine lv_astore_n (lv' := [(3, .ref q13), (2, .ref r12), (1, .ref q1), (0, .ref (stX D))]) hx hb dL_law_21 rfl hl (by decide) rfl (fun ls hl => ?_)
  refine lv_aload_n hx hb dL_law_22 rfl (lv_at hl 0 rfl) ?_
  refine lv_aload_n hx hb dL_law_23 rfl (lv_at hl 2 rfl) ?_
  refine rb_VR (kr := 10) (b := bL) (u := u19) (rf := 5) (rl := 151) (As := []) (rest := [.ref q13]) cx w hR hl.1 h (fun h => kn_J4_toString_0e30d hG hLq1 hKq1 h) (fun v => cwV 0 hts gL_law_J4_toString_0e30d rfl rfl rfl (by decide +kernel) ⟨(Nat.le_of_ble_eq_true rfl), (Nat.le_of_ble_eq_true rfl)⟩) hLq1 hKq1 (by decide) rfl rfl rfl (Nat.le_of_ble_eq_true rfl) dL_law_24 (fun u22 G20 M21 r23 H locs h hu xe hLr23 hKr23 cx w => ?_)
  obtain ⟨hLq1, hKq1⟩ := ext_wt xe hLq1 hKq1
  obtain ⟨hLr12, hKr12⟩ := ext_wt xe hLr12 hKr12
  obtain ⟨hLq13, hKq13⟩ := ext_wt xe hLq13 hKq13
  have hext := ext_tr hext xe
  clear xe
  have hG := cX_wt cx
  refine rb_SI (b := bL) (u := u22) (rf := 136) (rl := 7859) (As := [.ref q13, .ref r23]) (rest := []) cx w hR hl.1 h (fun h => kn_L_taught hG hLq13 hKq13 hLr23 hKr23 h) (fun v => va_cwS 2 hts gL_law_L_taught rfl rfl rfl (by decide +kernel) ⟨(Nat.le_of_ble_eq_true rfl), (Nat.le_of_ble_eq_true rfl)⟩) rfl rfl (Nat.le_of_ble_eq_true rfl) dL_law_27 (fun u26 G24 M25 r27 H locs h hu xe cx w => ?_)
  obtain ⟨hLq1, hKq1⟩ := ext_wt xe hLq1 hKq1
  obtain ⟨hLr12, hKr12⟩ := ext_wt xe hLr12 hKr12
  obtain ⟨hLq13, hKq13⟩ := ext_wt xe hLq13 hKq13
  have hext := ext_tr hext xe
  clear xe
  have hG := cX_wt cx
  refine lv_if_eq (tgt := 35) hx hb dL_law_30 (by decide) (fun k28 => ?_) (fun k28 => ?_)
  · have h := w_t h k28
    refine lv_aload_n hx hb dL_law_35 rfl (lv_at hl 0 rfl) ?_
    refine lv_iconst (v := (2 : Int32)) hx hb dL_law_36 (by decide) ?_
    obtain ⟨M29, r30, y31, h⟩ := w_cl h
    refine r_callVi (As := [.int ((2 : Int32))]) (rest := []) cx w hu hl.1 (k_X9_count hG hLq13 hKq13 y31) (cwV 1 hts gL_law_X9_count rfl rfl rfl (by decide +kernel) ⟨(Nat.le_of_ble_eq_true rfl), (Nat.le_of_ble_eq_true rfl)⟩) hLq13 hKq13 (by decide) rfl rfl rfl (Nat.le_of_ble_eq_true rfl) dL_law_37 (fun H locs w => ?_)
    refine lv_istore (lv' := [(4, .int r30), (3, .ref q13), (2, .ref r12), (1, .ref q1), (0, .ref (stX D))]) hx hb dL_law_40 hl (by decide) rfl (fun ls hl => ?_)
    refine lv_iconst (v := (0 : Int32)) hx hb dL_law_42 (by decide) ?_
    refine lv_istore (lv' := [(5, .int ((0 : Int32))), (4, .int r30), (3, .ref q13), (2, .ref r12), (1, .ref q1), (0, .ref (stX D))]) hx hb dL_law_43 hl (by decide) rfl (fun ls hl => ?_)
    exact bn_L_law_45 hq u26 G24 M29 r12 q13 r30 ((0 : Int32)) H locs ls hLr12 hKr12 hLq13 hKq13 hext hu h cx w (lv_sub hl [5, 3, 2, 1, 0] rfl)
  · have h := w_f h k28
    refine lv_iconst (v := (0 : Int32)) hx hb dL_law_33 (by decide) ?_
    exact h.elim
