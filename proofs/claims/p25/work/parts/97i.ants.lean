/-! the loop over ants -/
section Ants
variable {D : va_G} {G G1 : gS} {M : mS} {rl : Nat → Nat} {o a v cap c d x y n : Nat} {S : sA} {L : List Nat} {b u : uS} {post : gS → mS → Nat → Prop}
/-- an ant's row -/
def zAf (D : va_G) (i : Nat) (j : Nat) : Nat := if j = 0 then zAr D i else if j = 1 then zAx D i else if j = 2 then zAy D i else if j = 3 then zAs D i else if j = 4 then 1 else 0
theorem wrap64 {f m : Nat} (hf : f ≤ 8) (hm : m < 8) : ((30 : Int32) + zn m * zn f) - ((30 : Int32) + zn m * zn f) / (64 : Int32) * (64 : Int32) = zn ((30 + m * f) % 64) := by
  have hle : m * f ≤ 7 * 8 := Nat.mul_le_mul (by omega) hf
  rw [zn_mul, show (30 : Int32) + zn (m * f) = zn (30 + m * f) from zn_add 30 _]
  exact zn_mod64 (by omega)
set_option maxRecDepth 20000 in
theorem y_258 {i : Nat} (hi : i < zN D) (hbb : 1000 ≤ b.1 ∧ 200000 ≤ b.2) (hcd : c ≤ 500 ∧ d ≤ 40000) (hM : SM G M rl o S (pzD D (zR D) 0) (zQ D) (yzD D i 0)) (hR : TR G M rl x 6 2 (zAf D i)) (hT : TB G M rl 20000 a v cap L) (hU : UB c d u cap L.length) {f : Nat} (hf : f ≤ 8) (hy : zAy D i = (30 + bwN (zX D i >>> ((6 : Int32) &&& 31)) % 8 * f) % 64) {v3 v4 : Int32} {kb : uS → gS → mS → Nat → Int32 → Int32 → Int32 → Prop} (hk : ∀ u' G' M' rl' S' v' cap', SM G' M' rl' o S' (pzD D (zR D) 0) (zQ D) (yzD D (i + 1) 0) → TB G' M' rl' 20000 a v' cap' (txA1 D i L) → UB (c + 14) (d + 14) u' cap' (txA1 D i L).length → kb u' G' M' o v3 v4 (zn (i + 1))) : nb_L_list_258 D b a kb post u G M o v3 v4 (zn i) (zX D i) x x (2 : Int32) (30 : Int32) (zn (bwN (zX D i >>> ((6 : Int32) &&& 31)) % 8)) (zn f) := by
  have hN5 := zN_b (D := D)
  have hR3 := zR_b (D := D)
  have hb : SGb (pzD D (zR D) 0) (yd_n (yzD D i 0)) := SGbz (by omega) (by show i ≤ 5; omega) (Nat.zero_le _)
  obtain ⟨b1, b2⟩ := hbb
  have x0 : rl x = 0 := hR.1.2.2.1
  have gx : gN G x = 6 := hR.1.2.2.2
  have nsx : ¬ Si rl x := fun z => by unfold Si at z; omega
  have w8 : bwN (zX D i >>> ((6 : Int32) &&& 31)) % 8 < 8 := Nat.mod_lt _ (by decide)
  have hr0 := zAr_b (D := D) (a := i)
  have hx0 := zAx_b (D := D) (a := i)
  have hy0 := zAy_b (D := D) (a := i)
  have hs0 := zAs_b (D := D) (a := i)
  have hu1 : uL u b := UB_le hU (by omega) (by omega)
  unfold nb_L_list_258
  rw [gx, nat_2, nat_3, nat_4, nat_5, nat_0, nat_1, wrap64 hf w8, ← hy]
  refine i_ck (by decide) (i_ix (vi_2 (by decide) (by decide)) (i_wI (i_ca0 hu1 (s_below (n := 4) rfl (by decide) (by decide) ?_))))
  have R1 : TR G (wI M x 2 (zn (zAy D i))) rl x 6 (2 + 1) (zAf D i) := TR_w hR rfl
  have M1 := SM_tw (j := 2) (v := zn (zAy D i)) hb hM nsx
  have T1 := TB_w (j := 2) (w := zn (zAy D i)) hT (x := x) (by omega) (by omega)
  refine i_ix (by rw [gx]; exact vi_3 (by decide) (by decide)) (i_wI (i_ix (by rw [gx]; exact vi_4 (by decide) (by decide)) (i_wI (i_ix (by rw [gx]; exact vi_5 (by decide) (by decide)) (i_wI ?_)))))
  have R2 := TR_w (c := zn (zAs D i)) R1 rfl
  have M2 := SM_tw (j := 3) (v := zn (zAs D i)) hb M1 nsx
  have T2 := TB_w (j := 3) (w := zn (zAs D i)) T1 (x := x) (by omega) (by omega)
  have R3 := TR_w (c := (1 : Int32)) R2 rfl
  have M3 := SM_tw (j := 4) (v := (1 : Int32)) hb M2 nsx
  have T3 := TB_w (j := 4) (w := (1 : Int32)) T2 (x := x) (by omega) (by omega)
  have R4 := TR_w (c := (0 : Int32)) R3 rfl
  have M4 := SM_tw (j := 5) (v := (0 : Int32)) hb M3 nsx
  have T4 := TB_w (j := 5) (w := (0 : Int32)) T3 (x := x) (by omega) (by omega)
  have hst : KS 20000 (fun G M rl => SM G M rl o S (pzD D (zR D) 0) (zQ D) (yzD D i 0) ∧ TR G M rl x 6 6 (zAf D i)) := KS_and (KS_SM hb (by decide)) (KS_TR (by decide))
  refine a_lit hst ⟨M4, R4⟩ T4 hU (n := 23) rfl (by decide) (by decide) ⟨by omega, by omega⟩ (by omega) (fun u5 G5 M5 rl5 v5 cap5 I5 T5 U5 => ?_)
  refine a_int hst I5 T5 U5 (m := i) rfl (by omega) ⟨by omega, by omega⟩ (by omega) (fun u6 G6 M6 rl6 v6 cap6 I6 T6 U6 => ?_)
  refine a_lit hst I6 T6 U6 (n := 24) rfl (by decide) (by decide) ⟨by omega, by omega⟩ (by omega) (fun u7 G7 M7 rl7 v7 cap7 I7 T7 U7 => ?_)
  refine i_ix (by rw [I7.2.1.2.2.2]; exact vi_0 (by decide) (by decide)) (a_int hst I7 T7 U7 (m := zAr D i) (I7.2.2 0 (by decide)) (by omega) ⟨by omega, by omega⟩ (by omega) (fun u8 G8 M8 rl8 v8 cap8 I8 T8 U8 => ?_))
  refine a_lit hst I8 T8 U8 (n := 25) rfl (by decide) (by decide) ⟨by omega, by omega⟩ (by omega) (fun u9 G9 M9 rl9 v9 cap9 I9 T9 U9 => ?_)
  refine i_ix (by rw [I9.2.1.2.2.2]; exact vi_1 (by decide) (by decide)) (a_int hst I9 T9 U9 (m := zAx D i) (I9.2.2 1 (by decide)) (by omega) ⟨by omega, by omega⟩ (by omega) (fun u10 G10 M10 rl10 v10 cap10 I10 T10 U10 => ?_))
  refine a_lit hst I10 T10 U10 (n := 21) rfl (by decide) (by decide) ⟨by omega, by omega⟩ (by omega) (fun u11 G11 M11 rl11 v11 cap11 I11 T11 U11 => ?_)
  refine i_ix (by rw [I11.2.1.2.2.2]; exact vi_2 (by decide) (by decide)) (a_int hst I11 T11 U11 (m := zAy D i) (I11.2.2 2 (by decide)) (by omega) ⟨by omega, by omega⟩ (by omega) (fun u12 G12 M12 rl12 v12 cap12 I12 T12 U12 => ?_))
  refine a_lit hst I12 T12 U12 (n := 26) rfl (by decide) (by decide) ⟨by omega, by omega⟩ (by omega) (fun u13 G13 M13 rl13 v13 cap13 I13 T13 U13 => ?_)
  have e3 : mI M13 x 3 = zn (zAs D i) := I13.2.2 3 (by decide)
  rw [e3]
  refine i_ix (by rw [I13.2.1.2.2.2]; exact vi_3 (by decide) (by decide)) (i_ix (zn_in hs0 (by decide)) (a_lit hst I13 T13 U13 (n := 4 + zAs D i) (by rw [zn_nat (by omega)]) (by omega) (by omega) ⟨by omega, by omega⟩ (by omega) (fun u14 G14 M14 rl14 v14 cap14 I14 T14 U14 => ?_)))
  refine a_lit hst I14 T14 U14 (n := 27) rfl (by decide) (by decide) ⟨by omega, by omega⟩ (by omega) (fun u15 G15 M15 rl15 v15 cap15 I15 T15 U15 => ?_)
  obtain ⟨hM6, hR6⟩ := I15
  have P1 := UB_p (w := (1, i + 1)) U15
  have hn2 : gN G15 (sg S 2) = i := (SM_n hM6).2.2.1
  refine i_rf (SM_f hM6 (i := 2) (by decide)) ⟨(1, i + 1), UB_le P1 (by dsimp only; omega) (by dsimp only; omega), s_with (n := i) hn2 (by omega) (fun j hj => ⟨_, (SM_a hM6 (i := j) hj).1⟩) (hM6.1.1.2 2 (by decide)).2.1 ⟨Nat.le_refl _, Nat.le_refl _⟩ (fun Ga ya hya ePa eLa eKa eNa holda hnewa => ?_)⟩
  have noy : o ≠ ya := mem_ne (SM_io hM6).1 hya
  have s3 := (hM6.1.1.2 3 (by decide)).2.1
  have nsy : sg S 3 ≠ ya := mem_ne s3 hya
  have nso : sg S 3 ≠ o := fun e => by have h1 := (hM6.1.1.2 3 (by decide)).2.2.2; rw [e, (SM_io hM6).2.2] at h1; omega
  have f7 : gP (gSt Ga o 6 ya) o 7 = some (sg S 3) := by rw [gSt_eq, if_neg (by decide), ePa o noy]; exact SM_f hM6 (i := 3) (by decide)
  refine i_sR (i_rf f7 (i_na (N := 0) rfl (by decide) (UB_le (UB_p (w := (1, 0)) P1) (by dsimp only; omega) (by dsimp only; omega)) (fun p hp => ?_)))
  have P2 := UB_p (w := (1, 0)) P1
  have P3 := UB_p (w := (1, i + 1)) P2
  have s3a : sg S 3 ∈ gL (gSt Ga o 6 ya) := by show sg S 3 ∈ gL Ga; rw [eLa]; exact List.mem_append_left _ s3
  have nsp : sg S 3 ≠ p := mem_ne s3a hp
  have gp3 : ∀ j, gP (gNw (gSt Ga o 6 ya) p 12 0) (sg S 3) j = gP G15 (sg S 3) j := fun j => by
    rw [show gP (gNw (gSt Ga o 6 ya) p 12 0) (sg S 3) = gP (gSt Ga o 6 ya) (sg S 3) from up_ne nsp, gSt_ne nso, ePa _ nsy]
  have gn3 : gN (gNw (gSt Ga o 6 ya) p 12 0) (sg S 3) = i := by
    rw [show gN (gNw (gSt Ga o 6 ya) p 12 0) (sg S 3) = gN (gSt Ga o 6 ya) (sg S 3) from up_ne nsp]
    show gN Ga (sg S 3) = i
    rw [eNa, up_ne nsy]
    exact (SM_n hM6).2.2.2.1
  refine ⟨(1, i + 1), UB_le P3 (by dsimp only; omega) (by dsimp only; omega), s_with (n := i) gn3 (by omega) (fun j hj => ⟨_, (gp3 j).trans (SM_p hM6 (i := j) hj).1⟩) (List.mem_append_left _ s3a) ⟨Nat.le_refl _, Nat.le_refl _⟩ (fun Gz z hz ePz eLz eKz eNz holdz hnewz => ?_)⟩
  have hfin := SM_addA (Y' := yzD D (i + 1) 0) hb hM6 hR6 hya ePa eLa eKa eNa holda hnewa hp hz ePz eLz eKz eNz holdz hnewz rfl rfl rfl (fun _ _ => rfl) ⟨rfl, rfl, rfl, rfl⟩ ⟨rfl, rfl, rfl, rfl, rfl, rfl⟩ rfl
  have ta := TB_ad (j := 6) (s := 4) (t := 3000 + i) T15 (by decide) (SM_io hM6).1 (SM_io hM6).2.2 hR6.1.1 hR6.1.2.2.1 hya eLa eNa ePa
  have tp := TB_nw (k := 12) (n := 0) (s := 4000 + i) ta hp
  have tz := TB_wi (s := 5) tp hz eLz eNz ePz
  have ho5 := (SM_io hfin).2.2
  exact i_sR (i_bde (zn_one i) (hk _ _ _ _ _ v15 cap15 hfin (TB_st tz (by rw [ho5]; decide) (by rw [ho5]; decide)) (UB_mono P3 (by dsimp only; omega) (by dsimp only; omega))))
set_option maxRecDepth 20000 in
theorem y_223 {i : Nat} (hi : i < zN D) (hbb : 1000 ≤ b.1 ∧ 200000 ≤ b.2) (hcd : c ≤ 500 ∧ d ≤ 40000) (hM : SM G M rl o S (pzD D (zR D) 0) (zQ D) (yzD D i 0)) (hR : TR G M rl x 6 1 (zAf D i)) (hT : TB G M rl 20000 a v cap L) (hU : UB c d u cap L.length) {f : Nat} (hf : f ≤ 8) (hx : zAx D i = (30 + bwN (zX D i >>> ((3 : Int32) &&& 31)) % 8 * f) % 64) {v3 v4 : Int32} {kb : uS → gS → mS → Nat → Int32 → Int32 → Int32 → Prop} (hk : ∀ u' G' M' rl' S' v' cap', SM G' M' rl' o S' (pzD D (zR D) 0) (zQ D) (yzD D (i + 1) 0) → TB G' M' rl' 20000 a v' cap' (txA1 D i L) → UB (c + 14) (d + 14) u' cap' (txA1 D i L).length → kb u' G' M' o v3 v4 (zn (i + 1))) : nb_L_list_223 D b a kb post u G M o v3 v4 (zn i) (zX D i) x x (1 : Int32) (30 : Int32) (zn (bwN (zX D i >>> ((3 : Int32) &&& 31)) % 8)) (zn f) := by
  have hN5 := zN_b (D := D)
  have hR3 := zR_b (D := D)
  have hb : SGb (pzD D (zR D) 0) (yd_n (yzD D i 0)) := SGbz (by omega) (by show i ≤ 5; omega) (Nat.zero_le _)
  have x0 : rl x = 0 := hR.1.2.2.1
  have gx : gN G x = 6 := hR.1.2.2.2
  have nsx : ¬ Si rl x := fun z => by unfold Si at z; omega
  have w8 : bwN (zX D i >>> ((3 : Int32) &&& 31)) % 8 < 8 := Nat.mod_lt _ (by decide)
  have hu1 : uL u b := UB_le hU (by omega) (by omega)
  unfold nb_L_list_223
  rw [gx, nat_1, wrap64 hf w8, ← hx]
  refine i_ck (by decide) (i_ix (vi_1 (by decide) (by decide)) (i_wI (i_ca0 hu1 (s_below (n := 8) rfl (by decide) (by decide) (i_ca0 hu1 (s_below (n := 5) rfl (by decide) (by decide) ?_))))))
  have R1 : TR G (wI M x 1 (zn (zAx D i))) rl x 6 (1 + 1) (zAf D i) := TR_w hR rfl
  have M1 := SM_tw (j := 1) (v := zn (zAx D i)) hb hM nsx
  have T1 := TB_w (j := 1) (w := zn (zAx D i)) hT (x := x) (by omega) (by omega)
  have w5 : bwN (zX D i) % 5 < 5 := Nat.mod_lt _ (by decide)
  refine i_if (fun k => ?_) (fun k => ?_)
  · have e := (zn_inj (b := 0) (by omega) (by decide)).mp k
    exact y_258 (f := 8) hi hbb hcd M1 R1 T1 hU (by decide) (by unfold zAy; rw [if_pos e]) hk
  · have e : ¬ bwN (zX D i) % 5 = 0 := fun z => k (by rw [z]; rfl)
    exact y_258 (f := 1) hi hbb hcd M1 R1 T1 hU (by decide) (by unfold zAy; rw [if_neg e]) hk
set_option maxRecDepth 20000 in
theorem y_159 (hX : xL D ≤ 260) (hbb : 1000 ≤ b.1 ∧ 200000 ≤ b.2) (hM : SM G M rl o S (pzD D (zR D) 0) (zQ D) (yzD D 0 0)) (hT : TB G M rl 20000 a v cap (txR D (zR D))) (hU : UB 130 4199 u cap (txR D (zR D)).length) (hk : ∀ u' G' M' rl' S' v' cap', SM G' M' rl' o S' (pzD D (zR D) 0) (zQ D) (yzD D (zN D) 0) → TB G' M' rl' 20000 a v' cap' (txA D (zN D)) → UB 210 4299 u' cap' (txA D (zN D)).length → nl_L_list_401 D b a post u' G' M' o (zn (zN D)) (zn (zPn D))) : nl_L_list_159 D b a post u G M o (zn (zR D)) (zn (zN D)) (0 : Int32) := by
  have hN5 := zN_b (D := D)
  have hR3 := zR_b (D := D)
  refine ⟨fun m u1 G1 M1 w2 w3 w4 w5 => o = w2 ∧ zn (zR D) = w3 ∧ zn (zN D) = w4 ∧ ∃ i rl1 S1 v1 cap1, m + i = zN D ∧ zn i = w5 ∧ SM G1 M1 rl1 o S1 (pzD D (zR D) 0) (zQ D) (yzD D i 0) ∧ TB G1 M1 rl1 20000 a v1 cap1 (txA D i) ∧ UB (130 + 16 * i) (4199 + 20 * i) u1 cap1 (txA D i).length, zN D, ⟨rfl, rfl, rfl, 0, rl, S, v, cap, Nat.add_zero _, rfl, hM, hT, hU⟩, ?_⟩
  rintro m u1 G1 M1 w2 w3 w4 w5 ⟨rfl, rfl, rfl, i, rl1, S1, v1, cap1, hm, rfl, hM1, hT1, hU1⟩
  have hb : SGb (pzD D (zR D) 0) (yd_n (yzD D i 0)) := SGbz (by omega) (by show i ≤ 5; omega) (Nat.zero_le _)
  have hu1 : uL u1 b := UB_le hU1 (by omega) (by omega)
  unfold nb_L_list_159
  by_cases e : i = zN D
  · rw [e] at hM1 hT1 hU1 ⊢
    refine i_t ((zn_le (by omega) (by omega)).mpr (Nat.le_refl _)) (i_ca0 hu1 (s_cellD hX (k := 10) rfl (by decide) (i_ca0 hu1 (s_below (n := 9) rfl (by decide) (by decide) ?_))))
    exact hk _ _ _ rl1 S1 v1 cap1 hM1 hT1 (UB_mono hU1 (by omega) (by omega))
  · have hi2 : i < zN D := by omega
    have hP := UB_p (w := (1, 6)) hU1
    have hup : uL (uP u1 (1, 6)) b := UB_le hP (by dsimp only; omega) (by dsimp only; omega)
    refine i_f (by rw [zn_le (by omega) (by omega)]; omega) (i_ca0 hu1 (s_cellD hX (k := 5 + i) (zn_add 5 i) (by omega) (i_bd (i_na (N := 6) rfl (by decide) hup (fun x hx => i_ca0 hup (s_below (n := zR D) rfl (by omega) (by omega) ?_))))))
    have gx : gN (gNw G1 x 12 6) x = 6 := gN_nw
    have x0 : rU rl1 x 0 x = 0 := rU_eq
    have R1 : TR (gNw G1 x 12 6) (wZ M1 x) (rU rl1 x 0) x 6 0 (zAf D i) := TR_nw hx
    have M1' := SM_nw (k := 12) (n := 6) (r := 0) hb hM1 hx
    have T1 := TB_nw (k := 12) (n := 6) (s := 0) hT1 hx
    have nsx : ¬ Si (rU rl1 x 0) x := fun z => by unfold Si at z; rw [x0] at z; omega
    refine i_ix (by rw [gx]; exact vi_0 (by decide) (by decide)) ?_
    rw [nat_0]
    refine i_wI (i_ca0 hup (s_below (n := 8) rfl (by decide) (by decide) (i_ca0 hup (s_below (n := 3) rfl (by decide) (by decide) ?_))))
    have R2 : TR (gNw G1 x 12 6) (wI (wZ M1 x) x 0 (zn (zAr D i))) (rU rl1 x 0) x 6 (0 + 1) (zAf D i) := TR_w R1 rfl
    have M2 := SM_tw (j := 0) (v := zn (zAr D i)) hb M1' nsx
    have T2 := TB_w (j := 0) (w := zn (zAr D i)) T1 (x := x) (by omega) (by omega)
    have w3 : bwN (zX D i) % 3 < 3 := Nat.mod_lt _ (by decide)
    have hfin : ∀ u' G' M' rl' S' v' cap', SM G' M' rl' o S' (pzD D (zR D) 0) (zQ D) (yzD D (i + 1) 0) → TB G' M' rl' 20000 a v' cap' (txA1 D i (txA D i)) → UB (130 + 16 * i + 1 + 14) (4199 + 20 * i + 6 + 14) u' cap' (txA1 D i (txA D i)).length → ∃ k, k < m ∧ (o = o ∧ zn (zR D) = zn (zR D) ∧ zn (zN D) = zn (zN D) ∧ ∃ i2 rl1 S1 v1 cap1, k + i2 = zN D ∧ zn i2 = zn (i + 1) ∧ SM G' M' rl1 o S1 (pzD D (zR D) 0) (zQ D) (yzD D i2 0) ∧ TB G' M' rl1 20000 a v1 cap1 (txA D i2) ∧ UB (130 + 16 * i2) (4199 + 20 * i2) u' cap1 (txA D i2).length) := fun u' G' M' rl' S' v' cap' hM' hT' hU' => ⟨m - 1, by omega, rfl, rfl, rfl, i + 1, rl', S', v', cap', by omega, rfl, hM', hT', UB_mono hU' (by omega) (by omega)⟩
    refine i_if (fun k => ?_) (fun k => ?_)
    · have e := (zn_inj (a := bwN (zX D i) % 3) (b := 0) (by omega) (by decide)).mp k
      exact y_223 (f := 8) (c := 130 + 16 * i + 1) (d := 4199 + 20 * i + 6) hi2 hbb ⟨by omega, by omega⟩ M2 R2 T2 hP (by decide) (by unfold zAx; rw [if_pos e]) hfin
    · have e : ¬ bwN (zX D i) % 3 = 0 := fun z => k (show zn (bwN (zX D i) % 3) = 0 by rw [z]; rfl)
      exact y_223 (f := 1) (c := 130 + 16 * i + 1) (d := 4199 + 20 * i + 6) hi2 hbb ⟨by omega, by omega⟩ M2 R2 T2 hP (by decide) (by unfold zAx; rw [if_neg e]) hfin
end Ants
