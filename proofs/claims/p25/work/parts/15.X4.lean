-- X4_push
theorem wi_X4_push_X4 : ∀ w ∈ wsX40, w ∈ wsX4_push := by decide +kernel
abbrev rmX4_push : Room := { frames := 0, cells := 0, slots := 0, locals := 0 }
def m_X4_push (G : gS) (M : mS) (a0 : Nat) (c1 : Int32) : Option (mS × Unit) := (if (64 : Int32) ≤ (mI M a0 1) then some (M, ()) else o_rf (gP G a0 0) (fun q2 => o_ix (mI M a0 1) (gN G q2) (o_wI M q2 (Int32.toNatClampNeg (mI M a0 1)) c1 (fun M4 => o_wI M4 a0 1 ((mI M4 a0 1) + (1 : Int32)) (fun M5 => some (M5, ()))))))
set_option maxHeartbeats 4000000 in
set_option maxRecDepth 100000 in
theorem k_X4_push {l : Launch} {D : va_G} {cy : cyS} {G : gS} {M M' : mS} {a0 : Nat} {c1 : Int32} (hG : wt G) (hL0 : a0 ∈ gL G) (hK0 : gK G a0 = 3) (h : m_X4_push G M a0 c1 = some (M', ())) : ctV l yX4_push wsX4_push rmX4_push D cy G M [.ref a0, .int c1] M' := by
  unfold m_X4_push at h
  refine ctV_of (cc := cX4_push) (nL := 2) (ret := none) (lv := [(0, .ref a0), (1, .int c1)]) hG (by decide) rfl ⟨rfl, rfl⟩ (Nat.le_of_ble_eq_true rfl) rfl ?_
  intro p e s m args below meth c A ls cx w hl
  obtain ⟨hx, hb, hml, hown, hts, hr, hlocks, hK, hA, -, hsx⟩ := id cx
  have hkn : 0 ≤ (rmX4_push).cells ∧ 0 ≤ (rmX4_push).slots := ⟨Nat.zero_le _, Nat.zero_le _⟩
  refine lv_aload_n hx hb dX4_push_0 rfl (lv_at hl 0 rfl) ?_
  refine r_getI (k := 1) (v := .int (mI M a0 1)) cx w hL0 hK0 (by decide) rfl wi_X4_push_X4 (by decide) rfl (List.mem_of_getElem? (i := 1) rfl) dX4_push_1 ?_
  refine lv_bipush (v := (64 : Int32)) hx hb dX4_push_4 (by decide) ?_
  refine lv_icmp_ge (tgt := 29) hx hb dX4_push_6 (by decide) (fun k1 => ?_) (fun k1 => ?_)
  · have h := x_t h k1
    exact r_vret cx w h dX4_push_29
  · have h := x_f h k1
    refine lv_aload_n hx hb dX4_push_9 rfl (lv_at hl 0 rfl) ?_
    obtain ⟨q2, eq2, h⟩ := x_rf h
    obtain ⟨hLq2, hKq2⟩ := wt_q hG hL0 hK0 eq2
    have hKq2 : gK G q2 = 12 := hKq2
    refine r_getR (k := 0) cx w hL0 hK0 (by decide) rfl wi_X4_push_X4 (by decide) rfl eq2 (List.mem_of_getElem? (i := 2) rfl) dX4_push_10 ?_
    refine lv_aload_n hx hb dX4_push_13 rfl (lv_at hl 0 rfl) ?_
    refine r_getI (k := 1) (v := .int (mI M a0 1)) cx w hL0 hK0 (by decide) rfl wi_X4_push_X4 (by decide) rfl (List.mem_of_getElem? (i := 1) rfl) dX4_push_14 ?_
    refine lv_iload_n hx hb dX4_push_17 rfl (lv_at hl 1 rfl) ?_
    obtain ⟨z3, h⟩ := x_ix h
    obtain ⟨M4, eM4, h⟩ := x_wI h
    refine r_iast cx w hLq2 hKq2 z3 dX4_push_18 eM4 (fun H locs w => ?_)
    refine lv_aload_n hx hb dX4_push_19 rfl (lv_at hl 0 rfl) ?_
    refine lv_dup hx hb dX4_push_20 rfl ?_
    refine r_getI (k := 1) (v := .int (mI M4 a0 1)) cx w hL0 hK0 (by decide) rfl wi_X4_push_X4 (by decide) rfl (List.mem_of_getElem? (i := 1) rfl) dX4_push_21 ?_
    refine lv_iconst (v := (1 : Int32)) hx hb dX4_push_24 (by decide) ?_
    refine lv_iadd hx hb dX4_push_25 ?_
    obtain ⟨M5, eM5, h⟩ := x_wI h
    refine r_putI (k := 1) (ty := .int) cx w tyX4 tyX4_ok nmX4 hL0 hK0 (by decide) rfl wi_X4_push_X4 (by decide) rfl rfl rfl rfl st_3_1 (ln_3 _ _ (by decide)) (List.mem_of_getElem? (i := 1) rfl) dX4_push_26 eM5 (fun H locs w => ?_)
    exact r_vret cx w h dX4_push_29
-- X4_pop
theorem wi_X4_pop_X4 : ∀ w ∈ wsX40, w ∈ wsX4_pop := by decide +kernel
abbrev rmX4_pop : Room := { frames := 0, cells := 0, slots := 0, locals := 0 }
def m_X4_pop (G : gS) (M : mS) (a0 : Nat) : Option (mS × Int32) := (if 0 < (mI M a0 1) then o_wI M a0 1 ((mI M a0 1) - (1 : Int32)) (fun M2 => o_rf (gP G a0 0) (fun q3 => o_ix (mI M2 a0 1) (gN G q3) (some (M2, (mI M2 q3 (Int32.toNatClampNeg (mI M2 a0 1))))))) else some (M, (0 : Int32)))
set_option maxHeartbeats 4000000 in
set_option maxRecDepth 100000 in
theorem k_X4_pop {l : Launch} {D : va_G} {cy : cyS} {G : gS} {M M' : mS} {r : Int32} {a0 : Nat} (hG : wt G) (hL0 : a0 ∈ gL G) (hK0 : gK G a0 = 3) (h : m_X4_pop G M a0 = some (M', r)) : ctI l yX4_pop wsX4_pop rmX4_pop D cy G M [.ref a0] M' r := by
  unfold m_X4_pop at h
  refine ctI_of (cc := cX4_pop) (nL := 1) (ret := (some .int)) (lv := [(0, .ref a0)]) hG (by decide) rfl ⟨rfl, rfl⟩ (Nat.le_of_ble_eq_true rfl) rfl ?_
  intro p e s m args below meth c A ls cx w hl
  obtain ⟨hx, hb, hml, hown, hts, hr, hlocks, hK, hA, -, hsx⟩ := id cx
  have hkn : 0 ≤ (rmX4_pop).cells ∧ 0 ≤ (rmX4_pop).slots := ⟨Nat.zero_le _, Nat.zero_le _⟩
  refine lv_aload_n hx hb dX4_pop_0 rfl (lv_at hl 0 rfl) ?_
  refine r_getI (k := 1) (v := .int (mI M a0 1)) cx w hL0 hK0 (by decide) rfl wi_X4_pop_X4 (by decide) rfl (List.mem_of_getElem? (i := 1) rfl) dX4_pop_1 ?_
  refine lv_if_gt (tgt := 9) hx hb dX4_pop_4 (by decide) (fun k1 => ?_) (fun k1 => ?_)
  · have h := x_t h k1
    refine lv_aload_n hx hb dX4_pop_9 rfl (lv_at hl 0 rfl) ?_
    refine lv_dup hx hb dX4_pop_10 rfl ?_
    refine r_getI (k := 1) (v := .int (mI M a0 1)) cx w hL0 hK0 (by decide) rfl wi_X4_pop_X4 (by decide) rfl (List.mem_of_getElem? (i := 1) rfl) dX4_pop_11 ?_
    refine lv_iconst (v := (1 : Int32)) hx hb dX4_pop_14 (by decide) ?_
    refine lv_isub hx hb dX4_pop_15 ?_
    obtain ⟨M2, eM2, h⟩ := x_wI h
    refine r_putI (k := 1) (ty := .int) cx w tyX4 tyX4_ok nmX4 hL0 hK0 (by decide) rfl wi_X4_pop_X4 (by decide) rfl rfl rfl rfl st_3_1 (ln_3 _ _ (by decide)) (List.mem_of_getElem? (i := 1) rfl) dX4_pop_16 eM2 (fun H locs w => ?_)
    refine lv_aload_n hx hb dX4_pop_19 rfl (lv_at hl 0 rfl) ?_
    obtain ⟨q3, eq3, h⟩ := x_rf h
    obtain ⟨hLq3, hKq3⟩ := wt_q hG hL0 hK0 eq3
    have hKq3 : gK G q3 = 12 := hKq3
    refine r_getR (k := 0) cx w hL0 hK0 (by decide) rfl wi_X4_pop_X4 (by decide) rfl eq3 (List.mem_of_getElem? (i := 2) rfl) dX4_pop_20 ?_
    refine lv_aload_n hx hb dX4_pop_23 rfl (lv_at hl 0 rfl) ?_
    refine r_getI (k := 1) (v := .int (mI M2 a0 1)) cx w hL0 hK0 (by decide) rfl wi_X4_pop_X4 (by decide) rfl (List.mem_of_getElem? (i := 1) rfl) dX4_pop_24 ?_
    obtain ⟨z4, h⟩ := x_ix h
    refine r_iald cx w hLq3 hKq3 z4 dX4_pop_27 ?_
    exact r_iret cx w h dX4_pop_28
  · have h := x_f h k1
    refine lv_iconst (v := (0 : Int32)) hx hb dX4_pop_7 (by decide) ?_
    exact r_iret cx w h dX4_pop_8
-- X4_ofAnt
theorem wi_X4_ofAnt_X0 : ∀ w ∈ wsX00, w ∈ wsX4_ofAnt := by decide +kernel
theorem wi_X4_ofAnt_X8 : ∀ w ∈ wsX80, w ∈ wsX4_ofAnt := by decide +kernel
abbrev rmX4_ofAnt : Room := { frames := 2, cells := 0, slots := 0, locals := 47 }
def m_X4_ofAnt (G : gS) (M : mS) (c0 : Int32) (c1 : Int32) (a2 : Nat) : Option (mS × Int32) := (if c0 = 222 then o_rf (gP G a2 3) (fun q2 => o_ix c1 (gN G q2) (o_rf (gP G q2 (Int32.toNatClampNeg c1)) (fun q4 => some (M, (mI M q4 1))))) else if c0 = 223 then o_rf (gP G a2 3) (fun q6 => o_ix c1 (gN G q6) (o_rf (gP G q6 (Int32.toNatClampNeg c1)) (fun q8 => some (M, (mI M q8 2))))) else if c0 = 224 then o_rf (gP G a2 3) (fun q10 => o_ix c1 (gN G q10) (o_rf (gP G q10 (Int32.toNatClampNeg c1)) (fun q12 => o_cl (m_X0_period G M q12) (fun M13 r14 => some (M13, r14))))) else if c0 = 225 then some (M, (0 : Int32)) else if c0 = 226 then o_cl (m_X8_meetsAnother G M a2 c1) (fun M18 r19 => (if r19 = 0 then some (M18, (0 : Int32)) else some (M18, (1 : Int32)))) else if c0 = 227 then o_rf (gP G a2 3) (fun q23 => o_ix c1 (gN G q23) (o_rf (gP G q23 (Int32.toNatClampNeg c1)) (fun q25 => (if (mI M q25 4) = 0 then some (M, (1 : Int32)) else some (M, (0 : Int32)))))) else some (M, (0 : Int32)))
set_option maxHeartbeats 4000000 in
set_option maxRecDepth 100000 in
theorem k_X4_ofAnt {l : Launch} {D : va_G} {cy : cyS} {G : gS} {M M' : mS} {r : Int32} {c0 : Int32} {c1 : Int32} {a2 : Nat} (hG : wt G) (hL2 : a2 ∈ gL G) (hK2 : gK G a2 = 7) (h : m_X4_ofAnt G M c0 c1 a2 = some (M', r)) : ctI l yX4_ofAnt wsX4_ofAnt rmX4_ofAnt D cy G M [.int c0, .int c1, .ref a2] M' r := by
  unfold m_X4_ofAnt at h
  refine ctI_of (cc := cX4_ofAnt) (nL := 3) (ret := (some .int)) (lv := [(0, .int c0), (1, .int c1), (2, .ref a2)]) hG (by decide) rfl ⟨rfl, rfl⟩ (Nat.le_of_ble_eq_true rfl) rfl ?_
  intro p e s m args below meth c A ls cx w hl
  obtain ⟨hx, hb, hml, hown, hts, hr, hlocks, hK, hA, -, hsx⟩ := id cx
  have hkn : 0 ≤ (rmX4_ofAnt).cells ∧ 0 ≤ (rmX4_ofAnt).slots := ⟨Nat.zero_le _, Nat.zero_le _⟩
  refine lv_iload_n hx hb dX4_ofAnt_0 rfl (lv_at hl 0 rfl) ?_
  rcases Decidable.em (c0 = 222) with k1 | k1
  · have h := x_t h k1
    rw [k1]
    refine lv_tableIn (tgt := 40) hx hb dX4_ofAnt_1 (by decide) (by decide) rfl (by decide) ?_
    refine lv_aload_n hx hb dX4_ofAnt_40 rfl (lv_at hl 2 rfl) ?_
    obtain ⟨q2, eq2, h⟩ := x_rf h
    obtain ⟨hLq2, hKq2⟩ := wt_q hG hL2 hK2 eq2
    have hKq2 : gK G q2 = 14 := hKq2
    refine r_getR (k := 3) cx w hL2 hK2 (by decide) rfl wi_X4_ofAnt_X8 (by decide) rfl eq2 (List.mem_of_getElem? (i := 1) rfl) dX4_ofAnt_41 ?_
    refine lv_iload_n hx hb dX4_ofAnt_44 rfl (lv_at hl 1 rfl) ?_
    obtain ⟨z3, h⟩ := x_ix h
    obtain ⟨q4, eq4, h⟩ := x_rf h
    obtain ⟨hLq4, hKq4⟩ := wt_q hG hLq2 hKq2 eq4
    have hKq4 : gK G q4 = 0 := hKq4
    refine r_aald cx w hLq2 hKq2 z3 eq4 dX4_ofAnt_45 ?_
    refine r_getI (k := 1) (v := .int (mI M q4 1)) cx w hLq4 hKq4 (by decide) rfl wi_X4_ofAnt_X0 (by decide) rfl (List.mem_of_getElem? (i := 2) rfl) dX4_ofAnt_46 ?_
    exact r_iret cx w h dX4_ofAnt_49
  · have h := x_f h k1
    rcases Decidable.em (c0 = 223) with k5 | k5
    · have h := x_t h k5
      rw [k5]
      refine lv_tableIn (tgt := 50) hx hb dX4_ofAnt_1 (by decide) (by decide) rfl (by decide) ?_
      refine lv_aload_n hx hb dX4_ofAnt_50 rfl (lv_at hl 2 rfl) ?_
      obtain ⟨q6, eq6, h⟩ := x_rf h
      obtain ⟨hLq6, hKq6⟩ := wt_q hG hL2 hK2 eq6
      have hKq6 : gK G q6 = 14 := hKq6
      refine r_getR (k := 3) cx w hL2 hK2 (by decide) rfl wi_X4_ofAnt_X8 (by decide) rfl eq6 (List.mem_of_getElem? (i := 1) rfl) dX4_ofAnt_51 ?_
      refine lv_iload_n hx hb dX4_ofAnt_54 rfl (lv_at hl 1 rfl) ?_
      obtain ⟨z7, h⟩ := x_ix h
      obtain ⟨q8, eq8, h⟩ := x_rf h
      obtain ⟨hLq8, hKq8⟩ := wt_q hG hLq6 hKq6 eq8
      have hKq8 : gK G q8 = 0 := hKq8
      refine r_aald cx w hLq6 hKq6 z7 eq8 dX4_ofAnt_55 ?_
      refine r_getI (k := 2) (v := .int (mI M q8 2)) cx w hLq8 hKq8 (by decide) rfl wi_X4_ofAnt_X0 (by decide) rfl (List.mem_of_getElem? (i := 3) rfl) dX4_ofAnt_56 ?_
      exact r_iret cx w h dX4_ofAnt_59
    · have h := x_f h k5
      rcases Decidable.em (c0 = 224) with k9 | k9
      · have h := x_t h k9
        rw [k9]
        refine lv_tableIn (tgt := 60) hx hb dX4_ofAnt_1 (by decide) (by decide) rfl (by decide) ?_
        refine lv_aload_n hx hb dX4_ofAnt_60 rfl (lv_at hl 2 rfl) ?_
        obtain ⟨q10, eq10, h⟩ := x_rf h
        obtain ⟨hLq10, hKq10⟩ := wt_q hG hL2 hK2 eq10
        have hKq10 : gK G q10 = 14 := hKq10
        refine r_getR (k := 3) cx w hL2 hK2 (by decide) rfl wi_X4_ofAnt_X8 (by decide) rfl eq10 (List.mem_of_getElem? (i := 1) rfl) dX4_ofAnt_61 ?_
        refine lv_iload_n hx hb dX4_ofAnt_64 rfl (lv_at hl 1 rfl) ?_
        obtain ⟨z11, h⟩ := x_ix h
        obtain ⟨q12, eq12, h⟩ := x_rf h
        obtain ⟨hLq12, hKq12⟩ := wt_q hG hLq10 hKq10 eq12
        have hKq12 : gK G q12 = 0 := hKq12
        refine r_aald cx w hLq10 hKq10 z11 eq12 dX4_ofAnt_65 ?_
        obtain ⟨M13, r14, y15, h⟩ := x_cl h
        refine r_callVi (As := []) (rest := []) cx w hkn hl.1 (k_X0_period hG hLq12 hKq12 y15) (cwV 0 hts gX4_ofAnt_X0_period rfl rfl rfl (by decide +kernel) ⟨Nat.le_of_ble_eq_true rfl, Nat.le_of_ble_eq_true rfl⟩) hLq12 hKq12 (by decide) rfl rfl rfl (Nat.le_of_ble_eq_true rfl) dX4_ofAnt_66 (fun H locs w => ?_)
        exact r_iret cx w h dX4_ofAnt_69
      · have h := x_f h k9
        rcases Decidable.em (c0 = 225) with k16 | k16
        · have h := x_t h k16
          rw [k16]
          refine lv_tableIn (tgt := 102) hx hb dX4_ofAnt_1 (by decide) (by decide) rfl (by decide) ?_
          refine lv_iconst (v := (0 : Int32)) hx hb dX4_ofAnt_102 (by decide) ?_
          exact r_iret cx w h dX4_ofAnt_103
        · have h := x_f h k16
          rcases Decidable.em (c0 = 226) with k17 | k17
          · have h := x_t h k17
            rw [k17]
            refine lv_tableIn (tgt := 70) hx hb dX4_ofAnt_1 (by decide) (by decide) rfl (by decide) ?_
            refine lv_aload_n hx hb dX4_ofAnt_70 rfl (lv_at hl 2 rfl) ?_
            refine lv_iload_n hx hb dX4_ofAnt_71 rfl (lv_at hl 1 rfl) ?_
            obtain ⟨M18, r19, y20, h⟩ := x_cl h
            refine r_callVi (As := [.int c1]) (rest := []) cx w hkn hl.1 (k_X8_meetsAnother hG hL2 hK2 y20) (cwV 1 hts gX4_ofAnt_X8_meetsAnother rfl rfl rfl (by decide +kernel) ⟨Nat.le_of_ble_eq_true rfl, Nat.le_of_ble_eq_true rfl⟩) hL2 hK2 (by decide) rfl rfl rfl (Nat.le_of_ble_eq_true rfl) dX4_ofAnt_72 (fun H locs w => ?_)
            refine lv_if_eq (tgt := 82) hx hb dX4_ofAnt_75 (by decide) (fun k21 => ?_) (fun k21 => ?_)
            · have h := x_t h k21
              refine lv_iconst (v := (0 : Int32)) hx hb dX4_ofAnt_82 (by decide) ?_
              exact r_iret cx w h dX4_ofAnt_83
            · have h := x_f h k21
              refine lv_iconst (v := (1 : Int32)) hx hb dX4_ofAnt_78 (by decide) ?_
              refine lv_goto (tgt := 83) hx hb dX4_ofAnt_79 (by decide) ?_
              exact r_iret cx w h dX4_ofAnt_83
          · have h := x_f h k17
            rcases Decidable.em (c0 = 227) with k22 | k22
            · have h := x_t h k22
              rw [k22]
              refine lv_tableIn (tgt := 84) hx hb dX4_ofAnt_1 (by decide) (by decide) rfl (by decide) ?_
              refine lv_aload_n hx hb dX4_ofAnt_84 rfl (lv_at hl 2 rfl) ?_
              obtain ⟨q23, eq23, h⟩ := x_rf h
              obtain ⟨hLq23, hKq23⟩ := wt_q hG hL2 hK2 eq23
              have hKq23 : gK G q23 = 14 := hKq23
              refine r_getR (k := 3) cx w hL2 hK2 (by decide) rfl wi_X4_ofAnt_X8 (by decide) rfl eq23 (List.mem_of_getElem? (i := 1) rfl) dX4_ofAnt_85 ?_
              refine lv_iload_n hx hb dX4_ofAnt_88 rfl (lv_at hl 1 rfl) ?_
              obtain ⟨z24, h⟩ := x_ix h
              obtain ⟨q25, eq25, h⟩ := x_rf h
              obtain ⟨hLq25, hKq25⟩ := wt_q hG hLq23 hKq23 eq25
              have hKq25 : gK G q25 = 0 := hKq25
              refine r_aald cx w hLq23 hKq23 z24 eq25 dX4_ofAnt_89 ?_
              refine r_getI (k := 4) (v := .int (mI M q25 4)) cx w hLq25 hKq25 (by decide) rfl wi_X4_ofAnt_X0 (by decide) rfl (List.mem_of_getElem? (i := 4) rfl) dX4_ofAnt_90 ?_
              refine lv_if_eq (tgt := 100) hx hb dX4_ofAnt_93 (by decide) (fun k26 => ?_) (fun k26 => ?_)
              · have h := x_t h k26
                refine lv_iconst (v := (1 : Int32)) hx hb dX4_ofAnt_100 (by decide) ?_
                exact r_iret cx w h dX4_ofAnt_101
              · have h := x_f h k26
                refine lv_iconst (v := (0 : Int32)) hx hb dX4_ofAnt_96 (by decide) ?_
                refine lv_goto (tgt := 101) hx hb dX4_ofAnt_97 (by decide) ?_
                exact r_iret cx w h dX4_ofAnt_101
            · have h := x_f h k22
              refine lv_tableOut (tgt := 102) hx hb dX4_ofAnt_1 (by have nk1 : Int32.toInt c0 ≠ 222 := fun hh => k1 (Int32.toInt_inj.mp hh); have nk5 : Int32.toInt c0 ≠ 223 := fun hh => k5 (Int32.toInt_inj.mp hh); have nk9 : Int32.toInt c0 ≠ 224 := fun hh => k9 (Int32.toInt_inj.mp hh); have nk16 : Int32.toInt c0 ≠ 225 := fun hh => k16 (Int32.toInt_inj.mp hh); have nk17 : Int32.toInt c0 ≠ 226 := fun hh => k17 (Int32.toInt_inj.mp hh); have nk22 : Int32.toInt c0 ≠ 227 := fun hh => k22 (Int32.toInt_inj.mp hh); omega) (by decide) ?_
              refine lv_iconst (v := (0 : Int32)) hx hb dX4_ofAnt_102 (by decide) ?_
              exact r_iret cx w h dX4_ofAnt_103
-- X4_ofTwo
abbrev rmX4_ofTwo : Room := { frames := 1, cells := 0, slots := 0, locals := 60 }
def m_X4_ofTwo (G : gS) (M : mS) (c0 : Int32) (c1 : Int32) (c2 : Int32) : Option (mS × Int32) := (if c0 = 42 then some (M, (c1 * c2)) else if c0 = 43 then some (M, (c1 + c2)) else if c0 = 45 then some (M, (c1 - c2)) else if c0 = 47 then (if c2 = 0 then some (M, (0 : Int32)) else o_ck (¬ c2 = 0) (some (M, (c1 / c2)))) else if c0 = 60 then (if c2 ≤ c1 then some (M, (0 : Int32)) else some (M, (1 : Int32))) else if c0 = 61 then (if c1 = c2 then some (M, (1 : Int32)) else some (M, (0 : Int32))) else if c0 = 62 then (if c1 ≤ c2 then some (M, (0 : Int32)) else some (M, (1 : Int32))) else if c0 = 128 then (if c2 < c1 then some (M, (0 : Int32)) else some (M, (1 : Int32))) else if c0 = 129 then (if c1 < c2 then some (M, (0 : Int32)) else some (M, (1 : Int32))) else if c0 = 229 then some (M, (c1 &&& c2)) else if c0 = 230 then some (M, (c1 ||| c2)) else if c0 = 231 then some (M, (if c2 < c1 then c2 else c1)) else if c0 = 232 then some (M, (if c1 < c2 then c2 else c1)) else some (M, (0 : Int32)))
set_option maxHeartbeats 4000000 in
set_option maxRecDepth 100000 in
theorem k_X4_ofTwo {l : Launch} {D : va_G} {cy : cyS} {G : gS} {M M' : mS} {r : Int32} {c0 : Int32} {c1 : Int32} {c2 : Int32} (hG : wt G)  (h : m_X4_ofTwo G M c0 c1 c2 = some (M', r)) : ctI l yX4_ofTwo wsX4_ofTwo rmX4_ofTwo D cy G M [.int c0, .int c1, .int c2] M' r := by
  unfold m_X4_ofTwo at h
  refine ctI_of (cc := cX4_ofTwo) (nL := 3) (ret := (some .int)) (lv := [(0, .int c0), (1, .int c1), (2, .int c2)]) hG (by decide) rfl ⟨rfl, rfl⟩ (Nat.le_of_ble_eq_true rfl) rfl ?_
  intro p e s m args below meth c A ls cx w hl
  obtain ⟨hx, hb, hml, hown, hts, hr, hlocks, hK, hA, -, hsx⟩ := id cx
  have hkn : 0 ≤ (rmX4_ofTwo).cells ∧ 0 ≤ (rmX4_ofTwo).slots := ⟨Nat.zero_le _, Nat.zero_le _⟩
  refine lv_iload_n hx hb dX4_ofTwo_0 rfl (lv_at hl 0 rfl) ?_
  rcases Decidable.em (c0 = 42) with k1 | k1
  · have h := x_t h k1
    rw [k1]
    refine lv_lookup (tgt := 124) hx hb dX4_ofTwo_1 (by decide) rfl (by decide) ?_
    refine lv_iload_n hx hb dX4_ofTwo_124 rfl (lv_at hl 1 rfl) ?_
    refine lv_iload_n hx hb dX4_ofTwo_125 rfl (lv_at hl 2 rfl) ?_
    refine lv_imul hx hb dX4_ofTwo_126 ?_
    exact r_iret cx w h dX4_ofTwo_127
  · have h := x_f h k1
    rcases Decidable.em (c0 = 43) with k2 | k2
    · have h := x_t h k2
      rw [k2]
      refine lv_lookup (tgt := 116) hx hb dX4_ofTwo_1 (by decide) rfl (by decide) ?_
      refine lv_iload_n hx hb dX4_ofTwo_116 rfl (lv_at hl 1 rfl) ?_
      refine lv_iload_n hx hb dX4_ofTwo_117 rfl (lv_at hl 2 rfl) ?_
      refine lv_iadd hx hb dX4_ofTwo_118 ?_
      exact r_iret cx w h dX4_ofTwo_119
    · have h := x_f h k2
      rcases Decidable.em (c0 = 45) with k3 | k3
      · have h := x_t h k3
        rw [k3]
        refine lv_lookup (tgt := 120) hx hb dX4_ofTwo_1 (by decide) rfl (by decide) ?_
        refine lv_iload_n hx hb dX4_ofTwo_120 rfl (lv_at hl 1 rfl) ?_
        refine lv_iload_n hx hb dX4_ofTwo_121 rfl (lv_at hl 2 rfl) ?_
        refine lv_isub hx hb dX4_ofTwo_122 ?_
        exact r_iret cx w h dX4_ofTwo_123
      · have h := x_f h k3
        rcases Decidable.em (c0 = 47) with k4 | k4
        · have h := x_t h k4
          rw [k4]
          refine lv_lookup (tgt := 128) hx hb dX4_ofTwo_1 (by decide) rfl (by decide) ?_
          refine lv_iload_n hx hb dX4_ofTwo_128 rfl (lv_at hl 2 rfl) ?_
          refine lv_if_ne (tgt := 136) hx hb dX4_ofTwo_129 (by decide) (fun k5 => ?_) (fun k5 => ?_)
          · have h := x_f h k5
            refine lv_iload_n hx hb dX4_ofTwo_136 rfl (lv_at hl 1 rfl) ?_
            refine lv_iload_n hx hb dX4_ofTwo_137 rfl (lv_at hl 2 rfl) ?_
            obtain ⟨z6, h⟩ := x_ck h
            refine lv_idiv hx hb dX4_ofTwo_138 z6 ?_
            exact r_iret cx w h dX4_ofTwo_139
          · have h := x_t h k5
            refine lv_iconst (v := (0 : Int32)) hx hb dX4_ofTwo_132 (by decide) ?_
            refine lv_goto (tgt := 139) hx hb dX4_ofTwo_133 (by decide) ?_
            exact r_iret cx w h dX4_ofTwo_139
        · have h := x_f h k4
          rcases Decidable.em (c0 = 60) with k7 | k7
          · have h := x_t h k7
            rw [k7]
            refine lv_lookup (tgt := 140) hx hb dX4_ofTwo_1 (by decide) rfl (by decide) ?_
            refine lv_iload_n hx hb dX4_ofTwo_140 rfl (lv_at hl 1 rfl) ?_
            refine lv_iload_n hx hb dX4_ofTwo_141 rfl (lv_at hl 2 rfl) ?_
            refine lv_icmp_ge (tgt := 149) hx hb dX4_ofTwo_142 (by decide) (fun k8 => ?_) (fun k8 => ?_)
            · have h := x_t h k8
              refine lv_iconst (v := (0 : Int32)) hx hb dX4_ofTwo_149 (by decide) ?_
              exact r_iret cx w h dX4_ofTwo_150
            · have h := x_f h k8
              refine lv_iconst (v := (1 : Int32)) hx hb dX4_ofTwo_145 (by decide) ?_
              refine lv_goto (tgt := 150) hx hb dX4_ofTwo_146 (by decide) ?_
              exact r_iret cx w h dX4_ofTwo_150
          · have h := x_f h k7
            rcases Decidable.em (c0 = 61) with k9 | k9
            · have h := x_t h k9
              rw [k9]
              refine lv_lookup (tgt := 162) hx hb dX4_ofTwo_1 (by decide) rfl (by decide) ?_
              refine lv_iload_n hx hb dX4_ofTwo_162 rfl (lv_at hl 1 rfl) ?_
              refine lv_iload_n hx hb dX4_ofTwo_163 rfl (lv_at hl 2 rfl) ?_
              refine lv_icmp_ne (tgt := 171) hx hb dX4_ofTwo_164 (by decide) (fun k10 => ?_) (fun k10 => ?_)
              · have h := x_f h k10
                refine lv_iconst (v := (0 : Int32)) hx hb dX4_ofTwo_171 (by decide) ?_
                exact r_iret cx w h dX4_ofTwo_172
              · have h := x_t h k10
                refine lv_iconst (v := (1 : Int32)) hx hb dX4_ofTwo_167 (by decide) ?_
                refine lv_goto (tgt := 172) hx hb dX4_ofTwo_168 (by decide) ?_
                exact r_iret cx w h dX4_ofTwo_172
            · have h := x_f h k9
              rcases Decidable.em (c0 = 62) with k11 | k11
              · have h := x_t h k11
                rw [k11]
                refine lv_lookup (tgt := 151) hx hb dX4_ofTwo_1 (by decide) rfl (by decide) ?_
                refine lv_iload_n hx hb dX4_ofTwo_151 rfl (lv_at hl 1 rfl) ?_
                refine lv_iload_n hx hb dX4_ofTwo_152 rfl (lv_at hl 2 rfl) ?_
                refine lv_icmp_le (tgt := 160) hx hb dX4_ofTwo_153 (by decide) (fun k12 => ?_) (fun k12 => ?_)
                · have h := x_t h k12
                  refine lv_iconst (v := (0 : Int32)) hx hb dX4_ofTwo_160 (by decide) ?_
                  exact r_iret cx w h dX4_ofTwo_161
                · have h := x_f h k12
                  refine lv_iconst (v := (1 : Int32)) hx hb dX4_ofTwo_156 (by decide) ?_
                  refine lv_goto (tgt := 161) hx hb dX4_ofTwo_157 (by decide) ?_
                  exact r_iret cx w h dX4_ofTwo_161
              · have h := x_f h k11
                rcases Decidable.em (c0 = 128) with k13 | k13
                · have h := x_t h k13
                  rw [k13]
                  refine lv_lookup (tgt := 173) hx hb dX4_ofTwo_1 (by decide) rfl (by decide) ?_
                  refine lv_iload_n hx hb dX4_ofTwo_173 rfl (lv_at hl 1 rfl) ?_
                  refine lv_iload_n hx hb dX4_ofTwo_174 rfl (lv_at hl 2 rfl) ?_
                  refine lv_icmp_gt (tgt := 182) hx hb dX4_ofTwo_175 (by decide) (fun k14 => ?_) (fun k14 => ?_)
                  · have h := x_t h k14
                    refine lv_iconst (v := (0 : Int32)) hx hb dX4_ofTwo_182 (by decide) ?_
                    exact r_iret cx w h dX4_ofTwo_183
                  · have h := x_f h k14
                    refine lv_iconst (v := (1 : Int32)) hx hb dX4_ofTwo_178 (by decide) ?_
                    refine lv_goto (tgt := 183) hx hb dX4_ofTwo_179 (by decide) ?_
                    exact r_iret cx w h dX4_ofTwo_183
                · have h := x_f h k13
                  rcases Decidable.em (c0 = 129) with k15 | k15
                  · have h := x_t h k15
                    rw [k15]
                    refine lv_lookup (tgt := 184) hx hb dX4_ofTwo_1 (by decide) rfl (by decide) ?_
                    refine lv_iload_n hx hb dX4_ofTwo_184 rfl (lv_at hl 1 rfl) ?_
                    refine lv_iload_n hx hb dX4_ofTwo_185 rfl (lv_at hl 2 rfl) ?_
                    refine lv_icmp_lt (tgt := 193) hx hb dX4_ofTwo_186 (by decide) (fun k16 => ?_) (fun k16 => ?_)
                    · have h := x_t h k16
                      refine lv_iconst (v := (0 : Int32)) hx hb dX4_ofTwo_193 (by decide) ?_
                      exact r_iret cx w h dX4_ofTwo_194
                    · have h := x_f h k16
                      refine lv_iconst (v := (1 : Int32)) hx hb dX4_ofTwo_189 (by decide) ?_
                      refine lv_goto (tgt := 194) hx hb dX4_ofTwo_190 (by decide) ?_
                      exact r_iret cx w h dX4_ofTwo_194
                  · have h := x_f h k15
                    rcases Decidable.em (c0 = 229) with k17 | k17
                    · have h := x_t h k17
                      rw [k17]
                      refine lv_lookup (tgt := 207) hx hb dX4_ofTwo_1 (by decide) rfl (by decide) ?_
                      refine lv_iload_n hx hb dX4_ofTwo_207 rfl (lv_at hl 1 rfl) ?_
                      refine lv_iload_n hx hb dX4_ofTwo_208 rfl (lv_at hl 2 rfl) ?_
                      refine lv_iand hx hb dX4_ofTwo_209 ?_
                      exact r_iret cx w h dX4_ofTwo_210
                    · have h := x_f h k17
                      rcases Decidable.em (c0 = 230) with k18 | k18
                      · have h := x_t h k18
                        rw [k18]
                        refine lv_lookup (tgt := 211) hx hb dX4_ofTwo_1 (by decide) rfl (by decide) ?_
                        refine lv_iload_n hx hb dX4_ofTwo_211 rfl (lv_at hl 1 rfl) ?_
                        refine lv_iload_n hx hb dX4_ofTwo_212 rfl (lv_at hl 2 rfl) ?_
                        refine lv_ior hx hb dX4_ofTwo_213 ?_
                        exact r_iret cx w h dX4_ofTwo_214
                      · have h := x_f h k18
                        rcases Decidable.em (c0 = 231) with k19 | k19
                        · have h := x_t h k19
                          rw [k19]
                          refine lv_lookup (tgt := 195) hx hb dX4_ofTwo_1 (by decide) rfl (by decide) ?_
                          refine lv_iload_n hx hb dX4_ofTwo_195 rfl (lv_at hl 1 rfl) ?_
                          refine lv_iload_n hx hb dX4_ofTwo_196 rfl (lv_at hl 2 rfl) ?_
                          refine va_mmin hx hb (hml.trans hl.1.symm) hown (hts _ (List.mem_of_getElem? (i := 1) rfl)) (hts _ (List.mem_of_getElem? (i := 2) rfl)) (hts _ (List.mem_of_getElem? (i := 3) rfl)) (hts _ (List.mem_of_getElem? (i := 4) rfl)) (Nat.le_of_ble_eq_true rfl) (Nat.le_of_ble_eq_true rfl) hkn.1 hkn.2 dX4_ofTwo_197 ?_
                          exact r_iret cx w h dX4_ofTwo_200
                        · have h := x_f h k19
                          rcases Decidable.em (c0 = 232) with k20 | k20
                          · have h := x_t h k20
                            rw [k20]
                            refine lv_lookup (tgt := 201) hx hb dX4_ofTwo_1 (by decide) rfl (by decide) ?_
                            refine lv_iload_n hx hb dX4_ofTwo_201 rfl (lv_at hl 1 rfl) ?_
                            refine lv_iload_n hx hb dX4_ofTwo_202 rfl (lv_at hl 2 rfl) ?_
                            refine va_mmax hx hb (hml.trans hl.1.symm) hown (hts _ (List.mem_of_getElem? (i := 5) rfl)) (hts _ (List.mem_of_getElem? (i := 6) rfl)) (hts _ (List.mem_of_getElem? (i := 3) rfl)) (hts _ (List.mem_of_getElem? (i := 7) rfl)) (Nat.le_of_ble_eq_true rfl) (Nat.le_of_ble_eq_true rfl) hkn.1 hkn.2 dX4_ofTwo_203 ?_
                            exact r_iret cx w h dX4_ofTwo_206
                          · have h := x_f h k20
                            refine lv_lookup (tgt := 215) hx hb dX4_ofTwo_1 (by decide) (off := 214) (by have nk1 : ¬ (42 = Int32.toInt c0) := fun hh => k1 (Int32.toInt_inj.mp hh.symm); have nk2 : ¬ (43 = Int32.toInt c0) := fun hh => k2 (Int32.toInt_inj.mp hh.symm); have nk3 : ¬ (45 = Int32.toInt c0) := fun hh => k3 (Int32.toInt_inj.mp hh.symm); have nk4 : ¬ (47 = Int32.toInt c0) := fun hh => k4 (Int32.toInt_inj.mp hh.symm); have nk7 : ¬ (60 = Int32.toInt c0) := fun hh => k7 (Int32.toInt_inj.mp hh.symm); have nk9 : ¬ (61 = Int32.toInt c0) := fun hh => k9 (Int32.toInt_inj.mp hh.symm); have nk11 : ¬ (62 = Int32.toInt c0) := fun hh => k11 (Int32.toInt_inj.mp hh.symm); have nk13 : ¬ (128 = Int32.toInt c0) := fun hh => k13 (Int32.toInt_inj.mp hh.symm); have nk15 : ¬ (129 = Int32.toInt c0) := fun hh => k15 (Int32.toInt_inj.mp hh.symm); have nk17 : ¬ (229 = Int32.toInt c0) := fun hh => k17 (Int32.toInt_inj.mp hh.symm); have nk18 : ¬ (230 = Int32.toInt c0) := fun hh => k18 (Int32.toInt_inj.mp hh.symm); have nk19 : ¬ (231 = Int32.toInt c0) := fun hh => k19 (Int32.toInt_inj.mp hh.symm); have nk20 : ¬ (232 = Int32.toInt c0) := fun hh => k20 (Int32.toInt_inj.mp hh.symm); simp [Op.lookupswitch.offset, nk1, nk2, nk3, nk4, nk7, nk9, nk11, nk13, nk15, nk17, nk18, nk19, nk20]) (by decide) ?_
                            refine lv_iconst (v := (0 : Int32)) hx hb dX4_ofTwo_215 (by decide) ?_
                            exact r_iret cx w h dX4_ofTwo_216
-- X4_reckon
theorem wi_X4_reckon_X8 : ∀ w ∈ wsX80, w ∈ wsX4_reckon := by decide +kernel
abbrev rmX4_reckon : Room := { frames := 3, cells := 0, slots := 0, locals := 82 }
def m_X4_reckon_195 (G : gS) (a0 : Nat) (c1 : Int32) (c2 : Int32) (a3 : Nat)  (M : mS) (s1 : Int32) : Option (mS × Unit) := o_cl (m_X4_push G M a0 s1) (fun M1 r2 => some (M1, ()))
def m_X4_reckon_170 (G : gS) (a0 : Nat) (c1 : Int32) (c2 : Int32) (a3 : Nat)  (M : mS) (s1 : Int32) : Option (mS × Unit) := o_cl (m_X4_push G M a0 s1) (fun M1 r2 => some (M1, ()))
def m_X4_reckon (G : gS) (M : mS) (a0 : Nat) (c1 : Int32) (c2 : Int32) (a3 : Nat) : Option (mS × Unit) := (if c1 = 3 then o_cl (m_X4_push G M a0 c2) (fun M2 r3 => some (M2, ())) else if c1 = 4 then o_cl (m_X4_pop G M a0) (fun M6 r7 => o_cl (m_X4_push G M6 a0 (-r7)) (fun M9 r10 => some (M9, ()))) else if c1 = 220 then o_cl (m_X4_push G M a0 (mI M a3 5)) (fun M13 r14 => some (M13, ())) else if c1 = 221 then o_cl (m_X8_darkStones G M a3) (fun M17 r18 => o_cl (m_X4_push G M17 a0 r18) (fun M20 r21 => some (M20, ()))) else if c1 = 222 then o_cl (m_X8_hasAnt G M a3 c2) (fun M24 r25 => (if r25 = 0 then m_X4_reckon_195 G a0 c1 c2 a3 M24 ((0 : Int32)) else o_cl (m_X4_ofAnt G M24 c1 c2 a3) (fun M28 r29 => m_X4_reckon_195 G a0 c1 c2 a3 M28 r29))) else if c1 = 223 then o_cl (m_X8_hasAnt G M a3 c2) (fun M32 r33 => (if r33 = 0 then m_X4_reckon_195 G a0 c1 c2 a3 M32 ((0 : Int32)) else o_cl (m_X4_ofAnt G M32 c1 c2 a3) (fun M36 r37 => m_X4_reckon_195 G a0 c1 c2 a3 M36 r37))) else if c1 = 224 then o_cl (m_X8_hasAnt G M a3 c2) (fun M40 r41 => (if r41 = 0 then m_X4_reckon_195 G a0 c1 c2 a3 M40 ((0 : Int32)) else o_cl (m_X4_ofAnt G M40 c1 c2 a3) (fun M44 r45 => m_X4_reckon_195 G a0 c1 c2 a3 M44 r45))) else if c1 = 225 then o_cl (m_X4_pop G M a0) (fun M48 r49 => o_cl (m_X8_darkInRow G M48 a3 r49) (fun M51 r52 => o_cl (m_X4_push G M51 a0 r52) (fun M54 r55 => some (M54, ())))) else if c1 = 226 then o_cl (m_X8_hasAnt G M a3 c2) (fun M58 r59 => (if r59 = 0 then m_X4_reckon_195 G a0 c1 c2 a3 M58 ((0 : Int32)) else o_cl (m_X4_ofAnt G M58 c1 c2 a3) (fun M62 r63 => m_X4_reckon_195 G a0 c1 c2 a3 M62 r63))) else if c1 = 227 then o_cl (m_X8_hasAnt G M a3 c2) (fun M66 r67 => (if r67 = 0 then m_X4_reckon_195 G a0 c1 c2 a3 M66 ((0 : Int32)) else o_cl (m_X4_ofAnt G M66 c1 c2 a3) (fun M70 r71 => m_X4_reckon_195 G a0 c1 c2 a3 M70 r71))) else if c1 = 228 then o_cl (m_X4_pop G M a0) (fun M74 r75 => (if r75 = 0 then m_X4_reckon_170 G a0 c1 c2 a3 M74 ((1 : Int32)) else m_X4_reckon_170 G a0 c1 c2 a3 M74 ((0 : Int32)))) else o_cl (m_X4_pop G M a0) (fun M78 r79 => o_cl (m_X4_pop G M78 a0) (fun M81 r82 => o_cl (m_X4_ofTwo G M81 c1 r82 r79) (fun M84 r85 => o_cl (m_X4_push G M84 a0 r85) (fun M87 r88 => some (M87, ()))))))
set_option maxHeartbeats 4000000 in
set_option maxRecDepth 100000 in
theorem b_X4_reckon_195 {p : Program} {e : Env} {s : State} {m : MethodId} {args : Array Value} {below : List Frame} {meth : Method} {c : Code} {A : Nat → Prop} {l : Launch} {D : va_G} {cy : cyS} {G : gS} (cx : cX p s m args meth c cX4_reckon RX4 6 none wsX4_reckon D cy G A) {k0 n0 : Nat} (hkn : k0 ≤ (rmX4_reckon).cells ∧ n0 ≤ (rmX4_reckon).slots) {M' : mS} {a0 : Nat} {c1 : Int32} {c2 : Int32} {a3 : Nat} (hL0 : a0 ∈ gL G) (hK0 : gK G a0 = 3) (hL3 : a3 ∈ gL G) (hK3 : gK G a3 = 7)  : ∀ (M : mS) (s1 : Int32) (H : Heap) (locs : List Loc) (ls : Array Slot), m_X4_reckon_195 G a0 c1 c2 a3 M s1 = some (M', ()) → wd D cy G M A s.heap H locs → lv_has ls 6 [] → W p l e rmX4_reckon s m args below meth c H locs k0 n0 (MQ below (va_Qv (fun (_ : Unit) => True) (fun _ t => wOut D cy G M' t) A) args s k0 n0 A) (F0 m 195 ls [.int s1, .ref a0]) := by
  obtain ⟨hx, hb, hml, hown, hts, hr, hlocks, hK, hA, hG, hsx⟩ := id cx
  intro M s1 H locs ls h w hl
  unfold m_X4_reckon_195 at h
  obtain ⟨M1, r2, y3, h⟩ := x_cl h
  refine r_callVv (As := [.int s1]) (rest := []) cx w hkn hl.1 (k_X4_push hG hL0 hK0 y3) (cwV 1 hts gX4_reckon_X4_push rfl rfl rfl (by decide +kernel) ⟨Nat.le_of_ble_eq_true rfl, Nat.le_of_ble_eq_true rfl⟩) hL0 hK0 (by decide) rfl rfl rfl (Nat.le_of_ble_eq_true rfl) dX4_reckon_195 (fun H locs w => ?_)
  refine lv_goto (tgt := 225) hx hb dX4_reckon_198 (by decide) ?_
  exact r_vret cx w h dX4_reckon_225
set_option maxHeartbeats 4000000 in
set_option maxRecDepth 100000 in
theorem b_X4_reckon_170 {p : Program} {e : Env} {s : State} {m : MethodId} {args : Array Value} {below : List Frame} {meth : Method} {c : Code} {A : Nat → Prop} {l : Launch} {D : va_G} {cy : cyS} {G : gS} (cx : cX p s m args meth c cX4_reckon RX4 6 none wsX4_reckon D cy G A) {k0 n0 : Nat} (hkn : k0 ≤ (rmX4_reckon).cells ∧ n0 ≤ (rmX4_reckon).slots) {M' : mS} {a0 : Nat} {c1 : Int32} {c2 : Int32} {a3 : Nat} (hL0 : a0 ∈ gL G) (hK0 : gK G a0 = 3) (hL3 : a3 ∈ gL G) (hK3 : gK G a3 = 7)  : ∀ (M : mS) (s1 : Int32) (H : Heap) (locs : List Loc) (ls : Array Slot), m_X4_reckon_170 G a0 c1 c2 a3 M s1 = some (M', ()) → wd D cy G M A s.heap H locs → lv_has ls 6 [] → W p l e rmX4_reckon s m args below meth c H locs k0 n0 (MQ below (va_Qv (fun (_ : Unit) => True) (fun _ t => wOut D cy G M' t) A) args s k0 n0 A) (F0 m 170 ls [.int s1, .ref a0]) := by
  obtain ⟨hx, hb, hml, hown, hts, hr, hlocks, hK, hA, hG, hsx⟩ := id cx
  intro M s1 H locs ls h w hl
  unfold m_X4_reckon_170 at h
  obtain ⟨M1, r2, y3, h⟩ := x_cl h
  refine r_callVv (As := [.int s1]) (rest := []) cx w hkn hl.1 (k_X4_push hG hL0 hK0 y3) (cwV 1 hts gX4_reckon_X4_push rfl rfl rfl (by decide +kernel) ⟨Nat.le_of_ble_eq_true rfl, Nat.le_of_ble_eq_true rfl⟩) hL0 hK0 (by decide) rfl rfl rfl (Nat.le_of_ble_eq_true rfl) dX4_reckon_170 (fun H locs w => ?_)
  refine lv_goto (tgt := 225) hx hb dX4_reckon_173 (by decide) ?_
  exact r_vret cx w h dX4_reckon_225
set_option maxHeartbeats 4000000 in
set_option maxRecDepth 100000 in
theorem k_X4_reckon {l : Launch} {D : va_G} {cy : cyS} {G : gS} {M M' : mS} {a0 : Nat} {c1 : Int32} {c2 : Int32} {a3 : Nat} (hG : wt G) (hL0 : a0 ∈ gL G) (hK0 : gK G a0 = 3) (hL3 : a3 ∈ gL G) (hK3 : gK G a3 = 7) (h : m_X4_reckon G M a0 c1 c2 a3 = some (M', ())) : ctV l yX4_reckon wsX4_reckon rmX4_reckon D cy G M [.ref a0, .int c1, .int c2, .ref a3] M' := by
  unfold m_X4_reckon at h
  refine ctV_of (cc := cX4_reckon) (nL := 6) (ret := none) (lv := [(0, .ref a0), (1, .int c1), (2, .int c2), (3, .ref a3)]) hG (by decide) rfl ⟨rfl, rfl⟩ (Nat.le_of_ble_eq_true rfl) rfl ?_
  intro p e s m args below meth c A ls cx w hl
  obtain ⟨hx, hb, hml, hown, hts, hr, hlocks, hK, hA, -, hsx⟩ := id cx
  have hkn : 0 ≤ (rmX4_reckon).cells ∧ 0 ≤ (rmX4_reckon).slots := ⟨Nat.zero_le _, Nat.zero_le _⟩
  refine lv_iload_n hx hb dX4_reckon_0 rfl (lv_at hl 1 rfl) ?_
  rcases Decidable.em (c1 = 3) with k1 | k1
  · have h := x_t h k1
    rw [k1]
    refine lv_lookup (tgt := 100) hx hb dX4_reckon_1 (by decide) rfl (by decide) ?_
    refine lv_aload_n hx hb dX4_reckon_100 rfl (lv_at hl 0 rfl) ?_
    refine lv_iload_n hx hb dX4_reckon_101 rfl (lv_at hl 2 rfl) ?_
    obtain ⟨M2, r3, y4, h⟩ := x_cl h
    refine r_callVv (As := [.int c2]) (rest := []) cx w hkn hl.1 (k_X4_push hG hL0 hK0 y4) (cwV 1 hts gX4_reckon_X4_push rfl rfl rfl (by decide +kernel) ⟨Nat.le_of_ble_eq_true rfl, Nat.le_of_ble_eq_true rfl⟩) hL0 hK0 (by decide) rfl rfl rfl (Nat.le_of_ble_eq_true rfl) dX4_reckon_102 (fun H locs w => ?_)
    refine lv_goto (tgt := 225) hx hb dX4_reckon_105 (by decide) ?_
    exact r_vret cx w h dX4_reckon_225
  · have h := x_f h k1
    rcases Decidable.em (c1 = 4) with k5 | k5
    · have h := x_t h k5
      rw [k5]
      refine lv_lookup (tgt := 145) hx hb dX4_reckon_1 (by decide) rfl (by decide) ?_
      refine lv_aload_n hx hb dX4_reckon_145 rfl (lv_at hl 0 rfl) ?_
      refine lv_aload_n hx hb dX4_reckon_146 rfl (lv_at hl 0 rfl) ?_
      obtain ⟨M6, r7, y8, h⟩ := x_cl h
      refine r_callVi (As := []) (rest := [.ref a0]) cx w hkn hl.1 (k_X4_pop hG hL0 hK0 y8) (cwV 0 hts gX4_reckon_X4_pop rfl rfl rfl (by decide +kernel) ⟨Nat.le_of_ble_eq_true rfl, Nat.le_of_ble_eq_true rfl⟩) hL0 hK0 (by decide) rfl rfl rfl (Nat.le_of_ble_eq_true rfl) dX4_reckon_147 (fun H locs w => ?_)
      refine lv_ineg hx hb dX4_reckon_150 ?_
      obtain ⟨M9, r10, y11, h⟩ := x_cl h
      refine r_callVv (As := [.int ((-r7))]) (rest := []) cx w hkn hl.1 (k_X4_push hG hL0 hK0 y11) (cwV 1 hts gX4_reckon_X4_push rfl rfl rfl (by decide +kernel) ⟨Nat.le_of_ble_eq_true rfl, Nat.le_of_ble_eq_true rfl⟩) hL0 hK0 (by decide) rfl rfl rfl (Nat.le_of_ble_eq_true rfl) dX4_reckon_151 (fun H locs w => ?_)
      refine lv_goto (tgt := 225) hx hb dX4_reckon_154 (by decide) ?_
      exact r_vret cx w h dX4_reckon_225
    · have h := x_f h k5
      rcases Decidable.em (c1 = 220) with k12 | k12
      · have h := x_t h k12
        rw [k12]
        refine lv_lookup (tgt := 108) hx hb dX4_reckon_1 (by decide) rfl (by decide) ?_
        refine lv_aload_n hx hb dX4_reckon_108 rfl (lv_at hl 0 rfl) ?_
        refine lv_aload_n hx hb dX4_reckon_109 rfl (lv_at hl 3 rfl) ?_
        refine r_getI (k := 5) (v := .int (mI M a3 5)) cx w hL3 hK3 (by decide) rfl wi_X4_reckon_X8 (by decide) rfl (List.mem_of_getElem? (i := 1) rfl) dX4_reckon_110 ?_
        obtain ⟨M13, r14, y15, h⟩ := x_cl h
        refine r_callVv (As := [.int ((mI M a3 5))]) (rest := []) cx w hkn hl.1 (k_X4_push hG hL0 hK0 y15) (cwV 1 hts gX4_reckon_X4_push rfl rfl rfl (by decide +kernel) ⟨Nat.le_of_ble_eq_true rfl, Nat.le_of_ble_eq_true rfl⟩) hL0 hK0 (by decide) rfl rfl rfl (Nat.le_of_ble_eq_true rfl) dX4_reckon_113 (fun H locs w => ?_)
        refine lv_goto (tgt := 225) hx hb dX4_reckon_116 (by decide) ?_
        exact r_vret cx w h dX4_reckon_225
      · have h := x_f h k12
        rcases Decidable.em (c1 = 221) with k16 | k16
        · have h := x_t h k16
          rw [k16]
          refine lv_lookup (tgt := 119) hx hb dX4_reckon_1 (by decide) rfl (by decide) ?_
          refine lv_aload_n hx hb dX4_reckon_119 rfl (lv_at hl 0 rfl) ?_
          refine lv_aload_n hx hb dX4_reckon_120 rfl (lv_at hl 3 rfl) ?_
          obtain ⟨M17, r18, y19, h⟩ := x_cl h
          refine r_callVi (As := []) (rest := [.ref a0]) cx w hkn hl.1 (k_X8_darkStones hG hL3 hK3 y19) (cwV 0 hts gX4_reckon_X8_darkStones rfl rfl rfl (by decide +kernel) ⟨Nat.le_of_ble_eq_true rfl, Nat.le_of_ble_eq_true rfl⟩) hL3 hK3 (by decide) rfl rfl rfl (Nat.le_of_ble_eq_true rfl) dX4_reckon_121 (fun H locs w => ?_)
          obtain ⟨M20, r21, y22, h⟩ := x_cl h
          refine r_callVv (As := [.int r18]) (rest := []) cx w hkn hl.1 (k_X4_push hG hL0 hK0 y22) (cwV 1 hts gX4_reckon_X4_push rfl rfl rfl (by decide +kernel) ⟨Nat.le_of_ble_eq_true rfl, Nat.le_of_ble_eq_true rfl⟩) hL0 hK0 (by decide) rfl rfl rfl (Nat.le_of_ble_eq_true rfl) dX4_reckon_124 (fun H locs w => ?_)
          refine lv_goto (tgt := 225) hx hb dX4_reckon_127 (by decide) ?_
          exact r_vret cx w h dX4_reckon_225
        · have h := x_f h k16
          rcases Decidable.em (c1 = 222) with k23 | k23
          · have h := x_t h k23
            rw [k23]
            refine lv_lookup (tgt := 176) hx hb dX4_reckon_1 (by decide) rfl (by decide) ?_
            refine lv_aload_n hx hb dX4_reckon_176 rfl (lv_at hl 0 rfl) ?_
            refine lv_aload_n hx hb dX4_reckon_177 rfl (lv_at hl 3 rfl) ?_
            refine lv_iload_n hx hb dX4_reckon_178 rfl (lv_at hl 2 rfl) ?_
            obtain ⟨M24, r25, y26, h⟩ := x_cl h
            refine r_callVi (As := [.int c2]) (rest := [.ref a0]) cx w hkn hl.1 (k_X8_hasAnt hG hL3 hK3 y26) (cwV 1 hts gX4_reckon_X8_hasAnt rfl rfl rfl (by decide +kernel) ⟨Nat.le_of_ble_eq_true rfl, Nat.le_of_ble_eq_true rfl⟩) hL3 hK3 (by decide) rfl rfl rfl (Nat.le_of_ble_eq_true rfl) dX4_reckon_179 (fun H locs w => ?_)
            refine lv_if_eq (tgt := 194) hx hb dX4_reckon_182 (by decide) (fun k27 => ?_) (fun k27 => ?_)
            · have h := x_t h k27
              refine lv_iconst (v := (0 : Int32)) hx hb dX4_reckon_194 (by decide) ?_
              exact b_X4_reckon_195 cx hkn hL0 hK0 hL3 hK3 M24 ((0 : Int32)) H locs ls h w (lv_sub hl [] rfl)
            · have h := x_f h k27
              refine lv_iload_n hx hb dX4_reckon_185 rfl (lv_at hl 1 rfl) ?_
              refine lv_iload_n hx hb dX4_reckon_186 rfl (lv_at hl 2 rfl) ?_
              refine lv_aload_n hx hb dX4_reckon_187 rfl (lv_at hl 3 rfl) ?_
              obtain ⟨M28, r29, y30, h⟩ := x_cl h
              refine r_callSi (As := [.int c1, .int c2, .ref a3]) (rest := [.ref a0]) cx w hkn hl.1 (k_X4_ofAnt hG hL3 hK3 y30) (va_cwS 3 hts gX4_reckon_X4_ofAnt rfl rfl rfl (by decide +kernel) ⟨Nat.le_of_ble_eq_true rfl, Nat.le_of_ble_eq_true rfl⟩) rfl rfl (Nat.le_of_ble_eq_true rfl) dX4_reckon_188 (fun H locs w => ?_)
              refine lv_goto (tgt := 195) hx hb dX4_reckon_191 (by decide) ?_
              exact b_X4_reckon_195 cx hkn hL0 hK0 hL3 hK3 M28 r29 H locs ls h w (lv_sub hl [] rfl)
          · have h := x_f h k23
            rcases Decidable.em (c1 = 223) with k31 | k31
            · have h := x_t h k31
              rw [k31]
              refine lv_lookup (tgt := 176) hx hb dX4_reckon_1 (by decide) rfl (by decide) ?_
              refine lv_aload_n hx hb dX4_reckon_176 rfl (lv_at hl 0 rfl) ?_
              refine lv_aload_n hx hb dX4_reckon_177 rfl (lv_at hl 3 rfl) ?_
              refine lv_iload_n hx hb dX4_reckon_178 rfl (lv_at hl 2 rfl) ?_
              obtain ⟨M32, r33, y34, h⟩ := x_cl h
              refine r_callVi (As := [.int c2]) (rest := [.ref a0]) cx w hkn hl.1 (k_X8_hasAnt hG hL3 hK3 y34) (cwV 1 hts gX4_reckon_X8_hasAnt rfl rfl rfl (by decide +kernel) ⟨Nat.le_of_ble_eq_true rfl, Nat.le_of_ble_eq_true rfl⟩) hL3 hK3 (by decide) rfl rfl rfl (Nat.le_of_ble_eq_true rfl) dX4_reckon_179 (fun H locs w => ?_)
              refine lv_if_eq (tgt := 194) hx hb dX4_reckon_182 (by decide) (fun k35 => ?_) (fun k35 => ?_)
              · have h := x_t h k35
                refine lv_iconst (v := (0 : Int32)) hx hb dX4_reckon_194 (by decide) ?_
                exact b_X4_reckon_195 cx hkn hL0 hK0 hL3 hK3 M32 ((0 : Int32)) H locs ls h w (lv_sub hl [] rfl)
              · have h := x_f h k35
                refine lv_iload_n hx hb dX4_reckon_185 rfl (lv_at hl 1 rfl) ?_
                refine lv_iload_n hx hb dX4_reckon_186 rfl (lv_at hl 2 rfl) ?_
                refine lv_aload_n hx hb dX4_reckon_187 rfl (lv_at hl 3 rfl) ?_
                obtain ⟨M36, r37, y38, h⟩ := x_cl h
                refine r_callSi (As := [.int c1, .int c2, .ref a3]) (rest := [.ref a0]) cx w hkn hl.1 (k_X4_ofAnt hG hL3 hK3 y38) (va_cwS 3 hts gX4_reckon_X4_ofAnt rfl rfl rfl (by decide +kernel) ⟨Nat.le_of_ble_eq_true rfl, Nat.le_of_ble_eq_true rfl⟩) rfl rfl (Nat.le_of_ble_eq_true rfl) dX4_reckon_188 (fun H locs w => ?_)
                refine lv_goto (tgt := 195) hx hb dX4_reckon_191 (by decide) ?_
                exact b_X4_reckon_195 cx hkn hL0 hK0 hL3 hK3 M36 r37 H locs ls h w (lv_sub hl [] rfl)
            · have h := x_f h k31
              rcases Decidable.em (c1 = 224) with k39 | k39
              · have h := x_t h k39
                rw [k39]
                refine lv_lookup (tgt := 176) hx hb dX4_reckon_1 (by decide) rfl (by decide) ?_
                refine lv_aload_n hx hb dX4_reckon_176 rfl (lv_at hl 0 rfl) ?_
                refine lv_aload_n hx hb dX4_reckon_177 rfl (lv_at hl 3 rfl) ?_
                refine lv_iload_n hx hb dX4_reckon_178 rfl (lv_at hl 2 rfl) ?_
                obtain ⟨M40, r41, y42, h⟩ := x_cl h
                refine r_callVi (As := [.int c2]) (rest := [.ref a0]) cx w hkn hl.1 (k_X8_hasAnt hG hL3 hK3 y42) (cwV 1 hts gX4_reckon_X8_hasAnt rfl rfl rfl (by decide +kernel) ⟨Nat.le_of_ble_eq_true rfl, Nat.le_of_ble_eq_true rfl⟩) hL3 hK3 (by decide) rfl rfl rfl (Nat.le_of_ble_eq_true rfl) dX4_reckon_179 (fun H locs w => ?_)
                refine lv_if_eq (tgt := 194) hx hb dX4_reckon_182 (by decide) (fun k43 => ?_) (fun k43 => ?_)
                · have h := x_t h k43
                  refine lv_iconst (v := (0 : Int32)) hx hb dX4_reckon_194 (by decide) ?_
                  exact b_X4_reckon_195 cx hkn hL0 hK0 hL3 hK3 M40 ((0 : Int32)) H locs ls h w (lv_sub hl [] rfl)
                · have h := x_f h k43
                  refine lv_iload_n hx hb dX4_reckon_185 rfl (lv_at hl 1 rfl) ?_
                  refine lv_iload_n hx hb dX4_reckon_186 rfl (lv_at hl 2 rfl) ?_
                  refine lv_aload_n hx hb dX4_reckon_187 rfl (lv_at hl 3 rfl) ?_
                  obtain ⟨M44, r45, y46, h⟩ := x_cl h
                  refine r_callSi (As := [.int c1, .int c2, .ref a3]) (rest := [.ref a0]) cx w hkn hl.1 (k_X4_ofAnt hG hL3 hK3 y46) (va_cwS 3 hts gX4_reckon_X4_ofAnt rfl rfl rfl (by decide +kernel) ⟨Nat.le_of_ble_eq_true rfl, Nat.le_of_ble_eq_true rfl⟩) rfl rfl (Nat.le_of_ble_eq_true rfl) dX4_reckon_188 (fun H locs w => ?_)
                  refine lv_goto (tgt := 195) hx hb dX4_reckon_191 (by decide) ?_
                  exact b_X4_reckon_195 cx hkn hL0 hK0 hL3 hK3 M44 r45 H locs ls h w (lv_sub hl [] rfl)
              · have h := x_f h k39
                rcases Decidable.em (c1 = 225) with k47 | k47
                · have h := x_t h k47
                  rw [k47]
                  refine lv_lookup (tgt := 130) hx hb dX4_reckon_1 (by decide) rfl (by decide) ?_
                  refine lv_aload_n hx hb dX4_reckon_130 rfl (lv_at hl 0 rfl) ?_
                  refine lv_aload_n hx hb dX4_reckon_131 rfl (lv_at hl 3 rfl) ?_
                  refine lv_aload_n hx hb dX4_reckon_132 rfl (lv_at hl 0 rfl) ?_
                  obtain ⟨M48, r49, y50, h⟩ := x_cl h
                  refine r_callVi (As := []) (rest := [.ref a3, .ref a0]) cx w hkn hl.1 (k_X4_pop hG hL0 hK0 y50) (cwV 0 hts gX4_reckon_X4_pop rfl rfl rfl (by decide +kernel) ⟨Nat.le_of_ble_eq_true rfl, Nat.le_of_ble_eq_true rfl⟩) hL0 hK0 (by decide) rfl rfl rfl (Nat.le_of_ble_eq_true rfl) dX4_reckon_133 (fun H locs w => ?_)
                  obtain ⟨M51, r52, y53, h⟩ := x_cl h
                  refine r_callVi (As := [.int r49]) (rest := [.ref a0]) cx w hkn hl.1 (k_X8_darkInRow hG hL3 hK3 y53) (cwV 1 hts gX4_reckon_X8_darkInRow rfl rfl rfl (by decide +kernel) ⟨Nat.le_of_ble_eq_true rfl, Nat.le_of_ble_eq_true rfl⟩) hL3 hK3 (by decide) rfl rfl rfl (Nat.le_of_ble_eq_true rfl) dX4_reckon_136 (fun H locs w => ?_)
                  obtain ⟨M54, r55, y56, h⟩ := x_cl h
                  refine r_callVv (As := [.int r52]) (rest := []) cx w hkn hl.1 (k_X4_push hG hL0 hK0 y56) (cwV 1 hts gX4_reckon_X4_push rfl rfl rfl (by decide +kernel) ⟨Nat.le_of_ble_eq_true rfl, Nat.le_of_ble_eq_true rfl⟩) hL0 hK0 (by decide) rfl rfl rfl (Nat.le_of_ble_eq_true rfl) dX4_reckon_139 (fun H locs w => ?_)
                  refine lv_goto (tgt := 225) hx hb dX4_reckon_142 (by decide) ?_
                  exact r_vret cx w h dX4_reckon_225
                · have h := x_f h k47
                  rcases Decidable.em (c1 = 226) with k57 | k57
                  · have h := x_t h k57
                    rw [k57]
                    refine lv_lookup (tgt := 176) hx hb dX4_reckon_1 (by decide) rfl (by decide) ?_
                    refine lv_aload_n hx hb dX4_reckon_176 rfl (lv_at hl 0 rfl) ?_
                    refine lv_aload_n hx hb dX4_reckon_177 rfl (lv_at hl 3 rfl) ?_
                    refine lv_iload_n hx hb dX4_reckon_178 rfl (lv_at hl 2 rfl) ?_
                    obtain ⟨M58, r59, y60, h⟩ := x_cl h
                    refine r_callVi (As := [.int c2]) (rest := [.ref a0]) cx w hkn hl.1 (k_X8_hasAnt hG hL3 hK3 y60) (cwV 1 hts gX4_reckon_X8_hasAnt rfl rfl rfl (by decide +kernel) ⟨Nat.le_of_ble_eq_true rfl, Nat.le_of_ble_eq_true rfl⟩) hL3 hK3 (by decide) rfl rfl rfl (Nat.le_of_ble_eq_true rfl) dX4_reckon_179 (fun H locs w => ?_)
                    refine lv_if_eq (tgt := 194) hx hb dX4_reckon_182 (by decide) (fun k61 => ?_) (fun k61 => ?_)
                    · have h := x_t h k61
                      refine lv_iconst (v := (0 : Int32)) hx hb dX4_reckon_194 (by decide) ?_
                      exact b_X4_reckon_195 cx hkn hL0 hK0 hL3 hK3 M58 ((0 : Int32)) H locs ls h w (lv_sub hl [] rfl)
                    · have h := x_f h k61
                      refine lv_iload_n hx hb dX4_reckon_185 rfl (lv_at hl 1 rfl) ?_
                      refine lv_iload_n hx hb dX4_reckon_186 rfl (lv_at hl 2 rfl) ?_
                      refine lv_aload_n hx hb dX4_reckon_187 rfl (lv_at hl 3 rfl) ?_
                      obtain ⟨M62, r63, y64, h⟩ := x_cl h
                      refine r_callSi (As := [.int c1, .int c2, .ref a3]) (rest := [.ref a0]) cx w hkn hl.1 (k_X4_ofAnt hG hL3 hK3 y64) (va_cwS 3 hts gX4_reckon_X4_ofAnt rfl rfl rfl (by decide +kernel) ⟨Nat.le_of_ble_eq_true rfl, Nat.le_of_ble_eq_true rfl⟩) rfl rfl (Nat.le_of_ble_eq_true rfl) dX4_reckon_188 (fun H locs w => ?_)
                      refine lv_goto (tgt := 195) hx hb dX4_reckon_191 (by decide) ?_
                      exact b_X4_reckon_195 cx hkn hL0 hK0 hL3 hK3 M62 r63 H locs ls h w (lv_sub hl [] rfl)
                  · have h := x_f h k57
                    rcases Decidable.em (c1 = 227) with k65 | k65
                    · have h := x_t h k65
                      rw [k65]
                      refine lv_lookup (tgt := 176) hx hb dX4_reckon_1 (by decide) rfl (by decide) ?_
                      refine lv_aload_n hx hb dX4_reckon_176 rfl (lv_at hl 0 rfl) ?_
                      refine lv_aload_n hx hb dX4_reckon_177 rfl (lv_at hl 3 rfl) ?_
                      refine lv_iload_n hx hb dX4_reckon_178 rfl (lv_at hl 2 rfl) ?_
                      obtain ⟨M66, r67, y68, h⟩ := x_cl h
                      refine r_callVi (As := [.int c2]) (rest := [.ref a0]) cx w hkn hl.1 (k_X8_hasAnt hG hL3 hK3 y68) (cwV 1 hts gX4_reckon_X8_hasAnt rfl rfl rfl (by decide +kernel) ⟨Nat.le_of_ble_eq_true rfl, Nat.le_of_ble_eq_true rfl⟩) hL3 hK3 (by decide) rfl rfl rfl (Nat.le_of_ble_eq_true rfl) dX4_reckon_179 (fun H locs w => ?_)
                      refine lv_if_eq (tgt := 194) hx hb dX4_reckon_182 (by decide) (fun k69 => ?_) (fun k69 => ?_)
                      · have h := x_t h k69
                        refine lv_iconst (v := (0 : Int32)) hx hb dX4_reckon_194 (by decide) ?_
                        exact b_X4_reckon_195 cx hkn hL0 hK0 hL3 hK3 M66 ((0 : Int32)) H locs ls h w (lv_sub hl [] rfl)
                      · have h := x_f h k69
                        refine lv_iload_n hx hb dX4_reckon_185 rfl (lv_at hl 1 rfl) ?_
                        refine lv_iload_n hx hb dX4_reckon_186 rfl (lv_at hl 2 rfl) ?_
                        refine lv_aload_n hx hb dX4_reckon_187 rfl (lv_at hl 3 rfl) ?_
                        obtain ⟨M70, r71, y72, h⟩ := x_cl h
                        refine r_callSi (As := [.int c1, .int c2, .ref a3]) (rest := [.ref a0]) cx w hkn hl.1 (k_X4_ofAnt hG hL3 hK3 y72) (va_cwS 3 hts gX4_reckon_X4_ofAnt rfl rfl rfl (by decide +kernel) ⟨Nat.le_of_ble_eq_true rfl, Nat.le_of_ble_eq_true rfl⟩) rfl rfl (Nat.le_of_ble_eq_true rfl) dX4_reckon_188 (fun H locs w => ?_)
                        refine lv_goto (tgt := 195) hx hb dX4_reckon_191 (by decide) ?_
                        exact b_X4_reckon_195 cx hkn hL0 hK0 hL3 hK3 M70 r71 H locs ls h w (lv_sub hl [] rfl)
                    · have h := x_f h k65
                      rcases Decidable.em (c1 = 228) with k73 | k73
                      · have h := x_t h k73
                        rw [k73]
                        refine lv_lookup (tgt := 157) hx hb dX4_reckon_1 (by decide) rfl (by decide) ?_
                        refine lv_aload_n hx hb dX4_reckon_157 rfl (lv_at hl 0 rfl) ?_
                        refine lv_aload_n hx hb dX4_reckon_158 rfl (lv_at hl 0 rfl) ?_
                        obtain ⟨M74, r75, y76, h⟩ := x_cl h
                        refine r_callVi (As := []) (rest := [.ref a0]) cx w hkn hl.1 (k_X4_pop hG hL0 hK0 y76) (cwV 0 hts gX4_reckon_X4_pop rfl rfl rfl (by decide +kernel) ⟨Nat.le_of_ble_eq_true rfl, Nat.le_of_ble_eq_true rfl⟩) hL0 hK0 (by decide) rfl rfl rfl (Nat.le_of_ble_eq_true rfl) dX4_reckon_159 (fun H locs w => ?_)
                        refine lv_if_ne (tgt := 169) hx hb dX4_reckon_162 (by decide) (fun k77 => ?_) (fun k77 => ?_)
                        · have h := x_f h k77
                          refine lv_iconst (v := (0 : Int32)) hx hb dX4_reckon_169 (by decide) ?_
                          exact b_X4_reckon_170 cx hkn hL0 hK0 hL3 hK3 M74 ((0 : Int32)) H locs ls h w (lv_sub hl [] rfl)
                        · have h := x_t h k77
                          refine lv_iconst (v := (1 : Int32)) hx hb dX4_reckon_165 (by decide) ?_
                          refine lv_goto (tgt := 170) hx hb dX4_reckon_166 (by decide) ?_
                          exact b_X4_reckon_170 cx hkn hL0 hK0 hL3 hK3 M74 ((1 : Int32)) H locs ls h w (lv_sub hl [] rfl)
                      · have h := x_f h k73
                        refine lv_lookup (tgt := 201) hx hb dX4_reckon_1 (by decide) (off := 200) (by have nk1 : ¬ (3 = Int32.toInt c1) := fun hh => k1 (Int32.toInt_inj.mp hh.symm); have nk5 : ¬ (4 = Int32.toInt c1) := fun hh => k5 (Int32.toInt_inj.mp hh.symm); have nk12 : ¬ (220 = Int32.toInt c1) := fun hh => k12 (Int32.toInt_inj.mp hh.symm); have nk16 : ¬ (221 = Int32.toInt c1) := fun hh => k16 (Int32.toInt_inj.mp hh.symm); have nk23 : ¬ (222 = Int32.toInt c1) := fun hh => k23 (Int32.toInt_inj.mp hh.symm); have nk31 : ¬ (223 = Int32.toInt c1) := fun hh => k31 (Int32.toInt_inj.mp hh.symm); have nk39 : ¬ (224 = Int32.toInt c1) := fun hh => k39 (Int32.toInt_inj.mp hh.symm); have nk47 : ¬ (225 = Int32.toInt c1) := fun hh => k47 (Int32.toInt_inj.mp hh.symm); have nk57 : ¬ (226 = Int32.toInt c1) := fun hh => k57 (Int32.toInt_inj.mp hh.symm); have nk65 : ¬ (227 = Int32.toInt c1) := fun hh => k65 (Int32.toInt_inj.mp hh.symm); have nk73 : ¬ (228 = Int32.toInt c1) := fun hh => k73 (Int32.toInt_inj.mp hh.symm); simp [Op.lookupswitch.offset, nk1, nk5, nk12, nk16, nk23, nk31, nk39, nk47, nk57, nk65, nk73]) (by decide) ?_
                        refine lv_aload_n hx hb dX4_reckon_201 rfl (lv_at hl 0 rfl) ?_
                        obtain ⟨M78, r79, y80, h⟩ := x_cl h
                        refine r_callVi (As := []) (rest := []) cx w hkn hl.1 (k_X4_pop hG hL0 hK0 y80) (cwV 0 hts gX4_reckon_X4_pop rfl rfl rfl (by decide +kernel) ⟨Nat.le_of_ble_eq_true rfl, Nat.le_of_ble_eq_true rfl⟩) hL0 hK0 (by decide) rfl rfl rfl (Nat.le_of_ble_eq_true rfl) dX4_reckon_202 (fun H locs w => ?_)
                        refine lv_istore (lv' := [(4, .int r79), (0, .ref a0), (1, .int c1), (2, .int c2), (3, .ref a3)]) hx hb dX4_reckon_205 hl (by decide) rfl (fun ls hl => ?_)
                        refine lv_aload_n hx hb dX4_reckon_207 rfl (lv_at hl 1 rfl) ?_
                        obtain ⟨M81, r82, y83, h⟩ := x_cl h
                        refine r_callVi (As := []) (rest := []) cx w hkn hl.1 (k_X4_pop hG hL0 hK0 y83) (cwV 0 hts gX4_reckon_X4_pop rfl rfl rfl (by decide +kernel) ⟨Nat.le_of_ble_eq_true rfl, Nat.le_of_ble_eq_true rfl⟩) hL0 hK0 (by decide) rfl rfl rfl (Nat.le_of_ble_eq_true rfl) dX4_reckon_208 (fun H locs w => ?_)
                        refine lv_istore (lv' := [(5, .int r82), (4, .int r79), (0, .ref a0), (1, .int c1), (2, .int c2), (3, .ref a3)]) hx hb dX4_reckon_211 hl (by decide) rfl (fun ls hl => ?_)
                        refine lv_aload_n hx hb dX4_reckon_213 rfl (lv_at hl 2 rfl) ?_
                        refine lv_iload_n hx hb dX4_reckon_214 rfl (lv_at hl 3 rfl) ?_
                        refine lv_iload hx hb dX4_reckon_215 (lv_at hl 0 rfl) ?_
                        refine lv_iload hx hb dX4_reckon_217 (lv_at hl 1 rfl) ?_
                        obtain ⟨M84, r85, y86, h⟩ := x_cl h
                        refine r_callSi (As := [.int c1, .int r82, .int r79]) (rest := [.ref a0]) cx w hkn hl.1 (k_X4_ofTwo hG y86) (va_cwS 3 hts gX4_reckon_X4_ofTwo rfl rfl rfl (by decide +kernel) ⟨Nat.le_of_ble_eq_true rfl, Nat.le_of_ble_eq_true rfl⟩) rfl rfl (Nat.le_of_ble_eq_true rfl) dX4_reckon_219 (fun H locs w => ?_)
                        obtain ⟨M87, r88, y89, h⟩ := x_cl h
                        refine r_callVv (As := [.int r85]) (rest := []) cx w hkn hl.1 (k_X4_push hG hL0 hK0 y89) (cwV 1 hts gX4_reckon_X4_push rfl rfl rfl (by decide +kernel) ⟨Nat.le_of_ble_eq_true rfl, Nat.le_of_ble_eq_true rfl⟩) hL0 hK0 (by decide) rfl rfl rfl (Nat.le_of_ble_eq_true rfl) dX4_reckon_222 (fun H locs w => ?_)
                        exact r_vret cx w h dX4_reckon_225
-- X4_holds
theorem wi_X4_holds_X3 : ∀ w ∈ wsX30, w ∈ wsX4_holds := by decide +kernel
theorem wi_X4_holds_X4 : ∀ w ∈ wsX40, w ∈ wsX4_holds := by decide +kernel
abbrev rmX4_holds : Room := { frames := 4, cells := 0, slots := 0, locals := 107 }
def m_X4_holds_75 (G : gS) (a0 : Nat) (a1 : Nat) (c2 : Int32) (a3 : Nat)  (M : mS)  : Option (mS × Int32) := o_cl (m_X4_pop G M a0) (fun M1 r2 => (if r2 = 0 then o_ck ((0 : Int32) = 0 ∨ (0 : Int32) = 1) (some (M1, (0 : Int32))) else o_ck ((1 : Int32) = 0 ∨ (1 : Int32) = 1) (some (M1, (1 : Int32)))))
def m_X4_holds_35 (G : gS) (a0 : Nat) (a1 : Nat) (c2 : Int32) (a3 : Nat)  : Nat → mS → Int32 → Int32 → Option (mS × Int32)
  | 0, _, _, _ => none
  | n + 1, M, v5, v6 => (if v5 ≤ v6 then m_X4_holds_75 G a0 a1 c2 a3 M else (if (400 : Int32) ≤ v6 then m_X4_holds_75 G a0 a1 c2 a3 M else o_rf (gP G a1 9) (fun q3 => o_ix v6 (gN G q3) (o_rf (gP G a1 10) (fun q5 => o_ix v6 (gN G q5) (o_cl (m_X4_reckon G M a0 (mI M q3 (Int32.toNatClampNeg v6)) (mI M q5 (Int32.toNatClampNeg v6)) a3) (fun M7 r8 => o_bd (v6 + 1 : Int32) (fun x10 => m_X4_holds_35 G a0 a1 c2 a3 n M7 v5 x10))))))))
def m_X4_holds_21 (G : gS) (a0 : Nat) (a1 : Nat) (c2 : Int32) (a3 : Nat)  (M : mS) (s0 : Int32) : Option (mS × Int32) := o_rf (gP G a1 7) (fun q1 => o_ix c2 (gN G q1) (o_bd ((mI M q1 (Int32.toNatClampNeg c2))) (fun x3 => m_X4_holds_35 G a0 a1 c2 a3 fu M x3 s0)))
def m_X4_holds (G : gS) (M : mS) (a0 : Nat) (a1 : Nat) (c2 : Int32) (a3 : Nat) : Option (mS × Int32) := o_wI M a0 1 (0 : Int32) (fun M1 => (if c2 ≤ 0 then m_X4_holds_21 G a0 a1 c2 a3 M1 ((0 : Int32)) else o_rf (gP G a1 7) (fun q3 => o_ix (c2 - (1 : Int32)) (gN G q3) (m_X4_holds_21 G a0 a1 c2 a3 M1 ((mI M1 q3 (Int32.toNatClampNeg (c2 - (1 : Int32)))))))))
set_option maxHeartbeats 4000000 in
set_option maxRecDepth 100000 in
theorem b_X4_holds_75 {p : Program} {e : Env} {s : State} {m : MethodId} {args : Array Value} {below : List Frame} {meth : Method} {c : Code} {A : Nat → Prop} {l : Launch} {D : va_G} {cy : cyS} {G : gS} (cx : cX p s m args meth c cX4_holds RX4 7 (some .boolean) wsX4_holds D cy G A) {k0 n0 : Nat} (hkn : k0 ≤ (rmX4_holds).cells ∧ n0 ≤ (rmX4_holds).slots) {M' : mS} {r : Int32} {a0 : Nat} {a1 : Nat} {c2 : Int32} {a3 : Nat} (hL0 : a0 ∈ gL G) (hK0 : gK G a0 = 3) (hL1 : a1 ∈ gL G) (hK1 : gK G a1 = 2) (hL3 : a3 ∈ gL G) (hK3 : gK G a3 = 7)  : ∀ (M : mS) (H : Heap) (locs : List Loc) (ls : Array Slot), m_X4_holds_75 G a0 a1 c2 a3 M = some (M', r) → wd D cy G M A s.heap H locs → lv_has ls 7 [(0, .ref a0)] → W p l e rmX4_holds s m args below meth c H locs k0 n0 (MQ below (va_Qi (fun (r' : Int32) (_ : Unit) => r' = r) (fun _ t => wOut D cy G M' t) A) args s k0 n0 A) (F0 m 75 ls []) := by
  obtain ⟨hx, hb, hml, hown, hts, hr, hlocks, hK, hA, hG, hsx⟩ := id cx
  intro M H locs ls h w hl
  unfold m_X4_holds_75 at h
  refine lv_aload_n hx hb dX4_holds_75 rfl (lv_at hl 0 rfl) ?_
  obtain ⟨M1, r2, y3, h⟩ := x_cl h
  refine r_callVi (As := []) (rest := []) cx w hkn hl.1 (k_X4_pop hG hL0 hK0 y3) (cwV 0 hts gX4_holds_X4_pop rfl rfl rfl (by decide +kernel) ⟨Nat.le_of_ble_eq_true rfl, Nat.le_of_ble_eq_true rfl⟩) hL0 hK0 (by decide) rfl rfl rfl (Nat.le_of_ble_eq_true rfl) dX4_holds_76 (fun H locs w => ?_)
  refine lv_if_eq (tgt := 86) hx hb dX4_holds_79 (by decide) (fun k4 => ?_) (fun k4 => ?_)
  · have h := x_t h k4
    refine lv_iconst (v := (0 : Int32)) hx hb dX4_holds_86 (by decide) ?_
    obtain ⟨z5, h⟩ := x_ck h
    exact r_zret cx w z5 h dX4_holds_87
  · have h := x_f h k4
    refine lv_iconst (v := (1 : Int32)) hx hb dX4_holds_82 (by decide) ?_
    refine lv_goto (tgt := 87) hx hb dX4_holds_83 (by decide) ?_
    obtain ⟨z6, h⟩ := x_ck h
    exact r_zret cx w z6 h dX4_holds_87
set_option maxHeartbeats 4000000 in
set_option maxRecDepth 100000 in
theorem b_X4_holds_35 {p : Program} {e : Env} {s : State} {m : MethodId} {args : Array Value} {below : List Frame} {meth : Method} {c : Code} {A : Nat → Prop} {l : Launch} {D : va_G} {cy : cyS} {G : gS} (cx : cX p s m args meth c cX4_holds RX4 7 (some .boolean) wsX4_holds D cy G A) {k0 n0 : Nat} (hkn : k0 ≤ (rmX4_holds).cells ∧ n0 ≤ (rmX4_holds).slots) {M' : mS} {r : Int32} {a0 : Nat} {a1 : Nat} {c2 : Int32} {a3 : Nat} (hL0 : a0 ∈ gL G) (hK0 : gK G a0 = 3) (hL1 : a1 ∈ gL G) (hK1 : gK G a1 = 2) (hL3 : a3 ∈ gL G) (hK3 : gK G a3 = 7)  : ∀ (n : Nat), ∀ (M : mS) (v5 : Int32) (v6 : Int32) (H : Heap) (locs : List Loc) (ls : Array Slot), m_X4_holds_35 G a0 a1 c2 a3 n M v5 v6 = some (M', r) → wd D cy G M A s.heap H locs → lv_has ls 7 [(0, .ref a0), (1, .ref a1), (3, .ref a3), (5, .int v5), (6, .int v6)] → W p l e rmX4_holds s m args below meth c H locs k0 n0 (MQ below (va_Qi (fun (r' : Int32) (_ : Unit) => r' = r) (fun _ t => wOut D cy G M' t) A) args s k0 n0 A) (F0 m 35 ls []) := by
  obtain ⟨hx, hb, hml, hown, hts, hr, hlocks, hK, hA, hG, hsx⟩ := id cx
  intro n
  induction n with
  | zero =>
    intro M v5 v6 H locs ls h w hl
    have h : none = some _ := h
    cases h
  | succ n ih =>
    intro M v5 v6 H locs ls h w hl
    rw [m_X4_holds_35] at h
    refine lv_iload hx hb dX4_holds_35 (lv_at hl 4 rfl) ?_
    refine lv_iload hx hb dX4_holds_37 (lv_at hl 3 rfl) ?_
    refine lv_icmp_ge (tgt := 75) hx hb dX4_holds_39 (by decide) (fun k1 => ?_) (fun k1 => ?_)
    · have h := x_t h k1
      exact b_X4_holds_75 cx hkn hL0 hK0 hL1 hK1 hL3 hK3 M H locs ls h w (lv_sub hl [0] rfl)
    · have h := x_f h k1
      refine lv_iload hx hb dX4_holds_42 (lv_at hl 4 rfl) ?_
      refine lv_sipush (v := (400 : Int32)) hx hb dX4_holds_44 (by decide) ?_
      refine lv_icmp_ge (tgt := 75) hx hb dX4_holds_47 (by decide) (fun k2 => ?_) (fun k2 => ?_)
      · have h := x_t h k2
        exact b_X4_holds_75 cx hkn hL0 hK0 hL1 hK1 hL3 hK3 M H locs ls h w (lv_sub hl [0] rfl)
      · have h := x_f h k2
        refine lv_aload_n hx hb dX4_holds_50 rfl (lv_at hl 0 rfl) ?_
        refine lv_aload_n hx hb dX4_holds_51 rfl (lv_at hl 1 rfl) ?_
        obtain ⟨q3, eq3, h⟩ := x_rf h
        obtain ⟨hLq3, hKq3⟩ := wt_q hG hL1 hK1 eq3
        have hKq3 : gK G q3 = 12 := hKq3
        refine r_getR (k := 9) cx w hL1 hK1 (by decide) rfl wi_X4_holds_X3 (by decide) rfl eq3 (List.mem_of_getElem? (i := 3) rfl) dX4_holds_52 ?_
        refine lv_iload hx hb dX4_holds_55 (lv_at hl 4 rfl) ?_
        obtain ⟨z4, h⟩ := x_ix h
        refine r_iald cx w hLq3 hKq3 z4 dX4_holds_57 ?_
        refine lv_aload_n hx hb dX4_holds_58 rfl (lv_at hl 1 rfl) ?_
        obtain ⟨q5, eq5, h⟩ := x_rf h
        obtain ⟨hLq5, hKq5⟩ := wt_q hG hL1 hK1 eq5
        have hKq5 : gK G q5 = 12 := hKq5
        refine r_getR (k := 10) cx w hL1 hK1 (by decide) rfl wi_X4_holds_X3 (by decide) rfl eq5 (List.mem_of_getElem? (i := 4) rfl) dX4_holds_59 ?_
        refine lv_iload hx hb dX4_holds_62 (lv_at hl 4 rfl) ?_
        obtain ⟨z6, h⟩ := x_ix h
        refine r_iald cx w hLq5 hKq5 z6 dX4_holds_64 ?_
        refine lv_aload_n hx hb dX4_holds_65 rfl (lv_at hl 2 rfl) ?_
        obtain ⟨M7, r8, y9, h⟩ := x_cl h
        refine r_callVv (As := [.int ((mI M q3 (Int32.toNatClampNeg v6))), .int ((mI M q5 (Int32.toNatClampNeg v6))), .ref a3]) (rest := []) cx w hkn hl.1 (k_X4_reckon hG hL0 hK0 hL3 hK3 y9) (cwV 3 hts gX4_holds_X4_reckon rfl rfl rfl (by decide +kernel) ⟨Nat.le_of_ble_eq_true rfl, Nat.le_of_ble_eq_true rfl⟩) hL0 hK0 (by decide) rfl rfl rfl (Nat.le_of_ble_eq_true rfl) dX4_holds_66 (fun H locs w => ?_)
        obtain ⟨x10, ex10, h⟩ := x_bd h
        refine lv_iinc (v := x10) (lv' := [(6, .int x10), (0, .ref a0), (1, .ref a1), (3, .ref a3), (5, .int v5)]) hx hb dX4_holds_69 hl (k := 4) rfl (by rw [ex10]; rfl) (by decide) rfl (fun ls hl => ?_)
        refine lv_goto (tgt := 35) hx hb dX4_holds_72 (by decide) ?_
        exact ih M7 v5 x10 H locs ls h w (lv_sub hl [1, 2, 3, 4, 0] rfl)
set_option maxHeartbeats 4000000 in
set_option maxRecDepth 100000 in
theorem b_X4_holds_21 {p : Program} {e : Env} {s : State} {m : MethodId} {args : Array Value} {below : List Frame} {meth : Method} {c : Code} {A : Nat → Prop} {l : Launch} {D : va_G} {cy : cyS} {G : gS} (cx : cX p s m args meth c cX4_holds RX4 7 (some .boolean) wsX4_holds D cy G A) {k0 n0 : Nat} (hkn : k0 ≤ (rmX4_holds).cells ∧ n0 ≤ (rmX4_holds).slots) {M' : mS} {r : Int32} {a0 : Nat} {a1 : Nat} {c2 : Int32} {a3 : Nat} (hL0 : a0 ∈ gL G) (hK0 : gK G a0 = 3) (hL1 : a1 ∈ gL G) (hK1 : gK G a1 = 2) (hL3 : a3 ∈ gL G) (hK3 : gK G a3 = 7)  : ∀ (M : mS) (s0 : Int32) (H : Heap) (locs : List Loc) (ls : Array Slot), m_X4_holds_21 G a0 a1 c2 a3 M s0 = some (M', r) → wd D cy G M A s.heap H locs → lv_has ls 7 [(0, .ref a0), (1, .ref a1), (2, .int c2), (3, .ref a3)] → W p l e rmX4_holds s m args below meth c H locs k0 n0 (MQ below (va_Qi (fun (r' : Int32) (_ : Unit) => r' = r) (fun _ t => wOut D cy G M' t) A) args s k0 n0 A) (F0 m 21 ls [.int s0]) := by
  obtain ⟨hx, hb, hml, hown, hts, hr, hlocks, hK, hA, hG, hsx⟩ := id cx
  intro M s0 H locs ls h w hl
  unfold m_X4_holds_21 at h
  refine lv_istore (lv' := [(4, .int s0), (0, .ref a0), (1, .ref a1), (2, .int c2), (3, .ref a3)]) hx hb dX4_holds_21 hl (by decide) rfl (fun ls hl => ?_)
  refine lv_aload_n hx hb dX4_holds_23 rfl (lv_at hl 2 rfl) ?_
  obtain ⟨q1, eq1, h⟩ := x_rf h
  obtain ⟨hLq1, hKq1⟩ := wt_q hG hL1 hK1 eq1
  have hKq1 : gK G q1 = 12 := hKq1
  refine r_getR (k := 7) cx w hL1 hK1 (by decide) rfl wi_X4_holds_X3 (by decide) rfl eq1 (List.mem_of_getElem? (i := 2) rfl) dX4_holds_24 ?_
  refine lv_iload_n hx hb dX4_holds_27 rfl (lv_at hl 3 rfl) ?_
  obtain ⟨z2, h⟩ := x_ix h
  refine r_iald cx w hLq1 hKq1 z2 dX4_holds_28 ?_
  obtain ⟨x3, ex3, h⟩ := x_bd h
  refine r_topI ex3 ?_
  refine lv_istore (lv' := [(5, .int x3), (4, .int s0), (0, .ref a0), (1, .ref a1), (2, .int c2), (3, .ref a3)]) hx hb dX4_holds_29 hl (by decide) rfl (fun ls hl => ?_)
  refine lv_iload hx hb dX4_holds_31 (lv_at hl 1 rfl) ?_
  refine lv_istore (lv' := [(6, .int s0), (5, .int x3), (4, .int s0), (0, .ref a0), (1, .ref a1), (2, .int c2), (3, .ref a3)]) hx hb dX4_holds_33 hl (by decide) rfl (fun ls hl => ?_)
  exact b_X4_holds_35 cx hkn hL0 hK0 hL1 hK1 hL3 hK3 fu M x3 s0 H locs ls h w (lv_sub hl [3, 4, 6, 1, 0] rfl)
set_option maxHeartbeats 4000000 in
set_option maxRecDepth 100000 in
theorem k_X4_holds {l : Launch} {D : va_G} {cy : cyS} {G : gS} {M M' : mS} {r : Int32} {a0 : Nat} {a1 : Nat} {c2 : Int32} {a3 : Nat} (hG : wt G) (hL0 : a0 ∈ gL G) (hK0 : gK G a0 = 3) (hL1 : a1 ∈ gL G) (hK1 : gK G a1 = 2) (hL3 : a3 ∈ gL G) (hK3 : gK G a3 = 7) (h : m_X4_holds G M a0 a1 c2 a3 = some (M', r)) : ctI l yX4_holds wsX4_holds rmX4_holds D cy G M [.ref a0, .ref a1, .int c2, .ref a3] M' r := by
  unfold m_X4_holds at h
  refine ctI_of (cc := cX4_holds) (nL := 7) (ret := (some .boolean)) (lv := [(0, .ref a0), (1, .ref a1), (2, .int c2), (3, .ref a3)]) hG (by decide) rfl ⟨rfl, rfl⟩ (Nat.le_of_ble_eq_true rfl) rfl ?_
  intro p e s m args below meth c A ls cx w hl
  obtain ⟨hx, hb, hml, hown, hts, hr, hlocks, hK, hA, -, hsx⟩ := id cx
  have hkn : 0 ≤ (rmX4_holds).cells ∧ 0 ≤ (rmX4_holds).slots := ⟨Nat.zero_le _, Nat.zero_le _⟩
  refine lv_aload_n hx hb dX4_holds_0 rfl (lv_at hl 0 rfl) ?_
  refine lv_iconst (v := (0 : Int32)) hx hb dX4_holds_1 (by decide) ?_
  obtain ⟨M1, eM1, h⟩ := x_wI h
  refine r_putI (k := 1) (ty := .int) cx w tyX4 tyX4_ok nmX4 hL0 hK0 (by decide) rfl wi_X4_holds_X4 (by decide) rfl rfl rfl rfl st_3_1 (ln_3 _ _ (by decide)) (List.mem_of_getElem? (i := 1) rfl) dX4_holds_2 eM1 (fun H locs w => ?_)
  refine lv_iload_n hx hb dX4_holds_5 rfl (lv_at hl 2 rfl) ?_
  refine lv_if_le (tgt := 20) hx hb dX4_holds_6 (by decide) (fun k2 => ?_) (fun k2 => ?_)
  · have h := x_t h k2
    refine lv_iconst (v := (0 : Int32)) hx hb dX4_holds_20 (by decide) ?_
    exact b_X4_holds_21 cx hkn hL0 hK0 hL1 hK1 hL3 hK3 M1 ((0 : Int32)) H locs ls h w (lv_sub hl [0, 1, 2, 3] rfl)
  · have h := x_f h k2
    refine lv_aload_n hx hb dX4_holds_9 rfl (lv_at hl 1 rfl) ?_
    obtain ⟨q3, eq3, h⟩ := x_rf h
    obtain ⟨hLq3, hKq3⟩ := wt_q hG hL1 hK1 eq3
    have hKq3 : gK G q3 = 12 := hKq3
    refine r_getR (k := 7) cx w hL1 hK1 (by decide) rfl wi_X4_holds_X3 (by decide) rfl eq3 (List.mem_of_getElem? (i := 2) rfl) dX4_holds_10 ?_
    refine lv_iload_n hx hb dX4_holds_13 rfl (lv_at hl 2 rfl) ?_
    refine lv_iconst (v := (1 : Int32)) hx hb dX4_holds_14 (by decide) ?_
    refine lv_isub hx hb dX4_holds_15 ?_
    obtain ⟨z4, h⟩ := x_ix h
    refine r_iald cx w hLq3 hKq3 z4 dX4_holds_16 ?_
    refine lv_goto (tgt := 21) hx hb dX4_holds_17 (by decide) ?_
    exact b_X4_holds_21 cx hkn hL0 hK0 hL1 hK1 hL3 hK3 M1 ((mI M1 q3 (Int32.toNatClampNeg (c2 - (1 : Int32))))) H locs ls h w (lv_sub hl [0, 1, 2, 3] rfl)
