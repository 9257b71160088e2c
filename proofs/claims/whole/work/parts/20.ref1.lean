-- X11_copy
abbrev rmX11_copy : Room := { frames := 1, cells := 0, slots := 0, locals := 60 }
def m_X11_copy (G : gS) (M : mS) (a0 : Nat) (a1 : Nat) (a2 : Nat) : Option (mS × Unit) := o_ck (¬ (Int32.ofNat (gN G a1)) < 0 ∧ Int32.toNatClampNeg (Int32.ofNat (gN G a1)) ≤ gN G a1 ∧ Int32.toNatClampNeg (Int32.ofNat (gN G a1)) ≤ gN G a2) (o_wC M a2 (cpy0 (mI M a1) (mI M a2) (Int32.toNatClampNeg (Int32.ofNat (gN G a1)))) (fun M2 => some (M2, ())))
set_option maxHeartbeats 4000000 in
set_option maxRecDepth 100000 in
theorem k_X11_copy {l : Launch} {D : va_G} {cy : cyS} {G : gS} {M M' : mS} {a0 : Nat} {a1 : Nat} {a2 : Nat} (hG : wt G) (hL0 : a0 ∈ gL G) (hK0 : gK G a0 = 10) (hL1 : a1 ∈ gL G) (hK1 : gK G a1 = 12) (hL2 : a2 ∈ gL G) (hK2 : gK G a2 = 12) (h : m_X11_copy G M a0 a1 a2 = some (M', ())) : ctV l yX11_copy wsX11_copy rmX11_copy D cy G M [.ref a0, .ref a1, .ref a2] M' := by
  unfold m_X11_copy at h
  refine ctV_of (cc := cX11_copy) (nL := 3) (ret := none) (lv := [(0, .ref a0), (1, .ref a1), (2, .ref a2)]) hG (by decide) rfl ⟨rfl, rfl⟩ (Nat.le_of_ble_eq_true rfl) rfl ?_
  intro p e s m args below meth c A ls cx w hl
  obtain ⟨hx, hb, hml, hown, hts, hr, hlocks, hK, hA, -, hsx⟩ := id cx
  have hkn : 0 ≤ (rmX11_copy).cells ∧ 0 ≤ (rmX11_copy).slots := ⟨Nat.zero_le _, Nat.zero_le _⟩
  refine lv_aload_n hx hb dX11_copy_0 rfl (lv_at hl 1 rfl) ?_
  refine lv_iconst (v := (0 : Int32)) hx hb dX11_copy_1 (by decide) ?_
  refine lv_aload_n hx hb dX11_copy_2 rfl (lv_at hl 2 rfl) ?_
  refine lv_iconst (v := (0 : Int32)) hx hb dX11_copy_3 (by decide) ?_
  refine lv_aload_n hx hb dX11_copy_4 rfl (lv_at hl 1 rfl) ?_
  refine r_alen cx w hL1 hK1 (by decide) dX11_copy_5 ?_
  obtain ⟨z1, h⟩ := x_ck h
  obtain ⟨M2, eM2, h⟩ := x_wC h
  refine r_copy cx w (hml.trans hl.1.symm) (hts _ (List.mem_of_getElem? (i := 1) rfl)) (hts _ (List.mem_of_getElem? (i := 2) rfl)) (hts _ (List.mem_of_getElem? (i := 3) rfl)) (hts _ (List.mem_of_getElem? (i := 4) rfl)) hL1 hK1 hL2 hK2 z1 (Nat.le_of_ble_eq_true rfl) (Nat.le_of_ble_eq_true rfl) dX11_copy_6 eM2 (fun H locs w => ?_)
  exact r_vret cx w h dX11_copy_9
-- X11_become
theorem wi_X11_become_X11 : ∀ w ∈ wsX110, w ∈ wsX11_become := by decide +kernel
abbrev rmX11_become : Room := { frames := 2, cells := 0, slots := 0, locals := 82 }
def m_X11_become (G : gS) (M : mS) (a0 : Nat) (a1 : Nat) : Option (mS × Nat) := o_wI M a0 0 (mI M a1 0) (fun M1 => o_wI M1 a0 1 (mI M1 a1 1) (fun M2 => o_wI M2 a0 2 (mI M2 a1 2) (fun M3 => o_wI M3 a0 3 (mI M3 a1 3) (fun M4 => o_rf (gP G a1 4) (fun q5 => o_rf (gP G a0 4) (fun q6 => o_cl (m_X11_copy G M4 a0 q5 q6) (fun M7 r8 => o_rf (gP G a1 5) (fun q10 => o_rf (gP G a0 5) (fun q11 => o_cl (m_X11_copy G M7 a0 q10 q11) (fun M12 r13 => o_rf (gP G a1 6) (fun q15 => o_rf (gP G a0 6) (fun q16 => o_cl (m_X11_copy G M12 a0 q15 q16) (fun M17 r18 => o_rf (gP G a1 7) (fun q20 => o_rf (gP G a0 7) (fun q21 => o_cl (m_X11_copy G M17 a0 q20 q21) (fun M22 r23 => o_rf (gP G a1 8) (fun q25 => o_rf (gP G a0 8) (fun q26 => o_cl (m_X11_copy G M22 a0 q25 q26) (fun M27 r28 => o_rf (gP G a1 9) (fun q30 => o_rf (gP G a0 9) (fun q31 => o_cl (m_X11_copy G M27 a0 q30 q31) (fun M32 r33 => o_rf (gP G a1 10) (fun q35 => o_rf (gP G a0 10) (fun q36 => o_cl (m_X11_copy G M32 a0 q35 q36) (fun M37 r38 => o_rf (gP G a1 11) (fun q40 => o_rf (gP G a0 11) (fun q41 => o_cl (m_X11_copy G M37 a0 q40 q41) (fun M42 r43 => o_rf (gP G a1 12) (fun q45 => o_rf (gP G a0 12) (fun q46 => o_cl (m_X11_copy G M42 a0 q45 q46) (fun M47 r48 => o_rf (gP G a1 13) (fun q50 => o_rf (gP G a0 13) (fun q51 => o_cl (m_X11_copy G M47 a0 q50 q51) (fun M52 r53 => some (M52, a0)))))))))))))))))))))))))))))))))))
set_option maxHeartbeats 4000000 in
set_option maxRecDepth 100000 in
theorem k_X11_become {l : Launch} {D : va_G} {cy : cyS} {G : gS} {M M' : mS} {r : Nat} {a0 : Nat} {a1 : Nat} (hG : wt G) (hL0 : a0 ∈ gL G) (hK0 : gK G a0 = 10) (hL1 : a1 ∈ gL G) (hK1 : gK G a1 = 10) (h : m_X11_become G M a0 a1 = some (M', r)) : ctR l yX11_become wsX11_become rmX11_become D cy G M [.ref a0, .ref a1] M' r := by
  unfold m_X11_become at h
  refine ctR_of (cc := cX11_become) (nL := 2) (ret := (some (.object "FlagAntsModel$State"))) (lv := [(0, .ref a0), (1, .ref a1)]) hG (by decide) rfl ⟨rfl, rfl⟩ (Nat.le_of_ble_eq_true rfl) rfl ?_
  intro p e s m args below meth c A ls cx w hl
  obtain ⟨hx, hb, hml, hown, hts, hr, hlocks, hK, hA, -, hsx⟩ := id cx
  have hkn : 0 ≤ (rmX11_become).cells ∧ 0 ≤ (rmX11_become).slots := ⟨Nat.zero_le _, Nat.zero_le _⟩
  refine lv_aload_n hx hb dX11_become_0 rfl (lv_at hl 0 rfl) ?_
  refine lv_aload_n hx hb dX11_become_1 rfl (lv_at hl 1 rfl) ?_
  refine r_getI (k := 0) (v := .int (mI M a1 0)) cx w hL1 hK1 (by decide) rfl wi_X11_become_X11 (by decide) rfl (List.mem_of_getElem? (i := 1) rfl) dX11_become_2 ?_
  obtain ⟨M1, eM1, h⟩ := x_wI h
  refine r_putI (k := 0) (ty := .int) cx w tyX11 tyX11_ok nmX11 hL0 hK0 (by decide) rfl wi_X11_become_X11 (by decide) rfl rfl rfl rfl st_10_0 (ln_10 _ _ (by decide)) (List.mem_of_getElem? (i := 1) rfl) dX11_become_5 eM1 (fun H locs w => ?_)
  refine lv_aload_n hx hb dX11_become_8 rfl (lv_at hl 0 rfl) ?_
  refine lv_aload_n hx hb dX11_become_9 rfl (lv_at hl 1 rfl) ?_
  refine r_getI (k := 1) (v := .int (mI M1 a1 1)) cx w hL1 hK1 (by decide) rfl wi_X11_become_X11 (by decide) rfl (List.mem_of_getElem? (i := 2) rfl) dX11_become_10 ?_
  obtain ⟨M2, eM2, h⟩ := x_wI h
  refine r_putI (k := 1) (ty := .int) cx w tyX11 tyX11_ok nmX11 hL0 hK0 (by decide) rfl wi_X11_become_X11 (by decide) rfl rfl rfl rfl st_10_1 (ln_10 _ _ (by decide)) (List.mem_of_getElem? (i := 2) rfl) dX11_become_13 eM2 (fun H locs w => ?_)
  refine lv_aload_n hx hb dX11_become_16 rfl (lv_at hl 0 rfl) ?_
  refine lv_aload_n hx hb dX11_become_17 rfl (lv_at hl 1 rfl) ?_
  refine r_getI (k := 2) (v := .int (mI M2 a1 2)) cx w hL1 hK1 (by decide) rfl wi_X11_become_X11 (by decide) rfl (List.mem_of_getElem? (i := 3) rfl) dX11_become_18 ?_
  obtain ⟨M3, eM3, h⟩ := x_wI h
  refine r_putI (k := 2) (ty := .int) cx w tyX11 tyX11_ok nmX11 hL0 hK0 (by decide) rfl wi_X11_become_X11 (by decide) rfl rfl rfl rfl st_10_2 (ln_10 _ _ (by decide)) (List.mem_of_getElem? (i := 3) rfl) dX11_become_21 eM3 (fun H locs w => ?_)
  refine lv_aload_n hx hb dX11_become_24 rfl (lv_at hl 0 rfl) ?_
  refine lv_aload_n hx hb dX11_become_25 rfl (lv_at hl 1 rfl) ?_
  refine r_getI (k := 3) (v := .int (mI M3 a1 3)) cx w hL1 hK1 (by decide) rfl wi_X11_become_X11 (by decide) rfl (List.mem_of_getElem? (i := 4) rfl) dX11_become_26 ?_
  obtain ⟨M4, eM4, h⟩ := x_wI h
  refine r_putI (k := 3) (ty := .int) cx w tyX11 tyX11_ok nmX11 hL0 hK0 (by decide) rfl wi_X11_become_X11 (by decide) rfl rfl rfl rfl st_10_3 (ln_10 _ _ (by decide)) (List.mem_of_getElem? (i := 4) rfl) dX11_become_29 eM4 (fun H locs w => ?_)
  refine lv_aload_n hx hb dX11_become_32 rfl (lv_at hl 0 rfl) ?_
  refine lv_aload_n hx hb dX11_become_33 rfl (lv_at hl 1 rfl) ?_
  obtain ⟨q5, eq5, h⟩ := x_rf h
  obtain ⟨hLq5, hKq5⟩ := wt_q hG hL1 hK1 eq5
  have hKq5 : gK G q5 = 12 := hKq5
  refine r_getR (k := 4) cx w hL1 hK1 (by decide) rfl wi_X11_become_X11 (by decide) rfl eq5 (List.mem_of_getElem? (i := 5) rfl) dX11_become_34 ?_
  refine lv_aload_n hx hb dX11_become_37 rfl (lv_at hl 0 rfl) ?_
  obtain ⟨q6, eq6, h⟩ := x_rf h
  obtain ⟨hLq6, hKq6⟩ := wt_q hG hL0 hK0 eq6
  have hKq6 : gK G q6 = 12 := hKq6
  refine r_getR (k := 4) cx w hL0 hK0 (by decide) rfl wi_X11_become_X11 (by decide) rfl eq6 (List.mem_of_getElem? (i := 5) rfl) dX11_become_38 ?_
  obtain ⟨M7, r8, y9, h⟩ := x_cl h
  refine r_callVv (As := [.ref q5, .ref q6]) (rest := []) cx w hkn hl.1 (k_X11_copy hG hL0 hK0 hLq5 hKq5 hLq6 hKq6 y9) (cwV 2 hts gX11_become_X11_copy rfl rfl rfl (by decide +kernel) ⟨Nat.le_of_ble_eq_true rfl, Nat.le_of_ble_eq_true rfl⟩) hL0 hK0 (by decide) rfl rfl rfl (Nat.le_of_ble_eq_true rfl) dX11_become_41 (fun H locs w => ?_)
  refine lv_aload_n hx hb dX11_become_44 rfl (lv_at hl 0 rfl) ?_
  refine lv_aload_n hx hb dX11_become_45 rfl (lv_at hl 1 rfl) ?_
  obtain ⟨q10, eq10, h⟩ := x_rf h
  obtain ⟨hLq10, hKq10⟩ := wt_q hG hL1 hK1 eq10
  have hKq10 : gK G q10 = 12 := hKq10
  refine r_getR (k := 5) cx w hL1 hK1 (by decide) rfl wi_X11_become_X11 (by decide) rfl eq10 (List.mem_of_getElem? (i := 6) rfl) dX11_become_46 ?_
  refine lv_aload_n hx hb dX11_become_49 rfl (lv_at hl 0 rfl) ?_
  obtain ⟨q11, eq11, h⟩ := x_rf h
  obtain ⟨hLq11, hKq11⟩ := wt_q hG hL0 hK0 eq11
  have hKq11 : gK G q11 = 12 := hKq11
  refine r_getR (k := 5) cx w hL0 hK0 (by decide) rfl wi_X11_become_X11 (by decide) rfl eq11 (List.mem_of_getElem? (i := 6) rfl) dX11_become_50 ?_
  obtain ⟨M12, r13, y14, h⟩ := x_cl h
  refine r_callVv (As := [.ref q10, .ref q11]) (rest := []) cx w hkn hl.1 (k_X11_copy hG hL0 hK0 hLq10 hKq10 hLq11 hKq11 y14) (cwV 2 hts gX11_become_X11_copy rfl rfl rfl (by decide +kernel) ⟨Nat.le_of_ble_eq_true rfl, Nat.le_of_ble_eq_true rfl⟩) hL0 hK0 (by decide) rfl rfl rfl (Nat.le_of_ble_eq_true rfl) dX11_become_53 (fun H locs w => ?_)
  refine lv_aload_n hx hb dX11_become_56 rfl (lv_at hl 0 rfl) ?_
  refine lv_aload_n hx hb dX11_become_57 rfl (lv_at hl 1 rfl) ?_
  obtain ⟨q15, eq15, h⟩ := x_rf h
  obtain ⟨hLq15, hKq15⟩ := wt_q hG hL1 hK1 eq15
  have hKq15 : gK G q15 = 12 := hKq15
  refine r_getR (k := 6) cx w hL1 hK1 (by decide) rfl wi_X11_become_X11 (by decide) rfl eq15 (List.mem_of_getElem? (i := 7) rfl) dX11_become_58 ?_
  refine lv_aload_n hx hb dX11_become_61 rfl (lv_at hl 0 rfl) ?_
  obtain ⟨q16, eq16, h⟩ := x_rf h
  obtain ⟨hLq16, hKq16⟩ := wt_q hG hL0 hK0 eq16
  have hKq16 : gK G q16 = 12 := hKq16
  refine r_getR (k := 6) cx w hL0 hK0 (by decide) rfl wi_X11_become_X11 (by decide) rfl eq16 (List.mem_of_getElem? (i := 7) rfl) dX11_become_62 ?_
  obtain ⟨M17, r18, y19, h⟩ := x_cl h
  refine r_callVv (As := [.ref q15, .ref q16]) (rest := []) cx w hkn hl.1 (k_X11_copy hG hL0 hK0 hLq15 hKq15 hLq16 hKq16 y19) (cwV 2 hts gX11_become_X11_copy rfl rfl rfl (by decide +kernel) ⟨Nat.le_of_ble_eq_true rfl, Nat.le_of_ble_eq_true rfl⟩) hL0 hK0 (by decide) rfl rfl rfl (Nat.le_of_ble_eq_true rfl) dX11_become_65 (fun H locs w => ?_)
  refine lv_aload_n hx hb dX11_become_68 rfl (lv_at hl 0 rfl) ?_
  refine lv_aload_n hx hb dX11_become_69 rfl (lv_at hl 1 rfl) ?_
  obtain ⟨q20, eq20, h⟩ := x_rf h
  obtain ⟨hLq20, hKq20⟩ := wt_q hG hL1 hK1 eq20
  have hKq20 : gK G q20 = 12 := hKq20
  refine r_getR (k := 7) cx w hL1 hK1 (by decide) rfl wi_X11_become_X11 (by decide) rfl eq20 (List.mem_of_getElem? (i := 8) rfl) dX11_become_70 ?_
  refine lv_aload_n hx hb dX11_become_73 rfl (lv_at hl 0 rfl) ?_
  obtain ⟨q21, eq21, h⟩ := x_rf h
  obtain ⟨hLq21, hKq21⟩ := wt_q hG hL0 hK0 eq21
  have hKq21 : gK G q21 = 12 := hKq21
  refine r_getR (k := 7) cx w hL0 hK0 (by decide) rfl wi_X11_become_X11 (by decide) rfl eq21 (List.mem_of_getElem? (i := 8) rfl) dX11_become_74 ?_
  obtain ⟨M22, r23, y24, h⟩ := x_cl h
  refine r_callVv (As := [.ref q20, .ref q21]) (rest := []) cx w hkn hl.1 (k_X11_copy hG hL0 hK0 hLq20 hKq20 hLq21 hKq21 y24) (cwV 2 hts gX11_become_X11_copy rfl rfl rfl (by decide +kernel) ⟨Nat.le_of_ble_eq_true rfl, Nat.le_of_ble_eq_true rfl⟩) hL0 hK0 (by decide) rfl rfl rfl (Nat.le_of_ble_eq_true rfl) dX11_become_77 (fun H locs w => ?_)
  refine lv_aload_n hx hb dX11_become_80 rfl (lv_at hl 0 rfl) ?_
  refine lv_aload_n hx hb dX11_become_81 rfl (lv_at hl 1 rfl) ?_
  obtain ⟨q25, eq25, h⟩ := x_rf h
  obtain ⟨hLq25, hKq25⟩ := wt_q hG hL1 hK1 eq25
  have hKq25 : gK G q25 = 12 := hKq25
  refine r_getR (k := 8) cx w hL1 hK1 (by decide) rfl wi_X11_become_X11 (by decide) rfl eq25 (List.mem_of_getElem? (i := 9) rfl) dX11_become_82 ?_
  refine lv_aload_n hx hb dX11_become_85 rfl (lv_at hl 0 rfl) ?_
  obtain ⟨q26, eq26, h⟩ := x_rf h
  obtain ⟨hLq26, hKq26⟩ := wt_q hG hL0 hK0 eq26
  have hKq26 : gK G q26 = 12 := hKq26
  refine r_getR (k := 8) cx w hL0 hK0 (by decide) rfl wi_X11_become_X11 (by decide) rfl eq26 (List.mem_of_getElem? (i := 9) rfl) dX11_become_86 ?_
  obtain ⟨M27, r28, y29, h⟩ := x_cl h
  refine r_callVv (As := [.ref q25, .ref q26]) (rest := []) cx w hkn hl.1 (k_X11_copy hG hL0 hK0 hLq25 hKq25 hLq26 hKq26 y29) (cwV 2 hts gX11_become_X11_copy rfl rfl rfl (by decide +kernel) ⟨Nat.le_of_ble_eq_true rfl, Nat.le_of_ble_eq_true rfl⟩) hL0 hK0 (by decide) rfl rfl rfl (Nat.le_of_ble_eq_true rfl) dX11_become_89 (fun H locs w => ?_)
  refine lv_aload_n hx hb dX11_become_92 rfl (lv_at hl 0 rfl) ?_
  refine lv_aload_n hx hb dX11_become_93 rfl (lv_at hl 1 rfl) ?_
  obtain ⟨q30, eq30, h⟩ := x_rf h
  obtain ⟨hLq30, hKq30⟩ := wt_q hG hL1 hK1 eq30
  have hKq30 : gK G q30 = 12 := hKq30
  refine r_getR (k := 9) cx w hL1 hK1 (by decide) rfl wi_X11_become_X11 (by decide) rfl eq30 (List.mem_of_getElem? (i := 10) rfl) dX11_become_94 ?_
  refine lv_aload_n hx hb dX11_become_97 rfl (lv_at hl 0 rfl) ?_
  obtain ⟨q31, eq31, h⟩ := x_rf h
  obtain ⟨hLq31, hKq31⟩ := wt_q hG hL0 hK0 eq31
  have hKq31 : gK G q31 = 12 := hKq31
  refine r_getR (k := 9) cx w hL0 hK0 (by decide) rfl wi_X11_become_X11 (by decide) rfl eq31 (List.mem_of_getElem? (i := 10) rfl) dX11_become_98 ?_
  obtain ⟨M32, r33, y34, h⟩ := x_cl h
  refine r_callVv (As := [.ref q30, .ref q31]) (rest := []) cx w hkn hl.1 (k_X11_copy hG hL0 hK0 hLq30 hKq30 hLq31 hKq31 y34) (cwV 2 hts gX11_become_X11_copy rfl rfl rfl (by decide +kernel) ⟨Nat.le_of_ble_eq_true rfl, Nat.le_of_ble_eq_true rfl⟩) hL0 hK0 (by decide) rfl rfl rfl (Nat.le_of_ble_eq_true rfl) dX11_become_101 (fun H locs w => ?_)
  refine lv_aload_n hx hb dX11_become_104 rfl (lv_at hl 0 rfl) ?_
  refine lv_aload_n hx hb dX11_become_105 rfl (lv_at hl 1 rfl) ?_
  obtain ⟨q35, eq35, h⟩ := x_rf h
  obtain ⟨hLq35, hKq35⟩ := wt_q hG hL1 hK1 eq35
  have hKq35 : gK G q35 = 12 := hKq35
  refine r_getR (k := 10) cx w hL1 hK1 (by decide) rfl wi_X11_become_X11 (by decide) rfl eq35 (List.mem_of_getElem? (i := 11) rfl) dX11_become_106 ?_
  refine lv_aload_n hx hb dX11_become_109 rfl (lv_at hl 0 rfl) ?_
  obtain ⟨q36, eq36, h⟩ := x_rf h
  obtain ⟨hLq36, hKq36⟩ := wt_q hG hL0 hK0 eq36
  have hKq36 : gK G q36 = 12 := hKq36
  refine r_getR (k := 10) cx w hL0 hK0 (by decide) rfl wi_X11_become_X11 (by decide) rfl eq36 (List.mem_of_getElem? (i := 11) rfl) dX11_become_110 ?_
  obtain ⟨M37, r38, y39, h⟩ := x_cl h
  refine r_callVv (As := [.ref q35, .ref q36]) (rest := []) cx w hkn hl.1 (k_X11_copy hG hL0 hK0 hLq35 hKq35 hLq36 hKq36 y39) (cwV 2 hts gX11_become_X11_copy rfl rfl rfl (by decide +kernel) ⟨Nat.le_of_ble_eq_true rfl, Nat.le_of_ble_eq_true rfl⟩) hL0 hK0 (by decide) rfl rfl rfl (Nat.le_of_ble_eq_true rfl) dX11_become_113 (fun H locs w => ?_)
  refine lv_aload_n hx hb dX11_become_116 rfl (lv_at hl 0 rfl) ?_
  refine lv_aload_n hx hb dX11_become_117 rfl (lv_at hl 1 rfl) ?_
  obtain ⟨q40, eq40, h⟩ := x_rf h
  obtain ⟨hLq40, hKq40⟩ := wt_q hG hL1 hK1 eq40
  have hKq40 : gK G q40 = 12 := hKq40
  refine r_getR (k := 11) cx w hL1 hK1 (by decide) rfl wi_X11_become_X11 (by decide) rfl eq40 (List.mem_of_getElem? (i := 12) rfl) dX11_become_118 ?_
  refine lv_aload_n hx hb dX11_become_121 rfl (lv_at hl 0 rfl) ?_
  obtain ⟨q41, eq41, h⟩ := x_rf h
  obtain ⟨hLq41, hKq41⟩ := wt_q hG hL0 hK0 eq41
  have hKq41 : gK G q41 = 12 := hKq41
  refine r_getR (k := 11) cx w hL0 hK0 (by decide) rfl wi_X11_become_X11 (by decide) rfl eq41 (List.mem_of_getElem? (i := 12) rfl) dX11_become_122 ?_
  obtain ⟨M42, r43, y44, h⟩ := x_cl h
  refine r_callVv (As := [.ref q40, .ref q41]) (rest := []) cx w hkn hl.1 (k_X11_copy hG hL0 hK0 hLq40 hKq40 hLq41 hKq41 y44) (cwV 2 hts gX11_become_X11_copy rfl rfl rfl (by decide +kernel) ⟨Nat.le_of_ble_eq_true rfl, Nat.le_of_ble_eq_true rfl⟩) hL0 hK0 (by decide) rfl rfl rfl (Nat.le_of_ble_eq_true rfl) dX11_become_125 (fun H locs w => ?_)
  refine lv_aload_n hx hb dX11_become_128 rfl (lv_at hl 0 rfl) ?_
  refine lv_aload_n hx hb dX11_become_129 rfl (lv_at hl 1 rfl) ?_
  obtain ⟨q45, eq45, h⟩ := x_rf h
  obtain ⟨hLq45, hKq45⟩ := wt_q hG hL1 hK1 eq45
  have hKq45 : gK G q45 = 12 := hKq45
  refine r_getR (k := 12) cx w hL1 hK1 (by decide) rfl wi_X11_become_X11 (by decide) rfl eq45 (List.mem_of_getElem? (i := 13) rfl) dX11_become_130 ?_
  refine lv_aload_n hx hb dX11_become_133 rfl (lv_at hl 0 rfl) ?_
  obtain ⟨q46, eq46, h⟩ := x_rf h
  obtain ⟨hLq46, hKq46⟩ := wt_q hG hL0 hK0 eq46
  have hKq46 : gK G q46 = 12 := hKq46
  refine r_getR (k := 12) cx w hL0 hK0 (by decide) rfl wi_X11_become_X11 (by decide) rfl eq46 (List.mem_of_getElem? (i := 13) rfl) dX11_become_134 ?_
  obtain ⟨M47, r48, y49, h⟩ := x_cl h
  refine r_callVv (As := [.ref q45, .ref q46]) (rest := []) cx w hkn hl.1 (k_X11_copy hG hL0 hK0 hLq45 hKq45 hLq46 hKq46 y49) (cwV 2 hts gX11_become_X11_copy rfl rfl rfl (by decide +kernel) ⟨Nat.le_of_ble_eq_true rfl, Nat.le_of_ble_eq_true rfl⟩) hL0 hK0 (by decide) rfl rfl rfl (Nat.le_of_ble_eq_true rfl) dX11_become_137 (fun H locs w => ?_)
  refine lv_aload_n hx hb dX11_become_140 rfl (lv_at hl 0 rfl) ?_
  refine lv_aload_n hx hb dX11_become_141 rfl (lv_at hl 1 rfl) ?_
  obtain ⟨q50, eq50, h⟩ := x_rf h
  obtain ⟨hLq50, hKq50⟩ := wt_q hG hL1 hK1 eq50
  have hKq50 : gK G q50 = 12 := hKq50
  refine r_getR (k := 13) cx w hL1 hK1 (by decide) rfl wi_X11_become_X11 (by decide) rfl eq50 (List.mem_of_getElem? (i := 14) rfl) dX11_become_142 ?_
  refine lv_aload_n hx hb dX11_become_145 rfl (lv_at hl 0 rfl) ?_
  obtain ⟨q51, eq51, h⟩ := x_rf h
  obtain ⟨hLq51, hKq51⟩ := wt_q hG hL0 hK0 eq51
  have hKq51 : gK G q51 = 12 := hKq51
  refine r_getR (k := 13) cx w hL0 hK0 (by decide) rfl wi_X11_become_X11 (by decide) rfl eq51 (List.mem_of_getElem? (i := 14) rfl) dX11_become_146 ?_
  obtain ⟨M52, r53, y54, h⟩ := x_cl h
  refine r_callVv (As := [.ref q50, .ref q51]) (rest := []) cx w hkn hl.1 (k_X11_copy hG hL0 hK0 hLq50 hKq50 hLq51 hKq51 y54) (cwV 2 hts gX11_become_X11_copy rfl rfl rfl (by decide +kernel) ⟨Nat.le_of_ble_eq_true rfl, Nat.le_of_ble_eq_true rfl⟩) hL0 hK0 (by decide) rfl rfl rfl (Nat.le_of_ble_eq_true rfl) dX11_become_149 (fun H locs w => ?_)
  refine lv_aload_n hx hb dX11_become_152 rfl (lv_at hl 0 rfl) ?_
  exact r_aret cx w h dX11_become_153
-- X11_forget
theorem wi_X11_forget_X11 : ∀ w ∈ wsX110, w ∈ wsX11_forget := by decide +kernel
abbrev rmX11_forget : Room := { frames := 0, cells := 0, slots := 0, locals := 0 }
def m_X11_forget_9 (G : gS) (a0 : Nat) (c1 : Int32)  : Nat → mS → Int32 → Option (mS × Unit)
  | 0, _, _ => none
  | n + 1, M, v2 => (if (120 : Int32) < v2 then some (M, ()) else o_rf (gP G a0 13) (fun q2 => o_ix (((121 : Int32) * c1) + v2) (gN G q2) (o_wI M q2 (Int32.toNatClampNeg (((121 : Int32) * c1) + v2)) (0 : Int32) (fun M4 => o_bd (v2 + 1 : Int32) (fun x5 => m_X11_forget_9 G a0 c1 n M4 x5)))))
def m_X11_forget (G : gS) (M : mS) (a0 : Nat) (c1 : Int32) : Option (mS × Unit) := o_rf (gP G a0 11) (fun q1 => o_ix c1 (gN G q1) (o_wI M q1 (Int32.toNatClampNeg c1) (0 : Int32) (fun M3 => m_X11_forget_9 G a0 c1 fu M3 ((0 : Int32)))))
set_option maxHeartbeats 4000000 in
set_option maxRecDepth 100000 in
theorem b_X11_forget_9 {p : Program} {e : Env} {s : State} {m : MethodId} {args : Array Value} {below : List Frame} {meth : Method} {c : Code} {A : Nat → Prop} {l : Launch} {D : va_G} {cy : cyS} {G : gS} (cx : cX p s m args meth c cX11_forget RX11 3 none wsX11_forget D cy G A) {k0 n0 : Nat} (hkn : k0 ≤ (rmX11_forget).cells ∧ n0 ≤ (rmX11_forget).slots) {M' : mS} {a0 : Nat} {c1 : Int32} (hL0 : a0 ∈ gL G) (hK0 : gK G a0 = 10)  : ∀ (n : Nat), ∀ (M : mS) (v2 : Int32) (H : Heap) (locs : List Loc) (ls : Array Slot), m_X11_forget_9 G a0 c1 n M v2 = some (M', ()) → wd D cy G M A s.heap H locs → lv_has ls 3 [(0, .ref a0), (1, .int c1), (2, .int v2)] → W p l e rmX11_forget s m args below meth c H locs k0 n0 (MQ below (va_Qv (fun (_ : Unit) => True) (fun _ t => wOut D cy G M' t) A) args s k0 n0 A) (F0 m 9 ls []) := by
  obtain ⟨hx, hb, hml, hown, hts, hr, hlocks, hK, hA, hG, hsx⟩ := id cx
  intro n
  induction n with
  | zero =>
    intro M v2 H locs ls h w hl
    have h : none = some _ := h
    cases h
  | succ n ih =>
    intro M v2 H locs ls h w hl
    rw [m_X11_forget_9] at h
    refine lv_iload_n hx hb dX11_forget_9 rfl (lv_at hl 2 rfl) ?_
    refine lv_bipush (v := (120 : Int32)) hx hb dX11_forget_10 (by decide) ?_
    refine lv_icmp_gt (tgt := 33) hx hb dX11_forget_12 (by decide) (fun k1 => ?_) (fun k1 => ?_)
    · have h := x_t h k1
      exact r_vret cx w h dX11_forget_33
    · have h := x_f h k1
      refine lv_aload_n hx hb dX11_forget_15 rfl (lv_at hl 0 rfl) ?_
      obtain ⟨q2, eq2, h⟩ := x_rf h
      obtain ⟨hLq2, hKq2⟩ := wt_q hG hL0 hK0 eq2
      have hKq2 : gK G q2 = 12 := hKq2
      refine r_getR (k := 13) cx w hL0 hK0 (by decide) rfl wi_X11_forget_X11 (by decide) rfl eq2 (List.mem_of_getElem? (i := 2) rfl) dX11_forget_16 ?_
      refine lv_bipush (v := (121 : Int32)) hx hb dX11_forget_19 (by decide) ?_
      refine lv_iload_n hx hb dX11_forget_21 rfl (lv_at hl 1 rfl) ?_
      refine lv_imul hx hb dX11_forget_22 ?_
      refine lv_iload_n hx hb dX11_forget_23 rfl (lv_at hl 2 rfl) ?_
      refine lv_iadd hx hb dX11_forget_24 ?_
      refine lv_iconst (v := (0 : Int32)) hx hb dX11_forget_25 (by decide) ?_
      obtain ⟨z3, h⟩ := x_ix h
      obtain ⟨M4, eM4, h⟩ := x_wI h
      refine r_iast cx w hLq2 hKq2 z3 dX11_forget_26 eM4 (fun H locs w => ?_)
      obtain ⟨x5, ex5, h⟩ := x_bd h
      refine lv_iinc (v := x5) (lv' := [(2, .int x5), (0, .ref a0), (1, .int c1)]) hx hb dX11_forget_27 hl (k := 2) rfl (by rw [ex5]; rfl) (by decide) rfl (fun ls hl => ?_)
      refine lv_goto (tgt := 9) hx hb dX11_forget_30 (by decide) ?_
      exact ih M4 x5 H locs ls h w (lv_sub hl [1, 2, 0] rfl)
set_option maxHeartbeats 4000000 in
set_option maxRecDepth 100000 in
theorem k_X11_forget {l : Launch} {D : va_G} {cy : cyS} {G : gS} {M M' : mS} {a0 : Nat} {c1 : Int32} (hG : wt G) (hL0 : a0 ∈ gL G) (hK0 : gK G a0 = 10) (h : m_X11_forget G M a0 c1 = some (M', ())) : ctV l yX11_forget wsX11_forget rmX11_forget D cy G M [.ref a0, .int c1] M' := by
  unfold m_X11_forget at h
  refine ctV_of (cc := cX11_forget) (nL := 3) (ret := none) (lv := [(0, .ref a0), (1, .int c1)]) hG (by decide) rfl ⟨rfl, rfl⟩ (Nat.le_of_ble_eq_true rfl) rfl ?_
  intro p e s m args below meth c A ls cx w hl
  obtain ⟨hx, hb, hml, hown, hts, hr, hlocks, hK, hA, -, hsx⟩ := id cx
  have hkn : 0 ≤ (rmX11_forget).cells ∧ 0 ≤ (rmX11_forget).slots := ⟨Nat.zero_le _, Nat.zero_le _⟩
  refine lv_aload_n hx hb dX11_forget_0 rfl (lv_at hl 0 rfl) ?_
  obtain ⟨q1, eq1, h⟩ := x_rf h
  obtain ⟨hLq1, hKq1⟩ := wt_q hG hL0 hK0 eq1
  have hKq1 : gK G q1 = 12 := hKq1
  refine r_getR (k := 11) cx w hL0 hK0 (by decide) rfl wi_X11_forget_X11 (by decide) rfl eq1 (List.mem_of_getElem? (i := 1) rfl) dX11_forget_1 ?_
  refine lv_iload_n hx hb dX11_forget_4 rfl (lv_at hl 1 rfl) ?_
  refine lv_iconst (v := (0 : Int32)) hx hb dX11_forget_5 (by decide) ?_
  obtain ⟨z2, h⟩ := x_ix h
  obtain ⟨M3, eM3, h⟩ := x_wI h
  refine r_iast cx w hLq1 hKq1 z2 dX11_forget_6 eM3 (fun H locs w => ?_)
  refine lv_iconst (v := (0 : Int32)) hx hb dX11_forget_7 (by decide) ?_
  refine lv_istore_n (lv' := [(2, .int ((0 : Int32))), (0, .ref a0), (1, .int c1)]) hx hb dX11_forget_8 rfl hl (by decide) rfl (fun ls hl => ?_)
  exact b_X11_forget_9 cx hkn hL0 hK0 fu M3 ((0 : Int32)) H locs ls h w (lv_sub hl [1, 2, 0] rfl)
-- X11_begin
theorem wi_X11_begin_X10 : ∀ w ∈ wsX100, w ∈ wsX11_begin := by decide +kernel
theorem wi_X11_begin_X11 : ∀ w ∈ wsX110, w ∈ wsX11_begin := by decide +kernel
theorem wi_X11_begin_X12 : ∀ w ∈ wsX120, w ∈ wsX11_begin := by decide +kernel
abbrev rmX11_begin : Room := { frames := 2, cells := 0, slots := 0, locals := 82 }
def m_X11_begin_87 (G : gS) (a0 : Nat) (kb40 : mS → Int32 → Option (mS × Unit)) (kb55 : mS → Int32 → Int32 → Option (mS × Unit)) (M : mS) (v1 : Int32) (v2 : Int32) (s0 : Nat) (s1 : Int32) (s2 : Int32) (s3 : Int32) : Option (mS × Unit) := o_ix s1 (gN G s0) (o_wI M s0 (Int32.toNatClampNeg s1) (s2 + s3) (fun M2 => o_bd (v2 + 1 : Int32) (fun x3 => kb55 M2 v1 x3)))
def m_X11_begin_55 (G : gS) (a0 : Nat) (kb40 : mS → Int32 → Option (mS × Unit)) : Nat → mS → Int32 → Int32 → Option (mS × Unit)
  | 0, _, _, _ => none
  | n + 1, M, v1, v2 => (if (64 : Int32) ≤ v2 then o_bd (v1 + 1 : Int32) (fun x2 => kb40 M x2) else o_rf (gP G a0 5) (fun q3 => o_ix v1 (gN G q3) (o_rf (gP G a0 4) (fun q5 => o_ix (((64 : Int32) * v1) + v2) (gN G q5) ((if (mI M q5 (Int32.toNatClampNeg (((64 : Int32) * v1) + v2))) ≤ 0 then m_X11_begin_87 G a0 kb40 (fun M v1 v2 => m_X11_begin_55 G a0 kb40 n M v1 v2) M v1 v2 q3 v1 ((mI M q3 (Int32.toNatClampNeg v1))) ((0 : Int32)) else m_X11_begin_87 G a0 kb40 (fun M v1 v2 => m_X11_begin_55 G a0 kb40 n M v1 v2) M v1 v2 q3 v1 ((mI M q3 (Int32.toNatClampNeg v1))) ((1 : Int32))))))))
def m_X11_begin_157 (G : gS) (a0 : Nat)  : Nat → mS → Int32 → Option (mS × Unit)
  | 0, _, _ => none
  | n + 1, M, v1 => (if (6 : Int32) ≤ v1 then some (M, ()) else o_rf (gP G a0 9) (fun q2 => o_ix v1 (gN G q2) (o_wI M q2 (Int32.toNatClampNeg v1) (0 : Int32) (fun M4 => o_rf (gP G a0 10) (fun q5 => o_ix v1 (gN G q5) (o_wI M4 q5 (Int32.toNatClampNeg v1) (0 : Int32) (fun M7 => o_cl (m_X11_forget G M7 a0 v1) (fun M8 r9 => o_bd (v1 + 1 : Int32) (fun x11 => m_X11_begin_157 G a0 n M8 x11)))))))))
def m_X11_begin_40 (G : gS) (a0 : Nat)  : Nat → mS → Int32 → Option (mS × Unit)
  | 0, _, _ => none
  | n + 1, M, v1 => (if (64 : Int32) ≤ v1 then o_rf (gP G a0 15) (fun q2 => o_rf (gP G q2 11) (fun q3 => o_rf (gP G q3 7) (fun q4 => o_rf (gP G a0 6) (fun q5 => o_cl (m_X11_copy G M a0 q4 q5) (fun M6 r7 => o_rf (gP G a0 15) (fun q9 => o_rf (gP G q9 11) (fun q10 => o_rf (gP G q10 8) (fun q11 => o_rf (gP G a0 7) (fun q12 => o_cl (m_X11_copy G M6 a0 q11 q12) (fun M13 r14 => o_rf (gP G a0 15) (fun q16 => o_rf (gP G q16 11) (fun q17 => o_rf (gP G q17 9) (fun q18 => o_rf (gP G a0 8) (fun q19 => o_cl (m_X11_copy G M13 a0 q18 q19) (fun M20 r21 => m_X11_begin_157 G a0 fu M20 ((0 : Int32))))))))))))))))) else o_rf (gP G a0 5) (fun q23 => o_ix v1 (gN G q23) (o_wI M q23 (Int32.toNatClampNeg v1) (0 : Int32) (fun M25 => m_X11_begin_55 G a0 (fun M v1 => m_X11_begin_40 G a0 n M v1) fu M25 v1 ((0 : Int32))))))
def m_X11_begin (G : gS) (M : mS) (a0 : Nat) : Option (mS × Unit) := o_wI M a0 0 (0 : Int32) (fun M1 => o_wI M1 a0 1 (0 : Int32) (fun M2 => o_wI M2 a0 2 (0 : Int32) (fun M3 => o_wI M3 a0 3 (0 : Int32) (fun M4 => o_rf (gP G a0 15) (fun q5 => o_rf (gP G q5 11) (fun q6 => o_rf (gP G q6 10) (fun q7 => o_rf (gP G a0 4) (fun q8 => o_cl (m_X11_copy G M4 a0 q7 q8) (fun M9 r10 => m_X11_begin_40 G a0 fu M9 ((0 : Int32)))))))))))
set_option maxHeartbeats 4000000 in
set_option maxRecDepth 100000 in
theorem b_X11_begin_87 {p : Program} {e : Env} {s : State} {m : MethodId} {args : Array Value} {below : List Frame} {meth : Method} {c : Code} {A : Nat → Prop} {l : Launch} {D : va_G} {cy : cyS} {G : gS} (cx : cX p s m args meth c cX11_begin RX11 3 none wsX11_begin D cy G A) {k0 n0 : Nat} (hkn : k0 ≤ (rmX11_begin).cells ∧ n0 ≤ (rmX11_begin).slots) {M' : mS} {a0 : Nat} (hL0 : a0 ∈ gL G) (hK0 : gK G a0 = 10) {kb40 : mS → Int32 → Option (mS × Unit)} (hkb40 : ∀ (M : mS) (v1 : Int32) (H : Heap) (locs : List Loc) (ls : Array Slot), kb40 M v1 = some (M', ()) → wd D cy G M A s.heap H locs → lv_has ls 3 [(0, .ref a0), (1, .int v1)] → W p l e rmX11_begin s m args below meth c H locs k0 n0 (MQ below (va_Qv (fun (_ : Unit) => True) (fun _ t => wOut D cy G M' t) A) args s k0 n0 A) (F0 m 40 ls [])) {kb55 : mS → Int32 → Int32 → Option (mS × Unit)} (hkb55 : ∀ (M : mS) (v1 : Int32) (v2 : Int32) (H : Heap) (locs : List Loc) (ls : Array Slot), kb55 M v1 v2 = some (M', ()) → wd D cy G M A s.heap H locs → lv_has ls 3 [(0, .ref a0), (1, .int v1), (2, .int v2)] → W p l e rmX11_begin s m args below meth c H locs k0 n0 (MQ below (va_Qv (fun (_ : Unit) => True) (fun _ t => wOut D cy G M' t) A) args s k0 n0 A) (F0 m 55 ls [])) : ∀ (M : mS) (v1 : Int32) (v2 : Int32) (s0 : Nat) (s1 : Int32) (s2 : Int32) (s3 : Int32) (H : Heap) (locs : List Loc) (ls : Array Slot), s0 ∈ gL G → gK G s0 = 12 → m_X11_begin_87 G a0 kb40 kb55 M v1 v2 s0 s1 s2 s3 = some (M', ()) → wd D cy G M A s.heap H locs → lv_has ls 3 [(0, .ref a0), (1, .int v1), (2, .int v2)] → W p l e rmX11_begin s m args below meth c H locs k0 n0 (MQ below (va_Qv (fun (_ : Unit) => True) (fun _ t => wOut D cy G M' t) A) args s k0 n0 A) (F0 m 87 ls [.int s3, .int s2, .int s1, .ref s0]) := by
  obtain ⟨hx, hb, hml, hown, hts, hr, hlocks, hK, hA, hG, hsx⟩ := id cx
  intro M v1 v2 s0 s1 s2 s3 H locs ls sL0 sK0 h w hl
  unfold m_X11_begin_87 at h
  refine lv_iadd hx hb dX11_begin_87 ?_
  obtain ⟨z1, h⟩ := x_ix h
  obtain ⟨M2, eM2, h⟩ := x_wI h
  refine r_iast cx w sL0 sK0 z1 dX11_begin_88 eM2 (fun H locs w => ?_)
  obtain ⟨x3, ex3, h⟩ := x_bd h
  refine lv_iinc (v := x3) (lv' := [(2, .int x3), (0, .ref a0), (1, .int v1)]) hx hb dX11_begin_89 hl (k := 2) rfl (by rw [ex3]; rfl) (by decide) rfl (fun ls hl => ?_)
  refine lv_goto (tgt := 55) hx hb dX11_begin_92 (by decide) ?_
  exact hkb55 M2 v1 x3 H locs ls h w (lv_sub hl [1, 2, 0] rfl)
set_option maxHeartbeats 4000000 in
set_option maxRecDepth 100000 in
theorem b_X11_begin_55 {p : Program} {e : Env} {s : State} {m : MethodId} {args : Array Value} {below : List Frame} {meth : Method} {c : Code} {A : Nat → Prop} {l : Launch} {D : va_G} {cy : cyS} {G : gS} (cx : cX p s m args meth c cX11_begin RX11 3 none wsX11_begin D cy G A) {k0 n0 : Nat} (hkn : k0 ≤ (rmX11_begin).cells ∧ n0 ≤ (rmX11_begin).slots) {M' : mS} {a0 : Nat} (hL0 : a0 ∈ gL G) (hK0 : gK G a0 = 10) {kb40 : mS → Int32 → Option (mS × Unit)} (hkb40 : ∀ (M : mS) (v1 : Int32) (H : Heap) (locs : List Loc) (ls : Array Slot), kb40 M v1 = some (M', ()) → wd D cy G M A s.heap H locs → lv_has ls 3 [(0, .ref a0), (1, .int v1)] → W p l e rmX11_begin s m args below meth c H locs k0 n0 (MQ below (va_Qv (fun (_ : Unit) => True) (fun _ t => wOut D cy G M' t) A) args s k0 n0 A) (F0 m 40 ls [])) : ∀ (n : Nat), ∀ (M : mS) (v1 : Int32) (v2 : Int32) (H : Heap) (locs : List Loc) (ls : Array Slot), m_X11_begin_55 G a0 kb40 n M v1 v2 = some (M', ()) → wd D cy G M A s.heap H locs → lv_has ls 3 [(0, .ref a0), (1, .int v1), (2, .int v2)] → W p l e rmX11_begin s m args below meth c H locs k0 n0 (MQ below (va_Qv (fun (_ : Unit) => True) (fun _ t => wOut D cy G M' t) A) args s k0 n0 A) (F0 m 55 ls []) := by
  obtain ⟨hx, hb, hml, hown, hts, hr, hlocks, hK, hA, hG, hsx⟩ := id cx
  intro n
  induction n with
  | zero =>
    intro M v1 v2 H locs ls h w hl
    have h : none = some _ := h
    cases h
  | succ n ih =>
    intro M v1 v2 H locs ls h w hl
    rw [m_X11_begin_55] at h
    refine lv_iload_n hx hb dX11_begin_55 rfl (lv_at hl 2 rfl) ?_
    refine lv_bipush (v := (64 : Int32)) hx hb dX11_begin_56 (by decide) ?_
    refine lv_icmp_ge (tgt := 95) hx hb dX11_begin_58 (by decide) (fun k1 => ?_) (fun k1 => ?_)
    · have h := x_t h k1
      obtain ⟨x2, ex2, h⟩ := x_bd h
      refine lv_iinc (v := x2) (lv' := [(1, .int x2), (0, .ref a0), (2, .int v2)]) hx hb dX11_begin_95 hl (k := 1) rfl (by rw [ex2]; rfl) (by decide) rfl (fun ls hl => ?_)
      refine lv_goto (tgt := 40) hx hb dX11_begin_98 (by decide) ?_
      exact hkb40 M x2 H locs ls h w (lv_sub hl [1, 0] rfl)
    · have h := x_f h k1
      refine lv_aload_n hx hb dX11_begin_61 rfl (lv_at hl 0 rfl) ?_
      obtain ⟨q3, eq3, h⟩ := x_rf h
      obtain ⟨hLq3, hKq3⟩ := wt_q hG hL0 hK0 eq3
      have hKq3 : gK G q3 = 12 := hKq3
      refine r_getR (k := 5) cx w hL0 hK0 (by decide) rfl wi_X11_begin_X11 (by decide) rfl eq3 (List.mem_of_getElem? (i := 7) rfl) dX11_begin_62 ?_
      refine lv_iload_n hx hb dX11_begin_65 rfl (lv_at hl 1 rfl) ?_
      refine lv_dup2_11 hx hb dX11_begin_66 rfl rfl ?_
      obtain ⟨z4, h⟩ := x_ix h
      refine r_iald cx w hLq3 hKq3 z4 dX11_begin_67 ?_
      refine lv_aload_n hx hb dX11_begin_68 rfl (lv_at hl 0 rfl) ?_
      obtain ⟨q5, eq5, h⟩ := x_rf h
      obtain ⟨hLq5, hKq5⟩ := wt_q hG hL0 hK0 eq5
      have hKq5 : gK G q5 = 12 := hKq5
      refine r_getR (k := 4) cx w hL0 hK0 (by decide) rfl wi_X11_begin_X11 (by decide) rfl eq5 (List.mem_of_getElem? (i := 6) rfl) dX11_begin_69 ?_
      refine lv_bipush (v := (64 : Int32)) hx hb dX11_begin_72 (by decide) ?_
      refine lv_iload_n hx hb dX11_begin_74 rfl (lv_at hl 1 rfl) ?_
      refine lv_imul hx hb dX11_begin_75 ?_
      refine lv_iload_n hx hb dX11_begin_76 rfl (lv_at hl 2 rfl) ?_
      refine lv_iadd hx hb dX11_begin_77 ?_
      obtain ⟨z6, h⟩ := x_ix h
      refine r_iald cx w hLq5 hKq5 z6 dX11_begin_78 ?_
      refine lv_if_le (tgt := 86) hx hb dX11_begin_79 (by decide) (fun k7 => ?_) (fun k7 => ?_)
      · have h := x_t h k7
        refine lv_iconst (v := (0 : Int32)) hx hb dX11_begin_86 (by decide) ?_
        exact b_X11_begin_87 cx hkn hL0 hK0 (hkb40 := hkb40) (hkb55 := ih) M v1 v2 q3 v1 ((mI M q3 (Int32.toNatClampNeg v1))) ((0 : Int32)) H locs ls hLq3 hKq3 h w (lv_sub hl [0, 1, 2] rfl)
      · have h := x_f h k7
        refine lv_iconst (v := (1 : Int32)) hx hb dX11_begin_82 (by decide) ?_
        refine lv_goto (tgt := 87) hx hb dX11_begin_83 (by decide) ?_
        exact b_X11_begin_87 cx hkn hL0 hK0 (hkb40 := hkb40) (hkb55 := ih) M v1 v2 q3 v1 ((mI M q3 (Int32.toNatClampNeg v1))) ((1 : Int32)) H locs ls hLq3 hKq3 h w (lv_sub hl [0, 1, 2] rfl)
set_option maxHeartbeats 4000000 in
set_option maxRecDepth 100000 in
theorem b_X11_begin_157 {p : Program} {e : Env} {s : State} {m : MethodId} {args : Array Value} {below : List Frame} {meth : Method} {c : Code} {A : Nat → Prop} {l : Launch} {D : va_G} {cy : cyS} {G : gS} (cx : cX p s m args meth c cX11_begin RX11 3 none wsX11_begin D cy G A) {k0 n0 : Nat} (hkn : k0 ≤ (rmX11_begin).cells ∧ n0 ≤ (rmX11_begin).slots) {M' : mS} {a0 : Nat} (hL0 : a0 ∈ gL G) (hK0 : gK G a0 = 10)  : ∀ (n : Nat), ∀ (M : mS) (v1 : Int32) (H : Heap) (locs : List Loc) (ls : Array Slot), m_X11_begin_157 G a0 n M v1 = some (M', ()) → wd D cy G M A s.heap H locs → lv_has ls 3 [(0, .ref a0), (1, .int v1)] → W p l e rmX11_begin s m args below meth c H locs k0 n0 (MQ below (va_Qv (fun (_ : Unit) => True) (fun _ t => wOut D cy G M' t) A) args s k0 n0 A) (F0 m 157 ls []) := by
  obtain ⟨hx, hb, hml, hown, hts, hr, hlocks, hK, hA, hG, hsx⟩ := id cx
  intro n
  induction n with
  | zero =>
    intro M v1 H locs ls h w hl
    have h : none = some _ := h
    cases h
  | succ n ih =>
    intro M v1 H locs ls h w hl
    rw [m_X11_begin_157] at h
    refine lv_iload_n hx hb dX11_begin_157 rfl (lv_at hl 1 rfl) ?_
    refine lv_bipush (v := (6 : Int32)) hx hb dX11_begin_158 (by decide) ?_
    refine lv_icmp_ge (tgt := 188) hx hb dX11_begin_160 (by decide) (fun k1 => ?_) (fun k1 => ?_)
    · have h := x_t h k1
      exact r_vret cx w h dX11_begin_188
    · have h := x_f h k1
      refine lv_aload_n hx hb dX11_begin_163 rfl (lv_at hl 0 rfl) ?_
      obtain ⟨q2, eq2, h⟩ := x_rf h
      obtain ⟨hLq2, hKq2⟩ := wt_q hG hL0 hK0 eq2
      have hKq2 : gK G q2 = 12 := hKq2
      refine r_getR (k := 9) cx w hL0 hK0 (by decide) rfl wi_X11_begin_X11 (by decide) rfl eq2 (List.mem_of_getElem? (i := 11) rfl) dX11_begin_164 ?_
      refine lv_iload_n hx hb dX11_begin_167 rfl (lv_at hl 1 rfl) ?_
      refine lv_iconst (v := (0 : Int32)) hx hb dX11_begin_168 (by decide) ?_
      obtain ⟨z3, h⟩ := x_ix h
      obtain ⟨M4, eM4, h⟩ := x_wI h
      refine r_iast cx w hLq2 hKq2 z3 dX11_begin_169 eM4 (fun H locs w => ?_)
      refine lv_aload_n hx hb dX11_begin_170 rfl (lv_at hl 0 rfl) ?_
      obtain ⟨q5, eq5, h⟩ := x_rf h
      obtain ⟨hLq5, hKq5⟩ := wt_q hG hL0 hK0 eq5
      have hKq5 : gK G q5 = 12 := hKq5
      refine r_getR (k := 10) cx w hL0 hK0 (by decide) rfl wi_X11_begin_X11 (by decide) rfl eq5 (List.mem_of_getElem? (i := 12) rfl) dX11_begin_171 ?_
      refine lv_iload_n hx hb dX11_begin_174 rfl (lv_at hl 1 rfl) ?_
      refine lv_iconst (v := (0 : Int32)) hx hb dX11_begin_175 (by decide) ?_
      obtain ⟨z6, h⟩ := x_ix h
      obtain ⟨M7, eM7, h⟩ := x_wI h
      refine r_iast cx w hLq5 hKq5 z6 dX11_begin_176 eM7 (fun H locs w => ?_)
      refine lv_aload_n hx hb dX11_begin_177 rfl (lv_at hl 0 rfl) ?_
      refine lv_iload_n hx hb dX11_begin_178 rfl (lv_at hl 1 rfl) ?_
      obtain ⟨M8, r9, y10, h⟩ := x_cl h
      refine r_callVv (As := [.int v1]) (rest := []) cx w hkn hl.1 (k_X11_forget hG hL0 hK0 y10) (cwV 1 hts gX11_begin_X11_forget rfl rfl rfl (by decide +kernel) ⟨Nat.le_of_ble_eq_true rfl, Nat.le_of_ble_eq_true rfl⟩) hL0 hK0 (by decide) rfl rfl rfl (Nat.le_of_ble_eq_true rfl) dX11_begin_179 (fun H locs w => ?_)
      obtain ⟨x11, ex11, h⟩ := x_bd h
      refine lv_iinc (v := x11) (lv' := [(1, .int x11), (0, .ref a0)]) hx hb dX11_begin_182 hl (k := 1) rfl (by rw [ex11]; rfl) (by decide) rfl (fun ls hl => ?_)
      refine lv_goto (tgt := 157) hx hb dX11_begin_185 (by decide) ?_
      exact ih M8 x11 H locs ls h w (lv_sub hl [1, 0] rfl)
set_option maxHeartbeats 4000000 in
set_option maxRecDepth 100000 in
theorem b_X11_begin_40 {p : Program} {e : Env} {s : State} {m : MethodId} {args : Array Value} {below : List Frame} {meth : Method} {c : Code} {A : Nat → Prop} {l : Launch} {D : va_G} {cy : cyS} {G : gS} (cx : cX p s m args meth c cX11_begin RX11 3 none wsX11_begin D cy G A) {k0 n0 : Nat} (hkn : k0 ≤ (rmX11_begin).cells ∧ n0 ≤ (rmX11_begin).slots) {M' : mS} {a0 : Nat} (hL0 : a0 ∈ gL G) (hK0 : gK G a0 = 10)  : ∀ (n : Nat), ∀ (M : mS) (v1 : Int32) (H : Heap) (locs : List Loc) (ls : Array Slot), m_X11_begin_40 G a0 n M v1 = some (M', ()) → wd D cy G M A s.heap H locs → lv_has ls 3 [(0, .ref a0), (1, .int v1)] → W p l e rmX11_begin s m args below meth c H locs k0 n0 (MQ below (va_Qv (fun (_ : Unit) => True) (fun _ t => wOut D cy G M' t) A) args s k0 n0 A) (F0 m 40 ls []) := by
  obtain ⟨hx, hb, hml, hown, hts, hr, hlocks, hK, hA, hG, hsx⟩ := id cx
  intro n
  induction n with
  | zero =>
    intro M v1 H locs ls h w hl
    have h : none = some _ := h
    cases h
  | succ n ih =>
    intro M v1 H locs ls h w hl
    rw [m_X11_begin_40] at h
    refine lv_iload_n hx hb dX11_begin_40 rfl (lv_at hl 1 rfl) ?_
    refine lv_bipush (v := (64 : Int32)) hx hb dX11_begin_41 (by decide) ?_
    refine lv_icmp_ge (tgt := 101) hx hb dX11_begin_43 (by decide) (fun k1 => ?_) (fun k1 => ?_)
    · have h := x_t h k1
      refine lv_aload_n hx hb dX11_begin_101 rfl (lv_at hl 0 rfl) ?_
      refine lv_aload_n hx hb dX11_begin_102 rfl (lv_at hl 0 rfl) ?_
      obtain ⟨q2, eq2, h⟩ := x_rf h
      obtain ⟨hLq2, hKq2⟩ := wt_q hG hL0 hK0 eq2
      have hKq2 : gK G q2 = 11 := hKq2
      refine r_getR (k := 15) cx w hL0 hK0 (by decide) rfl wi_X11_begin_X11 (by decide) rfl eq2 (List.mem_of_getElem? (i := 5) rfl) dX11_begin_103 ?_
      obtain ⟨q3, eq3, h⟩ := x_rf h
      obtain ⟨hLq3, hKq3⟩ := wt_q hG hLq2 hKq2 eq3
      have hKq3 : gK G q3 = 9 := hKq3
      refine r_getRN (k := 11) cx w hLq2 hKq2 (by decide) rfl wi_X11_begin_X12 (by decide) rfl eq3 (nwF cx (q := (RX11, 72, "FlagAntsModel", "plan", "LFlagAntsModel$Plan;", "FlagAntsModel")) (List.mem_of_getElem? (i := 30) rfl)) dX11_begin_106 ?_
      obtain ⟨q4, eq4, h⟩ := x_rf h
      obtain ⟨hLq4, hKq4⟩ := wt_q hG hLq3 hKq3 eq4
      have hKq4 : gK G q4 = 12 := hKq4
      refine r_getRN (k := 7) cx w hLq3 hKq3 (by decide) rfl wi_X11_begin_X10 (by decide) rfl eq4 (nwF cx (q := (RX11, 79, "FlagAntsModel$Plan", "column", "[I", "FlagAntsModel")) (List.mem_of_getElem? (i := 32) rfl)) dX11_begin_109 ?_
      refine lv_aload_n hx hb dX11_begin_112 rfl (lv_at hl 0 rfl) ?_
      obtain ⟨q5, eq5, h⟩ := x_rf h
      obtain ⟨hLq5, hKq5⟩ := wt_q hG hL0 hK0 eq5
      have hKq5 : gK G q5 = 12 := hKq5
      refine r_getR (k := 6) cx w hL0 hK0 (by decide) rfl wi_X11_begin_X11 (by decide) rfl eq5 (List.mem_of_getElem? (i := 8) rfl) dX11_begin_113 ?_
      obtain ⟨M6, r7, y8, h⟩ := x_cl h
      refine r_callVv (As := [.ref q4, .ref q5]) (rest := []) cx w hkn hl.1 (k_X11_copy hG hL0 hK0 hLq4 hKq4 hLq5 hKq5 y8) (cwV 2 hts gX11_begin_X11_copy rfl rfl rfl (by decide +kernel) ⟨Nat.le_of_ble_eq_true rfl, Nat.le_of_ble_eq_true rfl⟩) hL0 hK0 (by decide) rfl rfl rfl (Nat.le_of_ble_eq_true rfl) dX11_begin_116 (fun H locs w => ?_)
      refine lv_aload_n hx hb dX11_begin_119 rfl (lv_at hl 0 rfl) ?_
      refine lv_aload_n hx hb dX11_begin_120 rfl (lv_at hl 0 rfl) ?_
      obtain ⟨q9, eq9, h⟩ := x_rf h
      obtain ⟨hLq9, hKq9⟩ := wt_q hG hL0 hK0 eq9
      have hKq9 : gK G q9 = 11 := hKq9
      refine r_getR (k := 15) cx w hL0 hK0 (by decide) rfl wi_X11_begin_X11 (by decide) rfl eq9 (List.mem_of_getElem? (i := 5) rfl) dX11_begin_121 ?_
      obtain ⟨q10, eq10, h⟩ := x_rf h
      obtain ⟨hLq10, hKq10⟩ := wt_q hG hLq9 hKq9 eq10
      have hKq10 : gK G q10 = 9 := hKq10
      refine r_getRN (k := 11) cx w hLq9 hKq9 (by decide) rfl wi_X11_begin_X12 (by decide) rfl eq10 (nwF cx (q := (RX11, 72, "FlagAntsModel", "plan", "LFlagAntsModel$Plan;", "FlagAntsModel")) (List.mem_of_getElem? (i := 30) rfl)) dX11_begin_124 ?_
      obtain ⟨q11, eq11, h⟩ := x_rf h
      obtain ⟨hLq11, hKq11⟩ := wt_q hG hLq10 hKq10 eq11
      have hKq11 : gK G q11 = 12 := hKq11
      refine r_getRN (k := 8) cx w hLq10 hKq10 (by decide) rfl wi_X11_begin_X10 (by decide) rfl eq11 (nwF cx (q := (RX11, 80, "FlagAntsModel$Plan", "row", "[I", "FlagAntsModel")) (List.mem_of_getElem? (i := 33) rfl)) dX11_begin_127 ?_
      refine lv_aload_n hx hb dX11_begin_130 rfl (lv_at hl 0 rfl) ?_
      obtain ⟨q12, eq12, h⟩ := x_rf h
      obtain ⟨hLq12, hKq12⟩ := wt_q hG hL0 hK0 eq12
      have hKq12 : gK G q12 = 12 := hKq12
      refine r_getR (k := 7) cx w hL0 hK0 (by decide) rfl wi_X11_begin_X11 (by decide) rfl eq12 (List.mem_of_getElem? (i := 9) rfl) dX11_begin_131 ?_
      obtain ⟨M13, r14, y15, h⟩ := x_cl h
      refine r_callVv (As := [.ref q11, .ref q12]) (rest := []) cx w hkn hl.1 (k_X11_copy hG hL0 hK0 hLq11 hKq11 hLq12 hKq12 y15) (cwV 2 hts gX11_begin_X11_copy rfl rfl rfl (by decide +kernel) ⟨Nat.le_of_ble_eq_true rfl, Nat.le_of_ble_eq_true rfl⟩) hL0 hK0 (by decide) rfl rfl rfl (Nat.le_of_ble_eq_true rfl) dX11_begin_134 (fun H locs w => ?_)
      refine lv_aload_n hx hb dX11_begin_137 rfl (lv_at hl 0 rfl) ?_
      refine lv_aload_n hx hb dX11_begin_138 rfl (lv_at hl 0 rfl) ?_
      obtain ⟨q16, eq16, h⟩ := x_rf h
      obtain ⟨hLq16, hKq16⟩ := wt_q hG hL0 hK0 eq16
      have hKq16 : gK G q16 = 11 := hKq16
      refine r_getR (k := 15) cx w hL0 hK0 (by decide) rfl wi_X11_begin_X11 (by decide) rfl eq16 (List.mem_of_getElem? (i := 5) rfl) dX11_begin_139 ?_
      obtain ⟨q17, eq17, h⟩ := x_rf h
      obtain ⟨hLq17, hKq17⟩ := wt_q hG hLq16 hKq16 eq17
      have hKq17 : gK G q17 = 9 := hKq17
      refine r_getRN (k := 11) cx w hLq16 hKq16 (by decide) rfl wi_X11_begin_X12 (by decide) rfl eq17 (nwF cx (q := (RX11, 72, "FlagAntsModel", "plan", "LFlagAntsModel$Plan;", "FlagAntsModel")) (List.mem_of_getElem? (i := 30) rfl)) dX11_begin_142 ?_
      obtain ⟨q18, eq18, h⟩ := x_rf h
      obtain ⟨hLq18, hKq18⟩ := wt_q hG hLq17 hKq17 eq18
      have hKq18 : gK G q18 = 12 := hKq18
      refine r_getRN (k := 9) cx w hLq17 hKq17 (by decide) rfl wi_X11_begin_X10 (by decide) rfl eq18 (nwF cx (q := (RX11, 81, "FlagAntsModel$Plan", "side", "[I", "FlagAntsModel")) (List.mem_of_getElem? (i := 34) rfl)) dX11_begin_145 ?_
      refine lv_aload_n hx hb dX11_begin_148 rfl (lv_at hl 0 rfl) ?_
      obtain ⟨q19, eq19, h⟩ := x_rf h
      obtain ⟨hLq19, hKq19⟩ := wt_q hG hL0 hK0 eq19
      have hKq19 : gK G q19 = 12 := hKq19
      refine r_getR (k := 8) cx w hL0 hK0 (by decide) rfl wi_X11_begin_X11 (by decide) rfl eq19 (List.mem_of_getElem? (i := 10) rfl) dX11_begin_149 ?_
      obtain ⟨M20, r21, y22, h⟩ := x_cl h
      refine r_callVv (As := [.ref q18, .ref q19]) (rest := []) cx w hkn hl.1 (k_X11_copy hG hL0 hK0 hLq18 hKq18 hLq19 hKq19 y22) (cwV 2 hts gX11_begin_X11_copy rfl rfl rfl (by decide +kernel) ⟨Nat.le_of_ble_eq_true rfl, Nat.le_of_ble_eq_true rfl⟩) hL0 hK0 (by decide) rfl rfl rfl (Nat.le_of_ble_eq_true rfl) dX11_begin_152 (fun H locs w => ?_)
      refine lv_iconst (v := (0 : Int32)) hx hb dX11_begin_155 (by decide) ?_
      refine lv_istore_n (lv' := [(1, .int ((0 : Int32))), (0, .ref a0)]) hx hb dX11_begin_156 rfl hl (by decide) rfl (fun ls hl => ?_)
      exact b_X11_begin_157 cx hkn hL0 hK0 fu M20 ((0 : Int32)) H locs ls h w (lv_sub hl [1, 0] rfl)
    · have h := x_f h k1
      refine lv_aload_n hx hb dX11_begin_46 rfl (lv_at hl 0 rfl) ?_
      obtain ⟨q23, eq23, h⟩ := x_rf h
      obtain ⟨hLq23, hKq23⟩ := wt_q hG hL0 hK0 eq23
      have hKq23 : gK G q23 = 12 := hKq23
      refine r_getR (k := 5) cx w hL0 hK0 (by decide) rfl wi_X11_begin_X11 (by decide) rfl eq23 (List.mem_of_getElem? (i := 7) rfl) dX11_begin_47 ?_
      refine lv_iload_n hx hb dX11_begin_50 rfl (lv_at hl 1 rfl) ?_
      refine lv_iconst (v := (0 : Int32)) hx hb dX11_begin_51 (by decide) ?_
      obtain ⟨z24, h⟩ := x_ix h
      obtain ⟨M25, eM25, h⟩ := x_wI h
      refine r_iast cx w hLq23 hKq23 z24 dX11_begin_52 eM25 (fun H locs w => ?_)
      refine lv_iconst (v := (0 : Int32)) hx hb dX11_begin_53 (by decide) ?_
      refine lv_istore_n (lv' := [(2, .int ((0 : Int32))), (0, .ref a0), (1, .int v1)]) hx hb dX11_begin_54 rfl hl (by decide) rfl (fun ls hl => ?_)
      exact b_X11_begin_55 cx hkn hL0 hK0 (hkb40 := ih) fu M25 v1 ((0 : Int32)) H locs ls h w (lv_sub hl [1, 2, 0] rfl)
set_option maxHeartbeats 4000000 in
set_option maxRecDepth 100000 in
theorem k_X11_begin {l : Launch} {D : va_G} {cy : cyS} {G : gS} {M M' : mS} {a0 : Nat} (hG : wt G) (hL0 : a0 ∈ gL G) (hK0 : gK G a0 = 10) (h : m_X11_begin G M a0 = some (M', ())) : ctV l yX11_begin wsX11_begin rmX11_begin D cy G M [.ref a0] M' := by
  unfold m_X11_begin at h
  refine ctV_of (cc := cX11_begin) (nL := 3) (ret := none) (lv := [(0, .ref a0)]) hG (by decide) rfl ⟨rfl, rfl⟩ (Nat.le_of_ble_eq_true rfl) rfl ?_
  intro p e s m args below meth c A ls cx w hl
  obtain ⟨hx, hb, hml, hown, hts, hr, hlocks, hK, hA, -, hsx⟩ := id cx
  have hkn : 0 ≤ (rmX11_begin).cells ∧ 0 ≤ (rmX11_begin).slots := ⟨Nat.zero_le _, Nat.zero_le _⟩
  refine lv_aload_n hx hb dX11_begin_0 rfl (lv_at hl 0 rfl) ?_
  refine lv_iconst (v := (0 : Int32)) hx hb dX11_begin_1 (by decide) ?_
  obtain ⟨M1, eM1, h⟩ := x_wI h
  refine r_putI (k := 0) (ty := .int) cx w tyX11 tyX11_ok nmX11 hL0 hK0 (by decide) rfl wi_X11_begin_X11 (by decide) rfl rfl rfl rfl st_10_0 (ln_10 _ _ (by decide)) (List.mem_of_getElem? (i := 1) rfl) dX11_begin_2 eM1 (fun H locs w => ?_)
  refine lv_aload_n hx hb dX11_begin_5 rfl (lv_at hl 0 rfl) ?_
  refine lv_iconst (v := (0 : Int32)) hx hb dX11_begin_6 (by decide) ?_
  obtain ⟨M2, eM2, h⟩ := x_wI h
  refine r_putI (k := 1) (ty := .int) cx w tyX11 tyX11_ok nmX11 hL0 hK0 (by decide) rfl wi_X11_begin_X11 (by decide) rfl rfl rfl rfl st_10_1 (ln_10 _ _ (by decide)) (List.mem_of_getElem? (i := 2) rfl) dX11_begin_7 eM2 (fun H locs w => ?_)
  refine lv_aload_n hx hb dX11_begin_10 rfl (lv_at hl 0 rfl) ?_
  refine lv_iconst (v := (0 : Int32)) hx hb dX11_begin_11 (by decide) ?_
  obtain ⟨M3, eM3, h⟩ := x_wI h
  refine r_putI (k := 2) (ty := .int) cx w tyX11 tyX11_ok nmX11 hL0 hK0 (by decide) rfl wi_X11_begin_X11 (by decide) rfl rfl rfl rfl st_10_2 (ln_10 _ _ (by decide)) (List.mem_of_getElem? (i := 3) rfl) dX11_begin_12 eM3 (fun H locs w => ?_)
  refine lv_aload_n hx hb dX11_begin_15 rfl (lv_at hl 0 rfl) ?_
  refine lv_iconst (v := (0 : Int32)) hx hb dX11_begin_16 (by decide) ?_
  obtain ⟨M4, eM4, h⟩ := x_wI h
  refine r_putI (k := 3) (ty := .int) cx w tyX11 tyX11_ok nmX11 hL0 hK0 (by decide) rfl wi_X11_begin_X11 (by decide) rfl rfl rfl rfl st_10_3 (ln_10 _ _ (by decide)) (List.mem_of_getElem? (i := 4) rfl) dX11_begin_17 eM4 (fun H locs w => ?_)
  refine lv_aload_n hx hb dX11_begin_20 rfl (lv_at hl 0 rfl) ?_
  refine lv_aload_n hx hb dX11_begin_21 rfl (lv_at hl 0 rfl) ?_
  obtain ⟨q5, eq5, h⟩ := x_rf h
  obtain ⟨hLq5, hKq5⟩ := wt_q hG hL0 hK0 eq5
  have hKq5 : gK G q5 = 11 := hKq5
  refine r_getR (k := 15) cx w hL0 hK0 (by decide) rfl wi_X11_begin_X11 (by decide) rfl eq5 (List.mem_of_getElem? (i := 5) rfl) dX11_begin_22 ?_
  obtain ⟨q6, eq6, h⟩ := x_rf h
  obtain ⟨hLq6, hKq6⟩ := wt_q hG hLq5 hKq5 eq6
  have hKq6 : gK G q6 = 9 := hKq6
  refine r_getRN (k := 11) cx w hLq5 hKq5 (by decide) rfl wi_X11_begin_X12 (by decide) rfl eq6 (nwF cx (q := (RX11, 72, "FlagAntsModel", "plan", "LFlagAntsModel$Plan;", "FlagAntsModel")) (List.mem_of_getElem? (i := 30) rfl)) dX11_begin_25 ?_
  obtain ⟨q7, eq7, h⟩ := x_rf h
  obtain ⟨hLq7, hKq7⟩ := wt_q hG hLq6 hKq6 eq7
  have hKq7 : gK G q7 = 12 := hKq7
  refine r_getRN (k := 10) cx w hLq6 hKq6 (by decide) rfl wi_X11_begin_X10 (by decide) rfl eq7 (nwF cx (q := (RX11, 76, "FlagAntsModel$Plan", "colours", "[I", "FlagAntsModel")) (List.mem_of_getElem? (i := 31) rfl)) dX11_begin_28 ?_
  refine lv_aload_n hx hb dX11_begin_31 rfl (lv_at hl 0 rfl) ?_
  obtain ⟨q8, eq8, h⟩ := x_rf h
  obtain ⟨hLq8, hKq8⟩ := wt_q hG hL0 hK0 eq8
  have hKq8 : gK G q8 = 12 := hKq8
  refine r_getR (k := 4) cx w hL0 hK0 (by decide) rfl wi_X11_begin_X11 (by decide) rfl eq8 (List.mem_of_getElem? (i := 6) rfl) dX11_begin_32 ?_
  obtain ⟨M9, r10, y11, h⟩ := x_cl h
  refine r_callVv (As := [.ref q7, .ref q8]) (rest := []) cx w hkn hl.1 (k_X11_copy hG hL0 hK0 hLq7 hKq7 hLq8 hKq8 y11) (cwV 2 hts gX11_begin_X11_copy rfl rfl rfl (by decide +kernel) ⟨Nat.le_of_ble_eq_true rfl, Nat.le_of_ble_eq_true rfl⟩) hL0 hK0 (by decide) rfl rfl rfl (Nat.le_of_ble_eq_true rfl) dX11_begin_35 (fun H locs w => ?_)
  refine lv_iconst (v := (0 : Int32)) hx hb dX11_begin_38 (by decide) ?_
  refine lv_istore_n (lv' := [(1, .int ((0 : Int32))), (0, .ref a0)]) hx hb dX11_begin_39 rfl hl (by decide) rfl (fun ls hl => ?_)
  exact b_X11_begin_40 cx hkn hL0 hK0 fu M9 ((0 : Int32)) H locs ls h w (lv_sub hl [1, 0] rfl)
-- X11_dark
theorem wi_X11_dark_X11 : ∀ w ∈ wsX110, w ∈ wsX11_dark := by decide +kernel
abbrev rmX11_dark : Room := { frames := 0, cells := 0, slots := 0, locals := 0 }
def m_X11_dark_13 (G : gS) (a0 : Nat)  : Nat → mS → Int32 → Nat → Int32 → Int32 → Option (mS × Int32)
  | 0, _, _, _, _, _ => none
  | n + 1, M, v1, v2, v3, v4 => (if v3 ≤ v4 then some (M, v1) else o_ix v4 (gN G v2) (o_bd ((mI M v2 (Int32.toNatClampNeg v4))) (fun x3 => o_bd ((v1 + x3)) (fun x4 => o_bd (v4 + 1 : Int32) (fun x5 => m_X11_dark_13 G a0 n M x4 v2 v3 x5)))))
def m_X11_dark (G : gS) (M : mS) (a0 : Nat) : Option (mS × Int32) := o_rf (gP G a0 5) (fun q1 => o_bd ((Int32.ofNat (gN G q1))) (fun x2 => m_X11_dark_13 G a0 fu M ((0 : Int32)) q1 x2 ((0 : Int32))))
set_option maxHeartbeats 4000000 in
set_option maxRecDepth 100000 in
theorem b_X11_dark_13 {p : Program} {e : Env} {s : State} {m : MethodId} {args : Array Value} {below : List Frame} {meth : Method} {c : Code} {A : Nat → Prop} {l : Launch} {D : va_G} {cy : cyS} {G : gS} (cx : cX p s m args meth c cX11_dark RX11 6 (some .int) wsX11_dark D cy G A) {k0 n0 : Nat} (hkn : k0 ≤ (rmX11_dark).cells ∧ n0 ≤ (rmX11_dark).slots) {M' : mS} {r : Int32} {a0 : Nat} (hL0 : a0 ∈ gL G) (hK0 : gK G a0 = 10)  : ∀ (n : Nat), ∀ (M : mS) (v1 : Int32) (v2 : Nat) (v3 : Int32) (v4 : Int32) (H : Heap) (locs : List Loc) (ls : Array Slot), v2 ∈ gL G → gK G v2 = 12 → m_X11_dark_13 G a0 n M v1 v2 v3 v4 = some (M', r) → wd D cy G M A s.heap H locs → lv_has ls 6 [(1, .int v1), (2, .ref v2), (3, .int v3), (4, .int v4)] → W p l e rmX11_dark s m args below meth c H locs k0 n0 (MQ below (va_Qi (fun (r' : Int32) (_ : Unit) => r' = r) (fun _ t => wOut D cy G M' t) A) args s k0 n0 A) (F0 m 13 ls []) := by
  obtain ⟨hx, hb, hml, hown, hts, hr, hlocks, hK, hA, hG, hsx⟩ := id cx
  intro n
  induction n with
  | zero =>
    intro M v1 v2 v3 v4 H locs ls gL2 gK2 h w hl
    have h : none = some _ := h
    cases h
  | succ n ih =>
    intro M v1 v2 v3 v4 H locs ls gL2 gK2 h w hl
    rw [m_X11_dark_13] at h
    refine lv_iload hx hb dX11_dark_13 (lv_at hl 3 rfl) ?_
    refine lv_iload_n hx hb dX11_dark_15 rfl (lv_at hl 2 rfl) ?_
    refine lv_icmp_ge (tgt := 36) hx hb dX11_dark_16 (by decide) (fun k1 => ?_) (fun k1 => ?_)
    · have h := x_t h k1
      refine lv_iload_n hx hb dX11_dark_36 rfl (lv_at hl 0 rfl) ?_
      exact r_iret cx w h dX11_dark_37
    · have h := x_f h k1
      refine lv_aload_n hx hb dX11_dark_19 rfl (lv_at hl 1 rfl) ?_
      refine lv_iload hx hb dX11_dark_20 (lv_at hl 3 rfl) ?_
      obtain ⟨z2, h⟩ := x_ix h
      refine r_iald cx w gL2 gK2 z2 dX11_dark_22 ?_
      obtain ⟨x3, ex3, h⟩ := x_bd h
      refine r_topI ex3 ?_
      refine lv_istore (lv' := [(5, .int x3), (1, .int v1), (2, .ref v2), (3, .int v3), (4, .int v4)]) hx hb dX11_dark_23 hl (by decide) rfl (fun ls hl => ?_)
      refine lv_iload_n hx hb dX11_dark_25 rfl (lv_at hl 1 rfl) ?_
      refine lv_iload hx hb dX11_dark_26 (lv_at hl 0 rfl) ?_
      refine lv_iadd hx hb dX11_dark_28 ?_
      obtain ⟨x4, ex4, h⟩ := x_bd h
      refine r_topI ex4 ?_
      refine lv_istore_n (lv' := [(1, .int x4), (5, .int x3), (2, .ref v2), (3, .int v3), (4, .int v4)]) hx hb dX11_dark_29 rfl hl (by decide) rfl (fun ls hl => ?_)
      obtain ⟨x5, ex5, h⟩ := x_bd h
      refine lv_iinc (v := x5) (lv' := [(4, .int x5), (1, .int x4), (5, .int x3), (2, .ref v2), (3, .int v3)]) hx hb dX11_dark_30 hl (k := 4) rfl (by rw [ex5]; rfl) (by decide) rfl (fun ls hl => ?_)
      refine lv_goto (tgt := 13) hx hb dX11_dark_33 (by decide) ?_
      exact ih M x4 v2 v3 x5 H locs ls gL2 gK2 h w (lv_sub hl [1, 3, 4, 0] rfl)
set_option maxHeartbeats 4000000 in
set_option maxRecDepth 100000 in
theorem k_X11_dark {l : Launch} {D : va_G} {cy : cyS} {G : gS} {M M' : mS} {r : Int32} {a0 : Nat} (hG : wt G) (hL0 : a0 ∈ gL G) (hK0 : gK G a0 = 10) (h : m_X11_dark G M a0 = some (M', r)) : ctI l yX11_dark wsX11_dark rmX11_dark D cy G M [.ref a0] M' r := by
  unfold m_X11_dark at h
  refine ctI_of (cc := cX11_dark) (nL := 6) (ret := (some .int)) (lv := [(0, .ref a0)]) hG (by decide) rfl ⟨rfl, rfl⟩ (Nat.le_of_ble_eq_true rfl) rfl ?_
  intro p e s m args below meth c A ls cx w hl
  obtain ⟨hx, hb, hml, hown, hts, hr, hlocks, hK, hA, -, hsx⟩ := id cx
  have hkn : 0 ≤ (rmX11_dark).cells ∧ 0 ≤ (rmX11_dark).slots := ⟨Nat.zero_le _, Nat.zero_le _⟩
  refine lv_iconst (v := (0 : Int32)) hx hb dX11_dark_0 (by decide) ?_
  refine lv_istore_n (lv' := [(1, .int ((0 : Int32))), (0, .ref a0)]) hx hb dX11_dark_1 rfl hl (by decide) rfl (fun ls hl => ?_)
  refine lv_aload_n hx hb dX11_dark_2 rfl (lv_at hl 1 rfl) ?_
  obtain ⟨q1, eq1, h⟩ := x_rf h
  obtain ⟨hLq1, hKq1⟩ := wt_q hG hL0 hK0 eq1
  have hKq1 : gK G q1 = 12 := hKq1
  refine r_getR (k := 5) cx w hL0 hK0 (by decide) rfl wi_X11_dark_X11 (by decide) rfl eq1 (List.mem_of_getElem? (i := 1) rfl) dX11_dark_3 ?_
  refine lv_astore_n (lv' := [(2, .ref q1), (1, .int ((0 : Int32))), (0, .ref a0)]) hx hb dX11_dark_6 rfl hl (by decide) rfl (fun ls hl => ?_)
  refine lv_aload_n hx hb dX11_dark_7 rfl (lv_at hl 0 rfl) ?_
  refine r_alen cx w hLq1 hKq1 (by decide) dX11_dark_8 ?_
  obtain ⟨x2, ex2, h⟩ := x_bd h
  refine r_topI ex2 ?_
  refine lv_istore_n (lv' := [(3, .int x2), (2, .ref q1), (1, .int ((0 : Int32))), (0, .ref a0)]) hx hb dX11_dark_9 rfl hl (by decide) rfl (fun ls hl => ?_)
  refine lv_iconst (v := (0 : Int32)) hx hb dX11_dark_10 (by decide) ?_
  refine lv_istore (lv' := [(4, .int ((0 : Int32))), (3, .int x2), (2, .ref q1), (1, .int ((0 : Int32))), (0, .ref a0)]) hx hb dX11_dark_11 hl (by decide) rfl (fun ls hl => ?_)
  exact b_X11_dark_13 cx hkn hL0 hK0 fu M ((0 : Int32)) q1 x2 ((0 : Int32)) s.heap [] ls hLq1 hKq1 h w (lv_sub hl [3, 2, 1, 0] rfl)
-- X12_isIn
abbrev rmX12_isIn : Room := { frames := 0, cells := 0, slots := 0, locals := 0 }
def m_X12_isIn_14 (G : gS) (c0 : Int32) (c1 : Int32) (c2 : Int32)  (M : mS)  : Option (mS × Int32) := o_ck ((0 : Int32) = 0 ∨ (0 : Int32) = 1) (some (M, (0 : Int32)))
def m_X12_isIn (G : gS) (M : mS) (c0 : Int32) (c1 : Int32) (c2 : Int32) : Option (mS × Int32) := (if c0 < c1 then m_X12_isIn_14 G c0 c1 c2 M else (if c2 < c0 then m_X12_isIn_14 G c0 c1 c2 M else o_ck ((1 : Int32) = 0 ∨ (1 : Int32) = 1) (some (M, (1 : Int32)))))
set_option maxHeartbeats 4000000 in
set_option maxRecDepth 100000 in
theorem b_X12_isIn_14 {p : Program} {e : Env} {s : State} {m : MethodId} {args : Array Value} {below : List Frame} {meth : Method} {c : Code} {A : Nat → Prop} {l : Launch} {D : va_G} {cy : cyS} {G : gS} (cx : cX p s m args meth c cX12_isIn RX12 3 (some .boolean) wsX12_isIn D cy G A) {k0 n0 : Nat} (hkn : k0 ≤ (rmX12_isIn).cells ∧ n0 ≤ (rmX12_isIn).slots) {M' : mS} {r : Int32} {c0 : Int32} {c1 : Int32} {c2 : Int32}   : ∀ (M : mS) (H : Heap) (locs : List Loc) (ls : Array Slot), m_X12_isIn_14 G c0 c1 c2 M = some (M', r) → wd D cy G M A s.heap H locs → lv_has ls 3 [] → W p l e rmX12_isIn s m args below meth c H locs k0 n0 (MQ below (va_Qi (fun (r' : Int32) (_ : Unit) => r' = r) (fun _ t => wOut D cy G M' t) A) args s k0 n0 A) (F0 m 14 ls []) := by
  obtain ⟨hx, hb, hml, hown, hts, hr, hlocks, hK, hA, hG, hsx⟩ := id cx
  intro M H locs ls h w hl
  unfold m_X12_isIn_14 at h
  refine lv_iconst (v := (0 : Int32)) hx hb dX12_isIn_14 (by decide) ?_
  obtain ⟨z1, h⟩ := x_ck h
  exact r_zret cx w z1 h dX12_isIn_15
set_option maxHeartbeats 4000000 in
set_option maxRecDepth 100000 in
theorem k_X12_isIn {l : Launch} {D : va_G} {cy : cyS} {G : gS} {M M' : mS} {r : Int32} {c0 : Int32} {c1 : Int32} {c2 : Int32} (hG : wt G)  (h : m_X12_isIn G M c0 c1 c2 = some (M', r)) : ctI l yX12_isIn wsX12_isIn rmX12_isIn D cy G M [.int c0, .int c1, .int c2] M' r := by
  unfold m_X12_isIn at h
  refine ctI_of (cc := cX12_isIn) (nL := 3) (ret := (some .boolean)) (lv := [(0, .int c0), (1, .int c1), (2, .int c2)]) hG (by decide) rfl ⟨rfl, rfl⟩ (Nat.le_of_ble_eq_true rfl) rfl ?_
  intro p e s m args below meth c A ls cx w hl
  obtain ⟨hx, hb, hml, hown, hts, hr, hlocks, hK, hA, -, hsx⟩ := id cx
  have hkn : 0 ≤ (rmX12_isIn).cells ∧ 0 ≤ (rmX12_isIn).slots := ⟨Nat.zero_le _, Nat.zero_le _⟩
  refine lv_iload_n hx hb dX12_isIn_0 rfl (lv_at hl 0 rfl) ?_
  refine lv_iload_n hx hb dX12_isIn_1 rfl (lv_at hl 1 rfl) ?_
  refine lv_icmp_lt (tgt := 14) hx hb dX12_isIn_2 (by decide) (fun k1 => ?_) (fun k1 => ?_)
  · have h := x_t h k1
    exact b_X12_isIn_14 cx hkn M s.heap [] ls h w (lv_sub hl [] rfl)
  · have h := x_f h k1
    refine lv_iload_n hx hb dX12_isIn_5 rfl (lv_at hl 0 rfl) ?_
    refine lv_iload_n hx hb dX12_isIn_6 rfl (lv_at hl 2 rfl) ?_
    refine lv_icmp_gt (tgt := 14) hx hb dX12_isIn_7 (by decide) (fun k2 => ?_) (fun k2 => ?_)
    · have h := x_t h k2
      exact b_X12_isIn_14 cx hkn M s.heap [] ls h w (lv_sub hl [] rfl)
    · have h := x_f h k2
      refine lv_iconst (v := (1 : Int32)) hx hb dX12_isIn_10 (by decide) ?_
      refine lv_goto (tgt := 15) hx hb dX12_isIn_11 (by decide) ?_
      obtain ⟨z3, h⟩ := x_ck h
      exact r_zret cx w z3 h dX12_isIn_15
-- X12_isPushed
abbrev rmX12_isPushed : Room := { frames := 1, cells := 0, slots := 0, locals := 22 }
def m_X12_isPushed_29 (G : gS) (c0 : Int32)  (M : mS)  : Option (mS × Int32) := o_ck ((1 : Int32) = 0 ∨ (1 : Int32) = 1) (some (M, (1 : Int32)))
def m_X12_isPushed (G : gS) (M : mS) (c0 : Int32) : Option (mS × Int32) := (if c0 = (42 : Int32) then m_X12_isPushed_29 G c0 M else o_cl (m_X12_isIn G M c0 (22 : Int32) (24 : Int32)) (fun M2 r3 => (if r3 = 0 then (if c0 = (26 : Int32) then m_X12_isPushed_29 G c0 M2 else (if c0 = (27 : Int32) then m_X12_isPushed_29 G c0 M2 else o_ck ((0 : Int32) = 0 ∨ (0 : Int32) = 1) (some (M2, (0 : Int32))))) else m_X12_isPushed_29 G c0 M2)))
set_option maxHeartbeats 4000000 in
set_option maxRecDepth 100000 in
theorem b_X12_isPushed_29 {p : Program} {e : Env} {s : State} {m : MethodId} {args : Array Value} {below : List Frame} {meth : Method} {c : Code} {A : Nat → Prop} {l : Launch} {D : va_G} {cy : cyS} {G : gS} (cx : cX p s m args meth c cX12_isPushed RX12 1 (some .boolean) wsX12_isPushed D cy G A) {k0 n0 : Nat} (hkn : k0 ≤ (rmX12_isPushed).cells ∧ n0 ≤ (rmX12_isPushed).slots) {M' : mS} {r : Int32} {c0 : Int32}   : ∀ (M : mS) (H : Heap) (locs : List Loc) (ls : Array Slot), m_X12_isPushed_29 G c0 M = some (M', r) → wd D cy G M A s.heap H locs → lv_has ls 1 [] → W p l e rmX12_isPushed s m args below meth c H locs k0 n0 (MQ below (va_Qi (fun (r' : Int32) (_ : Unit) => r' = r) (fun _ t => wOut D cy G M' t) A) args s k0 n0 A) (F0 m 29 ls []) := by
  obtain ⟨hx, hb, hml, hown, hts, hr, hlocks, hK, hA, hG, hsx⟩ := id cx
  intro M H locs ls h w hl
  unfold m_X12_isPushed_29 at h
  refine lv_iconst (v := (1 : Int32)) hx hb dX12_isPushed_29 (by decide) ?_
  refine lv_goto (tgt := 34) hx hb dX12_isPushed_30 (by decide) ?_
  obtain ⟨z1, h⟩ := x_ck h
  exact r_zret cx w z1 h dX12_isPushed_34
set_option maxHeartbeats 4000000 in
set_option maxRecDepth 100000 in
theorem k_X12_isPushed {l : Launch} {D : va_G} {cy : cyS} {G : gS} {M M' : mS} {r : Int32} {c0 : Int32} (hG : wt G)  (h : m_X12_isPushed G M c0 = some (M', r)) : ctI l yX12_isPushed wsX12_isPushed rmX12_isPushed D cy G M [.int c0] M' r := by
  unfold m_X12_isPushed at h
  refine ctI_of (cc := cX12_isPushed) (nL := 1) (ret := (some .boolean)) (lv := [(0, .int c0)]) hG (by decide) rfl ⟨rfl, rfl⟩ (Nat.le_of_ble_eq_true rfl) rfl ?_
  intro p e s m args below meth c A ls cx w hl
  obtain ⟨hx, hb, hml, hown, hts, hr, hlocks, hK, hA, -, hsx⟩ := id cx
  have hkn : 0 ≤ (rmX12_isPushed).cells ∧ 0 ≤ (rmX12_isPushed).slots := ⟨Nat.zero_le _, Nat.zero_le _⟩
  refine lv_iload_n hx hb dX12_isPushed_0 rfl (lv_at hl 0 rfl) ?_
  refine lv_bipush (v := (42 : Int32)) hx hb dX12_isPushed_1 (by decide) ?_
  refine lv_icmp_eq (tgt := 29) hx hb dX12_isPushed_3 (by decide) (fun k1 => ?_) (fun k1 => ?_)
  · have h := x_t h k1
    exact b_X12_isPushed_29 cx hkn M s.heap [] ls h w (lv_sub hl [] rfl)
  · have h := x_f h k1
    refine lv_iload_n hx hb dX12_isPushed_6 rfl (lv_at hl 0 rfl) ?_
    refine lv_bipush (v := (22 : Int32)) hx hb dX12_isPushed_7 (by decide) ?_
    refine lv_bipush (v := (24 : Int32)) hx hb dX12_isPushed_9 (by decide) ?_
    obtain ⟨M2, r3, y4, h⟩ := x_cl h
    refine r_callSi (As := [.int c0, .int ((22 : Int32)), .int ((24 : Int32))]) (rest := []) cx w hkn hl.1 (k_X12_isIn hG y4) (va_cwS 3 hts gX12_isPushed_X12_isIn rfl rfl rfl (by decide +kernel) ⟨Nat.le_of_ble_eq_true rfl, Nat.le_of_ble_eq_true rfl⟩) rfl rfl (Nat.le_of_ble_eq_true rfl) dX12_isPushed_11 (fun H locs w => ?_)
    refine lv_if_ne (tgt := 29) hx hb dX12_isPushed_14 (by decide) (fun k5 => ?_) (fun k5 => ?_)
    · have h := x_f h k5
      exact b_X12_isPushed_29 cx hkn M2 H locs ls h w (lv_sub hl [] rfl)
    · have h := x_t h k5
      refine lv_iload_n hx hb dX12_isPushed_17 rfl (lv_at hl 0 rfl) ?_
      refine lv_bipush (v := (26 : Int32)) hx hb dX12_isPushed_18 (by decide) ?_
      refine lv_icmp_eq (tgt := 29) hx hb dX12_isPushed_20 (by decide) (fun k6 => ?_) (fun k6 => ?_)
      · have h := x_t h k6
        exact b_X12_isPushed_29 cx hkn M2 H locs ls h w (lv_sub hl [] rfl)
      · have h := x_f h k6
        refine lv_iload_n hx hb dX12_isPushed_23 rfl (lv_at hl 0 rfl) ?_
        refine lv_bipush (v := (27 : Int32)) hx hb dX12_isPushed_24 (by decide) ?_
        refine lv_icmp_ne (tgt := 33) hx hb dX12_isPushed_26 (by decide) (fun k7 => ?_) (fun k7 => ?_)
        · have h := x_f h k7
          refine lv_iconst (v := (0 : Int32)) hx hb dX12_isPushed_33 (by decide) ?_
          obtain ⟨z8, h⟩ := x_ck h
          exact r_zret cx w z8 h dX12_isPushed_34
        · have h := x_t h k7
          exact b_X12_isPushed_29 cx hkn M2 H locs ls h w (lv_sub hl [] rfl)
-- X11_led
theorem wi_X11_led_X11 : ∀ w ∈ wsX110, w ∈ wsX11_led := by decide +kernel
abbrev rmX11_led : Room := { frames := 0, cells := 0, slots := 0, locals := 0 }
def m_X11_led_65 (G : gS) (a0 : Nat) (c1 : Int32) (c2 : Int32) (c3 : Int32) (kb6 : mS → Int32 → Int32 → Option (mS × Int32)) (M : mS) (v5 : Int32) (s0 : Int32) (s1 : Int32) : Option (mS × Int32) := o_bd ((s0 + s1)) (fun x1 => o_bd (v5 + 1 : Int32) (fun x2 => kb6 M x1 x2))
def m_X11_led_6 (G : gS) (a0 : Nat) (c1 : Int32) (c2 : Int32) (c3 : Int32)  : Nat → mS → Int32 → Int32 → Option (mS × Int32)
  | 0, _, _, _ => none
  | n + 1, M, v4, v5 => (if c2 < v5 then some (M, v4) else o_rf (gP G a0 12) (fun q2 => o_rf (gP G a0 11) (fun q3 => o_ix c1 (gN G q3) (o_ck (¬ (128 : Int32) = 0) (o_ix (((128 : Int32) * c1) + (((mI M q3 (Int32.toNatClampNeg c1)) - v5) - ((mI M q3 (Int32.toNatClampNeg c1)) - v5) / (128 : Int32) * (128 : Int32))) (gN G q2) (o_bd ((mI M q2 (Int32.toNatClampNeg (((128 : Int32) * c1) + (((mI M q3 (Int32.toNatClampNeg c1)) - v5) - ((mI M q3 (Int32.toNatClampNeg c1)) - v5) / (128 : Int32) * (128 : Int32)))))) (fun x7 => (if x7 = c3 then m_X11_led_65 G a0 c1 c2 c3 (fun M v4 v5 => m_X11_led_6 G a0 c1 c2 c3 n M v4 v5) M v5 v4 ((1 : Int32)) else o_ck (¬ (4 : Int32) = 0) ((if x7 = ((c3 + (2 : Int32)) - (c3 + (2 : Int32)) / (4 : Int32) * (4 : Int32)) then m_X11_led_65 G a0 c1 c2 c3 (fun M v4 v5 => m_X11_led_6 G a0 c1 c2 c3 n M v4 v5) M v5 v4 ((-1 : Int32)) else m_X11_led_65 G a0 c1 c2 c3 (fun M v4 v5 => m_X11_led_6 G a0 c1 c2 c3 n M v4 v5) M v5 v4 ((0 : Int32))))))))))))
def m_X11_led (G : gS) (M : mS) (a0 : Nat) (c1 : Int32) (c2 : Int32) (c3 : Int32) : Option (mS × Int32) := m_X11_led_6 G a0 c1 c2 c3 fu M ((0 : Int32)) ((1 : Int32))
set_option maxHeartbeats 4000000 in
set_option maxRecDepth 100000 in
theorem b_X11_led_65 {p : Program} {e : Env} {s : State} {m : MethodId} {args : Array Value} {below : List Frame} {meth : Method} {c : Code} {A : Nat → Prop} {l : Launch} {D : va_G} {cy : cyS} {G : gS} (cx : cX p s m args meth c cX11_led RX11 7 (some .int) wsX11_led D cy G A) {k0 n0 : Nat} (hkn : k0 ≤ (rmX11_led).cells ∧ n0 ≤ (rmX11_led).slots) {M' : mS} {r : Int32} {a0 : Nat} {c1 : Int32} {c2 : Int32} {c3 : Int32} (hL0 : a0 ∈ gL G) (hK0 : gK G a0 = 10) {kb6 : mS → Int32 → Int32 → Option (mS × Int32)} (hkb6 : ∀ (M : mS) (v4 : Int32) (v5 : Int32) (H : Heap) (locs : List Loc) (ls : Array Slot), kb6 M v4 v5 = some (M', r) → wd D cy G M A s.heap H locs → lv_has ls 7 [(0, .ref a0), (1, .int c1), (2, .int c2), (3, .int c3), (4, .int v4), (5, .int v5)] → W p l e rmX11_led s m args below meth c H locs k0 n0 (MQ below (va_Qi (fun (r' : Int32) (_ : Unit) => r' = r) (fun _ t => wOut D cy G M' t) A) args s k0 n0 A) (F0 m 6 ls [])) : ∀ (M : mS) (v5 : Int32) (s0 : Int32) (s1 : Int32) (H : Heap) (locs : List Loc) (ls : Array Slot), m_X11_led_65 G a0 c1 c2 c3 kb6 M v5 s0 s1 = some (M', r) → wd D cy G M A s.heap H locs → lv_has ls 7 [(0, .ref a0), (1, .int c1), (2, .int c2), (3, .int c3), (5, .int v5)] → W p l e rmX11_led s m args below meth c H locs k0 n0 (MQ below (va_Qi (fun (r' : Int32) (_ : Unit) => r' = r) (fun _ t => wOut D cy G M' t) A) args s k0 n0 A) (F0 m 65 ls [.int s1, .int s0]) := by
  obtain ⟨hx, hb, hml, hown, hts, hr, hlocks, hK, hA, hG, hsx⟩ := id cx
  intro M v5 s0 s1 H locs ls h w hl
  unfold m_X11_led_65 at h
  refine lv_iadd hx hb dX11_led_65 ?_
  obtain ⟨x1, ex1, h⟩ := x_bd h
  refine r_topI ex1 ?_
  refine lv_istore (lv' := [(4, .int x1), (0, .ref a0), (1, .int c1), (2, .int c2), (3, .int c3), (5, .int v5)]) hx hb dX11_led_66 hl (by decide) rfl (fun ls hl => ?_)
  obtain ⟨x2, ex2, h⟩ := x_bd h
  refine lv_iinc (v := x2) (lv' := [(5, .int x2), (4, .int x1), (0, .ref a0), (1, .int c1), (2, .int c2), (3, .int c3)]) hx hb dX11_led_68 hl (k := 5) rfl (by rw [ex2]; rfl) (by decide) rfl (fun ls hl => ?_)
  refine lv_goto (tgt := 6) hx hb dX11_led_71 (by decide) ?_
  exact hkb6 M x1 x2 H locs ls h w (lv_sub hl [2, 3, 4, 5, 1, 0] rfl)
set_option maxHeartbeats 4000000 in
set_option maxRecDepth 100000 in
theorem b_X11_led_6 {p : Program} {e : Env} {s : State} {m : MethodId} {args : Array Value} {below : List Frame} {meth : Method} {c : Code} {A : Nat → Prop} {l : Launch} {D : va_G} {cy : cyS} {G : gS} (cx : cX p s m args meth c cX11_led RX11 7 (some .int) wsX11_led D cy G A) {k0 n0 : Nat} (hkn : k0 ≤ (rmX11_led).cells ∧ n0 ≤ (rmX11_led).slots) {M' : mS} {r : Int32} {a0 : Nat} {c1 : Int32} {c2 : Int32} {c3 : Int32} (hL0 : a0 ∈ gL G) (hK0 : gK G a0 = 10)  : ∀ (n : Nat), ∀ (M : mS) (v4 : Int32) (v5 : Int32) (H : Heap) (locs : List Loc) (ls : Array Slot), m_X11_led_6 G a0 c1 c2 c3 n M v4 v5 = some (M', r) → wd D cy G M A s.heap H locs → lv_has ls 7 [(0, .ref a0), (1, .int c1), (2, .int c2), (3, .int c3), (4, .int v4), (5, .int v5)] → W p l e rmX11_led s m args below meth c H locs k0 n0 (MQ below (va_Qi (fun (r' : Int32) (_ : Unit) => r' = r) (fun _ t => wOut D cy G M' t) A) args s k0 n0 A) (F0 m 6 ls []) := by
  obtain ⟨hx, hb, hml, hown, hts, hr, hlocks, hK, hA, hG, hsx⟩ := id cx
  intro n
  induction n with
  | zero =>
    intro M v4 v5 H locs ls h w hl
    have h : none = some _ := h
    cases h
  | succ n ih =>
    intro M v4 v5 H locs ls h w hl
    rw [m_X11_led_6] at h
    refine lv_iload hx hb dX11_led_6 (lv_at hl 5 rfl) ?_
    refine lv_iload_n hx hb dX11_led_8 rfl (lv_at hl 2 rfl) ?_
    refine lv_icmp_gt (tgt := 74) hx hb dX11_led_9 (by decide) (fun k1 => ?_) (fun k1 => ?_)
    · have h := x_t h k1
      refine lv_iload hx hb dX11_led_74 (lv_at hl 4 rfl) ?_
      exact r_iret cx w h dX11_led_76
    · have h := x_f h k1
      refine lv_aload_n hx hb dX11_led_12 rfl (lv_at hl 0 rfl) ?_
      obtain ⟨q2, eq2, h⟩ := x_rf h
      obtain ⟨hLq2, hKq2⟩ := wt_q hG hL0 hK0 eq2
      have hKq2 : gK G q2 = 12 := hKq2
      refine r_getR (k := 12) cx w hL0 hK0 (by decide) rfl wi_X11_led_X11 (by decide) rfl eq2 (List.mem_of_getElem? (i := 1) rfl) dX11_led_13 ?_
      refine lv_sipush (v := (128 : Int32)) hx hb dX11_led_16 (by decide) ?_
      refine lv_iload_n hx hb dX11_led_19 rfl (lv_at hl 1 rfl) ?_
      refine lv_imul hx hb dX11_led_20 ?_
      refine lv_aload_n hx hb dX11_led_21 rfl (lv_at hl 0 rfl) ?_
      obtain ⟨q3, eq3, h⟩ := x_rf h
      obtain ⟨hLq3, hKq3⟩ := wt_q hG hL0 hK0 eq3
      have hKq3 : gK G q3 = 12 := hKq3
      refine r_getR (k := 11) cx w hL0 hK0 (by decide) rfl wi_X11_led_X11 (by decide) rfl eq3 (List.mem_of_getElem? (i := 2) rfl) dX11_led_22 ?_
      refine lv_iload_n hx hb dX11_led_25 rfl (lv_at hl 1 rfl) ?_
      obtain ⟨z4, h⟩ := x_ix h
      refine r_iald cx w hLq3 hKq3 z4 dX11_led_26 ?_
      refine lv_iload hx hb dX11_led_27 (lv_at hl 5 rfl) ?_
      refine lv_isub hx hb dX11_led_29 ?_
      refine lv_sipush (v := (128 : Int32)) hx hb dX11_led_30 (by decide) ?_
      obtain ⟨z5, h⟩ := x_ck h
      refine lv_irem hx hb dX11_led_33 z5 ?_
      refine lv_iadd hx hb dX11_led_34 ?_
      obtain ⟨z6, h⟩ := x_ix h
      refine r_iald cx w hLq2 hKq2 z6 dX11_led_35 ?_
      obtain ⟨x7, ex7, h⟩ := x_bd h
      refine r_topI ex7 ?_
      refine lv_istore (lv' := [(6, .int x7), (0, .ref a0), (1, .int c1), (2, .int c2), (3, .int c3), (4, .int v4), (5, .int v5)]) hx hb dX11_led_36 hl (by decide) rfl (fun ls hl => ?_)
      refine lv_iload hx hb dX11_led_38 (lv_at hl 5 rfl) ?_
      refine lv_iload hx hb dX11_led_40 (lv_at hl 0 rfl) ?_
      refine lv_iload_n hx hb dX11_led_42 rfl (lv_at hl 4 rfl) ?_
      refine lv_icmp_ne (tgt := 50) hx hb dX11_led_43 (by decide) (fun k8 => ?_) (fun k8 => ?_)
      · have h := x_f h k8
        refine lv_iload hx hb dX11_led_50 (lv_at hl 0 rfl) ?_
        refine lv_iload_n hx hb dX11_led_52 rfl (lv_at hl 4 rfl) ?_
        refine lv_iconst (v := (2 : Int32)) hx hb dX11_led_53 (by decide) ?_
        refine lv_iadd hx hb dX11_led_54 ?_
        refine lv_iconst (v := (4 : Int32)) hx hb dX11_led_55 (by decide) ?_
        obtain ⟨z9, h⟩ := x_ck h
        refine lv_irem hx hb dX11_led_56 z9 ?_
        refine lv_icmp_ne (tgt := 64) hx hb dX11_led_57 (by decide) (fun k10 => ?_) (fun k10 => ?_)
        · have h := x_f h k10
          refine lv_iconst (v := (0 : Int32)) hx hb dX11_led_64 (by decide) ?_
          exact b_X11_led_65 cx hkn hL0 hK0 (hkb6 := ih) M v5 v4 ((0 : Int32)) H locs ls h w (lv_sub hl [1, 2, 3, 4, 6] rfl)
        · have h := x_t h k10
          refine lv_iconst (v := (-1 : Int32)) hx hb dX11_led_60 (by decide) ?_
          refine lv_goto (tgt := 65) hx hb dX11_led_61 (by decide) ?_
          exact b_X11_led_65 cx hkn hL0 hK0 (hkb6 := ih) M v5 v4 ((-1 : Int32)) H locs ls h w (lv_sub hl [1, 2, 3, 4, 6] rfl)
      · have h := x_t h k8
        refine lv_iconst (v := (1 : Int32)) hx hb dX11_led_46 (by decide) ?_
        refine lv_goto (tgt := 65) hx hb dX11_led_47 (by decide) ?_
        exact b_X11_led_65 cx hkn hL0 hK0 (hkb6 := ih) M v5 v4 ((1 : Int32)) H locs ls h w (lv_sub hl [1, 2, 3, 4, 6] rfl)
set_option maxHeartbeats 4000000 in
set_option maxRecDepth 100000 in
theorem k_X11_led {l : Launch} {D : va_G} {cy : cyS} {G : gS} {M M' : mS} {r : Int32} {a0 : Nat} {c1 : Int32} {c2 : Int32} {c3 : Int32} (hG : wt G) (hL0 : a0 ∈ gL G) (hK0 : gK G a0 = 10) (h : m_X11_led G M a0 c1 c2 c3 = some (M', r)) : ctI l yX11_led wsX11_led rmX11_led D cy G M [.ref a0, .int c1, .int c2, .int c3] M' r := by
  unfold m_X11_led at h
  refine ctI_of (cc := cX11_led) (nL := 7) (ret := (some .int)) (lv := [(0, .ref a0), (1, .int c1), (2, .int c2), (3, .int c3)]) hG (by decide) rfl ⟨rfl, rfl⟩ (Nat.le_of_ble_eq_true rfl) rfl ?_
  intro p e s m args below meth c A ls cx w hl
  obtain ⟨hx, hb, hml, hown, hts, hr, hlocks, hK, hA, -, hsx⟩ := id cx
  have hkn : 0 ≤ (rmX11_led).cells ∧ 0 ≤ (rmX11_led).slots := ⟨Nat.zero_le _, Nat.zero_le _⟩
  refine lv_iconst (v := (0 : Int32)) hx hb dX11_led_0 (by decide) ?_
  refine lv_istore (lv' := [(4, .int ((0 : Int32))), (0, .ref a0), (1, .int c1), (2, .int c2), (3, .int c3)]) hx hb dX11_led_1 hl (by decide) rfl (fun ls hl => ?_)
  refine lv_iconst (v := (1 : Int32)) hx hb dX11_led_3 (by decide) ?_
  refine lv_istore (lv' := [(5, .int ((1 : Int32))), (4, .int ((0 : Int32))), (0, .ref a0), (1, .int c1), (2, .int c2), (3, .int c3)]) hx hb dX11_led_4 hl (by decide) rfl (fun ls hl => ?_)
  exact b_X11_led_6 cx hkn hL0 hK0 fu M ((0 : Int32)) ((1 : Int32)) s.heap [] ls h w (lv_sub hl [2, 3, 4, 5, 1, 0] rfl)
-- X11_period
theorem wi_X11_period_X11 : ∀ w ∈ wsX110, w ∈ wsX11_period := by decide +kernel
abbrev rmX11_period : Room := { frames := 1, cells := 0, slots := 0, locals := 26 }
def m_X11_period_47 (G : gS) (a0 : Nat) (c1 : Int32) (kb2 : mS → Int32 → Option (mS × Int32)) (M : mS) (v2 : Int32) : Option (mS × Int32) := o_bd (v2 + 1 : Int32) (fun x1 => kb2 M x1)
def m_X11_period_45 (G : gS) (a0 : Nat) (c1 : Int32)  (M : mS) (v2 : Int32) : Option (mS × Int32) := some (M, v2)
def m_X11_period_2 (G : gS) (a0 : Nat) (c1 : Int32)  : Nat → mS → Int32 → Option (mS × Int32)
  | 0, _, _ => none
  | n + 1, M, v2 => (if (120 : Int32) < v2 then some (M, (0 : Int32)) else o_rf (gP G a0 13) (fun q2 => o_ix (((121 : Int32) * c1) + v2) (gN G q2) ((if (mI M q2 (Int32.toNatClampNeg (((121 : Int32) * c1) + v2))) < ((2 : Int32) * v2) then m_X11_period_47 G a0 c1 (fun M v2 => m_X11_period_2 G a0 c1 n M v2) M v2 else o_cl (m_X11_led G M a0 c1 v2 (1 : Int32)) (fun M5 r6 => (if r6 = 0 then o_cl (m_X11_led G M5 a0 c1 v2 (2 : Int32)) (fun M9 r10 => (if r10 = 0 then m_X11_period_47 G a0 c1 (fun M v2 => m_X11_period_2 G a0 c1 n M v2) M9 v2 else m_X11_period_45 G a0 c1 M9 v2)) else m_X11_period_45 G a0 c1 M5 v2))))))
def m_X11_period (G : gS) (M : mS) (a0 : Nat) (c1 : Int32) : Option (mS × Int32) := m_X11_period_2 G a0 c1 fu M ((1 : Int32))
set_option maxHeartbeats 4000000 in
set_option maxRecDepth 100000 in
theorem b_X11_period_47 {p : Program} {e : Env} {s : State} {m : MethodId} {args : Array Value} {below : List Frame} {meth : Method} {c : Code} {A : Nat → Prop} {l : Launch} {D : va_G} {cy : cyS} {G : gS} (cx : cX p s m args meth c cX11_period RX11 3 (some .int) wsX11_period D cy G A) {k0 n0 : Nat} (hkn : k0 ≤ (rmX11_period).cells ∧ n0 ≤ (rmX11_period).slots) {M' : mS} {r : Int32} {a0 : Nat} {c1 : Int32} (hL0 : a0 ∈ gL G) (hK0 : gK G a0 = 10) {kb2 : mS → Int32 → Option (mS × Int32)} (hkb2 : ∀ (M : mS) (v2 : Int32) (H : Heap) (locs : List Loc) (ls : Array Slot), kb2 M v2 = some (M', r) → wd D cy G M A s.heap H locs → lv_has ls 3 [(0, .ref a0), (1, .int c1), (2, .int v2)] → W p l e rmX11_period s m args below meth c H locs k0 n0 (MQ below (va_Qi (fun (r' : Int32) (_ : Unit) => r' = r) (fun _ t => wOut D cy G M' t) A) args s k0 n0 A) (F0 m 2 ls [])) : ∀ (M : mS) (v2 : Int32) (H : Heap) (locs : List Loc) (ls : Array Slot), m_X11_period_47 G a0 c1 kb2 M v2 = some (M', r) → wd D cy G M A s.heap H locs → lv_has ls 3 [(0, .ref a0), (1, .int c1), (2, .int v2)] → W p l e rmX11_period s m args below meth c H locs k0 n0 (MQ below (va_Qi (fun (r' : Int32) (_ : Unit) => r' = r) (fun _ t => wOut D cy G M' t) A) args s k0 n0 A) (F0 m 47 ls []) := by
  obtain ⟨hx, hb, hml, hown, hts, hr, hlocks, hK, hA, hG, hsx⟩ := id cx
  intro M v2 H locs ls h w hl
  unfold m_X11_period_47 at h
  obtain ⟨x1, ex1, h⟩ := x_bd h
  refine lv_iinc (v := x1) (lv' := [(2, .int x1), (0, .ref a0), (1, .int c1)]) hx hb dX11_period_47 hl (k := 2) rfl (by rw [ex1]; rfl) (by decide) rfl (fun ls hl => ?_)
  refine lv_goto (tgt := 2) hx hb dX11_period_50 (by decide) ?_
  exact hkb2 M x1 H locs ls h w (lv_sub hl [1, 2, 0] rfl)
set_option maxHeartbeats 4000000 in
set_option maxRecDepth 100000 in
theorem b_X11_period_45 {p : Program} {e : Env} {s : State} {m : MethodId} {args : Array Value} {below : List Frame} {meth : Method} {c : Code} {A : Nat → Prop} {l : Launch} {D : va_G} {cy : cyS} {G : gS} (cx : cX p s m args meth c cX11_period RX11 3 (some .int) wsX11_period D cy G A) {k0 n0 : Nat} (hkn : k0 ≤ (rmX11_period).cells ∧ n0 ≤ (rmX11_period).slots) {M' : mS} {r : Int32} {a0 : Nat} {c1 : Int32} (hL0 : a0 ∈ gL G) (hK0 : gK G a0 = 10)  : ∀ (M : mS) (v2 : Int32) (H : Heap) (locs : List Loc) (ls : Array Slot), m_X11_period_45 G a0 c1 M v2 = some (M', r) → wd D cy G M A s.heap H locs → lv_has ls 3 [(2, .int v2)] → W p l e rmX11_period s m args below meth c H locs k0 n0 (MQ below (va_Qi (fun (r' : Int32) (_ : Unit) => r' = r) (fun _ t => wOut D cy G M' t) A) args s k0 n0 A) (F0 m 45 ls []) := by
  obtain ⟨hx, hb, hml, hown, hts, hr, hlocks, hK, hA, hG, hsx⟩ := id cx
  intro M v2 H locs ls h w hl
  unfold m_X11_period_45 at h
  refine lv_iload_n hx hb dX11_period_45 rfl (lv_at hl 0 rfl) ?_
  exact r_iret cx w h dX11_period_46
set_option maxHeartbeats 4000000 in
set_option maxRecDepth 100000 in
theorem b_X11_period_2 {p : Program} {e : Env} {s : State} {m : MethodId} {args : Array Value} {below : List Frame} {meth : Method} {c : Code} {A : Nat → Prop} {l : Launch} {D : va_G} {cy : cyS} {G : gS} (cx : cX p s m args meth c cX11_period RX11 3 (some .int) wsX11_period D cy G A) {k0 n0 : Nat} (hkn : k0 ≤ (rmX11_period).cells ∧ n0 ≤ (rmX11_period).slots) {M' : mS} {r : Int32} {a0 : Nat} {c1 : Int32} (hL0 : a0 ∈ gL G) (hK0 : gK G a0 = 10)  : ∀ (n : Nat), ∀ (M : mS) (v2 : Int32) (H : Heap) (locs : List Loc) (ls : Array Slot), m_X11_period_2 G a0 c1 n M v2 = some (M', r) → wd D cy G M A s.heap H locs → lv_has ls 3 [(0, .ref a0), (1, .int c1), (2, .int v2)] → W p l e rmX11_period s m args below meth c H locs k0 n0 (MQ below (va_Qi (fun (r' : Int32) (_ : Unit) => r' = r) (fun _ t => wOut D cy G M' t) A) args s k0 n0 A) (F0 m 2 ls []) := by
  obtain ⟨hx, hb, hml, hown, hts, hr, hlocks, hK, hA, hG, hsx⟩ := id cx
  intro n
  induction n with
  | zero =>
    intro M v2 H locs ls h w hl
    have h : none = some _ := h
    cases h
  | succ n ih =>
    intro M v2 H locs ls h w hl
    rw [m_X11_period_2] at h
    refine lv_iload_n hx hb dX11_period_2 rfl (lv_at hl 2 rfl) ?_
    refine lv_bipush (v := (120 : Int32)) hx hb dX11_period_3 (by decide) ?_
    refine lv_icmp_gt (tgt := 53) hx hb dX11_period_5 (by decide) (fun k1 => ?_) (fun k1 => ?_)
    · have h := x_t h k1
      refine lv_iconst (v := (0 : Int32)) hx hb dX11_period_53 (by decide) ?_
      exact r_iret cx w h dX11_period_54
    · have h := x_f h k1
      refine lv_aload_n hx hb dX11_period_8 rfl (lv_at hl 0 rfl) ?_
      obtain ⟨q2, eq2, h⟩ := x_rf h
      obtain ⟨hLq2, hKq2⟩ := wt_q hG hL0 hK0 eq2
      have hKq2 : gK G q2 = 12 := hKq2
      refine r_getR (k := 13) cx w hL0 hK0 (by decide) rfl wi_X11_period_X11 (by decide) rfl eq2 (List.mem_of_getElem? (i := 1) rfl) dX11_period_9 ?_
      refine lv_bipush (v := (121 : Int32)) hx hb dX11_period_12 (by decide) ?_
      refine lv_iload_n hx hb dX11_period_14 rfl (lv_at hl 1 rfl) ?_
      refine lv_imul hx hb dX11_period_15 ?_
      refine lv_iload_n hx hb dX11_period_16 rfl (lv_at hl 2 rfl) ?_
      refine lv_iadd hx hb dX11_period_17 ?_
      obtain ⟨z3, h⟩ := x_ix h
      refine r_iald cx w hLq2 hKq2 z3 dX11_period_18 ?_
      refine lv_iconst (v := (2 : Int32)) hx hb dX11_period_19 (by decide) ?_
      refine lv_iload_n hx hb dX11_period_20 rfl (lv_at hl 2 rfl) ?_
      refine lv_imul hx hb dX11_period_21 ?_
      refine lv_icmp_lt (tgt := 47) hx hb dX11_period_22 (by decide) (fun k4 => ?_) (fun k4 => ?_)
      · have h := x_t h k4
        exact b_X11_period_47 cx hkn hL0 hK0 (hkb2 := ih) M v2 H locs ls h w (lv_sub hl [0, 1, 2] rfl)
      · have h := x_f h k4
        refine lv_aload_n hx hb dX11_period_25 rfl (lv_at hl 0 rfl) ?_
        refine lv_iload_n hx hb dX11_period_26 rfl (lv_at hl 1 rfl) ?_
        refine lv_iload_n hx hb dX11_period_27 rfl (lv_at hl 2 rfl) ?_
        refine lv_iconst (v := (1 : Int32)) hx hb dX11_period_28 (by decide) ?_
        obtain ⟨M5, r6, y7, h⟩ := x_cl h
        refine r_callVi (As := [.int c1, .int v2, .int ((1 : Int32))]) (rest := []) cx w hkn hl.1 (k_X11_led hG hL0 hK0 y7) (cwV 3 hts gX11_period_X11_led rfl rfl rfl (by decide +kernel) ⟨Nat.le_of_ble_eq_true rfl, Nat.le_of_ble_eq_true rfl⟩) hL0 hK0 (by decide) rfl rfl rfl (Nat.le_of_ble_eq_true rfl) dX11_period_29 (fun H locs w => ?_)
        refine lv_if_ne (tgt := 45) hx hb dX11_period_32 (by decide) (fun k8 => ?_) (fun k8 => ?_)
        · have h := x_f h k8
          exact b_X11_period_45 cx hkn hL0 hK0 M5 v2 H locs ls h w (lv_sub hl [2] rfl)
        · have h := x_t h k8
          refine lv_aload_n hx hb dX11_period_35 rfl (lv_at hl 0 rfl) ?_
          refine lv_iload_n hx hb dX11_period_36 rfl (lv_at hl 1 rfl) ?_
          refine lv_iload_n hx hb dX11_period_37 rfl (lv_at hl 2 rfl) ?_
          refine lv_iconst (v := (2 : Int32)) hx hb dX11_period_38 (by decide) ?_
          obtain ⟨M9, r10, y11, h⟩ := x_cl h
          refine r_callVi (As := [.int c1, .int v2, .int ((2 : Int32))]) (rest := []) cx w hkn hl.1 (k_X11_led hG hL0 hK0 y11) (cwV 3 hts gX11_period_X11_led rfl rfl rfl (by decide +kernel) ⟨Nat.le_of_ble_eq_true rfl, Nat.le_of_ble_eq_true rfl⟩) hL0 hK0 (by decide) rfl rfl rfl (Nat.le_of_ble_eq_true rfl) dX11_period_39 (fun H locs w => ?_)
          refine lv_if_eq (tgt := 47) hx hb dX11_period_42 (by decide) (fun k12 => ?_) (fun k12 => ?_)
          · have h := x_t h k12
            exact b_X11_period_47 cx hkn hL0 hK0 (hkb2 := ih) M9 v2 H locs ls h w (lv_sub hl [0, 1, 2] rfl)
          · have h := x_f h k12
            exact b_X11_period_45 cx hkn hL0 hK0 M9 v2 H locs ls h w (lv_sub hl [2] rfl)
set_option maxHeartbeats 4000000 in
set_option maxRecDepth 100000 in
theorem k_X11_period {l : Launch} {D : va_G} {cy : cyS} {G : gS} {M M' : mS} {r : Int32} {a0 : Nat} {c1 : Int32} (hG : wt G) (hL0 : a0 ∈ gL G) (hK0 : gK G a0 = 10) (h : m_X11_period G M a0 c1 = some (M', r)) : ctI l yX11_period wsX11_period rmX11_period D cy G M [.ref a0, .int c1] M' r := by
  unfold m_X11_period at h
  refine ctI_of (cc := cX11_period) (nL := 3) (ret := (some .int)) (lv := [(0, .ref a0), (1, .int c1)]) hG (by decide) rfl ⟨rfl, rfl⟩ (Nat.le_of_ble_eq_true rfl) rfl ?_
  intro p e s m args below meth c A ls cx w hl
  obtain ⟨hx, hb, hml, hown, hts, hr, hlocks, hK, hA, -, hsx⟩ := id cx
  have hkn : 0 ≤ (rmX11_period).cells ∧ 0 ≤ (rmX11_period).slots := ⟨Nat.zero_le _, Nat.zero_le _⟩
  refine lv_iconst (v := (1 : Int32)) hx hb dX11_period_0 (by decide) ?_
  refine lv_istore_n (lv' := [(2, .int ((1 : Int32))), (0, .ref a0), (1, .int c1)]) hx hb dX11_period_1 rfl hl (by decide) rfl (fun ls hl => ?_)
  exact b_X11_period_2 cx hkn hL0 hK0 fu M ((1 : Int32)) s.heap [] ls h w (lv_sub hl [1, 2, 0] rfl)
-- X11_isAt
theorem wi_X11_isAt_X11 : ∀ w ∈ wsX110, w ∈ wsX11_isAt := by decide +kernel
abbrev rmX11_isAt : Room := { frames := 0, cells := 0, slots := 0, locals := 0 }
def m_X11_isAt_34 (G : gS) (a0 : Nat) (c1 : Int32) (c2 : Int32)  (M : mS)  : Option (mS × Int32) := o_ck ((0 : Int32) = 0 ∨ (0 : Int32) = 1) (some (M, (0 : Int32)))
def m_X11_isAt (G : gS) (M : mS) (a0 : Nat) (c1 : Int32) (c2 : Int32) : Option (mS × Int32) := o_rf (gP G a0 6) (fun q1 => o_ix c1 (gN G q1) (o_rf (gP G a0 6) (fun q3 => o_ix c2 (gN G q3) ((if (mI M q1 (Int32.toNatClampNeg c1)) = (mI M q3 (Int32.toNatClampNeg c2)) then o_rf (gP G a0 7) (fun q6 => o_ix c1 (gN G q6) (o_rf (gP G a0 7) (fun q8 => o_ix c2 (gN G q8) ((if (mI M q6 (Int32.toNatClampNeg c1)) = (mI M q8 (Int32.toNatClampNeg c2)) then o_ck ((1 : Int32) = 0 ∨ (1 : Int32) = 1) (some (M, (1 : Int32))) else m_X11_isAt_34 G a0 c1 c2 M))))) else m_X11_isAt_34 G a0 c1 c2 M)))))
set_option maxHeartbeats 4000000 in
set_option maxRecDepth 100000 in
theorem b_X11_isAt_34 {p : Program} {e : Env} {s : State} {m : MethodId} {args : Array Value} {below : List Frame} {meth : Method} {c : Code} {A : Nat → Prop} {l : Launch} {D : va_G} {cy : cyS} {G : gS} (cx : cX p s m args meth c cX11_isAt RX11 3 (some .boolean) wsX11_isAt D cy G A) {k0 n0 : Nat} (hkn : k0 ≤ (rmX11_isAt).cells ∧ n0 ≤ (rmX11_isAt).slots) {M' : mS} {r : Int32} {a0 : Nat} {c1 : Int32} {c2 : Int32} (hL0 : a0 ∈ gL G) (hK0 : gK G a0 = 10)  : ∀ (M : mS) (H : Heap) (locs : List Loc) (ls : Array Slot), m_X11_isAt_34 G a0 c1 c2 M = some (M', r) → wd D cy G M A s.heap H locs → lv_has ls 3 [] → W p l e rmX11_isAt s m args below meth c H locs k0 n0 (MQ below (va_Qi (fun (r' : Int32) (_ : Unit) => r' = r) (fun _ t => wOut D cy G M' t) A) args s k0 n0 A) (F0 m 34 ls []) := by
  obtain ⟨hx, hb, hml, hown, hts, hr, hlocks, hK, hA, hG, hsx⟩ := id cx
  intro M H locs ls h w hl
  unfold m_X11_isAt_34 at h
  refine lv_iconst (v := (0 : Int32)) hx hb dX11_isAt_34 (by decide) ?_
  obtain ⟨z1, h⟩ := x_ck h
  exact r_zret cx w z1 h dX11_isAt_35
set_option maxHeartbeats 4000000 in
set_option maxRecDepth 100000 in
theorem k_X11_isAt {l : Launch} {D : va_G} {cy : cyS} {G : gS} {M M' : mS} {r : Int32} {a0 : Nat} {c1 : Int32} {c2 : Int32} (hG : wt G) (hL0 : a0 ∈ gL G) (hK0 : gK G a0 = 10) (h : m_X11_isAt G M a0 c1 c2 = some (M', r)) : ctI l yX11_isAt wsX11_isAt rmX11_isAt D cy G M [.ref a0, .int c1, .int c2] M' r := by
  unfold m_X11_isAt at h
  refine ctI_of (cc := cX11_isAt) (nL := 3) (ret := (some .boolean)) (lv := [(0, .ref a0), (1, .int c1), (2, .int c2)]) hG (by decide) rfl ⟨rfl, rfl⟩ (Nat.le_of_ble_eq_true rfl) rfl ?_
  intro p e s m args below meth c A ls cx w hl
  obtain ⟨hx, hb, hml, hown, hts, hr, hlocks, hK, hA, -, hsx⟩ := id cx
  have hkn : 0 ≤ (rmX11_isAt).cells ∧ 0 ≤ (rmX11_isAt).slots := ⟨Nat.zero_le _, Nat.zero_le _⟩
  refine lv_aload_n hx hb dX11_isAt_0 rfl (lv_at hl 0 rfl) ?_
  obtain ⟨q1, eq1, h⟩ := x_rf h
  obtain ⟨hLq1, hKq1⟩ := wt_q hG hL0 hK0 eq1
  have hKq1 : gK G q1 = 12 := hKq1
  refine r_getR (k := 6) cx w hL0 hK0 (by decide) rfl wi_X11_isAt_X11 (by decide) rfl eq1 (List.mem_of_getElem? (i := 1) rfl) dX11_isAt_1 ?_
  refine lv_iload_n hx hb dX11_isAt_4 rfl (lv_at hl 1 rfl) ?_
  obtain ⟨z2, h⟩ := x_ix h
  refine r_iald cx w hLq1 hKq1 z2 dX11_isAt_5 ?_
  refine lv_aload_n hx hb dX11_isAt_6 rfl (lv_at hl 0 rfl) ?_
  obtain ⟨q3, eq3, h⟩ := x_rf h
  obtain ⟨hLq3, hKq3⟩ := wt_q hG hL0 hK0 eq3
  have hKq3 : gK G q3 = 12 := hKq3
  refine r_getR (k := 6) cx w hL0 hK0 (by decide) rfl wi_X11_isAt_X11 (by decide) rfl eq3 (List.mem_of_getElem? (i := 1) rfl) dX11_isAt_7 ?_
  refine lv_iload_n hx hb dX11_isAt_10 rfl (lv_at hl 2 rfl) ?_
  obtain ⟨z4, h⟩ := x_ix h
  refine r_iald cx w hLq3 hKq3 z4 dX11_isAt_11 ?_
  refine lv_icmp_ne (tgt := 34) hx hb dX11_isAt_12 (by decide) (fun k5 => ?_) (fun k5 => ?_)
  · have h := x_f h k5
    exact b_X11_isAt_34 cx hkn hL0 hK0 M s.heap [] ls h w (lv_sub hl [] rfl)
  · have h := x_t h k5
    refine lv_aload_n hx hb dX11_isAt_15 rfl (lv_at hl 0 rfl) ?_
    obtain ⟨q6, eq6, h⟩ := x_rf h
    obtain ⟨hLq6, hKq6⟩ := wt_q hG hL0 hK0 eq6
    have hKq6 : gK G q6 = 12 := hKq6
    refine r_getR (k := 7) cx w hL0 hK0 (by decide) rfl wi_X11_isAt_X11 (by decide) rfl eq6 (List.mem_of_getElem? (i := 2) rfl) dX11_isAt_16 ?_
    refine lv_iload_n hx hb dX11_isAt_19 rfl (lv_at hl 1 rfl) ?_
    obtain ⟨z7, h⟩ := x_ix h
    refine r_iald cx w hLq6 hKq6 z7 dX11_isAt_20 ?_
    refine lv_aload_n hx hb dX11_isAt_21 rfl (lv_at hl 0 rfl) ?_
    obtain ⟨q8, eq8, h⟩ := x_rf h
    obtain ⟨hLq8, hKq8⟩ := wt_q hG hL0 hK0 eq8
    have hKq8 : gK G q8 = 12 := hKq8
    refine r_getR (k := 7) cx w hL0 hK0 (by decide) rfl wi_X11_isAt_X11 (by decide) rfl eq8 (List.mem_of_getElem? (i := 2) rfl) dX11_isAt_22 ?_
    refine lv_iload_n hx hb dX11_isAt_25 rfl (lv_at hl 2 rfl) ?_
    obtain ⟨z9, h⟩ := x_ix h
    refine r_iald cx w hLq8 hKq8 z9 dX11_isAt_26 ?_
    refine lv_icmp_ne (tgt := 34) hx hb dX11_isAt_27 (by decide) (fun k10 => ?_) (fun k10 => ?_)
    · have h := x_f h k10
      exact b_X11_isAt_34 cx hkn hL0 hK0 M s.heap [] ls h w (lv_sub hl [] rfl)
    · have h := x_t h k10
      refine lv_iconst (v := (1 : Int32)) hx hb dX11_isAt_30 (by decide) ?_
      refine lv_goto (tgt := 35) hx hb dX11_isAt_31 (by decide) ?_
      obtain ⟨z11, h⟩ := x_ck h
      exact r_zret cx w z11 h dX11_isAt_35
-- X11_meets
theorem wi_X11_meets_X10 : ∀ w ∈ wsX100, w ∈ wsX11_meets := by decide +kernel
theorem wi_X11_meets_X11 : ∀ w ∈ wsX110, w ∈ wsX11_meets := by decide +kernel
theorem wi_X11_meets_X12 : ∀ w ∈ wsX120, w ∈ wsX11_meets := by decide +kernel
abbrev rmX11_meets : Room := { frames := 1, cells := 0, slots := 0, locals := 22 }
def m_X11_meets_32 (G : gS) (a0 : Nat) (c1 : Int32) (kb2 : mS → Int32 → Option (mS × Int32)) (M : mS) (v2 : Int32) : Option (mS × Int32) := o_bd (v2 + 1 : Int32) (fun x1 => kb2 M x1)
def m_X11_meets_2 (G : gS) (a0 : Nat) (c1 : Int32)  : Nat → mS → Int32 → Option (mS × Int32)
  | 0, _, _ => none
  | n + 1, M, v2 => o_rf (gP G a0 15) (fun q1 => o_rf (gP G q1 11) (fun q2 => (if (mI M q2 3) ≤ v2 then o_ck ((0 : Int32) = 0 ∨ (0 : Int32) = 1) (some (M, (0 : Int32))) else (if v2 = c1 then m_X11_meets_32 G a0 c1 (fun M v2 => m_X11_meets_2 G a0 c1 n M v2) M v2 else o_cl (m_X11_isAt G M a0 c1 v2) (fun M6 r7 => (if r7 = 0 then m_X11_meets_32 G a0 c1 (fun M v2 => m_X11_meets_2 G a0 c1 n M v2) M6 v2 else o_ck ((1 : Int32) = 0 ∨ (1 : Int32) = 1) (some (M6, (1 : Int32)))))))))
def m_X11_meets (G : gS) (M : mS) (a0 : Nat) (c1 : Int32) : Option (mS × Int32) := m_X11_meets_2 G a0 c1 fu M ((0 : Int32))
set_option maxHeartbeats 4000000 in
set_option maxRecDepth 100000 in
theorem b_X11_meets_32 {p : Program} {e : Env} {s : State} {m : MethodId} {args : Array Value} {below : List Frame} {meth : Method} {c : Code} {A : Nat → Prop} {l : Launch} {D : va_G} {cy : cyS} {G : gS} (cx : cX p s m args meth c cX11_meets RX11 3 (some .boolean) wsX11_meets D cy G A) {k0 n0 : Nat} (hkn : k0 ≤ (rmX11_meets).cells ∧ n0 ≤ (rmX11_meets).slots) {M' : mS} {r : Int32} {a0 : Nat} {c1 : Int32} (hL0 : a0 ∈ gL G) (hK0 : gK G a0 = 10) {kb2 : mS → Int32 → Option (mS × Int32)} (hkb2 : ∀ (M : mS) (v2 : Int32) (H : Heap) (locs : List Loc) (ls : Array Slot), kb2 M v2 = some (M', r) → wd D cy G M A s.heap H locs → lv_has ls 3 [(0, .ref a0), (1, .int c1), (2, .int v2)] → W p l e rmX11_meets s m args below meth c H locs k0 n0 (MQ below (va_Qi (fun (r' : Int32) (_ : Unit) => r' = r) (fun _ t => wOut D cy G M' t) A) args s k0 n0 A) (F0 m 2 ls [])) : ∀ (M : mS) (v2 : Int32) (H : Heap) (locs : List Loc) (ls : Array Slot), m_X11_meets_32 G a0 c1 kb2 M v2 = some (M', r) → wd D cy G M A s.heap H locs → lv_has ls 3 [(0, .ref a0), (1, .int c1), (2, .int v2)] → W p l e rmX11_meets s m args below meth c H locs k0 n0 (MQ below (va_Qi (fun (r' : Int32) (_ : Unit) => r' = r) (fun _ t => wOut D cy G M' t) A) args s k0 n0 A) (F0 m 32 ls []) := by
  obtain ⟨hx, hb, hml, hown, hts, hr, hlocks, hK, hA, hG, hsx⟩ := id cx
  intro M v2 H locs ls h w hl
  unfold m_X11_meets_32 at h
  obtain ⟨x1, ex1, h⟩ := x_bd h
  refine lv_iinc (v := x1) (lv' := [(2, .int x1), (0, .ref a0), (1, .int c1)]) hx hb dX11_meets_32 hl (k := 2) rfl (by rw [ex1]; rfl) (by decide) rfl (fun ls hl => ?_)
  refine lv_goto (tgt := 2) hx hb dX11_meets_35 (by decide) ?_
  exact hkb2 M x1 H locs ls h w (lv_sub hl [1, 2, 0] rfl)
set_option maxHeartbeats 4000000 in
set_option maxRecDepth 100000 in
theorem b_X11_meets_2 {p : Program} {e : Env} {s : State} {m : MethodId} {args : Array Value} {below : List Frame} {meth : Method} {c : Code} {A : Nat → Prop} {l : Launch} {D : va_G} {cy : cyS} {G : gS} (cx : cX p s m args meth c cX11_meets RX11 3 (some .boolean) wsX11_meets D cy G A) {k0 n0 : Nat} (hkn : k0 ≤ (rmX11_meets).cells ∧ n0 ≤ (rmX11_meets).slots) {M' : mS} {r : Int32} {a0 : Nat} {c1 : Int32} (hL0 : a0 ∈ gL G) (hK0 : gK G a0 = 10)  : ∀ (n : Nat), ∀ (M : mS) (v2 : Int32) (H : Heap) (locs : List Loc) (ls : Array Slot), m_X11_meets_2 G a0 c1 n M v2 = some (M', r) → wd D cy G M A s.heap H locs → lv_has ls 3 [(0, .ref a0), (1, .int c1), (2, .int v2)] → W p l e rmX11_meets s m args below meth c H locs k0 n0 (MQ below (va_Qi (fun (r' : Int32) (_ : Unit) => r' = r) (fun _ t => wOut D cy G M' t) A) args s k0 n0 A) (F0 m 2 ls []) := by
  obtain ⟨hx, hb, hml, hown, hts, hr, hlocks, hK, hA, hG, hsx⟩ := id cx
  intro n
  induction n with
  | zero =>
    intro M v2 H locs ls h w hl
    have h : none = some _ := h
    cases h
  | succ n ih =>
    intro M v2 H locs ls h w hl
    rw [m_X11_meets_2] at h
    refine lv_iload_n hx hb dX11_meets_2 rfl (lv_at hl 2 rfl) ?_
    refine lv_aload_n hx hb dX11_meets_3 rfl (lv_at hl 0 rfl) ?_
    obtain ⟨q1, eq1, h⟩ := x_rf h
    obtain ⟨hLq1, hKq1⟩ := wt_q hG hL0 hK0 eq1
    have hKq1 : gK G q1 = 11 := hKq1
    refine r_getR (k := 15) cx w hL0 hK0 (by decide) rfl wi_X11_meets_X11 (by decide) rfl eq1 (List.mem_of_getElem? (i := 1) rfl) dX11_meets_4 ?_
    obtain ⟨q2, eq2, h⟩ := x_rf h
    obtain ⟨hLq2, hKq2⟩ := wt_q hG hLq1 hKq1 eq2
    have hKq2 : gK G q2 = 9 := hKq2
    refine r_getRN (k := 11) cx w hLq1 hKq1 (by decide) rfl wi_X11_meets_X12 (by decide) rfl eq2 (nwF cx (q := (RX11, 72, "FlagAntsModel", "plan", "LFlagAntsModel$Plan;", "FlagAntsModel")) (List.mem_of_getElem? (i := 30) rfl)) dX11_meets_7 ?_
    refine r_getIN (k := 3) (v := .int (mI M q2 3)) cx w hLq2 hKq2 (by decide) rfl wi_X11_meets_X10 (by decide) rfl (nwF cx (q := (RX11, 106, "FlagAntsModel$Plan", "ants", "I", "FlagAntsModel")) (List.mem_of_getElem? (i := 38) rfl)) dX11_meets_10 ?_
    refine lv_icmp_ge (tgt := 38) hx hb dX11_meets_13 (by decide) (fun k3 => ?_) (fun k3 => ?_)
    · have h := x_t h k3
      refine lv_iconst (v := (0 : Int32)) hx hb dX11_meets_38 (by decide) ?_
      obtain ⟨z4, h⟩ := x_ck h
      exact r_zret cx w z4 h dX11_meets_39
    · have h := x_f h k3
      refine lv_iload_n hx hb dX11_meets_16 rfl (lv_at hl 2 rfl) ?_
      refine lv_iload_n hx hb dX11_meets_17 rfl (lv_at hl 1 rfl) ?_
      refine lv_icmp_eq (tgt := 32) hx hb dX11_meets_18 (by decide) (fun k5 => ?_) (fun k5 => ?_)
      · have h := x_t h k5
        exact b_X11_meets_32 cx hkn hL0 hK0 (hkb2 := ih) M v2 H locs ls h w (lv_sub hl [0, 1, 2] rfl)
      · have h := x_f h k5
        refine lv_aload_n hx hb dX11_meets_21 rfl (lv_at hl 0 rfl) ?_
        refine lv_iload_n hx hb dX11_meets_22 rfl (lv_at hl 1 rfl) ?_
        refine lv_iload_n hx hb dX11_meets_23 rfl (lv_at hl 2 rfl) ?_
        obtain ⟨M6, r7, y8, h⟩ := x_cl h
        refine r_callVi (As := [.int c1, .int v2]) (rest := []) cx w hkn hl.1 (k_X11_isAt hG hL0 hK0 y8) (cwV 2 hts gX11_meets_X11_isAt rfl rfl rfl (by decide +kernel) ⟨Nat.le_of_ble_eq_true rfl, Nat.le_of_ble_eq_true rfl⟩) hL0 hK0 (by decide) rfl rfl rfl (Nat.le_of_ble_eq_true rfl) dX11_meets_24 (fun H locs w => ?_)
        refine lv_if_eq (tgt := 32) hx hb dX11_meets_27 (by decide) (fun k9 => ?_) (fun k9 => ?_)
        · have h := x_t h k9
          exact b_X11_meets_32 cx hkn hL0 hK0 (hkb2 := ih) M6 v2 H locs ls h w (lv_sub hl [0, 1, 2] rfl)
        · have h := x_f h k9
          refine lv_iconst (v := (1 : Int32)) hx hb dX11_meets_30 (by decide) ?_
          obtain ⟨z10, h⟩ := x_ck h
          exact r_zret cx w z10 h dX11_meets_31
set_option maxHeartbeats 4000000 in
set_option maxRecDepth 100000 in
theorem k_X11_meets {l : Launch} {D : va_G} {cy : cyS} {G : gS} {M M' : mS} {r : Int32} {a0 : Nat} {c1 : Int32} (hG : wt G) (hL0 : a0 ∈ gL G) (hK0 : gK G a0 = 10) (h : m_X11_meets G M a0 c1 = some (M', r)) : ctI l yX11_meets wsX11_meets rmX11_meets D cy G M [.ref a0, .int c1] M' r := by
  unfold m_X11_meets at h
  refine ctI_of (cc := cX11_meets) (nL := 3) (ret := (some .boolean)) (lv := [(0, .ref a0), (1, .int c1)]) hG (by decide) rfl ⟨rfl, rfl⟩ (Nat.le_of_ble_eq_true rfl) rfl ?_
  intro p e s m args below meth c A ls cx w hl
  obtain ⟨hx, hb, hml, hown, hts, hr, hlocks, hK, hA, -, hsx⟩ := id cx
  have hkn : 0 ≤ (rmX11_meets).cells ∧ 0 ≤ (rmX11_meets).slots := ⟨Nat.zero_le _, Nat.zero_le _⟩
  refine lv_iconst (v := (0 : Int32)) hx hb dX11_meets_0 (by decide) ?_
  refine lv_istore_n (lv' := [(2, .int ((0 : Int32))), (0, .ref a0), (1, .int c1)]) hx hb dX11_meets_1 rfl hl (by decide) rfl (fun ls hl => ?_)
  exact b_X11_meets_2 cx hkn hL0 hK0 fu M ((0 : Int32)) s.heap [] ls h w (lv_sub hl [1, 2, 0] rfl)
-- X11_pushed
theorem wi_X11_pushed_X11 : ∀ w ∈ wsX110, w ∈ wsX11_pushed := by decide +kernel
abbrev rmX11_pushed : Room := { frames := 2, cells := 0, slots := 0, locals := 48 }
def m_X11_pushed (G : gS) (M : mS) (a0 : Nat) (c1 : Int32) (c2 : Int32) : Option (mS × Int32) := (if c1 = 22 then o_rf (gP G a0 6) (fun q2 => o_ix c2 (gN G q2) (some (M, (mI M q2 (Int32.toNatClampNeg c2))))) else if c1 = 23 then o_rf (gP G a0 7) (fun q5 => o_ix c2 (gN G q5) (some (M, (mI M q5 (Int32.toNatClampNeg c2))))) else if c1 = 24 then o_cl (m_X11_period G M a0 c2) (fun M8 r9 => some (M8, r9)) else if c1 = 26 then o_cl (m_X11_meets G M a0 c2) (fun M12 r13 => (if r13 = 0 then some (M12, (0 : Int32)) else some (M12, (1 : Int32)))) else if c1 = 42 then some (M, c2) else o_rf (gP G a0 9) (fun q17 => o_ix c2 (gN G q17) (some (M, (mI M q17 (Int32.toNatClampNeg c2))))))
set_option maxHeartbeats 4000000 in
set_option maxRecDepth 100000 in
theorem k_X11_pushed {l : Launch} {D : va_G} {cy : cyS} {G : gS} {M M' : mS} {r : Int32} {a0 : Nat} {c1 : Int32} {c2 : Int32} (hG : wt G) (hL0 : a0 ∈ gL G) (hK0 : gK G a0 = 10) (h : m_X11_pushed G M a0 c1 c2 = some (M', r)) : ctI l yX11_pushed wsX11_pushed rmX11_pushed D cy G M [.ref a0, .int c1, .int c2] M' r := by
  unfold m_X11_pushed at h
  refine ctI_of (cc := cX11_pushed) (nL := 3) (ret := (some .int)) (lv := [(0, .ref a0), (1, .int c1), (2, .int c2)]) hG (by decide) rfl ⟨rfl, rfl⟩ (Nat.le_of_ble_eq_true rfl) rfl ?_
  intro p e s m args below meth c A ls cx w hl
  obtain ⟨hx, hb, hml, hown, hts, hr, hlocks, hK, hA, -, hsx⟩ := id cx
  have hkn : 0 ≤ (rmX11_pushed).cells ∧ 0 ≤ (rmX11_pushed).slots := ⟨Nat.zero_le _, Nat.zero_le _⟩
  refine lv_iload_n hx hb dX11_pushed_0 rfl (lv_at hl 1 rfl) ?_
  rcases Decidable.em (c1 = 22) with k1 | k1
  · have h := x_t h k1
    rw [k1]
    refine lv_lookup (tgt := 54) hx hb dX11_pushed_1 (by decide) rfl (by decide) ?_
    refine lv_aload_n hx hb dX11_pushed_54 rfl (lv_at hl 0 rfl) ?_
    obtain ⟨q2, eq2, h⟩ := x_rf h
    obtain ⟨hLq2, hKq2⟩ := wt_q hG hL0 hK0 eq2
    have hKq2 : gK G q2 = 12 := hKq2
    refine r_getR (k := 6) cx w hL0 hK0 (by decide) rfl wi_X11_pushed_X11 (by decide) rfl eq2 (List.mem_of_getElem? (i := 1) rfl) dX11_pushed_55 ?_
    refine lv_iload_n hx hb dX11_pushed_58 rfl (lv_at hl 2 rfl) ?_
    obtain ⟨z3, h⟩ := x_ix h
    refine r_iald cx w hLq2 hKq2 z3 dX11_pushed_59 ?_
    exact r_iret cx w h dX11_pushed_60
  · have h := x_f h k1
    rcases Decidable.em (c1 = 23) with k4 | k4
    · have h := x_t h k4
      rw [k4]
      refine lv_lookup (tgt := 61) hx hb dX11_pushed_1 (by decide) rfl (by decide) ?_
      refine lv_aload_n hx hb dX11_pushed_61 rfl (lv_at hl 0 rfl) ?_
      obtain ⟨q5, eq5, h⟩ := x_rf h
      obtain ⟨hLq5, hKq5⟩ := wt_q hG hL0 hK0 eq5
      have hKq5 : gK G q5 = 12 := hKq5
      refine r_getR (k := 7) cx w hL0 hK0 (by decide) rfl wi_X11_pushed_X11 (by decide) rfl eq5 (List.mem_of_getElem? (i := 2) rfl) dX11_pushed_62 ?_
      refine lv_iload_n hx hb dX11_pushed_65 rfl (lv_at hl 2 rfl) ?_
      obtain ⟨z6, h⟩ := x_ix h
      refine r_iald cx w hLq5 hKq5 z6 dX11_pushed_66 ?_
      exact r_iret cx w h dX11_pushed_67
    · have h := x_f h k4
      rcases Decidable.em (c1 = 24) with k7 | k7
      · have h := x_t h k7
        rw [k7]
        refine lv_lookup (tgt := 68) hx hb dX11_pushed_1 (by decide) rfl (by decide) ?_
        refine lv_aload_n hx hb dX11_pushed_68 rfl (lv_at hl 0 rfl) ?_
        refine lv_iload_n hx hb dX11_pushed_69 rfl (lv_at hl 2 rfl) ?_
        obtain ⟨M8, r9, y10, h⟩ := x_cl h
        refine r_callVi (As := [.int c2]) (rest := []) cx w hkn hl.1 (k_X11_period hG hL0 hK0 y10) (cwV 1 hts gX11_pushed_X11_period rfl rfl rfl (by decide +kernel) ⟨Nat.le_of_ble_eq_true rfl, Nat.le_of_ble_eq_true rfl⟩) hL0 hK0 (by decide) rfl rfl rfl (Nat.le_of_ble_eq_true rfl) dX11_pushed_70 (fun H locs w => ?_)
        exact r_iret cx w h dX11_pushed_73
      · have h := x_f h k7
        rcases Decidable.em (c1 = 26) with k11 | k11
        · have h := x_t h k11
          rw [k11]
          refine lv_lookup (tgt := 74) hx hb dX11_pushed_1 (by decide) rfl (by decide) ?_
          refine lv_aload_n hx hb dX11_pushed_74 rfl (lv_at hl 0 rfl) ?_
          refine lv_iload_n hx hb dX11_pushed_75 rfl (lv_at hl 2 rfl) ?_
          obtain ⟨M12, r13, y14, h⟩ := x_cl h
          refine r_callVi (As := [.int c2]) (rest := []) cx w hkn hl.1 (k_X11_meets hG hL0 hK0 y14) (cwV 1 hts gX11_pushed_X11_meets rfl rfl rfl (by decide +kernel) ⟨Nat.le_of_ble_eq_true rfl, Nat.le_of_ble_eq_true rfl⟩) hL0 hK0 (by decide) rfl rfl rfl (Nat.le_of_ble_eq_true rfl) dX11_pushed_76 (fun H locs w => ?_)
          refine lv_if_eq (tgt := 86) hx hb dX11_pushed_79 (by decide) (fun k15 => ?_) (fun k15 => ?_)
          · have h := x_t h k15
            refine lv_iconst (v := (0 : Int32)) hx hb dX11_pushed_86 (by decide) ?_
            exact r_iret cx w h dX11_pushed_87
          · have h := x_f h k15
            refine lv_iconst (v := (1 : Int32)) hx hb dX11_pushed_82 (by decide) ?_
            refine lv_goto (tgt := 87) hx hb dX11_pushed_83 (by decide) ?_
            exact r_iret cx w h dX11_pushed_87
        · have h := x_f h k11
          rcases Decidable.em (c1 = 42) with k16 | k16
          · have h := x_t h k16
            rw [k16]
            refine lv_lookup (tgt := 52) hx hb dX11_pushed_1 (by decide) rfl (by decide) ?_
            refine lv_iload_n hx hb dX11_pushed_52 rfl (lv_at hl 2 rfl) ?_
            exact r_iret cx w h dX11_pushed_53
          · have h := x_f h k16
            refine lv_lookup (tgt := 88) hx hb dX11_pushed_1 (by decide) (off := 87) (by have nk1 : ¬ (22 = Int32.toInt c1) := fun hh => k1 (Int32.toInt_inj.mp hh.symm); have nk4 : ¬ (23 = Int32.toInt c1) := fun hh => k4 (Int32.toInt_inj.mp hh.symm); have nk7 : ¬ (24 = Int32.toInt c1) := fun hh => k7 (Int32.toInt_inj.mp hh.symm); have nk11 : ¬ (26 = Int32.toInt c1) := fun hh => k11 (Int32.toInt_inj.mp hh.symm); have nk16 : ¬ (42 = Int32.toInt c1) := fun hh => k16 (Int32.toInt_inj.mp hh.symm); simp [Op.lookupswitch.offset, nk1, nk4, nk7, nk11, nk16]) (by decide) ?_
            refine lv_aload_n hx hb dX11_pushed_88 rfl (lv_at hl 0 rfl) ?_
            obtain ⟨q17, eq17, h⟩ := x_rf h
            obtain ⟨hLq17, hKq17⟩ := wt_q hG hL0 hK0 eq17
            have hKq17 : gK G q17 = 12 := hKq17
            refine r_getR (k := 9) cx w hL0 hK0 (by decide) rfl wi_X11_pushed_X11 (by decide) rfl eq17 (List.mem_of_getElem? (i := 3) rfl) dX11_pushed_89 ?_
            refine lv_iload_n hx hb dX11_pushed_92 rfl (lv_at hl 2 rfl) ?_
            obtain ⟨z18, h⟩ := x_ix h
            refine r_iald cx w hLq17 hKq17 z18 dX11_pushed_93 ?_
            exact r_iret cx w h dX11_pushed_94
-- X12_both
abbrev rmX12_both : Room := { frames := 1, cells := 0, slots := 0, locals := 60 }
def m_X12_both (G : gS) (M : mS) (c0 : Int32) (c1 : Int32) (c2 : Int32) : Option (mS × Int32) := (if c0 = 29 then some (M, (c1 &&& c2)) else if c0 = 30 then some (M, (c1 ||| c2)) else if c0 = 31 then some (M, (if c2 < c1 then c2 else c1)) else if c0 = 32 then some (M, (if c1 < c2 then c2 else c1)) else if c0 = 33 then some (M, (c1 ||| c2)) else if c0 = 34 then some (M, (c1 ||| c2)) else if c0 = 35 then some (M, (c1 ||| c2)) else if c0 = 36 then some (M, (c1 ||| c2)) else if c0 = 37 then some (M, (c1 ||| c2)) else if c0 = 38 then some (M, (c1 ||| c2)) else if c0 = 39 then some (M, (c1 ||| c2)) else if c0 = 40 then some (M, (c1 ||| c2)) else if c0 = 41 then some (M, (c1 ||| c2)) else if c0 = 42 then some (M, (c1 ||| c2)) else if c0 = 43 then some (M, (c1 ||| c2)) else if c0 = 44 then some (M, (c1 + c2)) else if c0 = 45 then some (M, (c1 - c2)) else if c0 = 46 then some (M, (c1 * c2)) else if c0 = 47 then (if c2 = 0 then some (M, (0 : Int32)) else o_ck (¬ c2 = 0) (some (M, (c1 / c2)))) else if c0 = 48 then (if c2 ≤ c1 then some (M, (0 : Int32)) else some (M, (1 : Int32))) else if c0 = 49 then (if c1 ≤ c2 then some (M, (0 : Int32)) else some (M, (1 : Int32))) else if c0 = 50 then some (M, (c1 ||| c2)) else if c0 = 51 then (if c1 = c2 then some (M, (1 : Int32)) else some (M, (0 : Int32))) else if c0 = 52 then (if c2 < c1 then some (M, (0 : Int32)) else some (M, (1 : Int32))) else if c0 = 53 then (if c1 < c2 then some (M, (0 : Int32)) else some (M, (1 : Int32))) else some (M, (c1 ||| c2)))
set_option maxHeartbeats 4000000 in
set_option maxRecDepth 100000 in
theorem k_X12_both {l : Launch} {D : va_G} {cy : cyS} {G : gS} {M M' : mS} {r : Int32} {c0 : Int32} {c1 : Int32} {c2 : Int32} (hG : wt G)  (h : m_X12_both G M c0 c1 c2 = some (M', r)) : ctI l yX12_both wsX12_both rmX12_both D cy G M [.int c0, .int c1, .int c2] M' r := by
  unfold m_X12_both at h
  refine ctI_of (cc := cX12_both) (nL := 3) (ret := (some .int)) (lv := [(0, .int c0), (1, .int c1), (2, .int c2)]) hG (by decide) rfl ⟨rfl, rfl⟩ (Nat.le_of_ble_eq_true rfl) rfl ?_
  intro p e s m args below meth c A ls cx w hl
  obtain ⟨hx, hb, hml, hown, hts, hr, hlocks, hK, hA, -, hsx⟩ := id cx
  have hkn : 0 ≤ (rmX12_both).cells ∧ 0 ≤ (rmX12_both).slots := ⟨Nat.zero_le _, Nat.zero_le _⟩
  refine lv_iload_n hx hb dX12_both_0 rfl (lv_at hl 0 rfl) ?_
  rcases Decidable.em (c0 = 29) with k1 | k1
  · have h := x_t h k1
    rw [k1]
    refine lv_tableIn (tgt := 207) hx hb dX12_both_1 (by decide) (by decide) rfl (by decide) ?_
    refine lv_iload_n hx hb dX12_both_207 rfl (lv_at hl 1 rfl) ?_
    refine lv_iload_n hx hb dX12_both_208 rfl (lv_at hl 2 rfl) ?_
    refine lv_iand hx hb dX12_both_209 ?_
    exact r_iret cx w h dX12_both_210
  · have h := x_f h k1
    rcases Decidable.em (c0 = 30) with k2 | k2
    · have h := x_t h k2
      rw [k2]
      refine lv_tableIn (tgt := 211) hx hb dX12_both_1 (by decide) (by decide) rfl (by decide) ?_
      refine lv_iload_n hx hb dX12_both_211 rfl (lv_at hl 1 rfl) ?_
      refine lv_iload_n hx hb dX12_both_212 rfl (lv_at hl 2 rfl) ?_
      refine lv_ior hx hb dX12_both_213 ?_
      exact r_iret cx w h dX12_both_214
    · have h := x_f h k2
      rcases Decidable.em (c0 = 31) with k3 | k3
      · have h := x_t h k3
        rw [k3]
        refine lv_tableIn (tgt := 140) hx hb dX12_both_1 (by decide) (by decide) rfl (by decide) ?_
        refine lv_iload_n hx hb dX12_both_140 rfl (lv_at hl 1 rfl) ?_
        refine lv_iload_n hx hb dX12_both_141 rfl (lv_at hl 2 rfl) ?_
        refine va_mmin hx hb (hml.trans hl.1.symm) hown (hts _ (List.mem_of_getElem? (i := 1) rfl)) (hts _ (List.mem_of_getElem? (i := 2) rfl)) (hts _ (List.mem_of_getElem? (i := 3) rfl)) (hts _ (List.mem_of_getElem? (i := 4) rfl)) (Nat.le_of_ble_eq_true rfl) (Nat.le_of_ble_eq_true rfl) hkn.1 hkn.2 dX12_both_142 ?_
        exact r_iret cx w h dX12_both_145
      · have h := x_f h k3
        rcases Decidable.em (c0 = 32) with k4 | k4
        · have h := x_t h k4
          rw [k4]
          refine lv_tableIn (tgt := 146) hx hb dX12_both_1 (by decide) (by decide) rfl (by decide) ?_
          refine lv_iload_n hx hb dX12_both_146 rfl (lv_at hl 1 rfl) ?_
          refine lv_iload_n hx hb dX12_both_147 rfl (lv_at hl 2 rfl) ?_
          refine va_mmax hx hb (hml.trans hl.1.symm) hown (hts _ (List.mem_of_getElem? (i := 5) rfl)) (hts _ (List.mem_of_getElem? (i := 6) rfl)) (hts _ (List.mem_of_getElem? (i := 3) rfl)) (hts _ (List.mem_of_getElem? (i := 7) rfl)) (Nat.le_of_ble_eq_true rfl) (Nat.le_of_ble_eq_true rfl) hkn.1 hkn.2 dX12_both_148 ?_
          exact r_iret cx w h dX12_both_151
        · have h := x_f h k4
          rcases Decidable.em (c0 = 33) with k5 | k5
          · have h := x_t h k5
            rw [k5]
            refine lv_tableIn (tgt := 211) hx hb dX12_both_1 (by decide) (by decide) rfl (by decide) ?_
            refine lv_iload_n hx hb dX12_both_211 rfl (lv_at hl 1 rfl) ?_
            refine lv_iload_n hx hb dX12_both_212 rfl (lv_at hl 2 rfl) ?_
            refine lv_ior hx hb dX12_both_213 ?_
            exact r_iret cx w h dX12_both_214
          · have h := x_f h k5
            rcases Decidable.em (c0 = 34) with k6 | k6
            · have h := x_t h k6
              rw [k6]
              refine lv_tableIn (tgt := 211) hx hb dX12_both_1 (by decide) (by decide) rfl (by decide) ?_
              refine lv_iload_n hx hb dX12_both_211 rfl (lv_at hl 1 rfl) ?_
              refine lv_iload_n hx hb dX12_both_212 rfl (lv_at hl 2 rfl) ?_
              refine lv_ior hx hb dX12_both_213 ?_
              exact r_iret cx w h dX12_both_214
            · have h := x_f h k6
              rcases Decidable.em (c0 = 35) with k7 | k7
              · have h := x_t h k7
                rw [k7]
                refine lv_tableIn (tgt := 211) hx hb dX12_both_1 (by decide) (by decide) rfl (by decide) ?_
                refine lv_iload_n hx hb dX12_both_211 rfl (lv_at hl 1 rfl) ?_
                refine lv_iload_n hx hb dX12_both_212 rfl (lv_at hl 2 rfl) ?_
                refine lv_ior hx hb dX12_both_213 ?_
                exact r_iret cx w h dX12_both_214
              · have h := x_f h k7
                rcases Decidable.em (c0 = 36) with k8 | k8
                · have h := x_t h k8
                  rw [k8]
                  refine lv_tableIn (tgt := 211) hx hb dX12_both_1 (by decide) (by decide) rfl (by decide) ?_
                  refine lv_iload_n hx hb dX12_both_211 rfl (lv_at hl 1 rfl) ?_
                  refine lv_iload_n hx hb dX12_both_212 rfl (lv_at hl 2 rfl) ?_
                  refine lv_ior hx hb dX12_both_213 ?_
                  exact r_iret cx w h dX12_both_214
                · have h := x_f h k8
                  rcases Decidable.em (c0 = 37) with k9 | k9
                  · have h := x_t h k9
                    rw [k9]
                    refine lv_tableIn (tgt := 211) hx hb dX12_both_1 (by decide) (by decide) rfl (by decide) ?_
                    refine lv_iload_n hx hb dX12_both_211 rfl (lv_at hl 1 rfl) ?_
                    refine lv_iload_n hx hb dX12_both_212 rfl (lv_at hl 2 rfl) ?_
                    refine lv_ior hx hb dX12_both_213 ?_
                    exact r_iret cx w h dX12_both_214
                  · have h := x_f h k9
                    rcases Decidable.em (c0 = 38) with k10 | k10
                    · have h := x_t h k10
                      rw [k10]
                      refine lv_tableIn (tgt := 211) hx hb dX12_both_1 (by decide) (by decide) rfl (by decide) ?_
                      refine lv_iload_n hx hb dX12_both_211 rfl (lv_at hl 1 rfl) ?_
                      refine lv_iload_n hx hb dX12_both_212 rfl (lv_at hl 2 rfl) ?_
                      refine lv_ior hx hb dX12_both_213 ?_
                      exact r_iret cx w h dX12_both_214
                    · have h := x_f h k10
                      rcases Decidable.em (c0 = 39) with k11 | k11
                      · have h := x_t h k11
                        rw [k11]
                        refine lv_tableIn (tgt := 211) hx hb dX12_both_1 (by decide) (by decide) rfl (by decide) ?_
                        refine lv_iload_n hx hb dX12_both_211 rfl (lv_at hl 1 rfl) ?_
                        refine lv_iload_n hx hb dX12_both_212 rfl (lv_at hl 2 rfl) ?_
                        refine lv_ior hx hb dX12_both_213 ?_
                        exact r_iret cx w h dX12_both_214
                      · have h := x_f h k11
                        rcases Decidable.em (c0 = 40) with k12 | k12
                        · have h := x_t h k12
                          rw [k12]
                          refine lv_tableIn (tgt := 211) hx hb dX12_both_1 (by decide) (by decide) rfl (by decide) ?_
                          refine lv_iload_n hx hb dX12_both_211 rfl (lv_at hl 1 rfl) ?_
                          refine lv_iload_n hx hb dX12_both_212 rfl (lv_at hl 2 rfl) ?_
                          refine lv_ior hx hb dX12_both_213 ?_
                          exact r_iret cx w h dX12_both_214
                        · have h := x_f h k12
                          rcases Decidable.em (c0 = 41) with k13 | k13
                          · have h := x_t h k13
                            rw [k13]
                            refine lv_tableIn (tgt := 211) hx hb dX12_both_1 (by decide) (by decide) rfl (by decide) ?_
                            refine lv_iload_n hx hb dX12_both_211 rfl (lv_at hl 1 rfl) ?_
                            refine lv_iload_n hx hb dX12_both_212 rfl (lv_at hl 2 rfl) ?_
                            refine lv_ior hx hb dX12_both_213 ?_
                            exact r_iret cx w h dX12_both_214
                          · have h := x_f h k13
                            rcases Decidable.em (c0 = 42) with k14 | k14
                            · have h := x_t h k14
                              rw [k14]
                              refine lv_tableIn (tgt := 211) hx hb dX12_both_1 (by decide) (by decide) rfl (by decide) ?_
                              refine lv_iload_n hx hb dX12_both_211 rfl (lv_at hl 1 rfl) ?_
                              refine lv_iload_n hx hb dX12_both_212 rfl (lv_at hl 2 rfl) ?_
                              refine lv_ior hx hb dX12_both_213 ?_
                              exact r_iret cx w h dX12_both_214
                            · have h := x_f h k14
                              rcases Decidable.em (c0 = 43) with k15 | k15
                              · have h := x_t h k15
                                rw [k15]
                                refine lv_tableIn (tgt := 211) hx hb dX12_both_1 (by decide) (by decide) rfl (by decide) ?_
                                refine lv_iload_n hx hb dX12_both_211 rfl (lv_at hl 1 rfl) ?_
                                refine lv_iload_n hx hb dX12_both_212 rfl (lv_at hl 2 rfl) ?_
                                refine lv_ior hx hb dX12_both_213 ?_
                                exact r_iret cx w h dX12_both_214
                              · have h := x_f h k15
                                rcases Decidable.em (c0 = 44) with k16 | k16
                                · have h := x_t h k16
                                  rw [k16]
                                  refine lv_tableIn (tgt := 116) hx hb dX12_both_1 (by decide) (by decide) rfl (by decide) ?_
                                  refine lv_iload_n hx hb dX12_both_116 rfl (lv_at hl 1 rfl) ?_
                                  refine lv_iload_n hx hb dX12_both_117 rfl (lv_at hl 2 rfl) ?_
                                  refine lv_iadd hx hb dX12_both_118 ?_
                                  exact r_iret cx w h dX12_both_119
                                · have h := x_f h k16
                                  rcases Decidable.em (c0 = 45) with k17 | k17
                                  · have h := x_t h k17
                                    rw [k17]
                                    refine lv_tableIn (tgt := 120) hx hb dX12_both_1 (by decide) (by decide) rfl (by decide) ?_
                                    refine lv_iload_n hx hb dX12_both_120 rfl (lv_at hl 1 rfl) ?_
                                    refine lv_iload_n hx hb dX12_both_121 rfl (lv_at hl 2 rfl) ?_
                                    refine lv_isub hx hb dX12_both_122 ?_
                                    exact r_iret cx w h dX12_both_123
                                  · have h := x_f h k17
                                    rcases Decidable.em (c0 = 46) with k18 | k18
                                    · have h := x_t h k18
                                      rw [k18]
                                      refine lv_tableIn (tgt := 124) hx hb dX12_both_1 (by decide) (by decide) rfl (by decide) ?_
                                      refine lv_iload_n hx hb dX12_both_124 rfl (lv_at hl 1 rfl) ?_
                                      refine lv_iload_n hx hb dX12_both_125 rfl (lv_at hl 2 rfl) ?_
                                      refine lv_imul hx hb dX12_both_126 ?_
                                      exact r_iret cx w h dX12_both_127
                                    · have h := x_f h k18
                                      rcases Decidable.em (c0 = 47) with k19 | k19
                                      · have h := x_t h k19
                                        rw [k19]
                                        refine lv_tableIn (tgt := 128) hx hb dX12_both_1 (by decide) (by decide) rfl (by decide) ?_
                                        refine lv_iload_n hx hb dX12_both_128 rfl (lv_at hl 2 rfl) ?_
                                        refine lv_if_ne (tgt := 136) hx hb dX12_both_129 (by decide) (fun k20 => ?_) (fun k20 => ?_)
                                        · have h := x_f h k20
                                          refine lv_iload_n hx hb dX12_both_136 rfl (lv_at hl 1 rfl) ?_
                                          refine lv_iload_n hx hb dX12_both_137 rfl (lv_at hl 2 rfl) ?_
                                          obtain ⟨z21, h⟩ := x_ck h
                                          refine lv_idiv hx hb dX12_both_138 z21 ?_
                                          exact r_iret cx w h dX12_both_139
                                        · have h := x_t h k20
                                          refine lv_iconst (v := (0 : Int32)) hx hb dX12_both_132 (by decide) ?_
                                          refine lv_goto (tgt := 139) hx hb dX12_both_133 (by decide) ?_
                                          exact r_iret cx w h dX12_both_139
                                      · have h := x_f h k19
                                        rcases Decidable.em (c0 = 48) with k22 | k22
                                        · have h := x_t h k22
                                          rw [k22]
                                          refine lv_tableIn (tgt := 152) hx hb dX12_both_1 (by decide) (by decide) rfl (by decide) ?_
                                          refine lv_iload_n hx hb dX12_both_152 rfl (lv_at hl 1 rfl) ?_
                                          refine lv_iload_n hx hb dX12_both_153 rfl (lv_at hl 2 rfl) ?_
                                          refine lv_icmp_ge (tgt := 161) hx hb dX12_both_154 (by decide) (fun k23 => ?_) (fun k23 => ?_)
                                          · have h := x_t h k23
                                            refine lv_iconst (v := (0 : Int32)) hx hb dX12_both_161 (by decide) ?_
                                            exact r_iret cx w h dX12_both_162
                                          · have h := x_f h k23
                                            refine lv_iconst (v := (1 : Int32)) hx hb dX12_both_157 (by decide) ?_
                                            refine lv_goto (tgt := 162) hx hb dX12_both_158 (by decide) ?_
                                            exact r_iret cx w h dX12_both_162
                                        · have h := x_f h k22
                                          rcases Decidable.em (c0 = 49) with k24 | k24
                                          · have h := x_t h k24
                                            rw [k24]
                                            refine lv_tableIn (tgt := 163) hx hb dX12_both_1 (by decide) (by decide) rfl (by decide) ?_
                                            refine lv_iload_n hx hb dX12_both_163 rfl (lv_at hl 1 rfl) ?_
                                            refine lv_iload_n hx hb dX12_both_164 rfl (lv_at hl 2 rfl) ?_
                                            refine lv_icmp_le (tgt := 172) hx hb dX12_both_165 (by decide) (fun k25 => ?_) (fun k25 => ?_)
                                            · have h := x_t h k25
                                              refine lv_iconst (v := (0 : Int32)) hx hb dX12_both_172 (by decide) ?_
                                              exact r_iret cx w h dX12_both_173
                                            · have h := x_f h k25
                                              refine lv_iconst (v := (1 : Int32)) hx hb dX12_both_168 (by decide) ?_
                                              refine lv_goto (tgt := 173) hx hb dX12_both_169 (by decide) ?_
                                              exact r_iret cx w h dX12_both_173
                                          · have h := x_f h k24
                                            rcases Decidable.em (c0 = 50) with k26 | k26
                                            · have h := x_t h k26
                                              rw [k26]
                                              refine lv_tableIn (tgt := 211) hx hb dX12_both_1 (by decide) (by decide) rfl (by decide) ?_
                                              refine lv_iload_n hx hb dX12_both_211 rfl (lv_at hl 1 rfl) ?_
                                              refine lv_iload_n hx hb dX12_both_212 rfl (lv_at hl 2 rfl) ?_
                                              refine lv_ior hx hb dX12_both_213 ?_
                                              exact r_iret cx w h dX12_both_214
                                            · have h := x_f h k26
                                              rcases Decidable.em (c0 = 51) with k27 | k27
                                              · have h := x_t h k27
                                                rw [k27]
                                                refine lv_tableIn (tgt := 174) hx hb dX12_both_1 (by decide) (by decide) rfl (by decide) ?_
                                                refine lv_iload_n hx hb dX12_both_174 rfl (lv_at hl 1 rfl) ?_
                                                refine lv_iload_n hx hb dX12_both_175 rfl (lv_at hl 2 rfl) ?_
                                                refine lv_icmp_ne (tgt := 183) hx hb dX12_both_176 (by decide) (fun k28 => ?_) (fun k28 => ?_)
                                                · have h := x_f h k28
                                                  refine lv_iconst (v := (0 : Int32)) hx hb dX12_both_183 (by decide) ?_
                                                  exact r_iret cx w h dX12_both_184
                                                · have h := x_t h k28
                                                  refine lv_iconst (v := (1 : Int32)) hx hb dX12_both_179 (by decide) ?_
                                                  refine lv_goto (tgt := 184) hx hb dX12_both_180 (by decide) ?_
                                                  exact r_iret cx w h dX12_both_184
                                              · have h := x_f h k27
                                                rcases Decidable.em (c0 = 52) with k29 | k29
                                                · have h := x_t h k29
                                                  rw [k29]
                                                  refine lv_tableIn (tgt := 185) hx hb dX12_both_1 (by decide) (by decide) rfl (by decide) ?_
                                                  refine lv_iload_n hx hb dX12_both_185 rfl (lv_at hl 1 rfl) ?_
                                                  refine lv_iload_n hx hb dX12_both_186 rfl (lv_at hl 2 rfl) ?_
                                                  refine lv_icmp_gt (tgt := 194) hx hb dX12_both_187 (by decide) (fun k30 => ?_) (fun k30 => ?_)
                                                  · have h := x_t h k30
                                                    refine lv_iconst (v := (0 : Int32)) hx hb dX12_both_194 (by decide) ?_
                                                    exact r_iret cx w h dX12_both_195
                                                  · have h := x_f h k30
                                                    refine lv_iconst (v := (1 : Int32)) hx hb dX12_both_190 (by decide) ?_
                                                    refine lv_goto (tgt := 195) hx hb dX12_both_191 (by decide) ?_
                                                    exact r_iret cx w h dX12_both_195
                                                · have h := x_f h k29
                                                  rcases Decidable.em (c0 = 53) with k31 | k31
                                                  · have h := x_t h k31
                                                    rw [k31]
                                                    refine lv_tableIn (tgt := 196) hx hb dX12_both_1 (by decide) (by decide) rfl (by decide) ?_
                                                    refine lv_iload_n hx hb dX12_both_196 rfl (lv_at hl 1 rfl) ?_
                                                    refine lv_iload_n hx hb dX12_both_197 rfl (lv_at hl 2 rfl) ?_
                                                    refine lv_icmp_lt (tgt := 205) hx hb dX12_both_198 (by decide) (fun k32 => ?_) (fun k32 => ?_)
                                                    · have h := x_t h k32
                                                      refine lv_iconst (v := (0 : Int32)) hx hb dX12_both_205 (by decide) ?_
                                                      exact r_iret cx w h dX12_both_206
                                                    · have h := x_f h k32
                                                      refine lv_iconst (v := (1 : Int32)) hx hb dX12_both_201 (by decide) ?_
                                                      refine lv_goto (tgt := 206) hx hb dX12_both_202 (by decide) ?_
                                                      exact r_iret cx w h dX12_both_206
                                                  · have h := x_f h k31
                                                    refine lv_tableOut (tgt := 211) hx hb dX12_both_1 (by have nk1 : Int32.toInt c0 ≠ 29 := fun hh => k1 (Int32.toInt_inj.mp hh); have nk2 : Int32.toInt c0 ≠ 30 := fun hh => k2 (Int32.toInt_inj.mp hh); have nk3 : Int32.toInt c0 ≠ 31 := fun hh => k3 (Int32.toInt_inj.mp hh); have nk4 : Int32.toInt c0 ≠ 32 := fun hh => k4 (Int32.toInt_inj.mp hh); have nk5 : Int32.toInt c0 ≠ 33 := fun hh => k5 (Int32.toInt_inj.mp hh); have nk6 : Int32.toInt c0 ≠ 34 := fun hh => k6 (Int32.toInt_inj.mp hh); have nk7 : Int32.toInt c0 ≠ 35 := fun hh => k7 (Int32.toInt_inj.mp hh); have nk8 : Int32.toInt c0 ≠ 36 := fun hh => k8 (Int32.toInt_inj.mp hh); have nk9 : Int32.toInt c0 ≠ 37 := fun hh => k9 (Int32.toInt_inj.mp hh); have nk10 : Int32.toInt c0 ≠ 38 := fun hh => k10 (Int32.toInt_inj.mp hh); have nk11 : Int32.toInt c0 ≠ 39 := fun hh => k11 (Int32.toInt_inj.mp hh); have nk12 : Int32.toInt c0 ≠ 40 := fun hh => k12 (Int32.toInt_inj.mp hh); have nk13 : Int32.toInt c0 ≠ 41 := fun hh => k13 (Int32.toInt_inj.mp hh); have nk14 : Int32.toInt c0 ≠ 42 := fun hh => k14 (Int32.toInt_inj.mp hh); have nk15 : Int32.toInt c0 ≠ 43 := fun hh => k15 (Int32.toInt_inj.mp hh); have nk16 : Int32.toInt c0 ≠ 44 := fun hh => k16 (Int32.toInt_inj.mp hh); have nk17 : Int32.toInt c0 ≠ 45 := fun hh => k17 (Int32.toInt_inj.mp hh); have nk18 : Int32.toInt c0 ≠ 46 := fun hh => k18 (Int32.toInt_inj.mp hh); have nk19 : Int32.toInt c0 ≠ 47 := fun hh => k19 (Int32.toInt_inj.mp hh); have nk22 : Int32.toInt c0 ≠ 48 := fun hh => k22 (Int32.toInt_inj.mp hh); have nk24 : Int32.toInt c0 ≠ 49 := fun hh => k24 (Int32.toInt_inj.mp hh); have nk26 : Int32.toInt c0 ≠ 50 := fun hh => k26 (Int32.toInt_inj.mp hh); have nk27 : Int32.toInt c0 ≠ 51 := fun hh => k27 (Int32.toInt_inj.mp hh); have nk29 : Int32.toInt c0 ≠ 52 := fun hh => k29 (Int32.toInt_inj.mp hh); have nk31 : Int32.toInt c0 ≠ 53 := fun hh => k31 (Int32.toInt_inj.mp hh); omega) (by decide) ?_
                                                    refine lv_iload_n hx hb dX12_both_211 rfl (lv_at hl 1 rfl) ?_
                                                    refine lv_iload_n hx hb dX12_both_212 rfl (lv_at hl 2 rfl) ?_
                                                    refine lv_ior hx hb dX12_both_213 ?_
                                                    exact r_iret cx w h dX12_both_214
-- X11_carryOut
theorem wi_X11_carryOut_X10 : ∀ w ∈ wsX100, w ∈ wsX11_carryOut := by decide +kernel
theorem wi_X11_carryOut_X11 : ∀ w ∈ wsX110, w ∈ wsX11_carryOut := by decide +kernel
theorem wi_X11_carryOut_X12 : ∀ w ∈ wsX120, w ∈ wsX11_carryOut := by decide +kernel
abbrev rmX11_carryOut : Room := { frames := 3, cells := 0, slots := 0, locals := 82 }
def m_X11_carryOut_238 (G : gS) (a0 : Nat) (c1 : Int32) (c2 : Int32) (kb5 : mS → Int32 → Int32 → Option (mS × Int32)) (M : mS) (v3 : Int32) (v4 : Int32) : Option (mS × Int32) := kb5 M v3 v4
def m_X11_carryOut_69 (G : gS) (a0 : Nat) (c1 : Int32) (c2 : Int32) (kb5 : mS → Int32 → Int32 → Option (mS × Int32)) (M : mS) (v3 : Int32) (v4 : Int32) (s0 : Nat) (s1 : Int32) (s2 : Int32) : Option (mS × Int32) := o_ix s1 (gN G s0) (o_wI M s0 (Int32.toNatClampNeg s1) s2 (fun M2 => m_X11_carryOut_238 G a0 c1 c2 kb5 M2 v3 v4))
def m_X11_carryOut_43 (G : gS) (a0 : Nat) (c1 : Int32) (c2 : Int32) (kb5 : mS → Int32 → Int32 → Option (mS × Int32)) (M : mS) (v3 : Int32) (v4 : Int32) (v5 : Int32) : Option (mS × Int32) := o_bd (v3 + 1 : Int32) (fun x1 => o_rf (gP G a0 14) (fun q2 => (if v5 = (20 : Int32) then m_X11_carryOut_69 G a0 c1 c2 kb5 M x1 v4 q2 x1 ((mI M a0 0)) else o_cl (m_X11_dark G M a0) (fun M4 r5 => m_X11_carryOut_69 G a0 c1 c2 kb5 M4 x1 v4 q2 x1 r5))))
def m_X11_carryOut_206 (G : gS) (a0 : Nat) (c1 : Int32) (c2 : Int32) (kb5 : mS → Int32 → Int32 → Option (mS × Int32)) (M : mS) (v3 : Int32) (v4 : Int32) (s0 : Nat) (s1 : Int32) (s2 : Int32) : Option (mS × Int32) := o_ix s1 (gN G s0) (o_wI M s0 (Int32.toNatClampNeg s1) s2 (fun M2 => m_X11_carryOut_238 G a0 c1 c2 kb5 M2 v3 v4))
def m_X11_carryOut_136 (G : gS) (a0 : Nat) (c1 : Int32) (c2 : Int32) (kb5 : mS → Int32 → Int32 → Option (mS × Int32)) (M : mS) (v3 : Int32) (v4 : Int32) (v5 : Int32) : Option (mS × Int32) := o_rf (gP G a0 14) (fun q1 => (if v5 = (43 : Int32) then o_rf (gP G a0 14) (fun q16 => o_ix v3 (gN G q16) (m_X11_carryOut_206 G a0 c1 c2 kb5 M v3 v4 q1 v3 ((-(mI M q16 (Int32.toNatClampNeg v3)))))) else (if v5 = (28 : Int32) then o_rf (gP G a0 14) (fun q14 => o_ix v3 (gN G q14) (m_X11_carryOut_206 G a0 c1 c2 kb5 M v3 v4 q1 v3 (((1 : Int32) - (mI M q14 (Int32.toNatClampNeg v3)))))) else o_rf (gP G a0 14) (fun q4 => o_ix v3 (gN G q4) (o_cl (m_X12_isIn G M (mI M q4 (Int32.toNatClampNeg v3)) (0 : Int32) (63 : Int32)) (fun M6 r7 => (if r7 = 0 then m_X11_carryOut_206 G a0 c1 c2 kb5 M6 v3 v4 q1 v3 ((0 : Int32)) else o_rf (gP G a0 5) (fun q10 => o_rf (gP G a0 14) (fun q11 => o_ix v3 (gN G q11) (o_ix (mI M6 q11 (Int32.toNatClampNeg v3)) (gN G q10) (m_X11_carryOut_206 G a0 c1 c2 kb5 M6 v3 v4 q1 v3 ((mI M6 q10 (Int32.toNatClampNeg (mI M6 q11 (Int32.toNatClampNeg v3))))))))))))))))
def m_X11_carryOut_5 (G : gS) (a0 : Nat) (c1 : Int32) (c2 : Int32)  : Nat → mS → Int32 → Int32 → Option (mS × Int32)
  | 0, _, _, _ => none
  | n + 1, M, v3, v4 => (if c2 ≤ v4 then o_rf (gP G a0 14) (fun q2 => o_ix (0 : Int32) (gN G q2) (some (M, (mI M q2 (Int32.toNatClampNeg (0 : Int32)))))) else o_rf (gP G a0 15) (fun q4 => o_rf (gP G q4 11) (fun q5 => o_rf (gP G q5 18) (fun q6 => o_ix v4 (gN G q6) (o_bd ((mI M q6 (Int32.toNatClampNeg v4))) (fun x8 => o_bd (v4 + 1 : Int32) (fun x9 => (if x8 = (20 : Int32) then m_X11_carryOut_43 G a0 c1 c2 (fun M v3 v4 => m_X11_carryOut_5 G a0 c1 c2 n M v3 v4) M v3 x9 x8 else (if x8 = (21 : Int32) then m_X11_carryOut_43 G a0 c1 c2 (fun M v3 v4 => m_X11_carryOut_5 G a0 c1 c2 n M v3 v4) M v3 x9 x8 else o_cl (m_X12_isPushed G M x8) (fun M12 r13 => (if r13 = 0 then (if x8 = (43 : Int32) then m_X11_carryOut_136 G a0 c1 c2 (fun M v3 v4 => m_X11_carryOut_5 G a0 c1 c2 n M v3 v4) M12 v3 x9 x8 else (if x8 = (28 : Int32) then m_X11_carryOut_136 G a0 c1 c2 (fun M v3 v4 => m_X11_carryOut_5 G a0 c1 c2 n M v3 v4) M12 v3 x9 x8 else (if x8 = (25 : Int32) then m_X11_carryOut_136 G a0 c1 c2 (fun M v3 v4 => m_X11_carryOut_5 G a0 c1 c2 n M v3 v4) M12 v3 x9 x8 else o_bd (v3 + (-1) : Int32) (fun x19 => o_rf (gP G a0 14) (fun q20 => o_rf (gP G a0 14) (fun q21 => o_ix x19 (gN G q21) (o_rf (gP G a0 14) (fun q23 => o_ix (x19 + (1 : Int32)) (gN G q23) (o_cl (m_X12_both G M12 x8 (mI M12 q21 (Int32.toNatClampNeg x19)) (mI M12 q23 (Int32.toNatClampNeg (x19 + (1 : Int32))))) (fun M25 r26 => o_ix x19 (gN G q20) (o_wI M25 q20 (Int32.toNatClampNeg x19) r26 (fun M29 => m_X11_carryOut_238 G a0 c1 c2 (fun M v3 v4 => m_X11_carryOut_5 G a0 c1 c2 n M v3 v4) M29 x19 x9)))))))))))) else o_bd (v3 + 1 : Int32) (fun x30 => o_rf (gP G a0 14) (fun q31 => o_rf (gP G a0 15) (fun q32 => o_rf (gP G q32 11) (fun q33 => o_rf (gP G q33 18) (fun q34 => o_ix x9 (gN G q34) (o_cl (m_X11_pushed G M12 a0 x8 (mI M12 q34 (Int32.toNatClampNeg x9))) (fun M36 r37 => o_ix x30 (gN G q31) (o_wI M36 q31 (Int32.toNatClampNeg x30) r37 (fun M40 => o_bd (x9 + 1 : Int32) (fun x41 => m_X11_carryOut_238 G a0 c1 c2 (fun M v3 v4 => m_X11_carryOut_5 G a0 c1 c2 n M v3 v4) M40 x30 x41)))))))))))))))))))))
def m_X11_carryOut (G : gS) (M : mS) (a0 : Nat) (c1 : Int32) (c2 : Int32) : Option (mS × Int32) := m_X11_carryOut_5 G a0 c1 c2 fu M ((-1 : Int32)) c1
set_option maxHeartbeats 4000000 in
set_option maxRecDepth 100000 in
theorem b_X11_carryOut_238 {p : Program} {e : Env} {s : State} {m : MethodId} {args : Array Value} {below : List Frame} {meth : Method} {c : Code} {A : Nat → Prop} {l : Launch} {D : va_G} {cy : cyS} {G : gS} (cx : cX p s m args meth c cX11_carryOut RX11 6 (some .int) wsX11_carryOut D cy G A) {k0 n0 : Nat} (hkn : k0 ≤ (rmX11_carryOut).cells ∧ n0 ≤ (rmX11_carryOut).slots) {M' : mS} {r : Int32} {a0 : Nat} {c1 : Int32} {c2 : Int32} (hL0 : a0 ∈ gL G) (hK0 : gK G a0 = 10) {kb5 : mS → Int32 → Int32 → Option (mS × Int32)} (hkb5 : ∀ (M : mS) (v3 : Int32) (v4 : Int32) (H : Heap) (locs : List Loc) (ls : Array Slot), kb5 M v3 v4 = some (M', r) → wd D cy G M A s.heap H locs → lv_has ls 6 [(0, .ref a0), (2, .int c2), (3, .int v3), (4, .int v4)] → W p l e rmX11_carryOut s m args below meth c H locs k0 n0 (MQ below (va_Qi (fun (r' : Int32) (_ : Unit) => r' = r) (fun _ t => wOut D cy G M' t) A) args s k0 n0 A) (F0 m 5 ls [])) : ∀ (M : mS) (v3 : Int32) (v4 : Int32) (H : Heap) (locs : List Loc) (ls : Array Slot), m_X11_carryOut_238 G a0 c1 c2 kb5 M v3 v4 = some (M', r) → wd D cy G M A s.heap H locs → lv_has ls 6 [(0, .ref a0), (2, .int c2), (3, .int v3), (4, .int v4)] → W p l e rmX11_carryOut s m args below meth c H locs k0 n0 (MQ below (va_Qi (fun (r' : Int32) (_ : Unit) => r' = r) (fun _ t => wOut D cy G M' t) A) args s k0 n0 A) (F0 m 238 ls []) := by
  obtain ⟨hx, hb, hml, hown, hts, hr, hlocks, hK, hA, hG, hsx⟩ := id cx
  intro M v3 v4 H locs ls h w hl
  unfold m_X11_carryOut_238 at h
  refine lv_goto (tgt := 5) hx hb dX11_carryOut_238 (by decide) ?_
  exact hkb5 M v3 v4 H locs ls h w (lv_sub hl [0, 1, 2, 3] rfl)
set_option maxHeartbeats 4000000 in
set_option maxRecDepth 100000 in
theorem b_X11_carryOut_69 {p : Program} {e : Env} {s : State} {m : MethodId} {args : Array Value} {below : List Frame} {meth : Method} {c : Code} {A : Nat → Prop} {l : Launch} {D : va_G} {cy : cyS} {G : gS} (cx : cX p s m args meth c cX11_carryOut RX11 6 (some .int) wsX11_carryOut D cy G A) {k0 n0 : Nat} (hkn : k0 ≤ (rmX11_carryOut).cells ∧ n0 ≤ (rmX11_carryOut).slots) {M' : mS} {r : Int32} {a0 : Nat} {c1 : Int32} {c2 : Int32} (hL0 : a0 ∈ gL G) (hK0 : gK G a0 = 10) {kb5 : mS → Int32 → Int32 → Option (mS × Int32)} (hkb5 : ∀ (M : mS) (v3 : Int32) (v4 : Int32) (H : Heap) (locs : List Loc) (ls : Array Slot), kb5 M v3 v4 = some (M', r) → wd D cy G M A s.heap H locs → lv_has ls 6 [(0, .ref a0), (2, .int c2), (3, .int v3), (4, .int v4)] → W p l e rmX11_carryOut s m args below meth c H locs k0 n0 (MQ below (va_Qi (fun (r' : Int32) (_ : Unit) => r' = r) (fun _ t => wOut D cy G M' t) A) args s k0 n0 A) (F0 m 5 ls [])) : ∀ (M : mS) (v3 : Int32) (v4 : Int32) (s0 : Nat) (s1 : Int32) (s2 : Int32) (H : Heap) (locs : List Loc) (ls : Array Slot), s0 ∈ gL G → gK G s0 = 12 → m_X11_carryOut_69 G a0 c1 c2 kb5 M v3 v4 s0 s1 s2 = some (M', r) → wd D cy G M A s.heap H locs → lv_has ls 6 [(0, .ref a0), (2, .int c2), (3, .int v3), (4, .int v4)] → W p l e rmX11_carryOut s m args below meth c H locs k0 n0 (MQ below (va_Qi (fun (r' : Int32) (_ : Unit) => r' = r) (fun _ t => wOut D cy G M' t) A) args s k0 n0 A) (F0 m 69 ls [.int s2, .int s1, .ref s0]) := by
  obtain ⟨hx, hb, hml, hown, hts, hr, hlocks, hK, hA, hG, hsx⟩ := id cx
  intro M v3 v4 s0 s1 s2 H locs ls sL0 sK0 h w hl
  unfold m_X11_carryOut_69 at h
  obtain ⟨z1, h⟩ := x_ix h
  obtain ⟨M2, eM2, h⟩ := x_wI h
  refine r_iast cx w sL0 sK0 z1 dX11_carryOut_69 eM2 (fun H locs w => ?_)
  refine lv_goto (tgt := 238) hx hb dX11_carryOut_70 (by decide) ?_
  exact b_X11_carryOut_238 cx hkn hL0 hK0 (hkb5 := hkb5) M2 v3 v4 H locs ls h w (lv_sub hl [0, 1, 2, 3] rfl)
set_option maxHeartbeats 4000000 in
set_option maxRecDepth 100000 in
theorem b_X11_carryOut_43 {p : Program} {e : Env} {s : State} {m : MethodId} {args : Array Value} {below : List Frame} {meth : Method} {c : Code} {A : Nat → Prop} {l : Launch} {D : va_G} {cy : cyS} {G : gS} (cx : cX p s m args meth c cX11_carryOut RX11 6 (some .int) wsX11_carryOut D cy G A) {k0 n0 : Nat} (hkn : k0 ≤ (rmX11_carryOut).cells ∧ n0 ≤ (rmX11_carryOut).slots) {M' : mS} {r : Int32} {a0 : Nat} {c1 : Int32} {c2 : Int32} (hL0 : a0 ∈ gL G) (hK0 : gK G a0 = 10) {kb5 : mS → Int32 → Int32 → Option (mS × Int32)} (hkb5 : ∀ (M : mS) (v3 : Int32) (v4 : Int32) (H : Heap) (locs : List Loc) (ls : Array Slot), kb5 M v3 v4 = some (M', r) → wd D cy G M A s.heap H locs → lv_has ls 6 [(0, .ref a0), (2, .int c2), (3, .int v3), (4, .int v4)] → W p l e rmX11_carryOut s m args below meth c H locs k0 n0 (MQ below (va_Qi (fun (r' : Int32) (_ : Unit) => r' = r) (fun _ t => wOut D cy G M' t) A) args s k0 n0 A) (F0 m 5 ls [])) : ∀ (M : mS) (v3 : Int32) (v4 : Int32) (v5 : Int32) (H : Heap) (locs : List Loc) (ls : Array Slot), m_X11_carryOut_43 G a0 c1 c2 kb5 M v3 v4 v5 = some (M', r) → wd D cy G M A s.heap H locs → lv_has ls 6 [(0, .ref a0), (2, .int c2), (3, .int v3), (4, .int v4), (5, .int v5)] → W p l e rmX11_carryOut s m args below meth c H locs k0 n0 (MQ below (va_Qi (fun (r' : Int32) (_ : Unit) => r' = r) (fun _ t => wOut D cy G M' t) A) args s k0 n0 A) (F0 m 43 ls []) := by
  obtain ⟨hx, hb, hml, hown, hts, hr, hlocks, hK, hA, hG, hsx⟩ := id cx
  intro M v3 v4 v5 H locs ls h w hl
  unfold m_X11_carryOut_43 at h
  obtain ⟨x1, ex1, h⟩ := x_bd h
  refine lv_iinc (v := x1) (lv' := [(3, .int x1), (0, .ref a0), (2, .int c2), (4, .int v4), (5, .int v5)]) hx hb dX11_carryOut_43 hl (k := 2) rfl (by rw [ex1]; rfl) (by decide) rfl (fun ls hl => ?_)
  refine lv_aload_n hx hb dX11_carryOut_46 rfl (lv_at hl 1 rfl) ?_
  obtain ⟨q2, eq2, h⟩ := x_rf h
  obtain ⟨hLq2, hKq2⟩ := wt_q hG hL0 hK0 eq2
  have hKq2 : gK G q2 = 12 := hKq2
  refine r_getR (k := 14) cx w hL0 hK0 (by decide) rfl wi_X11_carryOut_X11 (by decide) rfl eq2 (List.mem_of_getElem? (i := 2) rfl) dX11_carryOut_47 ?_
  refine lv_iload_n hx hb dX11_carryOut_50 rfl (lv_at hl 0 rfl) ?_
  refine lv_iload hx hb dX11_carryOut_51 (lv_at hl 4 rfl) ?_
  refine lv_bipush (v := (20 : Int32)) hx hb dX11_carryOut_53 (by decide) ?_
  refine lv_icmp_ne (tgt := 65) hx hb dX11_carryOut_55 (by decide) (fun k3 => ?_) (fun k3 => ?_)
  · have h := x_f h k3
    refine lv_aload_n hx hb dX11_carryOut_65 rfl (lv_at hl 1 rfl) ?_
    obtain ⟨M4, r5, y6, h⟩ := x_cl h
    refine r_callVi (As := []) (rest := [.int x1, .ref q2]) cx w hkn hl.1 (k_X11_dark hG hL0 hK0 y6) (cwV 0 hts gX11_carryOut_X11_dark rfl rfl rfl (by decide +kernel) ⟨Nat.le_of_ble_eq_true rfl, Nat.le_of_ble_eq_true rfl⟩) hL0 hK0 (by decide) rfl rfl rfl (Nat.le_of_ble_eq_true rfl) dX11_carryOut_66 (fun H locs w => ?_)
    exact b_X11_carryOut_69 cx hkn hL0 hK0 (hkb5 := hkb5) M4 x1 v4 q2 x1 r5 H locs ls hLq2 hKq2 h w (lv_sub hl [1, 2, 0, 3] rfl)
  · have h := x_t h k3
    refine lv_aload_n hx hb dX11_carryOut_58 rfl (lv_at hl 1 rfl) ?_
    refine r_getI (k := 0) (v := .int (mI M a0 0)) cx w hL0 hK0 (by decide) rfl wi_X11_carryOut_X11 (by decide) rfl (List.mem_of_getElem? (i := 3) rfl) dX11_carryOut_59 ?_
    refine lv_goto (tgt := 69) hx hb dX11_carryOut_62 (by decide) ?_
    exact b_X11_carryOut_69 cx hkn hL0 hK0 (hkb5 := hkb5) M x1 v4 q2 x1 ((mI M a0 0)) H locs ls hLq2 hKq2 h w (lv_sub hl [1, 2, 0, 3] rfl)
set_option maxHeartbeats 4000000 in
set_option maxRecDepth 100000 in
theorem b_X11_carryOut_206 {p : Program} {e : Env} {s : State} {m : MethodId} {args : Array Value} {below : List Frame} {meth : Method} {c : Code} {A : Nat → Prop} {l : Launch} {D : va_G} {cy : cyS} {G : gS} (cx : cX p s m args meth c cX11_carryOut RX11 6 (some .int) wsX11_carryOut D cy G A) {k0 n0 : Nat} (hkn : k0 ≤ (rmX11_carryOut).cells ∧ n0 ≤ (rmX11_carryOut).slots) {M' : mS} {r : Int32} {a0 : Nat} {c1 : Int32} {c2 : Int32} (hL0 : a0 ∈ gL G) (hK0 : gK G a0 = 10) {kb5 : mS → Int32 → Int32 → Option (mS × Int32)} (hkb5 : ∀ (M : mS) (v3 : Int32) (v4 : Int32) (H : Heap) (locs : List Loc) (ls : Array Slot), kb5 M v3 v4 = some (M', r) → wd D cy G M A s.heap H locs → lv_has ls 6 [(0, .ref a0), (2, .int c2), (3, .int v3), (4, .int v4)] → W p l e rmX11_carryOut s m args below meth c H locs k0 n0 (MQ below (va_Qi (fun (r' : Int32) (_ : Unit) => r' = r) (fun _ t => wOut D cy G M' t) A) args s k0 n0 A) (F0 m 5 ls [])) : ∀ (M : mS) (v3 : Int32) (v4 : Int32) (s0 : Nat) (s1 : Int32) (s2 : Int32) (H : Heap) (locs : List Loc) (ls : Array Slot), s0 ∈ gL G → gK G s0 = 12 → m_X11_carryOut_206 G a0 c1 c2 kb5 M v3 v4 s0 s1 s2 = some (M', r) → wd D cy G M A s.heap H locs → lv_has ls 6 [(0, .ref a0), (2, .int c2), (3, .int v3), (4, .int v4)] → W p l e rmX11_carryOut s m args below meth c H locs k0 n0 (MQ below (va_Qi (fun (r' : Int32) (_ : Unit) => r' = r) (fun _ t => wOut D cy G M' t) A) args s k0 n0 A) (F0 m 206 ls [.int s2, .int s1, .ref s0]) := by
  obtain ⟨hx, hb, hml, hown, hts, hr, hlocks, hK, hA, hG, hsx⟩ := id cx
  intro M v3 v4 s0 s1 s2 H locs ls sL0 sK0 h w hl
  unfold m_X11_carryOut_206 at h
  obtain ⟨z1, h⟩ := x_ix h
  obtain ⟨M2, eM2, h⟩ := x_wI h
  refine r_iast cx w sL0 sK0 z1 dX11_carryOut_206 eM2 (fun H locs w => ?_)
  refine lv_goto (tgt := 238) hx hb dX11_carryOut_207 (by decide) ?_
  exact b_X11_carryOut_238 cx hkn hL0 hK0 (hkb5 := hkb5) M2 v3 v4 H locs ls h w (lv_sub hl [0, 1, 2, 3] rfl)
set_option maxHeartbeats 4000000 in
set_option maxRecDepth 100000 in
theorem b_X11_carryOut_136 {p : Program} {e : Env} {s : State} {m : MethodId} {args : Array Value} {below : List Frame} {meth : Method} {c : Code} {A : Nat → Prop} {l : Launch} {D : va_G} {cy : cyS} {G : gS} (cx : cX p s m args meth c cX11_carryOut RX11 6 (some .int) wsX11_carryOut D cy G A) {k0 n0 : Nat} (hkn : k0 ≤ (rmX11_carryOut).cells ∧ n0 ≤ (rmX11_carryOut).slots) {M' : mS} {r : Int32} {a0 : Nat} {c1 : Int32} {c2 : Int32} (hL0 : a0 ∈ gL G) (hK0 : gK G a0 = 10) {kb5 : mS → Int32 → Int32 → Option (mS × Int32)} (hkb5 : ∀ (M : mS) (v3 : Int32) (v4 : Int32) (H : Heap) (locs : List Loc) (ls : Array Slot), kb5 M v3 v4 = some (M', r) → wd D cy G M A s.heap H locs → lv_has ls 6 [(0, .ref a0), (2, .int c2), (3, .int v3), (4, .int v4)] → W p l e rmX11_carryOut s m args below meth c H locs k0 n0 (MQ below (va_Qi (fun (r' : Int32) (_ : Unit) => r' = r) (fun _ t => wOut D cy G M' t) A) args s k0 n0 A) (F0 m 5 ls [])) : ∀ (M : mS) (v3 : Int32) (v4 : Int32) (v5 : Int32) (H : Heap) (locs : List Loc) (ls : Array Slot), m_X11_carryOut_136 G a0 c1 c2 kb5 M v3 v4 v5 = some (M', r) → wd D cy G M A s.heap H locs → lv_has ls 6 [(0, .ref a0), (2, .int c2), (3, .int v3), (4, .int v4), (5, .int v5)] → W p l e rmX11_carryOut s m args below meth c H locs k0 n0 (MQ below (va_Qi (fun (r' : Int32) (_ : Unit) => r' = r) (fun _ t => wOut D cy G M' t) A) args s k0 n0 A) (F0 m 136 ls []) := by
  obtain ⟨hx, hb, hml, hown, hts, hr, hlocks, hK, hA, hG, hsx⟩ := id cx
  intro M v3 v4 v5 H locs ls h w hl
  unfold m_X11_carryOut_136 at h
  refine lv_aload_n hx hb dX11_carryOut_136 rfl (lv_at hl 0 rfl) ?_
  obtain ⟨q1, eq1, h⟩ := x_rf h
  obtain ⟨hLq1, hKq1⟩ := wt_q hG hL0 hK0 eq1
  have hKq1 : gK G q1 = 12 := hKq1
  refine r_getR (k := 14) cx w hL0 hK0 (by decide) rfl wi_X11_carryOut_X11 (by decide) rfl eq1 (List.mem_of_getElem? (i := 2) rfl) dX11_carryOut_137 ?_
  refine lv_iload_n hx hb dX11_carryOut_140 rfl (lv_at hl 2 rfl) ?_
  refine lv_iload hx hb dX11_carryOut_141 (lv_at hl 4 rfl) ?_
  refine lv_bipush (v := (43 : Int32)) hx hb dX11_carryOut_143 (by decide) ?_
  refine lv_icmp_ne (tgt := 158) hx hb dX11_carryOut_145 (by decide) (fun k2 => ?_) (fun k2 => ?_)
  · have h := x_f h k2
    refine lv_iload hx hb dX11_carryOut_158 (lv_at hl 4 rfl) ?_
    refine lv_bipush (v := (28 : Int32)) hx hb dX11_carryOut_160 (by decide) ?_
    refine lv_icmp_ne (tgt := 176) hx hb dX11_carryOut_162 (by decide) (fun k3 => ?_) (fun k3 => ?_)
    · have h := x_f h k3
      refine lv_aload_n hx hb dX11_carryOut_176 rfl (lv_at hl 0 rfl) ?_
      obtain ⟨q4, eq4, h⟩ := x_rf h
      obtain ⟨hLq4, hKq4⟩ := wt_q hG hL0 hK0 eq4
      have hKq4 : gK G q4 = 12 := hKq4
      refine r_getR (k := 14) cx w hL0 hK0 (by decide) rfl wi_X11_carryOut_X11 (by decide) rfl eq4 (List.mem_of_getElem? (i := 2) rfl) dX11_carryOut_177 ?_
      refine lv_iload_n hx hb dX11_carryOut_180 rfl (lv_at hl 2 rfl) ?_
      obtain ⟨z5, h⟩ := x_ix h
      refine r_iald cx w hLq4 hKq4 z5 dX11_carryOut_181 ?_
      refine lv_iconst (v := (0 : Int32)) hx hb dX11_carryOut_182 (by decide) ?_
      refine lv_bipush (v := (63 : Int32)) hx hb dX11_carryOut_183 (by decide) ?_
      obtain ⟨M6, r7, y8, h⟩ := x_cl h
      refine r_callSNi (As := [.int ((mI M q4 (Int32.toNatClampNeg v3))), .int ((0 : Int32)), .int ((63 : Int32))]) (rest := [.int v3, .ref q1]) cx w hkn hl.1 (k_X12_isIn hG y8) ⟨va_cnB 3 hts gX11_carryOut_X12_isIn_n170 rfl rfl rfl (nwM cx (q := (RX11, 170, yX12_isIn, "FlagAntsModel")) (List.mem_of_getElem? (i := 9) rfl)) (hts _ (List.mem_of_getElem? (i := 11) rfl)) (by decide +kernel) ⟨Nat.le_of_ble_eq_true rfl, Nat.le_of_ble_eq_true rfl⟩, hts _ (List.mem_of_getElem? (i := 14) rfl), trivial⟩ rfl rfl (Nat.le_of_ble_eq_true rfl) dX11_carryOut_185 (fun H locs w => ?_)
      refine lv_if_eq (tgt := 205) hx hb dX11_carryOut_188 (by decide) (fun k9 => ?_) (fun k9 => ?_)
      · have h := x_t h k9
        refine lv_iconst (v := (0 : Int32)) hx hb dX11_carryOut_205 (by decide) ?_
        exact b_X11_carryOut_206 cx hkn hL0 hK0 (hkb5 := hkb5) M6 v3 v4 q1 v3 ((0 : Int32)) H locs ls hLq1 hKq1 h w (lv_sub hl [0, 1, 2, 3] rfl)
      · have h := x_f h k9
        refine lv_aload_n hx hb dX11_carryOut_191 rfl (lv_at hl 0 rfl) ?_
        obtain ⟨q10, eq10, h⟩ := x_rf h
        obtain ⟨hLq10, hKq10⟩ := wt_q hG hL0 hK0 eq10
        have hKq10 : gK G q10 = 12 := hKq10
        refine r_getR (k := 5) cx w hL0 hK0 (by decide) rfl wi_X11_carryOut_X11 (by decide) rfl eq10 (List.mem_of_getElem? (i := 4) rfl) dX11_carryOut_192 ?_
        refine lv_aload_n hx hb dX11_carryOut_195 rfl (lv_at hl 0 rfl) ?_
        obtain ⟨q11, eq11, h⟩ := x_rf h
        obtain ⟨hLq11, hKq11⟩ := wt_q hG hL0 hK0 eq11
        have hKq11 : gK G q11 = 12 := hKq11
        refine r_getR (k := 14) cx w hL0 hK0 (by decide) rfl wi_X11_carryOut_X11 (by decide) rfl eq11 (List.mem_of_getElem? (i := 2) rfl) dX11_carryOut_196 ?_
        refine lv_iload_n hx hb dX11_carryOut_199 rfl (lv_at hl 2 rfl) ?_
        obtain ⟨z12, h⟩ := x_ix h
        refine r_iald cx w hLq11 hKq11 z12 dX11_carryOut_200 ?_
        obtain ⟨z13, h⟩ := x_ix h
        refine r_iald cx w hLq10 hKq10 z13 dX11_carryOut_201 ?_
        refine lv_goto (tgt := 206) hx hb dX11_carryOut_202 (by decide) ?_
        exact b_X11_carryOut_206 cx hkn hL0 hK0 (hkb5 := hkb5) M6 v3 v4 q1 v3 ((mI M6 q10 (Int32.toNatClampNeg (mI M6 q11 (Int32.toNatClampNeg v3))))) H locs ls hLq1 hKq1 h w (lv_sub hl [0, 1, 2, 3] rfl)
    · have h := x_t h k3
      refine lv_iconst (v := (1 : Int32)) hx hb dX11_carryOut_165 (by decide) ?_
      refine lv_aload_n hx hb dX11_carryOut_166 rfl (lv_at hl 0 rfl) ?_
      obtain ⟨q14, eq14, h⟩ := x_rf h
      obtain ⟨hLq14, hKq14⟩ := wt_q hG hL0 hK0 eq14
      have hKq14 : gK G q14 = 12 := hKq14
      refine r_getR (k := 14) cx w hL0 hK0 (by decide) rfl wi_X11_carryOut_X11 (by decide) rfl eq14 (List.mem_of_getElem? (i := 2) rfl) dX11_carryOut_167 ?_
      refine lv_iload_n hx hb dX11_carryOut_170 rfl (lv_at hl 2 rfl) ?_
      obtain ⟨z15, h⟩ := x_ix h
      refine r_iald cx w hLq14 hKq14 z15 dX11_carryOut_171 ?_
      refine lv_isub hx hb dX11_carryOut_172 ?_
      refine lv_goto (tgt := 206) hx hb dX11_carryOut_173 (by decide) ?_
      exact b_X11_carryOut_206 cx hkn hL0 hK0 (hkb5 := hkb5) M v3 v4 q1 v3 (((1 : Int32) - (mI M q14 (Int32.toNatClampNeg v3)))) H locs ls hLq1 hKq1 h w (lv_sub hl [0, 1, 2, 3] rfl)
  · have h := x_t h k2
    refine lv_aload_n hx hb dX11_carryOut_148 rfl (lv_at hl 0 rfl) ?_
    obtain ⟨q16, eq16, h⟩ := x_rf h
    obtain ⟨hLq16, hKq16⟩ := wt_q hG hL0 hK0 eq16
    have hKq16 : gK G q16 = 12 := hKq16
    refine r_getR (k := 14) cx w hL0 hK0 (by decide) rfl wi_X11_carryOut_X11 (by decide) rfl eq16 (List.mem_of_getElem? (i := 2) rfl) dX11_carryOut_149 ?_
    refine lv_iload_n hx hb dX11_carryOut_152 rfl (lv_at hl 2 rfl) ?_
    obtain ⟨z17, h⟩ := x_ix h
    refine r_iald cx w hLq16 hKq16 z17 dX11_carryOut_153 ?_
    refine lv_ineg hx hb dX11_carryOut_154 ?_
    refine lv_goto (tgt := 206) hx hb dX11_carryOut_155 (by decide) ?_
    exact b_X11_carryOut_206 cx hkn hL0 hK0 (hkb5 := hkb5) M v3 v4 q1 v3 ((-(mI M q16 (Int32.toNatClampNeg v3)))) H locs ls hLq1 hKq1 h w (lv_sub hl [0, 1, 2, 3] rfl)
set_option maxHeartbeats 4000000 in
set_option maxRecDepth 100000 in
theorem b_X11_carryOut_5 {p : Program} {e : Env} {s : State} {m : MethodId} {args : Array Value} {below : List Frame} {meth : Method} {c : Code} {A : Nat → Prop} {l : Launch} {D : va_G} {cy : cyS} {G : gS} (cx : cX p s m args meth c cX11_carryOut RX11 6 (some .int) wsX11_carryOut D cy G A) {k0 n0 : Nat} (hkn : k0 ≤ (rmX11_carryOut).cells ∧ n0 ≤ (rmX11_carryOut).slots) {M' : mS} {r : Int32} {a0 : Nat} {c1 : Int32} {c2 : Int32} (hL0 : a0 ∈ gL G) (hK0 : gK G a0 = 10)  : ∀ (n : Nat), ∀ (M : mS) (v3 : Int32) (v4 : Int32) (H : Heap) (locs : List Loc) (ls : Array Slot), m_X11_carryOut_5 G a0 c1 c2 n M v3 v4 = some (M', r) → wd D cy G M A s.heap H locs → lv_has ls 6 [(0, .ref a0), (2, .int c2), (3, .int v3), (4, .int v4)] → W p l e rmX11_carryOut s m args below meth c H locs k0 n0 (MQ below (va_Qi (fun (r' : Int32) (_ : Unit) => r' = r) (fun _ t => wOut D cy G M' t) A) args s k0 n0 A) (F0 m 5 ls []) := by
  obtain ⟨hx, hb, hml, hown, hts, hr, hlocks, hK, hA, hG, hsx⟩ := id cx
  intro n
  induction n with
  | zero =>
    intro M v3 v4 H locs ls h w hl
    have h : none = some _ := h
    cases h
  | succ n ih =>
    intro M v3 v4 H locs ls h w hl
    rw [m_X11_carryOut_5] at h
    refine lv_iload hx hb dX11_carryOut_5 (lv_at hl 3 rfl) ?_
    refine lv_iload_n hx hb dX11_carryOut_7 rfl (lv_at hl 1 rfl) ?_
    refine lv_icmp_ge (tgt := 241) hx hb dX11_carryOut_8 (by decide) (fun k1 => ?_) (fun k1 => ?_)
    · have h := x_t h k1
      refine lv_aload_n hx hb dX11_carryOut_241 rfl (lv_at hl 0 rfl) ?_
      obtain ⟨q2, eq2, h⟩ := x_rf h
      obtain ⟨hLq2, hKq2⟩ := wt_q hG hL0 hK0 eq2
      have hKq2 : gK G q2 = 12 := hKq2
      refine r_getR (k := 14) cx w hL0 hK0 (by decide) rfl wi_X11_carryOut_X11 (by decide) rfl eq2 (List.mem_of_getElem? (i := 2) rfl) dX11_carryOut_242 ?_
      refine lv_iconst (v := (0 : Int32)) hx hb dX11_carryOut_245 (by decide) ?_
      obtain ⟨z3, h⟩ := x_ix h
      refine r_iald cx w hLq2 hKq2 z3 dX11_carryOut_246 ?_
      exact r_iret cx w h dX11_carryOut_247
    · have h := x_f h k1
      refine lv_aload_n hx hb dX11_carryOut_11 rfl (lv_at hl 0 rfl) ?_
      obtain ⟨q4, eq4, h⟩ := x_rf h
      obtain ⟨hLq4, hKq4⟩ := wt_q hG hL0 hK0 eq4
      have hKq4 : gK G q4 = 11 := hKq4
      refine r_getR (k := 15) cx w hL0 hK0 (by decide) rfl wi_X11_carryOut_X11 (by decide) rfl eq4 (List.mem_of_getElem? (i := 1) rfl) dX11_carryOut_12 ?_
      obtain ⟨q5, eq5, h⟩ := x_rf h
      obtain ⟨hLq5, hKq5⟩ := wt_q hG hLq4 hKq4 eq5
      have hKq5 : gK G q5 = 9 := hKq5
      refine r_getRN (k := 11) cx w hLq4 hKq4 (by decide) rfl wi_X11_carryOut_X12 (by decide) rfl eq5 (nwF cx (q := (RX11, 72, "FlagAntsModel", "plan", "LFlagAntsModel$Plan;", "FlagAntsModel")) (List.mem_of_getElem? (i := 30) rfl)) dX11_carryOut_15 ?_
      obtain ⟨q6, eq6, h⟩ := x_rf h
      obtain ⟨hLq6, hKq6⟩ := wt_q hG hLq5 hKq5 eq6
      have hKq6 : gK G q6 = 12 := hKq6
      refine r_getRN (k := 18) cx w hLq5 hKq5 (by decide) rfl wi_X11_carryOut_X10 (by decide) rfl eq6 (nwF cx (q := (RX11, 161, "FlagAntsModel$Plan", "code", "[I", "FlagAntsModel")) (List.mem_of_getElem? (i := 45) rfl)) dX11_carryOut_18 ?_
      refine lv_iload hx hb dX11_carryOut_21 (lv_at hl 3 rfl) ?_
      obtain ⟨z7, h⟩ := x_ix h
      refine r_iald cx w hLq6 hKq6 z7 dX11_carryOut_23 ?_
      obtain ⟨x8, ex8, h⟩ := x_bd h
      refine r_topI ex8 ?_
      refine lv_istore (lv' := [(5, .int x8), (0, .ref a0), (2, .int c2), (3, .int v3), (4, .int v4)]) hx hb dX11_carryOut_24 hl (by decide) rfl (fun ls hl => ?_)
      obtain ⟨x9, ex9, h⟩ := x_bd h
      refine lv_iinc (v := x9) (lv' := [(4, .int x9), (5, .int x8), (0, .ref a0), (2, .int c2), (3, .int v3)]) hx hb dX11_carryOut_26 hl (k := 4) rfl (by rw [ex9]; rfl) (by decide) rfl (fun ls hl => ?_)
      refine lv_iload hx hb dX11_carryOut_29 (lv_at hl 1 rfl) ?_
      refine lv_bipush (v := (20 : Int32)) hx hb dX11_carryOut_31 (by decide) ?_
      refine lv_icmp_eq (tgt := 43) hx hb dX11_carryOut_33 (by decide) (fun k10 => ?_) (fun k10 => ?_)
      · have h := x_t h k10
        exact b_X11_carryOut_43 cx hkn hL0 hK0 (hkb5 := ih) M v3 x9 x8 H locs ls h w (lv_sub hl [2, 3, 4, 0, 1] rfl)
      · have h := x_f h k10
        refine lv_iload hx hb dX11_carryOut_36 (lv_at hl 1 rfl) ?_
        refine lv_bipush (v := (21 : Int32)) hx hb dX11_carryOut_38 (by decide) ?_
        refine lv_icmp_ne (tgt := 73) hx hb dX11_carryOut_40 (by decide) (fun k11 => ?_) (fun k11 => ?_)
        · have h := x_f h k11
          refine lv_iload hx hb dX11_carryOut_73 (lv_at hl 1 rfl) ?_
          obtain ⟨M12, r13, y14, h⟩ := x_cl h
          refine r_callSNi (As := [.int x8]) (rest := []) cx w hkn hl.1 (k_X12_isPushed hG y14) ⟨va_cnB 1 hts gX11_carryOut_X12_isPushed_n164 rfl rfl rfl (nwM cx (q := (RX11, 164, yX12_isPushed, "FlagAntsModel")) (List.mem_of_getElem? (i := 8) rfl)) (hts _ (List.mem_of_getElem? (i := 11) rfl)) (by decide +kernel) ⟨Nat.le_of_ble_eq_true rfl, Nat.le_of_ble_eq_true rfl⟩, hts _ (List.mem_of_getElem? (i := 10) rfl), trivial⟩ rfl rfl (Nat.le_of_ble_eq_true rfl) dX11_carryOut_75 (fun H locs w => ?_)
          refine lv_if_eq (tgt := 115) hx hb dX11_carryOut_78 (by decide) (fun k15 => ?_) (fun k15 => ?_)
          · have h := x_t h k15
            refine lv_iload hx hb dX11_carryOut_115 (lv_at hl 1 rfl) ?_
            refine lv_bipush (v := (43 : Int32)) hx hb dX11_carryOut_117 (by decide) ?_
            refine lv_icmp_eq (tgt := 136) hx hb dX11_carryOut_119 (by decide) (fun k16 => ?_) (fun k16 => ?_)
            · have h := x_t h k16
              exact b_X11_carryOut_136 cx hkn hL0 hK0 (hkb5 := ih) M12 v3 x9 x8 H locs ls h w (lv_sub hl [2, 3, 4, 0, 1] rfl)
            · have h := x_f h k16
              refine lv_iload hx hb dX11_carryOut_122 (lv_at hl 1 rfl) ?_
              refine lv_bipush (v := (28 : Int32)) hx hb dX11_carryOut_124 (by decide) ?_
              refine lv_icmp_eq (tgt := 136) hx hb dX11_carryOut_126 (by decide) (fun k17 => ?_) (fun k17 => ?_)
              · have h := x_t h k17
                exact b_X11_carryOut_136 cx hkn hL0 hK0 (hkb5 := ih) M12 v3 x9 x8 H locs ls h w (lv_sub hl [2, 3, 4, 0, 1] rfl)
              · have h := x_f h k17
                refine lv_iload hx hb dX11_carryOut_129 (lv_at hl 1 rfl) ?_
                refine lv_bipush (v := (25 : Int32)) hx hb dX11_carryOut_131 (by decide) ?_
                refine lv_icmp_ne (tgt := 210) hx hb dX11_carryOut_133 (by decide) (fun k18 => ?_) (fun k18 => ?_)
                · have h := x_f h k18
                  obtain ⟨x19, ex19, h⟩ := x_bd h
                  refine lv_iinc (v := x19) (lv' := [(3, .int x19), (4, .int x9), (5, .int x8), (0, .ref a0), (2, .int c2)]) hx hb dX11_carryOut_210 hl (k := 4) rfl (by rw [ex19]; rfl) (by decide) rfl (fun ls hl => ?_)
                  refine lv_aload_n hx hb dX11_carryOut_213 rfl (lv_at hl 3 rfl) ?_
                  obtain ⟨q20, eq20, h⟩ := x_rf h
                  obtain ⟨hLq20, hKq20⟩ := wt_q hG hL0 hK0 eq20
                  have hKq20 : gK G q20 = 12 := hKq20
                  refine r_getR (k := 14) cx w hL0 hK0 (by decide) rfl wi_X11_carryOut_X11 (by decide) rfl eq20 (List.mem_of_getElem? (i := 2) rfl) dX11_carryOut_214 ?_
                  refine lv_iload_n hx hb dX11_carryOut_217 rfl (lv_at hl 0 rfl) ?_
                  refine lv_iload hx hb dX11_carryOut_218 (lv_at hl 2 rfl) ?_
                  refine lv_aload_n hx hb dX11_carryOut_220 rfl (lv_at hl 3 rfl) ?_
                  obtain ⟨q21, eq21, h⟩ := x_rf h
                  obtain ⟨hLq21, hKq21⟩ := wt_q hG hL0 hK0 eq21
                  have hKq21 : gK G q21 = 12 := hKq21
                  refine r_getR (k := 14) cx w hL0 hK0 (by decide) rfl wi_X11_carryOut_X11 (by decide) rfl eq21 (List.mem_of_getElem? (i := 2) rfl) dX11_carryOut_221 ?_
                  refine lv_iload_n hx hb dX11_carryOut_224 rfl (lv_at hl 0 rfl) ?_
                  obtain ⟨z22, h⟩ := x_ix h
                  refine r_iald cx w hLq21 hKq21 z22 dX11_carryOut_225 ?_
                  refine lv_aload_n hx hb dX11_carryOut_226 rfl (lv_at hl 3 rfl) ?_
                  obtain ⟨q23, eq23, h⟩ := x_rf h
                  obtain ⟨hLq23, hKq23⟩ := wt_q hG hL0 hK0 eq23
                  have hKq23 : gK G q23 = 12 := hKq23
                  refine r_getR (k := 14) cx w hL0 hK0 (by decide) rfl wi_X11_carryOut_X11 (by decide) rfl eq23 (List.mem_of_getElem? (i := 2) rfl) dX11_carryOut_227 ?_
                  refine lv_iload_n hx hb dX11_carryOut_230 rfl (lv_at hl 0 rfl) ?_
                  refine lv_iconst (v := (1 : Int32)) hx hb dX11_carryOut_231 (by decide) ?_
                  refine lv_iadd hx hb dX11_carryOut_232 ?_
                  obtain ⟨z24, h⟩ := x_ix h
                  refine r_iald cx w hLq23 hKq23 z24 dX11_carryOut_233 ?_
                  obtain ⟨M25, r26, y27, h⟩ := x_cl h
                  refine r_callSNi (As := [.int x8, .int ((mI M12 q21 (Int32.toNatClampNeg x19))), .int ((mI M12 q23 (Int32.toNatClampNeg (x19 + (1 : Int32)))))]) (rest := [.int x19, .ref q20]) cx w hkn hl.1 (k_X12_both hG y27) ⟨va_cnB 3 hts gX11_carryOut_X12_both_n174 rfl rfl rfl (nwM cx (q := (RX11, 174, yX12_both, "FlagAntsModel")) (List.mem_of_getElem? (i := 10) rfl)) (hts _ (List.mem_of_getElem? (i := 11) rfl)) (by decide +kernel) ⟨Nat.le_of_ble_eq_true rfl, Nat.le_of_ble_eq_true rfl⟩, hts _ (List.mem_of_getElem? (i := 42) rfl), trivial⟩ rfl rfl (Nat.le_of_ble_eq_true rfl) dX11_carryOut_234 (fun H locs w => ?_)
                  obtain ⟨z28, h⟩ := x_ix h
                  obtain ⟨M29, eM29, h⟩ := x_wI h
                  refine r_iast cx w hLq20 hKq20 z28 dX11_carryOut_237 eM29 (fun H locs w => ?_)
                  exact b_X11_carryOut_238 cx hkn hL0 hK0 (hkb5 := ih) M29 x19 x9 H locs ls h w (lv_sub hl [3, 4, 0, 1] rfl)
                · have h := x_t h k18
                  exact b_X11_carryOut_136 cx hkn hL0 hK0 (hkb5 := ih) M12 v3 x9 x8 H locs ls h w (lv_sub hl [2, 3, 4, 0, 1] rfl)
          · have h := x_f h k15
            obtain ⟨x30, ex30, h⟩ := x_bd h
            refine lv_iinc (v := x30) (lv' := [(3, .int x30), (4, .int x9), (5, .int x8), (0, .ref a0), (2, .int c2)]) hx hb dX11_carryOut_81 hl (k := 4) rfl (by rw [ex30]; rfl) (by decide) rfl (fun ls hl => ?_)
            refine lv_aload_n hx hb dX11_carryOut_84 rfl (lv_at hl 3 rfl) ?_
            obtain ⟨q31, eq31, h⟩ := x_rf h
            obtain ⟨hLq31, hKq31⟩ := wt_q hG hL0 hK0 eq31
            have hKq31 : gK G q31 = 12 := hKq31
            refine r_getR (k := 14) cx w hL0 hK0 (by decide) rfl wi_X11_carryOut_X11 (by decide) rfl eq31 (List.mem_of_getElem? (i := 2) rfl) dX11_carryOut_85 ?_
            refine lv_iload_n hx hb dX11_carryOut_88 rfl (lv_at hl 0 rfl) ?_
            refine lv_aload_n hx hb dX11_carryOut_89 rfl (lv_at hl 3 rfl) ?_
            refine lv_iload hx hb dX11_carryOut_90 (lv_at hl 2 rfl) ?_
            refine lv_aload_n hx hb dX11_carryOut_92 rfl (lv_at hl 3 rfl) ?_
            obtain ⟨q32, eq32, h⟩ := x_rf h
            obtain ⟨hLq32, hKq32⟩ := wt_q hG hL0 hK0 eq32
            have hKq32 : gK G q32 = 11 := hKq32
            refine r_getR (k := 15) cx w hL0 hK0 (by decide) rfl wi_X11_carryOut_X11 (by decide) rfl eq32 (List.mem_of_getElem? (i := 1) rfl) dX11_carryOut_93 ?_
            obtain ⟨q33, eq33, h⟩ := x_rf h
            obtain ⟨hLq33, hKq33⟩ := wt_q hG hLq32 hKq32 eq33
            have hKq33 : gK G q33 = 9 := hKq33
            refine r_getRN (k := 11) cx w hLq32 hKq32 (by decide) rfl wi_X11_carryOut_X12 (by decide) rfl eq33 (nwF cx (q := (RX11, 72, "FlagAntsModel", "plan", "LFlagAntsModel$Plan;", "FlagAntsModel")) (List.mem_of_getElem? (i := 30) rfl)) dX11_carryOut_96 ?_
            obtain ⟨q34, eq34, h⟩ := x_rf h
            obtain ⟨hLq34, hKq34⟩ := wt_q hG hLq33 hKq33 eq34
            have hKq34 : gK G q34 = 12 := hKq34
            refine r_getRN (k := 18) cx w hLq33 hKq33 (by decide) rfl wi_X11_carryOut_X10 (by decide) rfl eq34 (nwF cx (q := (RX11, 161, "FlagAntsModel$Plan", "code", "[I", "FlagAntsModel")) (List.mem_of_getElem? (i := 45) rfl)) dX11_carryOut_99 ?_
            refine lv_iload hx hb dX11_carryOut_102 (lv_at hl 1 rfl) ?_
            obtain ⟨z35, h⟩ := x_ix h
            refine r_iald cx w hLq34 hKq34 z35 dX11_carryOut_104 ?_
            obtain ⟨M36, r37, y38, h⟩ := x_cl h
            refine r_callVi (As := [.int x8, .int ((mI M12 q34 (Int32.toNatClampNeg x9)))]) (rest := [.int x30, .ref q31]) cx w hkn hl.1 (k_X11_pushed hG hL0 hK0 y38) (cwV 2 hts gX11_carryOut_X11_pushed rfl rfl rfl (by decide +kernel) ⟨Nat.le_of_ble_eq_true rfl, Nat.le_of_ble_eq_true rfl⟩) hL0 hK0 (by decide) rfl rfl rfl (Nat.le_of_ble_eq_true rfl) dX11_carryOut_105 (fun H locs w => ?_)
            obtain ⟨z39, h⟩ := x_ix h
            obtain ⟨M40, eM40, h⟩ := x_wI h
            refine r_iast cx w hLq31 hKq31 z39 dX11_carryOut_108 eM40 (fun H locs w => ?_)
            obtain ⟨x41, ex41, h⟩ := x_bd h
            refine lv_iinc (v := x41) (lv' := [(4, .int x41), (3, .int x30), (5, .int x8), (0, .ref a0), (2, .int c2)]) hx hb dX11_carryOut_109 hl (k := 1) rfl (by rw [ex41]; rfl) (by decide) rfl (fun ls hl => ?_)
            refine lv_goto (tgt := 238) hx hb dX11_carryOut_112 (by decide) ?_
            exact b_X11_carryOut_238 cx hkn hL0 hK0 (hkb5 := ih) M40 x30 x41 H locs ls h w (lv_sub hl [3, 4, 1, 0] rfl)
        · have h := x_t h k11
          exact b_X11_carryOut_43 cx hkn hL0 hK0 (hkb5 := ih) M v3 x9 x8 H locs ls h w (lv_sub hl [2, 3, 4, 0, 1] rfl)
set_option maxHeartbeats 4000000 in
set_option maxRecDepth 100000 in
theorem k_X11_carryOut {l : Launch} {D : va_G} {cy : cyS} {G : gS} {M M' : mS} {r : Int32} {a0 : Nat} {c1 : Int32} {c2 : Int32} (hG : wt G) (hL0 : a0 ∈ gL G) (hK0 : gK G a0 = 10) (h : m_X11_carryOut G M a0 c1 c2 = some (M', r)) : ctI l yX11_carryOut wsX11_carryOut rmX11_carryOut D cy G M [.ref a0, .int c1, .int c2] M' r := by
  unfold m_X11_carryOut at h
  refine ctI_of (cc := cX11_carryOut) (nL := 6) (ret := (some .int)) (lv := [(0, .ref a0), (1, .int c1), (2, .int c2)]) hG (by decide) rfl ⟨rfl, rfl⟩ (Nat.le_of_ble_eq_true rfl) rfl ?_
  intro p e s m args below meth c A ls cx w hl
  obtain ⟨hx, hb, hml, hown, hts, hr, hlocks, hK, hA, -, hsx⟩ := id cx
  have hkn : 0 ≤ (rmX11_carryOut).cells ∧ 0 ≤ (rmX11_carryOut).slots := ⟨Nat.zero_le _, Nat.zero_le _⟩
  refine lv_iconst (v := (-1 : Int32)) hx hb dX11_carryOut_0 (by decide) ?_
  refine lv_istore_n (lv' := [(3, .int ((-1 : Int32))), (0, .ref a0), (1, .int c1), (2, .int c2)]) hx hb dX11_carryOut_1 rfl hl (by decide) rfl (fun ls hl => ?_)
  refine lv_iload_n hx hb dX11_carryOut_2 rfl (lv_at hl 2 rfl) ?_
  refine lv_istore (lv' := [(4, .int c1), (3, .int ((-1 : Int32))), (0, .ref a0), (1, .int c1), (2, .int c2)]) hx hb dX11_carryOut_3 hl (by decide) rfl (fun ls hl => ?_)
  exact b_X11_carryOut_5 cx hkn hL0 hK0 fu M ((-1 : Int32)) c1 s.heap [] ls h w (lv_sub hl [2, 4, 1, 0] rfl)
-- X11_sum
theorem wi_X11_sum_X11 : ∀ w ∈ wsX110, w ∈ wsX11_sum := by decide +kernel
abbrev rmX11_sum : Room := { frames := 0, cells := 0, slots := 0, locals := 0 }
def m_X11_sum_13 (G : gS) (a0 : Nat)  : Nat → mS → Int32 → Nat → Int32 → Int32 → Option (mS × Int32)
  | 0, _, _, _, _, _ => none
  | n + 1, M, v1, v2, v3, v4 => (if v3 ≤ v4 then some (M, v1) else o_ix v4 (gN G v2) (o_bd ((mI M v2 (Int32.toNatClampNeg v4))) (fun x3 => o_bd ((v1 + x3)) (fun x4 => o_bd (v4 + 1 : Int32) (fun x5 => m_X11_sum_13 G a0 n M x4 v2 v3 x5)))))
def m_X11_sum (G : gS) (M : mS) (a0 : Nat) : Option (mS × Int32) := o_rf (gP G a0 4) (fun q1 => o_bd ((Int32.ofNat (gN G q1))) (fun x2 => m_X11_sum_13 G a0 fu M ((0 : Int32)) q1 x2 ((0 : Int32))))
set_option maxHeartbeats 4000000 in
set_option maxRecDepth 100000 in
theorem b_X11_sum_13 {p : Program} {e : Env} {s : State} {m : MethodId} {args : Array Value} {below : List Frame} {meth : Method} {c : Code} {A : Nat → Prop} {l : Launch} {D : va_G} {cy : cyS} {G : gS} (cx : cX p s m args meth c cX11_sum RX11 6 (some .int) wsX11_sum D cy G A) {k0 n0 : Nat} (hkn : k0 ≤ (rmX11_sum).cells ∧ n0 ≤ (rmX11_sum).slots) {M' : mS} {r : Int32} {a0 : Nat} (hL0 : a0 ∈ gL G) (hK0 : gK G a0 = 10)  : ∀ (n : Nat), ∀ (M : mS) (v1 : Int32) (v2 : Nat) (v3 : Int32) (v4 : Int32) (H : Heap) (locs : List Loc) (ls : Array Slot), v2 ∈ gL G → gK G v2 = 12 → m_X11_sum_13 G a0 n M v1 v2 v3 v4 = some (M', r) → wd D cy G M A s.heap H locs → lv_has ls 6 [(1, .int v1), (2, .ref v2), (3, .int v3), (4, .int v4)] → W p l e rmX11_sum s m args below meth c H locs k0 n0 (MQ below (va_Qi (fun (r' : Int32) (_ : Unit) => r' = r) (fun _ t => wOut D cy G M' t) A) args s k0 n0 A) (F0 m 13 ls []) := by
  obtain ⟨hx, hb, hml, hown, hts, hr, hlocks, hK, hA, hG, hsx⟩ := id cx
  intro n
  induction n with
  | zero =>
    intro M v1 v2 v3 v4 H locs ls gL2 gK2 h w hl
    have h : none = some _ := h
    cases h
  | succ n ih =>
    intro M v1 v2 v3 v4 H locs ls gL2 gK2 h w hl
    rw [m_X11_sum_13] at h
    refine lv_iload hx hb dX11_sum_13 (lv_at hl 3 rfl) ?_
    refine lv_iload_n hx hb dX11_sum_15 rfl (lv_at hl 2 rfl) ?_
    refine lv_icmp_ge (tgt := 36) hx hb dX11_sum_16 (by decide) (fun k1 => ?_) (fun k1 => ?_)
    · have h := x_t h k1
      refine lv_iload_n hx hb dX11_sum_36 rfl (lv_at hl 0 rfl) ?_
      exact r_iret cx w h dX11_sum_37
    · have h := x_f h k1
      refine lv_aload_n hx hb dX11_sum_19 rfl (lv_at hl 1 rfl) ?_
      refine lv_iload hx hb dX11_sum_20 (lv_at hl 3 rfl) ?_
      obtain ⟨z2, h⟩ := x_ix h
      refine r_iald cx w gL2 gK2 z2 dX11_sum_22 ?_
      obtain ⟨x3, ex3, h⟩ := x_bd h
      refine r_topI ex3 ?_
      refine lv_istore (lv' := [(5, .int x3), (1, .int v1), (2, .ref v2), (3, .int v3), (4, .int v4)]) hx hb dX11_sum_23 hl (by decide) rfl (fun ls hl => ?_)
      refine lv_iload_n hx hb dX11_sum_25 rfl (lv_at hl 1 rfl) ?_
      refine lv_iload hx hb dX11_sum_26 (lv_at hl 0 rfl) ?_
      refine lv_iadd hx hb dX11_sum_28 ?_
      obtain ⟨x4, ex4, h⟩ := x_bd h
      refine r_topI ex4 ?_
      refine lv_istore_n (lv' := [(1, .int x4), (5, .int x3), (2, .ref v2), (3, .int v3), (4, .int v4)]) hx hb dX11_sum_29 rfl hl (by decide) rfl (fun ls hl => ?_)
      obtain ⟨x5, ex5, h⟩ := x_bd h
      refine lv_iinc (v := x5) (lv' := [(4, .int x5), (1, .int x4), (5, .int x3), (2, .ref v2), (3, .int v3)]) hx hb dX11_sum_30 hl (k := 4) rfl (by rw [ex5]; rfl) (by decide) rfl (fun ls hl => ?_)
      refine lv_goto (tgt := 13) hx hb dX11_sum_33 (by decide) ?_
      exact ih M x4 v2 v3 x5 H locs ls gL2 gK2 h w (lv_sub hl [1, 3, 4, 0] rfl)
set_option maxHeartbeats 4000000 in
set_option maxRecDepth 100000 in
theorem k_X11_sum {l : Launch} {D : va_G} {cy : cyS} {G : gS} {M M' : mS} {r : Int32} {a0 : Nat} (hG : wt G) (hL0 : a0 ∈ gL G) (hK0 : gK G a0 = 10) (h : m_X11_sum G M a0 = some (M', r)) : ctI l yX11_sum wsX11_sum rmX11_sum D cy G M [.ref a0] M' r := by
  unfold m_X11_sum at h
  refine ctI_of (cc := cX11_sum) (nL := 6) (ret := (some .int)) (lv := [(0, .ref a0)]) hG (by decide) rfl ⟨rfl, rfl⟩ (Nat.le_of_ble_eq_true rfl) rfl ?_
  intro p e s m args below meth c A ls cx w hl
  obtain ⟨hx, hb, hml, hown, hts, hr, hlocks, hK, hA, -, hsx⟩ := id cx
  have hkn : 0 ≤ (rmX11_sum).cells ∧ 0 ≤ (rmX11_sum).slots := ⟨Nat.zero_le _, Nat.zero_le _⟩
  refine lv_iconst (v := (0 : Int32)) hx hb dX11_sum_0 (by decide) ?_
  refine lv_istore_n (lv' := [(1, .int ((0 : Int32))), (0, .ref a0)]) hx hb dX11_sum_1 rfl hl (by decide) rfl (fun ls hl => ?_)
  refine lv_aload_n hx hb dX11_sum_2 rfl (lv_at hl 1 rfl) ?_
  obtain ⟨q1, eq1, h⟩ := x_rf h
  obtain ⟨hLq1, hKq1⟩ := wt_q hG hL0 hK0 eq1
  have hKq1 : gK G q1 = 12 := hKq1
  refine r_getR (k := 4) cx w hL0 hK0 (by decide) rfl wi_X11_sum_X11 (by decide) rfl eq1 (List.mem_of_getElem? (i := 1) rfl) dX11_sum_3 ?_
  refine lv_astore_n (lv' := [(2, .ref q1), (1, .int ((0 : Int32))), (0, .ref a0)]) hx hb dX11_sum_6 rfl hl (by decide) rfl (fun ls hl => ?_)
  refine lv_aload_n hx hb dX11_sum_7 rfl (lv_at hl 0 rfl) ?_
  refine r_alen cx w hLq1 hKq1 (by decide) dX11_sum_8 ?_
  obtain ⟨x2, ex2, h⟩ := x_bd h
  refine r_topI ex2 ?_
  refine lv_istore_n (lv' := [(3, .int x2), (2, .ref q1), (1, .int ((0 : Int32))), (0, .ref a0)]) hx hb dX11_sum_9 rfl hl (by decide) rfl (fun ls hl => ?_)
  refine lv_iconst (v := (0 : Int32)) hx hb dX11_sum_10 (by decide) ?_
  refine lv_istore (lv' := [(4, .int ((0 : Int32))), (3, .int x2), (2, .ref q1), (1, .int ((0 : Int32))), (0, .ref a0)]) hx hb dX11_sum_11 hl (by decide) rfl (fun ls hl => ?_)
  exact b_X11_sum_13 cx hkn hL0 hK0 fu M ((0 : Int32)) q1 x2 ((0 : Int32)) s.heap [] ls hLq1 hKq1 h w (lv_sub hl [3, 2, 1, 0] rfl)
-- X11_walkers
theorem wi_X11_walkers_X10 : ∀ w ∈ wsX100, w ∈ wsX11_walkers := by decide +kernel
theorem wi_X11_walkers_X11 : ∀ w ∈ wsX110, w ∈ wsX11_walkers := by decide +kernel
theorem wi_X11_walkers_X12 : ∀ w ∈ wsX120, w ∈ wsX11_walkers := by decide +kernel
abbrev rmX11_walkers : Room := { frames := 0, cells := 0, slots := 0, locals := 0 }
def m_X11_walkers_4 (G : gS) (a0 : Nat)  : Nat → mS → Int32 → Int32 → Option (mS × Int32)
  | 0, _, _, _ => none
  | n + 1, M, v1, v2 => o_rf (gP G a0 15) (fun q1 => o_rf (gP G q1 11) (fun q2 => (if (mI M q2 3) ≤ v2 then some (M, v1) else o_rf (gP G a0 9) (fun q4 => o_ix v2 (gN G q4) (o_bd ((v1 + ((1 : Int32) - (mI M q4 (Int32.toNatClampNeg v2))))) (fun x6 => o_bd (v2 + 1 : Int32) (fun x7 => m_X11_walkers_4 G a0 n M x6 x7)))))))
def m_X11_walkers (G : gS) (M : mS) (a0 : Nat) : Option (mS × Int32) := m_X11_walkers_4 G a0 fu M ((0 : Int32)) ((0 : Int32))
set_option maxHeartbeats 4000000 in
set_option maxRecDepth 100000 in
theorem b_X11_walkers_4 {p : Program} {e : Env} {s : State} {m : MethodId} {args : Array Value} {below : List Frame} {meth : Method} {c : Code} {A : Nat → Prop} {l : Launch} {D : va_G} {cy : cyS} {G : gS} (cx : cX p s m args meth c cX11_walkers RX11 3 (some .int) wsX11_walkers D cy G A) {k0 n0 : Nat} (hkn : k0 ≤ (rmX11_walkers).cells ∧ n0 ≤ (rmX11_walkers).slots) {M' : mS} {r : Int32} {a0 : Nat} (hL0 : a0 ∈ gL G) (hK0 : gK G a0 = 10)  : ∀ (n : Nat), ∀ (M : mS) (v1 : Int32) (v2 : Int32) (H : Heap) (locs : List Loc) (ls : Array Slot), m_X11_walkers_4 G a0 n M v1 v2 = some (M', r) → wd D cy G M A s.heap H locs → lv_has ls 3 [(0, .ref a0), (1, .int v1), (2, .int v2)] → W p l e rmX11_walkers s m args below meth c H locs k0 n0 (MQ below (va_Qi (fun (r' : Int32) (_ : Unit) => r' = r) (fun _ t => wOut D cy G M' t) A) args s k0 n0 A) (F0 m 4 ls []) := by
  obtain ⟨hx, hb, hml, hown, hts, hr, hlocks, hK, hA, hG, hsx⟩ := id cx
  intro n
  induction n with
  | zero =>
    intro M v1 v2 H locs ls h w hl
    have h : none = some _ := h
    cases h
  | succ n ih =>
    intro M v1 v2 H locs ls h w hl
    rw [m_X11_walkers_4] at h
    refine lv_iload_n hx hb dX11_walkers_4 rfl (lv_at hl 2 rfl) ?_
    refine lv_aload_n hx hb dX11_walkers_5 rfl (lv_at hl 0 rfl) ?_
    obtain ⟨q1, eq1, h⟩ := x_rf h
    obtain ⟨hLq1, hKq1⟩ := wt_q hG hL0 hK0 eq1
    have hKq1 : gK G q1 = 11 := hKq1
    refine r_getR (k := 15) cx w hL0 hK0 (by decide) rfl wi_X11_walkers_X11 (by decide) rfl eq1 (List.mem_of_getElem? (i := 1) rfl) dX11_walkers_6 ?_
    obtain ⟨q2, eq2, h⟩ := x_rf h
    obtain ⟨hLq2, hKq2⟩ := wt_q hG hLq1 hKq1 eq2
    have hKq2 : gK G q2 = 9 := hKq2
    refine r_getRN (k := 11) cx w hLq1 hKq1 (by decide) rfl wi_X11_walkers_X12 (by decide) rfl eq2 (nwF cx (q := (RX11, 72, "FlagAntsModel", "plan", "LFlagAntsModel$Plan;", "FlagAntsModel")) (List.mem_of_getElem? (i := 30) rfl)) dX11_walkers_9 ?_
    refine r_getIN (k := 3) (v := .int (mI M q2 3)) cx w hLq2 hKq2 (by decide) rfl wi_X11_walkers_X10 (by decide) rfl (nwF cx (q := (RX11, 106, "FlagAntsModel$Plan", "ants", "I", "FlagAntsModel")) (List.mem_of_getElem? (i := 38) rfl)) dX11_walkers_12 ?_
    refine lv_icmp_ge (tgt := 35) hx hb dX11_walkers_15 (by decide) (fun k3 => ?_) (fun k3 => ?_)
    · have h := x_t h k3
      refine lv_iload_n hx hb dX11_walkers_35 rfl (lv_at hl 1 rfl) ?_
      exact r_iret cx w h dX11_walkers_36
    · have h := x_f h k3
      refine lv_iload_n hx hb dX11_walkers_18 rfl (lv_at hl 1 rfl) ?_
      refine lv_iconst (v := (1 : Int32)) hx hb dX11_walkers_19 (by decide) ?_
      refine lv_aload_n hx hb dX11_walkers_20 rfl (lv_at hl 0 rfl) ?_
      obtain ⟨q4, eq4, h⟩ := x_rf h
      obtain ⟨hLq4, hKq4⟩ := wt_q hG hL0 hK0 eq4
      have hKq4 : gK G q4 = 12 := hKq4
      refine r_getR (k := 9) cx w hL0 hK0 (by decide) rfl wi_X11_walkers_X11 (by decide) rfl eq4 (List.mem_of_getElem? (i := 2) rfl) dX11_walkers_21 ?_
      refine lv_iload_n hx hb dX11_walkers_24 rfl (lv_at hl 2 rfl) ?_
      obtain ⟨z5, h⟩ := x_ix h
      refine r_iald cx w hLq4 hKq4 z5 dX11_walkers_25 ?_
      refine lv_isub hx hb dX11_walkers_26 ?_
      refine lv_iadd hx hb dX11_walkers_27 ?_
      obtain ⟨x6, ex6, h⟩ := x_bd h
      refine r_topI ex6 ?_
      refine lv_istore_n (lv' := [(1, .int x6), (0, .ref a0), (2, .int v2)]) hx hb dX11_walkers_28 rfl hl (by decide) rfl (fun ls hl => ?_)
      obtain ⟨x7, ex7, h⟩ := x_bd h
      refine lv_iinc (v := x7) (lv' := [(2, .int x7), (1, .int x6), (0, .ref a0)]) hx hb dX11_walkers_29 hl (k := 2) rfl (by rw [ex7]; rfl) (by decide) rfl (fun ls hl => ?_)
      refine lv_goto (tgt := 4) hx hb dX11_walkers_32 (by decide) ?_
      exact ih M x6 x7 H locs ls h w (lv_sub hl [2, 1, 0] rfl)
set_option maxHeartbeats 4000000 in
set_option maxRecDepth 100000 in
theorem k_X11_walkers {l : Launch} {D : va_G} {cy : cyS} {G : gS} {M M' : mS} {r : Int32} {a0 : Nat} (hG : wt G) (hL0 : a0 ∈ gL G) (hK0 : gK G a0 = 10) (h : m_X11_walkers G M a0 = some (M', r)) : ctI l yX11_walkers wsX11_walkers rmX11_walkers D cy G M [.ref a0] M' r := by
  unfold m_X11_walkers at h
  refine ctI_of (cc := cX11_walkers) (nL := 3) (ret := (some .int)) (lv := [(0, .ref a0)]) hG (by decide) rfl ⟨rfl, rfl⟩ (Nat.le_of_ble_eq_true rfl) rfl ?_
  intro p e s m args below meth c A ls cx w hl
  obtain ⟨hx, hb, hml, hown, hts, hr, hlocks, hK, hA, -, hsx⟩ := id cx
  have hkn : 0 ≤ (rmX11_walkers).cells ∧ 0 ≤ (rmX11_walkers).slots := ⟨Nat.zero_le _, Nat.zero_le _⟩
  refine lv_iconst (v := (0 : Int32)) hx hb dX11_walkers_0 (by decide) ?_
  refine lv_istore_n (lv' := [(1, .int ((0 : Int32))), (0, .ref a0)]) hx hb dX11_walkers_1 rfl hl (by decide) rfl (fun ls hl => ?_)
  refine lv_iconst (v := (0 : Int32)) hx hb dX11_walkers_2 (by decide) ?_
  refine lv_istore_n (lv' := [(2, .int ((0 : Int32))), (1, .int ((0 : Int32))), (0, .ref a0)]) hx hb dX11_walkers_3 rfl hl (by decide) rfl (fun ls hl => ?_)
  exact b_X11_walkers_4 cx hkn hL0 hK0 fu M ((0 : Int32)) ((0 : Int32)) s.heap [] ls h w (lv_sub hl [2, 1, 0] rfl)
-- X11_counted
theorem wi_X11_counted_X11 : ∀ w ∈ wsX110, w ∈ wsX11_counted := by decide +kernel
abbrev rmX11_counted : Room := { frames := 1, cells := 0, slots := 0, locals := 25 }
def m_X11_counted (G : gS) (M : mS) (a0 : Nat) (c1 : Int32) : Option (mS × Int32) := (if c1 = 4 then o_cl (m_X11_dark G M a0) (fun M2 r3 => some (M2, r3)) else if c1 = 5 then o_cl (m_X11_sum G M a0) (fun M6 r7 => some (M6, r7)) else if c1 = 6 then o_cl (m_X11_walkers G M a0) (fun M10 r11 => some (M10, r11)) else if c1 = 7 then some (M, (mI M a0 1)) else if c1 = 8 then some (M, (mI M a0 2)) else some (M, (mI M a0 3)))
set_option maxHeartbeats 4000000 in
set_option maxRecDepth 100000 in
theorem k_X11_counted {l : Launch} {D : va_G} {cy : cyS} {G : gS} {M M' : mS} {r : Int32} {a0 : Nat} {c1 : Int32} (hG : wt G) (hL0 : a0 ∈ gL G) (hK0 : gK G a0 = 10) (h : m_X11_counted G M a0 c1 = some (M', r)) : ctI l yX11_counted wsX11_counted rmX11_counted D cy G M [.ref a0, .int c1] M' r := by
  unfold m_X11_counted at h
  refine ctI_of (cc := cX11_counted) (nL := 2) (ret := (some .int)) (lv := [(0, .ref a0), (1, .int c1)]) hG (by decide) rfl ⟨rfl, rfl⟩ (Nat.le_of_ble_eq_true rfl) rfl ?_
  intro p e s m args below meth c A ls cx w hl
  obtain ⟨hx, hb, hml, hown, hts, hr, hlocks, hK, hA, -, hsx⟩ := id cx
  have hkn : 0 ≤ (rmX11_counted).cells ∧ 0 ≤ (rmX11_counted).slots := ⟨Nat.zero_le _, Nat.zero_le _⟩
  refine lv_iload_n hx hb dX11_counted_0 rfl (lv_at hl 1 rfl) ?_
  rcases Decidable.em (c1 = 4) with k1 | k1
  · have h := x_t h k1
    rw [k1]
    refine lv_tableIn (tgt := 36) hx hb dX11_counted_1 (by decide) (by decide) rfl (by decide) ?_
    refine lv_aload_n hx hb dX11_counted_36 rfl (lv_at hl 0 rfl) ?_
    obtain ⟨M2, r3, y4, h⟩ := x_cl h
    refine r_callVi (As := []) (rest := []) cx w hkn hl.1 (k_X11_dark hG hL0 hK0 y4) (cwV 0 hts gX11_counted_X11_dark rfl rfl rfl (by decide +kernel) ⟨Nat.le_of_ble_eq_true rfl, Nat.le_of_ble_eq_true rfl⟩) hL0 hK0 (by decide) rfl rfl rfl (Nat.le_of_ble_eq_true rfl) dX11_counted_37 (fun H locs w => ?_)
    exact r_iret cx w h dX11_counted_40
  · have h := x_f h k1
    rcases Decidable.em (c1 = 5) with k5 | k5
    · have h := x_t h k5
      rw [k5]
      refine lv_tableIn (tgt := 41) hx hb dX11_counted_1 (by decide) (by decide) rfl (by decide) ?_
      refine lv_aload_n hx hb dX11_counted_41 rfl (lv_at hl 0 rfl) ?_
      obtain ⟨M6, r7, y8, h⟩ := x_cl h
      refine r_callVi (As := []) (rest := []) cx w hkn hl.1 (k_X11_sum hG hL0 hK0 y8) (cwV 0 hts gX11_counted_X11_sum rfl rfl rfl (by decide +kernel) ⟨Nat.le_of_ble_eq_true rfl, Nat.le_of_ble_eq_true rfl⟩) hL0 hK0 (by decide) rfl rfl rfl (Nat.le_of_ble_eq_true rfl) dX11_counted_42 (fun H locs w => ?_)
      exact r_iret cx w h dX11_counted_45
    · have h := x_f h k5
      rcases Decidable.em (c1 = 6) with k9 | k9
      · have h := x_t h k9
        rw [k9]
        refine lv_tableIn (tgt := 46) hx hb dX11_counted_1 (by decide) (by decide) rfl (by decide) ?_
        refine lv_aload_n hx hb dX11_counted_46 rfl (lv_at hl 0 rfl) ?_
        obtain ⟨M10, r11, y12, h⟩ := x_cl h
        refine r_callVi (As := []) (rest := []) cx w hkn hl.1 (k_X11_walkers hG hL0 hK0 y12) (cwV 0 hts gX11_counted_X11_walkers rfl rfl rfl (by decide +kernel) ⟨Nat.le_of_ble_eq_true rfl, Nat.le_of_ble_eq_true rfl⟩) hL0 hK0 (by decide) rfl rfl rfl (Nat.le_of_ble_eq_true rfl) dX11_counted_47 (fun H locs w => ?_)
        exact r_iret cx w h dX11_counted_50
      · have h := x_f h k9
        rcases Decidable.em (c1 = 7) with k13 | k13
        · have h := x_t h k13
          rw [k13]
          refine lv_tableIn (tgt := 51) hx hb dX11_counted_1 (by decide) (by decide) rfl (by decide) ?_
          refine lv_aload_n hx hb dX11_counted_51 rfl (lv_at hl 0 rfl) ?_
          refine r_getI (k := 1) (v := .int (mI M a0 1)) cx w hL0 hK0 (by decide) rfl wi_X11_counted_X11 (by decide) rfl (List.mem_of_getElem? (i := 1) rfl) dX11_counted_52 ?_
          exact r_iret cx w h dX11_counted_55
        · have h := x_f h k13
          rcases Decidable.em (c1 = 8) with k14 | k14
          · have h := x_t h k14
            rw [k14]
            refine lv_tableIn (tgt := 56) hx hb dX11_counted_1 (by decide) (by decide) rfl (by decide) ?_
            refine lv_aload_n hx hb dX11_counted_56 rfl (lv_at hl 0 rfl) ?_
            refine r_getI (k := 2) (v := .int (mI M a0 2)) cx w hL0 hK0 (by decide) rfl wi_X11_counted_X11 (by decide) rfl (List.mem_of_getElem? (i := 2) rfl) dX11_counted_57 ?_
            exact r_iret cx w h dX11_counted_60
          · have h := x_f h k14
            refine lv_tableOut (tgt := 61) hx hb dX11_counted_1 (by have nk1 : Int32.toInt c1 ≠ 4 := fun hh => k1 (Int32.toInt_inj.mp hh); have nk5 : Int32.toInt c1 ≠ 5 := fun hh => k5 (Int32.toInt_inj.mp hh); have nk9 : Int32.toInt c1 ≠ 6 := fun hh => k9 (Int32.toInt_inj.mp hh); have nk13 : Int32.toInt c1 ≠ 7 := fun hh => k13 (Int32.toInt_inj.mp hh); have nk14 : Int32.toInt c1 ≠ 8 := fun hh => k14 (Int32.toInt_inj.mp hh); omega) (by decide) ?_
            refine lv_aload_n hx hb dX11_counted_61 rfl (lv_at hl 0 rfl) ?_
            refine r_getI (k := 3) (v := .int (mI M a0 3)) cx w hL0 hK0 (by decide) rfl wi_X11_counted_X11 (by decide) rfl (List.mem_of_getElem? (i := 3) rfl) dX11_counted_62 ?_
            exact r_iret cx w h dX11_counted_65
-- X11_go
theorem wi_X11_go_X11 : ∀ w ∈ wsX110, w ∈ wsX11_go := by decide +kernel
abbrev rmX11_go : Room := { frames := 0, cells := 0, slots := 0, locals := 0 }
def m_X11_go_72 (G : gS) (a0 : Nat) (c1 : Int32) (c2 : Int32) (kb2 : mS → Int32 → Option (mS × Unit)) (M : mS) (v3 : Int32) (s0 : Nat) (s1 : Int32) (s2 : Int32) : Option (mS × Unit) := o_ix s1 (gN G s0) (o_wI M s0 (Int32.toNatClampNeg s1) s2 (fun M2 => o_bd (v3 + 1 : Int32) (fun x3 => kb2 M2 x3)))
def m_X11_go_71 (G : gS) (a0 : Nat) (c1 : Int32) (c2 : Int32) (kb2 : mS → Int32 → Option (mS × Unit)) (M : mS) (v3 : Int32) (s0 : Nat) (s1 : Int32) : Option (mS × Unit) := m_X11_go_72 G a0 c1 c2 kb2 M v3 s0 s1 ((0 : Int32))
def m_X11_go_191 (G : gS) (a0 : Nat) (c1 : Int32) (c2 : Int32)  (M : mS) (s0 : Nat) (s1 : Int32) (s2 : Int32) (s3 : Int32) : Option (mS × Unit) := o_ck (¬ (64 : Int32) = 0) (o_ix s1 (gN G s0) (o_wI M s0 (Int32.toNatClampNeg s1) ((s2 + s3) - (s2 + s3) / (64 : Int32) * (64 : Int32)) (fun M3 => some (M3, ()))))
def m_X11_go_154 (G : gS) (a0 : Nat) (c1 : Int32) (c2 : Int32)  (M : mS) (s0 : Nat) (s1 : Int32) (s2 : Int32) (s3 : Int32) : Option (mS × Unit) := o_ck (¬ (64 : Int32) = 0) (o_ix s1 (gN G s0) (o_wI M s0 (Int32.toNatClampNeg s1) ((s2 + s3) - (s2 + s3) / (64 : Int32) * (64 : Int32)) (fun M3 => o_rf (gP G a0 7) (fun q4 => o_rf (gP G a0 7) (fun q5 => o_ix c1 (gN G q5) ((if c2 = (2 : Int32) then m_X11_go_191 G a0 c1 c2 M3 q4 c1 (((mI M3 q5 (Int32.toNatClampNeg c1)) + (64 : Int32))) ((1 : Int32)) else (if c2 = 0 then m_X11_go_191 G a0 c1 c2 M3 q4 c1 (((mI M3 q5 (Int32.toNatClampNeg c1)) + (64 : Int32))) ((-1 : Int32)) else m_X11_go_191 G a0 c1 c2 M3 q4 c1 (((mI M3 q5 (Int32.toNatClampNeg c1)) + (64 : Int32))) ((0 : Int32))))))))))
def m_X11_go_2 (G : gS) (a0 : Nat) (c1 : Int32) (c2 : Int32)  : Nat → mS → Int32 → Option (mS × Unit)
  | 0, _, _ => none
  | n + 1, M, v3 => (if (120 : Int32) < v3 then o_rf (gP G a0 12) (fun q2 => o_rf (gP G a0 11) (fun q3 => o_ix c1 (gN G q3) (o_ck (¬ (128 : Int32) = 0) (o_ix (((128 : Int32) * c1) + ((mI M q3 (Int32.toNatClampNeg c1)) - (mI M q3 (Int32.toNatClampNeg c1)) / (128 : Int32) * (128 : Int32))) (gN G q2) (o_wI M q2 (Int32.toNatClampNeg (((128 : Int32) * c1) + ((mI M q3 (Int32.toNatClampNeg c1)) - (mI M q3 (Int32.toNatClampNeg c1)) / (128 : Int32) * (128 : Int32)))) c2 (fun M7 => o_rf (gP G a0 11) (fun q8 => o_ix c1 (gN G q8) (o_ix c1 (gN G q8) (o_wI M7 q8 (Int32.toNatClampNeg c1) ((mI M7 q8 (Int32.toNatClampNeg c1)) + (1 : Int32)) (fun M11 => o_rf (gP G a0 10) (fun q12 => o_ix c1 (gN G q12) (o_ix c1 (gN G q12) (o_wI M11 q12 (Int32.toNatClampNeg c1) ((mI M11 q12 (Int32.toNatClampNeg c1)) + (1 : Int32)) (fun M15 => o_rf (gP G a0 6) (fun q16 => o_rf (gP G a0 6) (fun q17 => o_ix c1 (gN G q17) ((if c2 = (1 : Int32) then m_X11_go_154 G a0 c1 c2 M15 q16 c1 (((mI M15 q17 (Int32.toNatClampNeg c1)) + (64 : Int32))) ((1 : Int32)) else (if c2 = (3 : Int32) then m_X11_go_154 G a0 c1 c2 M15 q16 c1 (((mI M15 q17 (Int32.toNatClampNeg c1)) + (64 : Int32))) ((-1 : Int32)) else m_X11_go_154 G a0 c1 c2 M15 q16 c1 (((mI M15 q17 (Int32.toNatClampNeg c1)) + (64 : Int32))) ((0 : Int32))))))))))))))))))))) else o_bd ((((121 : Int32) * c1) + v3)) (fun x21 => o_rf (gP G a0 13) (fun q22 => o_rf (gP G a0 11) (fun q23 => o_ix c1 (gN G q23) ((if (mI M q23 (Int32.toNatClampNeg c1)) < v3 then m_X11_go_71 G a0 c1 c2 (fun M v3 => m_X11_go_2 G a0 c1 c2 n M v3) M v3 q22 x21 else o_rf (gP G a0 12) (fun q26 => o_rf (gP G a0 11) (fun q27 => o_ix c1 (gN G q27) (o_ck (¬ (128 : Int32) = 0) (o_ix (((128 : Int32) * c1) + (((mI M q27 (Int32.toNatClampNeg c1)) - v3) - ((mI M q27 (Int32.toNatClampNeg c1)) - v3) / (128 : Int32) * (128 : Int32))) (gN G q26) ((if (mI M q26 (Int32.toNatClampNeg (((128 : Int32) * c1) + (((mI M q27 (Int32.toNatClampNeg c1)) - v3) - ((mI M q27 (Int32.toNatClampNeg c1)) - v3) / (128 : Int32) * (128 : Int32))))) = c2 then o_rf (gP G a0 13) (fun q32 => o_ix x21 (gN G q32) (m_X11_go_72 G a0 c1 c2 (fun M v3 => m_X11_go_2 G a0 c1 c2 n M v3) M v3 q22 x21 (((mI M q32 (Int32.toNatClampNeg x21)) + (1 : Int32))))) else m_X11_go_71 G a0 c1 c2 (fun M v3 => m_X11_go_2 G a0 c1 c2 n M v3) M v3 q22 x21))))))))))))
def m_X11_go (G : gS) (M : mS) (a0 : Nat) (c1 : Int32) (c2 : Int32) : Option (mS × Unit) := m_X11_go_2 G a0 c1 c2 fu M ((1 : Int32))
set_option maxHeartbeats 4000000 in
set_option maxRecDepth 100000 in
theorem b_X11_go_72 {p : Program} {e : Env} {s : State} {m : MethodId} {args : Array Value} {below : List Frame} {meth : Method} {c : Code} {A : Nat → Prop} {l : Launch} {D : va_G} {cy : cyS} {G : gS} (cx : cX p s m args meth c cX11_go RX11 5 none wsX11_go D cy G A) {k0 n0 : Nat} (hkn : k0 ≤ (rmX11_go).cells ∧ n0 ≤ (rmX11_go).slots) {M' : mS} {a0 : Nat} {c1 : Int32} {c2 : Int32} (hL0 : a0 ∈ gL G) (hK0 : gK G a0 = 10) {kb2 : mS → Int32 → Option (mS × Unit)} (hkb2 : ∀ (M : mS) (v3 : Int32) (H : Heap) (locs : List Loc) (ls : Array Slot), kb2 M v3 = some (M', ()) → wd D cy G M A s.heap H locs → lv_has ls 5 [(0, .ref a0), (1, .int c1), (2, .int c2), (3, .int v3)] → W p l e rmX11_go s m args below meth c H locs k0 n0 (MQ below (va_Qv (fun (_ : Unit) => True) (fun _ t => wOut D cy G M' t) A) args s k0 n0 A) (F0 m 2 ls [])) : ∀ (M : mS) (v3 : Int32) (s0 : Nat) (s1 : Int32) (s2 : Int32) (H : Heap) (locs : List Loc) (ls : Array Slot), s0 ∈ gL G → gK G s0 = 12 → m_X11_go_72 G a0 c1 c2 kb2 M v3 s0 s1 s2 = some (M', ()) → wd D cy G M A s.heap H locs → lv_has ls 5 [(0, .ref a0), (1, .int c1), (2, .int c2), (3, .int v3)] → W p l e rmX11_go s m args below meth c H locs k0 n0 (MQ below (va_Qv (fun (_ : Unit) => True) (fun _ t => wOut D cy G M' t) A) args s k0 n0 A) (F0 m 72 ls [.int s2, .int s1, .ref s0]) := by
  obtain ⟨hx, hb, hml, hown, hts, hr, hlocks, hK, hA, hG, hsx⟩ := id cx
  intro M v3 s0 s1 s2 H locs ls sL0 sK0 h w hl
  unfold m_X11_go_72 at h
  obtain ⟨z1, h⟩ := x_ix h
  obtain ⟨M2, eM2, h⟩ := x_wI h
  refine r_iast cx w sL0 sK0 z1 dX11_go_72 eM2 (fun H locs w => ?_)
  obtain ⟨x3, ex3, h⟩ := x_bd h
  refine lv_iinc (v := x3) (lv' := [(3, .int x3), (0, .ref a0), (1, .int c1), (2, .int c2)]) hx hb dX11_go_73 hl (k := 3) rfl (by rw [ex3]; rfl) (by decide) rfl (fun ls hl => ?_)
  refine lv_goto (tgt := 2) hx hb dX11_go_76 (by decide) ?_
  exact hkb2 M2 x3 H locs ls h w (lv_sub hl [1, 2, 3, 0] rfl)
set_option maxHeartbeats 4000000 in
set_option maxRecDepth 100000 in
theorem b_X11_go_71 {p : Program} {e : Env} {s : State} {m : MethodId} {args : Array Value} {below : List Frame} {meth : Method} {c : Code} {A : Nat → Prop} {l : Launch} {D : va_G} {cy : cyS} {G : gS} (cx : cX p s m args meth c cX11_go RX11 5 none wsX11_go D cy G A) {k0 n0 : Nat} (hkn : k0 ≤ (rmX11_go).cells ∧ n0 ≤ (rmX11_go).slots) {M' : mS} {a0 : Nat} {c1 : Int32} {c2 : Int32} (hL0 : a0 ∈ gL G) (hK0 : gK G a0 = 10) {kb2 : mS → Int32 → Option (mS × Unit)} (hkb2 : ∀ (M : mS) (v3 : Int32) (H : Heap) (locs : List Loc) (ls : Array Slot), kb2 M v3 = some (M', ()) → wd D cy G M A s.heap H locs → lv_has ls 5 [(0, .ref a0), (1, .int c1), (2, .int c2), (3, .int v3)] → W p l e rmX11_go s m args below meth c H locs k0 n0 (MQ below (va_Qv (fun (_ : Unit) => True) (fun _ t => wOut D cy G M' t) A) args s k0 n0 A) (F0 m 2 ls [])) : ∀ (M : mS) (v3 : Int32) (s0 : Nat) (s1 : Int32) (H : Heap) (locs : List Loc) (ls : Array Slot), s0 ∈ gL G → gK G s0 = 12 → m_X11_go_71 G a0 c1 c2 kb2 M v3 s0 s1 = some (M', ()) → wd D cy G M A s.heap H locs → lv_has ls 5 [(0, .ref a0), (1, .int c1), (2, .int c2), (3, .int v3)] → W p l e rmX11_go s m args below meth c H locs k0 n0 (MQ below (va_Qv (fun (_ : Unit) => True) (fun _ t => wOut D cy G M' t) A) args s k0 n0 A) (F0 m 71 ls [.int s1, .ref s0]) := by
  obtain ⟨hx, hb, hml, hown, hts, hr, hlocks, hK, hA, hG, hsx⟩ := id cx
  intro M v3 s0 s1 H locs ls sL0 sK0 h w hl
  unfold m_X11_go_71 at h
  refine lv_iconst (v := (0 : Int32)) hx hb dX11_go_71 (by decide) ?_
  exact b_X11_go_72 cx hkn hL0 hK0 (hkb2 := hkb2) M v3 s0 s1 ((0 : Int32)) H locs ls sL0 sK0 h w (lv_sub hl [0, 1, 2, 3] rfl)
set_option maxHeartbeats 4000000 in
set_option maxRecDepth 100000 in
theorem b_X11_go_191 {p : Program} {e : Env} {s : State} {m : MethodId} {args : Array Value} {below : List Frame} {meth : Method} {c : Code} {A : Nat → Prop} {l : Launch} {D : va_G} {cy : cyS} {G : gS} (cx : cX p s m args meth c cX11_go RX11 5 none wsX11_go D cy G A) {k0 n0 : Nat} (hkn : k0 ≤ (rmX11_go).cells ∧ n0 ≤ (rmX11_go).slots) {M' : mS} {a0 : Nat} {c1 : Int32} {c2 : Int32} (hL0 : a0 ∈ gL G) (hK0 : gK G a0 = 10)  : ∀ (M : mS) (s0 : Nat) (s1 : Int32) (s2 : Int32) (s3 : Int32) (H : Heap) (locs : List Loc) (ls : Array Slot), s0 ∈ gL G → gK G s0 = 12 → m_X11_go_191 G a0 c1 c2 M s0 s1 s2 s3 = some (M', ()) → wd D cy G M A s.heap H locs → lv_has ls 5 [] → W p l e rmX11_go s m args below meth c H locs k0 n0 (MQ below (va_Qv (fun (_ : Unit) => True) (fun _ t => wOut D cy G M' t) A) args s k0 n0 A) (F0 m 191 ls [.int s3, .int s2, .int s1, .ref s0]) := by
  obtain ⟨hx, hb, hml, hown, hts, hr, hlocks, hK, hA, hG, hsx⟩ := id cx
  intro M s0 s1 s2 s3 H locs ls sL0 sK0 h w hl
  unfold m_X11_go_191 at h
  refine lv_iadd hx hb dX11_go_191 ?_
  refine lv_bipush (v := (64 : Int32)) hx hb dX11_go_192 (by decide) ?_
  obtain ⟨z1, h⟩ := x_ck h
  refine lv_irem hx hb dX11_go_194 z1 ?_
  obtain ⟨z2, h⟩ := x_ix h
  obtain ⟨M3, eM3, h⟩ := x_wI h
  refine r_iast cx w sL0 sK0 z2 dX11_go_195 eM3 (fun H locs w => ?_)
  exact r_vret cx w h dX11_go_196
set_option maxHeartbeats 4000000 in
set_option maxRecDepth 100000 in
theorem b_X11_go_154 {p : Program} {e : Env} {s : State} {m : MethodId} {args : Array Value} {below : List Frame} {meth : Method} {c : Code} {A : Nat → Prop} {l : Launch} {D : va_G} {cy : cyS} {G : gS} (cx : cX p s m args meth c cX11_go RX11 5 none wsX11_go D cy G A) {k0 n0 : Nat} (hkn : k0 ≤ (rmX11_go).cells ∧ n0 ≤ (rmX11_go).slots) {M' : mS} {a0 : Nat} {c1 : Int32} {c2 : Int32} (hL0 : a0 ∈ gL G) (hK0 : gK G a0 = 10)  : ∀ (M : mS) (s0 : Nat) (s1 : Int32) (s2 : Int32) (s3 : Int32) (H : Heap) (locs : List Loc) (ls : Array Slot), s0 ∈ gL G → gK G s0 = 12 → m_X11_go_154 G a0 c1 c2 M s0 s1 s2 s3 = some (M', ()) → wd D cy G M A s.heap H locs → lv_has ls 5 [(0, .ref a0), (1, .int c1), (2, .int c2)] → W p l e rmX11_go s m args below meth c H locs k0 n0 (MQ below (va_Qv (fun (_ : Unit) => True) (fun _ t => wOut D cy G M' t) A) args s k0 n0 A) (F0 m 154 ls [.int s3, .int s2, .int s1, .ref s0]) := by
  obtain ⟨hx, hb, hml, hown, hts, hr, hlocks, hK, hA, hG, hsx⟩ := id cx
  intro M s0 s1 s2 s3 H locs ls sL0 sK0 h w hl
  unfold m_X11_go_154 at h
  refine lv_iadd hx hb dX11_go_154 ?_
  refine lv_bipush (v := (64 : Int32)) hx hb dX11_go_155 (by decide) ?_
  obtain ⟨z1, h⟩ := x_ck h
  refine lv_irem hx hb dX11_go_157 z1 ?_
  obtain ⟨z2, h⟩ := x_ix h
  obtain ⟨M3, eM3, h⟩ := x_wI h
  refine r_iast cx w sL0 sK0 z2 dX11_go_158 eM3 (fun H locs w => ?_)
  refine lv_aload_n hx hb dX11_go_159 rfl (lv_at hl 0 rfl) ?_
  obtain ⟨q4, eq4, h⟩ := x_rf h
  obtain ⟨hLq4, hKq4⟩ := wt_q hG hL0 hK0 eq4
  have hKq4 : gK G q4 = 12 := hKq4
  refine r_getR (k := 7) cx w hL0 hK0 (by decide) rfl wi_X11_go_X11 (by decide) rfl eq4 (List.mem_of_getElem? (i := 6) rfl) dX11_go_160 ?_
  refine lv_iload_n hx hb dX11_go_163 rfl (lv_at hl 1 rfl) ?_
  refine lv_aload_n hx hb dX11_go_164 rfl (lv_at hl 0 rfl) ?_
  obtain ⟨q5, eq5, h⟩ := x_rf h
  obtain ⟨hLq5, hKq5⟩ := wt_q hG hL0 hK0 eq5
  have hKq5 : gK G q5 = 12 := hKq5
  refine r_getR (k := 7) cx w hL0 hK0 (by decide) rfl wi_X11_go_X11 (by decide) rfl eq5 (List.mem_of_getElem? (i := 6) rfl) dX11_go_165 ?_
  refine lv_iload_n hx hb dX11_go_168 rfl (lv_at hl 1 rfl) ?_
  obtain ⟨z6, h⟩ := x_ix h
  refine r_iald cx w hLq5 hKq5 z6 dX11_go_169 ?_
  refine lv_bipush (v := (64 : Int32)) hx hb dX11_go_170 (by decide) ?_
  refine lv_iadd hx hb dX11_go_172 ?_
  refine lv_iload_n hx hb dX11_go_173 rfl (lv_at hl 2 rfl) ?_
  refine lv_iconst (v := (2 : Int32)) hx hb dX11_go_174 (by decide) ?_
  refine lv_icmp_ne (tgt := 182) hx hb dX11_go_175 (by decide) (fun k7 => ?_) (fun k7 => ?_)
  · have h := x_f h k7
    refine lv_iload_n hx hb dX11_go_182 rfl (lv_at hl 2 rfl) ?_
    refine lv_if_ne (tgt := 190) hx hb dX11_go_183 (by decide) (fun k8 => ?_) (fun k8 => ?_)
    · have h := x_f h k8
      refine lv_iconst (v := (0 : Int32)) hx hb dX11_go_190 (by decide) ?_
      exact b_X11_go_191 cx hkn hL0 hK0 M3 q4 c1 (((mI M3 q5 (Int32.toNatClampNeg c1)) + (64 : Int32))) ((0 : Int32)) H locs ls hLq4 hKq4 h w (lv_sub hl [] rfl)
    · have h := x_t h k8
      refine lv_iconst (v := (-1 : Int32)) hx hb dX11_go_186 (by decide) ?_
      refine lv_goto (tgt := 191) hx hb dX11_go_187 (by decide) ?_
      exact b_X11_go_191 cx hkn hL0 hK0 M3 q4 c1 (((mI M3 q5 (Int32.toNatClampNeg c1)) + (64 : Int32))) ((-1 : Int32)) H locs ls hLq4 hKq4 h w (lv_sub hl [] rfl)
  · have h := x_t h k7
    refine lv_iconst (v := (1 : Int32)) hx hb dX11_go_178 (by decide) ?_
    refine lv_goto (tgt := 191) hx hb dX11_go_179 (by decide) ?_
    exact b_X11_go_191 cx hkn hL0 hK0 M3 q4 c1 (((mI M3 q5 (Int32.toNatClampNeg c1)) + (64 : Int32))) ((1 : Int32)) H locs ls hLq4 hKq4 h w (lv_sub hl [] rfl)
set_option maxHeartbeats 4000000 in
set_option maxRecDepth 100000 in
theorem b_X11_go_2 {p : Program} {e : Env} {s : State} {m : MethodId} {args : Array Value} {below : List Frame} {meth : Method} {c : Code} {A : Nat → Prop} {l : Launch} {D : va_G} {cy : cyS} {G : gS} (cx : cX p s m args meth c cX11_go RX11 5 none wsX11_go D cy G A) {k0 n0 : Nat} (hkn : k0 ≤ (rmX11_go).cells ∧ n0 ≤ (rmX11_go).slots) {M' : mS} {a0 : Nat} {c1 : Int32} {c2 : Int32} (hL0 : a0 ∈ gL G) (hK0 : gK G a0 = 10)  : ∀ (n : Nat), ∀ (M : mS) (v3 : Int32) (H : Heap) (locs : List Loc) (ls : Array Slot), m_X11_go_2 G a0 c1 c2 n M v3 = some (M', ()) → wd D cy G M A s.heap H locs → lv_has ls 5 [(0, .ref a0), (1, .int c1), (2, .int c2), (3, .int v3)] → W p l e rmX11_go s m args below meth c H locs k0 n0 (MQ below (va_Qv (fun (_ : Unit) => True) (fun _ t => wOut D cy G M' t) A) args s k0 n0 A) (F0 m 2 ls []) := by
  obtain ⟨hx, hb, hml, hown, hts, hr, hlocks, hK, hA, hG, hsx⟩ := id cx
  intro n
  induction n with
  | zero =>
    intro M v3 H locs ls h w hl
    have h : none = some _ := h
    cases h
  | succ n ih =>
    intro M v3 H locs ls h w hl
    rw [m_X11_go_2] at h
    refine lv_iload_n hx hb dX11_go_2 rfl (lv_at hl 3 rfl) ?_
    refine lv_bipush (v := (120 : Int32)) hx hb dX11_go_3 (by decide) ?_
    refine lv_icmp_gt (tgt := 79) hx hb dX11_go_5 (by decide) (fun k1 => ?_) (fun k1 => ?_)
    · have h := x_t h k1
      refine lv_aload_n hx hb dX11_go_79 rfl (lv_at hl 0 rfl) ?_
      obtain ⟨q2, eq2, h⟩ := x_rf h
      obtain ⟨hLq2, hKq2⟩ := wt_q hG hL0 hK0 eq2
      have hKq2 : gK G q2 = 12 := hKq2
      refine r_getR (k := 12) cx w hL0 hK0 (by decide) rfl wi_X11_go_X11 (by decide) rfl eq2 (List.mem_of_getElem? (i := 3) rfl) dX11_go_80 ?_
      refine lv_sipush (v := (128 : Int32)) hx hb dX11_go_83 (by decide) ?_
      refine lv_iload_n hx hb dX11_go_86 rfl (lv_at hl 1 rfl) ?_
      refine lv_imul hx hb dX11_go_87 ?_
      refine lv_aload_n hx hb dX11_go_88 rfl (lv_at hl 0 rfl) ?_
      obtain ⟨q3, eq3, h⟩ := x_rf h
      obtain ⟨hLq3, hKq3⟩ := wt_q hG hL0 hK0 eq3
      have hKq3 : gK G q3 = 12 := hKq3
      refine r_getR (k := 11) cx w hL0 hK0 (by decide) rfl wi_X11_go_X11 (by decide) rfl eq3 (List.mem_of_getElem? (i := 2) rfl) dX11_go_89 ?_
      refine lv_iload_n hx hb dX11_go_92 rfl (lv_at hl 1 rfl) ?_
      obtain ⟨z4, h⟩ := x_ix h
      refine r_iald cx w hLq3 hKq3 z4 dX11_go_93 ?_
      refine lv_sipush (v := (128 : Int32)) hx hb dX11_go_94 (by decide) ?_
      obtain ⟨z5, h⟩ := x_ck h
      refine lv_irem hx hb dX11_go_97 z5 ?_
      refine lv_iadd hx hb dX11_go_98 ?_
      refine lv_iload_n hx hb dX11_go_99 rfl (lv_at hl 2 rfl) ?_
      obtain ⟨z6, h⟩ := x_ix h
      obtain ⟨M7, eM7, h⟩ := x_wI h
      refine r_iast cx w hLq2 hKq2 z6 dX11_go_100 eM7 (fun H locs w => ?_)
      refine lv_aload_n hx hb dX11_go_101 rfl (lv_at hl 0 rfl) ?_
      obtain ⟨q8, eq8, h⟩ := x_rf h
      obtain ⟨hLq8, hKq8⟩ := wt_q hG hL0 hK0 eq8
      have hKq8 : gK G q8 = 12 := hKq8
      refine r_getR (k := 11) cx w hL0 hK0 (by decide) rfl wi_X11_go_X11 (by decide) rfl eq8 (List.mem_of_getElem? (i := 2) rfl) dX11_go_102 ?_
      refine lv_iload_n hx hb dX11_go_105 rfl (lv_at hl 1 rfl) ?_
      refine lv_dup2_11 hx hb dX11_go_106 rfl rfl ?_
      obtain ⟨z9, h⟩ := x_ix h
      refine r_iald cx w hLq8 hKq8 z9 dX11_go_107 ?_
      refine lv_iconst (v := (1 : Int32)) hx hb dX11_go_108 (by decide) ?_
      refine lv_iadd hx hb dX11_go_109 ?_
      obtain ⟨z10, h⟩ := x_ix h
      obtain ⟨M11, eM11, h⟩ := x_wI h
      refine r_iast cx w hLq8 hKq8 z10 dX11_go_110 eM11 (fun H locs w => ?_)
      refine lv_aload_n hx hb dX11_go_111 rfl (lv_at hl 0 rfl) ?_
      obtain ⟨q12, eq12, h⟩ := x_rf h
      obtain ⟨hLq12, hKq12⟩ := wt_q hG hL0 hK0 eq12
      have hKq12 : gK G q12 = 12 := hKq12
      refine r_getR (k := 10) cx w hL0 hK0 (by decide) rfl wi_X11_go_X11 (by decide) rfl eq12 (List.mem_of_getElem? (i := 4) rfl) dX11_go_112 ?_
      refine lv_iload_n hx hb dX11_go_115 rfl (lv_at hl 1 rfl) ?_
      refine lv_dup2_11 hx hb dX11_go_116 rfl rfl ?_
      obtain ⟨z13, h⟩ := x_ix h
      refine r_iald cx w hLq12 hKq12 z13 dX11_go_117 ?_
      refine lv_iconst (v := (1 : Int32)) hx hb dX11_go_118 (by decide) ?_
      refine lv_iadd hx hb dX11_go_119 ?_
      obtain ⟨z14, h⟩ := x_ix h
      obtain ⟨M15, eM15, h⟩ := x_wI h
      refine r_iast cx w hLq12 hKq12 z14 dX11_go_120 eM15 (fun H locs w => ?_)
      refine lv_aload_n hx hb dX11_go_121 rfl (lv_at hl 0 rfl) ?_
      obtain ⟨q16, eq16, h⟩ := x_rf h
      obtain ⟨hLq16, hKq16⟩ := wt_q hG hL0 hK0 eq16
      have hKq16 : gK G q16 = 12 := hKq16
      refine r_getR (k := 6) cx w hL0 hK0 (by decide) rfl wi_X11_go_X11 (by decide) rfl eq16 (List.mem_of_getElem? (i := 5) rfl) dX11_go_122 ?_
      refine lv_iload_n hx hb dX11_go_125 rfl (lv_at hl 1 rfl) ?_
      refine lv_aload_n hx hb dX11_go_126 rfl (lv_at hl 0 rfl) ?_
      obtain ⟨q17, eq17, h⟩ := x_rf h
      obtain ⟨hLq17, hKq17⟩ := wt_q hG hL0 hK0 eq17
      have hKq17 : gK G q17 = 12 := hKq17
      refine r_getR (k := 6) cx w hL0 hK0 (by decide) rfl wi_X11_go_X11 (by decide) rfl eq17 (List.mem_of_getElem? (i := 5) rfl) dX11_go_127 ?_
      refine lv_iload_n hx hb dX11_go_130 rfl (lv_at hl 1 rfl) ?_
      obtain ⟨z18, h⟩ := x_ix h
      refine r_iald cx w hLq17 hKq17 z18 dX11_go_131 ?_
      refine lv_bipush (v := (64 : Int32)) hx hb dX11_go_132 (by decide) ?_
      refine lv_iadd hx hb dX11_go_134 ?_
      refine lv_iload_n hx hb dX11_go_135 rfl (lv_at hl 2 rfl) ?_
      refine lv_iconst (v := (1 : Int32)) hx hb dX11_go_136 (by decide) ?_
      refine lv_icmp_ne (tgt := 144) hx hb dX11_go_137 (by decide) (fun k19 => ?_) (fun k19 => ?_)
      · have h := x_f h k19
        refine lv_iload_n hx hb dX11_go_144 rfl (lv_at hl 2 rfl) ?_
        refine lv_iconst (v := (3 : Int32)) hx hb dX11_go_145 (by decide) ?_
        refine lv_icmp_ne (tgt := 153) hx hb dX11_go_146 (by decide) (fun k20 => ?_) (fun k20 => ?_)
        · have h := x_f h k20
          refine lv_iconst (v := (0 : Int32)) hx hb dX11_go_153 (by decide) ?_
          exact b_X11_go_154 cx hkn hL0 hK0 M15 q16 c1 (((mI M15 q17 (Int32.toNatClampNeg c1)) + (64 : Int32))) ((0 : Int32)) H locs ls hLq16 hKq16 h w (lv_sub hl [0, 1, 2] rfl)
        · have h := x_t h k20
          refine lv_iconst (v := (-1 : Int32)) hx hb dX11_go_149 (by decide) ?_
          refine lv_goto (tgt := 154) hx hb dX11_go_150 (by decide) ?_
          exact b_X11_go_154 cx hkn hL0 hK0 M15 q16 c1 (((mI M15 q17 (Int32.toNatClampNeg c1)) + (64 : Int32))) ((-1 : Int32)) H locs ls hLq16 hKq16 h w (lv_sub hl [0, 1, 2] rfl)
      · have h := x_t h k19
        refine lv_iconst (v := (1 : Int32)) hx hb dX11_go_140 (by decide) ?_
        refine lv_goto (tgt := 154) hx hb dX11_go_141 (by decide) ?_
        exact b_X11_go_154 cx hkn hL0 hK0 M15 q16 c1 (((mI M15 q17 (Int32.toNatClampNeg c1)) + (64 : Int32))) ((1 : Int32)) H locs ls hLq16 hKq16 h w (lv_sub hl [0, 1, 2] rfl)
    · have h := x_f h k1
      refine lv_bipush (v := (121 : Int32)) hx hb dX11_go_8 (by decide) ?_
      refine lv_iload_n hx hb dX11_go_10 rfl (lv_at hl 1 rfl) ?_
      refine lv_imul hx hb dX11_go_11 ?_
      refine lv_iload_n hx hb dX11_go_12 rfl (lv_at hl 3 rfl) ?_
      refine lv_iadd hx hb dX11_go_13 ?_
      obtain ⟨x21, ex21, h⟩ := x_bd h
      refine r_topI ex21 ?_
      refine lv_istore (lv' := [(4, .int x21), (0, .ref a0), (1, .int c1), (2, .int c2), (3, .int v3)]) hx hb dX11_go_14 hl (by decide) rfl (fun ls hl => ?_)
      refine lv_aload_n hx hb dX11_go_16 rfl (lv_at hl 1 rfl) ?_
      obtain ⟨q22, eq22, h⟩ := x_rf h
      obtain ⟨hLq22, hKq22⟩ := wt_q hG hL0 hK0 eq22
      have hKq22 : gK G q22 = 12 := hKq22
      refine r_getR (k := 13) cx w hL0 hK0 (by decide) rfl wi_X11_go_X11 (by decide) rfl eq22 (List.mem_of_getElem? (i := 1) rfl) dX11_go_17 ?_
      refine lv_iload hx hb dX11_go_20 (lv_at hl 0 rfl) ?_
      refine lv_aload_n hx hb dX11_go_22 rfl (lv_at hl 1 rfl) ?_
      obtain ⟨q23, eq23, h⟩ := x_rf h
      obtain ⟨hLq23, hKq23⟩ := wt_q hG hL0 hK0 eq23
      have hKq23 : gK G q23 = 12 := hKq23
      refine r_getR (k := 11) cx w hL0 hK0 (by decide) rfl wi_X11_go_X11 (by decide) rfl eq23 (List.mem_of_getElem? (i := 2) rfl) dX11_go_23 ?_
      refine lv_iload_n hx hb dX11_go_26 rfl (lv_at hl 2 rfl) ?_
      obtain ⟨z24, h⟩ := x_ix h
      refine r_iald cx w hLq23 hKq23 z24 dX11_go_27 ?_
      refine lv_iload_n hx hb dX11_go_28 rfl (lv_at hl 4 rfl) ?_
      refine lv_icmp_lt (tgt := 71) hx hb dX11_go_29 (by decide) (fun k25 => ?_) (fun k25 => ?_)
      · have h := x_t h k25
        exact b_X11_go_71 cx hkn hL0 hK0 (hkb2 := ih) M v3 q22 x21 H locs ls hLq22 hKq22 h w (lv_sub hl [1, 2, 3, 4] rfl)
      · have h := x_f h k25
        refine lv_aload_n hx hb dX11_go_32 rfl (lv_at hl 1 rfl) ?_
        obtain ⟨q26, eq26, h⟩ := x_rf h
        obtain ⟨hLq26, hKq26⟩ := wt_q hG hL0 hK0 eq26
        have hKq26 : gK G q26 = 12 := hKq26
        refine r_getR (k := 12) cx w hL0 hK0 (by decide) rfl wi_X11_go_X11 (by decide) rfl eq26 (List.mem_of_getElem? (i := 3) rfl) dX11_go_33 ?_
        refine lv_sipush (v := (128 : Int32)) hx hb dX11_go_36 (by decide) ?_
        refine lv_iload_n hx hb dX11_go_39 rfl (lv_at hl 2 rfl) ?_
        refine lv_imul hx hb dX11_go_40 ?_
        refine lv_aload_n hx hb dX11_go_41 rfl (lv_at hl 1 rfl) ?_
        obtain ⟨q27, eq27, h⟩ := x_rf h
        obtain ⟨hLq27, hKq27⟩ := wt_q hG hL0 hK0 eq27
        have hKq27 : gK G q27 = 12 := hKq27
        refine r_getR (k := 11) cx w hL0 hK0 (by decide) rfl wi_X11_go_X11 (by decide) rfl eq27 (List.mem_of_getElem? (i := 2) rfl) dX11_go_42 ?_
        refine lv_iload_n hx hb dX11_go_45 rfl (lv_at hl 2 rfl) ?_
        obtain ⟨z28, h⟩ := x_ix h
        refine r_iald cx w hLq27 hKq27 z28 dX11_go_46 ?_
        refine lv_iload_n hx hb dX11_go_47 rfl (lv_at hl 4 rfl) ?_
        refine lv_isub hx hb dX11_go_48 ?_
        refine lv_sipush (v := (128 : Int32)) hx hb dX11_go_49 (by decide) ?_
        obtain ⟨z29, h⟩ := x_ck h
        refine lv_irem hx hb dX11_go_52 z29 ?_
        refine lv_iadd hx hb dX11_go_53 ?_
        obtain ⟨z30, h⟩ := x_ix h
        refine r_iald cx w hLq26 hKq26 z30 dX11_go_54 ?_
        refine lv_iload_n hx hb dX11_go_55 rfl (lv_at hl 3 rfl) ?_
        refine lv_icmp_ne (tgt := 71) hx hb dX11_go_56 (by decide) (fun k31 => ?_) (fun k31 => ?_)
        · have h := x_f h k31
          exact b_X11_go_71 cx hkn hL0 hK0 (hkb2 := ih) M v3 q22 x21 H locs ls hLq22 hKq22 h w (lv_sub hl [1, 2, 3, 4] rfl)
        · have h := x_t h k31
          refine lv_aload_n hx hb dX11_go_59 rfl (lv_at hl 1 rfl) ?_
          obtain ⟨q32, eq32, h⟩ := x_rf h
          obtain ⟨hLq32, hKq32⟩ := wt_q hG hL0 hK0 eq32
          have hKq32 : gK G q32 = 12 := hKq32
          refine r_getR (k := 13) cx w hL0 hK0 (by decide) rfl wi_X11_go_X11 (by decide) rfl eq32 (List.mem_of_getElem? (i := 1) rfl) dX11_go_60 ?_
          refine lv_iload hx hb dX11_go_63 (lv_at hl 0 rfl) ?_
          obtain ⟨z33, h⟩ := x_ix h
          refine r_iald cx w hLq32 hKq32 z33 dX11_go_65 ?_
          refine lv_iconst (v := (1 : Int32)) hx hb dX11_go_66 (by decide) ?_
          refine lv_iadd hx hb dX11_go_67 ?_
          refine lv_goto (tgt := 72) hx hb dX11_go_68 (by decide) ?_
          exact b_X11_go_72 cx hkn hL0 hK0 (hkb2 := ih) M v3 q22 x21 (((mI M q32 (Int32.toNatClampNeg x21)) + (1 : Int32))) H locs ls hLq22 hKq22 h w (lv_sub hl [1, 2, 3, 4] rfl)
set_option maxHeartbeats 4000000 in
set_option maxRecDepth 100000 in
theorem k_X11_go {l : Launch} {D : va_G} {cy : cyS} {G : gS} {M M' : mS} {a0 : Nat} {c1 : Int32} {c2 : Int32} (hG : wt G) (hL0 : a0 ∈ gL G) (hK0 : gK G a0 = 10) (h : m_X11_go G M a0 c1 c2 = some (M', ())) : ctV l yX11_go wsX11_go rmX11_go D cy G M [.ref a0, .int c1, .int c2] M' := by
  unfold m_X11_go at h
  refine ctV_of (cc := cX11_go) (nL := 5) (ret := none) (lv := [(0, .ref a0), (1, .int c1), (2, .int c2)]) hG (by decide) rfl ⟨rfl, rfl⟩ (Nat.le_of_ble_eq_true rfl) rfl ?_
  intro p e s m args below meth c A ls cx w hl
  obtain ⟨hx, hb, hml, hown, hts, hr, hlocks, hK, hA, -, hsx⟩ := id cx
  have hkn : 0 ≤ (rmX11_go).cells ∧ 0 ≤ (rmX11_go).slots := ⟨Nat.zero_le _, Nat.zero_le _⟩
  refine lv_iconst (v := (1 : Int32)) hx hb dX11_go_0 (by decide) ?_
  refine lv_istore_n (lv' := [(3, .int ((1 : Int32))), (0, .ref a0), (1, .int c1), (2, .int c2)]) hx hb dX11_go_1 rfl hl (by decide) rfl (fun ls hl => ?_)
  exact b_X11_go_2 cx hkn hL0 hK0 fu M ((1 : Int32)) s.heap [] ls h w (lv_sub hl [1, 2, 3, 0] rfl)
-- X11_isAnyOnHighway
theorem wi_X11_isAnyOnHighway_X10 : ∀ w ∈ wsX100, w ∈ wsX11_isAnyOnHighway := by decide +kernel
theorem wi_X11_isAnyOnHighway_X11 : ∀ w ∈ wsX110, w ∈ wsX11_isAnyOnHighway := by decide +kernel
theorem wi_X11_isAnyOnHighway_X12 : ∀ w ∈ wsX120, w ∈ wsX11_isAnyOnHighway := by decide +kernel
abbrev rmX11_isAnyOnHighway : Room := { frames := 2, cells := 0, slots := 0, locals := 48 }
def m_X11_isAnyOnHighway_2 (G : gS) (a0 : Nat)  : Nat → mS → Int32 → Option (mS × Int32)
  | 0, _, _ => none
  | n + 1, M, v1 => o_rf (gP G a0 15) (fun q1 => o_rf (gP G q1 11) (fun q2 => (if (mI M q2 3) ≤ v1 then o_ck ((0 : Int32) = 0 ∨ (0 : Int32) = 1) (some (M, (0 : Int32))) else o_cl (m_X11_period G M a0 v1) (fun M5 r6 => (if r6 ≤ 0 then o_bd (v1 + 1 : Int32) (fun x9 => m_X11_isAnyOnHighway_2 G a0 n M5 x9) else o_ck ((1 : Int32) = 0 ∨ (1 : Int32) = 1) (some (M5, (1 : Int32))))))))
def m_X11_isAnyOnHighway (G : gS) (M : mS) (a0 : Nat) : Option (mS × Int32) := m_X11_isAnyOnHighway_2 G a0 fu M ((0 : Int32))
set_option maxHeartbeats 4000000 in
set_option maxRecDepth 100000 in
theorem b_X11_isAnyOnHighway_2 {p : Program} {e : Env} {s : State} {m : MethodId} {args : Array Value} {below : List Frame} {meth : Method} {c : Code} {A : Nat → Prop} {l : Launch} {D : va_G} {cy : cyS} {G : gS} (cx : cX p s m args meth c cX11_isAnyOnHighway RX11 2 (some .boolean) wsX11_isAnyOnHighway D cy G A) {k0 n0 : Nat} (hkn : k0 ≤ (rmX11_isAnyOnHighway).cells ∧ n0 ≤ (rmX11_isAnyOnHighway).slots) {M' : mS} {r : Int32} {a0 : Nat} (hL0 : a0 ∈ gL G) (hK0 : gK G a0 = 10)  : ∀ (n : Nat), ∀ (M : mS) (v1 : Int32) (H : Heap) (locs : List Loc) (ls : Array Slot), m_X11_isAnyOnHighway_2 G a0 n M v1 = some (M', r) → wd D cy G M A s.heap H locs → lv_has ls 2 [(0, .ref a0), (1, .int v1)] → W p l e rmX11_isAnyOnHighway s m args below meth c H locs k0 n0 (MQ below (va_Qi (fun (r' : Int32) (_ : Unit) => r' = r) (fun _ t => wOut D cy G M' t) A) args s k0 n0 A) (F0 m 2 ls []) := by
  obtain ⟨hx, hb, hml, hown, hts, hr, hlocks, hK, hA, hG, hsx⟩ := id cx
  intro n
  induction n with
  | zero =>
    intro M v1 H locs ls h w hl
    have h : none = some _ := h
    cases h
  | succ n ih =>
    intro M v1 H locs ls h w hl
    rw [m_X11_isAnyOnHighway_2] at h
    refine lv_iload_n hx hb dX11_isAnyOnHighway_2 rfl (lv_at hl 1 rfl) ?_
    refine lv_aload_n hx hb dX11_isAnyOnHighway_3 rfl (lv_at hl 0 rfl) ?_
    obtain ⟨q1, eq1, h⟩ := x_rf h
    obtain ⟨hLq1, hKq1⟩ := wt_q hG hL0 hK0 eq1
    have hKq1 : gK G q1 = 11 := hKq1
    refine r_getR (k := 15) cx w hL0 hK0 (by decide) rfl wi_X11_isAnyOnHighway_X11 (by decide) rfl eq1 (List.mem_of_getElem? (i := 1) rfl) dX11_isAnyOnHighway_4 ?_
    obtain ⟨q2, eq2, h⟩ := x_rf h
    obtain ⟨hLq2, hKq2⟩ := wt_q hG hLq1 hKq1 eq2
    have hKq2 : gK G q2 = 9 := hKq2
    refine r_getRN (k := 11) cx w hLq1 hKq1 (by decide) rfl wi_X11_isAnyOnHighway_X12 (by decide) rfl eq2 (nwF cx (q := (RX11, 72, "FlagAntsModel", "plan", "LFlagAntsModel$Plan;", "FlagAntsModel")) (List.mem_of_getElem? (i := 30) rfl)) dX11_isAnyOnHighway_7 ?_
    refine r_getIN (k := 3) (v := .int (mI M q2 3)) cx w hLq2 hKq2 (by decide) rfl wi_X11_isAnyOnHighway_X10 (by decide) rfl (nwF cx (q := (RX11, 106, "FlagAntsModel$Plan", "ants", "I", "FlagAntsModel")) (List.mem_of_getElem? (i := 38) rfl)) dX11_isAnyOnHighway_10 ?_
    refine lv_icmp_ge (tgt := 32) hx hb dX11_isAnyOnHighway_13 (by decide) (fun k3 => ?_) (fun k3 => ?_)
    · have h := x_t h k3
      refine lv_iconst (v := (0 : Int32)) hx hb dX11_isAnyOnHighway_32 (by decide) ?_
      obtain ⟨z4, h⟩ := x_ck h
      exact r_zret cx w z4 h dX11_isAnyOnHighway_33
    · have h := x_f h k3
      refine lv_aload_n hx hb dX11_isAnyOnHighway_16 rfl (lv_at hl 0 rfl) ?_
      refine lv_iload_n hx hb dX11_isAnyOnHighway_17 rfl (lv_at hl 1 rfl) ?_
      obtain ⟨M5, r6, y7, h⟩ := x_cl h
      refine r_callVi (As := [.int v1]) (rest := []) cx w hkn hl.1 (k_X11_period hG hL0 hK0 y7) (cwV 1 hts gX11_isAnyOnHighway_X11_period rfl rfl rfl (by decide +kernel) ⟨Nat.le_of_ble_eq_true rfl, Nat.le_of_ble_eq_true rfl⟩) hL0 hK0 (by decide) rfl rfl rfl (Nat.le_of_ble_eq_true rfl) dX11_isAnyOnHighway_18 (fun H locs w => ?_)
      refine lv_if_le (tgt := 26) hx hb dX11_isAnyOnHighway_21 (by decide) (fun k8 => ?_) (fun k8 => ?_)
      · have h := x_t h k8
        obtain ⟨x9, ex9, h⟩ := x_bd h
        refine lv_iinc (v := x9) (lv' := [(1, .int x9), (0, .ref a0)]) hx hb dX11_isAnyOnHighway_26 hl (k := 1) rfl (by rw [ex9]; rfl) (by decide) rfl (fun ls hl => ?_)
        refine lv_goto (tgt := 2) hx hb dX11_isAnyOnHighway_29 (by decide) ?_
        exact ih M5 x9 H locs ls h w (lv_sub hl [1, 0] rfl)
      · have h := x_f h k8
        refine lv_iconst (v := (1 : Int32)) hx hb dX11_isAnyOnHighway_24 (by decide) ?_
        obtain ⟨z10, h⟩ := x_ck h
        exact r_zret cx w z10 h dX11_isAnyOnHighway_25
set_option maxHeartbeats 4000000 in
set_option maxRecDepth 100000 in
theorem k_X11_isAnyOnHighway {l : Launch} {D : va_G} {cy : cyS} {G : gS} {M M' : mS} {r : Int32} {a0 : Nat} (hG : wt G) (hL0 : a0 ∈ gL G) (hK0 : gK G a0 = 10) (h : m_X11_isAnyOnHighway G M a0 = some (M', r)) : ctI l yX11_isAnyOnHighway wsX11_isAnyOnHighway rmX11_isAnyOnHighway D cy G M [.ref a0] M' r := by
  unfold m_X11_isAnyOnHighway at h
  refine ctI_of (cc := cX11_isAnyOnHighway) (nL := 2) (ret := (some .boolean)) (lv := [(0, .ref a0)]) hG (by decide) rfl ⟨rfl, rfl⟩ (Nat.le_of_ble_eq_true rfl) rfl ?_
  intro p e s m args below meth c A ls cx w hl
  obtain ⟨hx, hb, hml, hown, hts, hr, hlocks, hK, hA, -, hsx⟩ := id cx
  have hkn : 0 ≤ (rmX11_isAnyOnHighway).cells ∧ 0 ≤ (rmX11_isAnyOnHighway).slots := ⟨Nat.zero_le _, Nat.zero_le _⟩
  refine lv_iconst (v := (0 : Int32)) hx hb dX11_isAnyOnHighway_0 (by decide) ?_
  refine lv_istore_n (lv' := [(1, .int ((0 : Int32))), (0, .ref a0)]) hx hb dX11_isAnyOnHighway_1 rfl hl (by decide) rfl (fun ls hl => ?_)
  exact b_X11_isAnyOnHighway_2 cx hkn hL0 hK0 fu M ((0 : Int32)) s.heap [] ls h w (lv_sub hl [1, 0] rfl)
-- X11_paint
theorem wi_X11_paint_X11 : ∀ w ∈ wsX110, w ∈ wsX11_paint := by decide +kernel
abbrev rmX11_paint : Room := { frames := 0, cells := 0, slots := 0, locals := 0 }
def m_X11_paint_33 (G : gS) (a0 : Nat) (c1 : Int32) (c2 : Int32)  (M : mS) (s0 : Nat) (s1 : Int32) (s2 : Int32) (s3 : Int32) (s4 : Int32) : Option (mS × Unit) := o_ix s1 (gN G s0) (o_wI M s0 (Int32.toNatClampNeg s1) (s2 + (s3 - s4)) (fun M2 => o_rf (gP G a0 4) (fun q3 => o_ix c1 (gN G q3) (o_wI M2 q3 (Int32.toNatClampNeg c1) c2 (fun M5 => some (M5, ()))))))
def m_X11_paint_19 (G : gS) (a0 : Nat) (c1 : Int32) (c2 : Int32)  (M : mS) (s0 : Nat) (s1 : Int32) (s2 : Int32) (s3 : Int32) : Option (mS × Unit) := o_rf (gP G a0 4) (fun q1 => o_ix c1 (gN G q1) ((if (mI M q1 (Int32.toNatClampNeg c1)) ≤ 0 then m_X11_paint_33 G a0 c1 c2 M s0 s1 s2 s3 ((0 : Int32)) else m_X11_paint_33 G a0 c1 c2 M s0 s1 s2 s3 ((1 : Int32)))))
def m_X11_paint (G : gS) (M : mS) (a0 : Nat) (c1 : Int32) (c2 : Int32) : Option (mS × Unit) := o_rf (gP G a0 5) (fun q1 => o_ck (¬ (64 : Int32) = 0) (o_ix (c1 / (64 : Int32)) (gN G q1) ((if c2 ≤ 0 then m_X11_paint_19 G a0 c1 c2 M q1 ((c1 / (64 : Int32))) ((mI M q1 (Int32.toNatClampNeg (c1 / (64 : Int32))))) ((0 : Int32)) else m_X11_paint_19 G a0 c1 c2 M q1 ((c1 / (64 : Int32))) ((mI M q1 (Int32.toNatClampNeg (c1 / (64 : Int32))))) ((1 : Int32))))))
set_option maxHeartbeats 4000000 in
set_option maxRecDepth 100000 in
theorem b_X11_paint_33 {p : Program} {e : Env} {s : State} {m : MethodId} {args : Array Value} {below : List Frame} {meth : Method} {c : Code} {A : Nat → Prop} {l : Launch} {D : va_G} {cy : cyS} {G : gS} (cx : cX p s m args meth c cX11_paint RX11 3 none wsX11_paint D cy G A) {k0 n0 : Nat} (hkn : k0 ≤ (rmX11_paint).cells ∧ n0 ≤ (rmX11_paint).slots) {M' : mS} {a0 : Nat} {c1 : Int32} {c2 : Int32} (hL0 : a0 ∈ gL G) (hK0 : gK G a0 = 10)  : ∀ (M : mS) (s0 : Nat) (s1 : Int32) (s2 : Int32) (s3 : Int32) (s4 : Int32) (H : Heap) (locs : List Loc) (ls : Array Slot), s0 ∈ gL G → gK G s0 = 12 → m_X11_paint_33 G a0 c1 c2 M s0 s1 s2 s3 s4 = some (M', ()) → wd D cy G M A s.heap H locs → lv_has ls 3 [(0, .ref a0), (1, .int c1), (2, .int c2)] → W p l e rmX11_paint s m args below meth c H locs k0 n0 (MQ below (va_Qv (fun (_ : Unit) => True) (fun _ t => wOut D cy G M' t) A) args s k0 n0 A) (F0 m 33 ls [.int s4, .int s3, .int s2, .int s1, .ref s0]) := by
  obtain ⟨hx, hb, hml, hown, hts, hr, hlocks, hK, hA, hG, hsx⟩ := id cx
  intro M s0 s1 s2 s3 s4 H locs ls sL0 sK0 h w hl
  unfold m_X11_paint_33 at h
  refine lv_isub hx hb dX11_paint_33 ?_
  refine lv_iadd hx hb dX11_paint_34 ?_
  obtain ⟨z1, h⟩ := x_ix h
  obtain ⟨M2, eM2, h⟩ := x_wI h
  refine r_iast cx w sL0 sK0 z1 dX11_paint_35 eM2 (fun H locs w => ?_)
  refine lv_aload_n hx hb dX11_paint_36 rfl (lv_at hl 0 rfl) ?_
  obtain ⟨q3, eq3, h⟩ := x_rf h
  obtain ⟨hLq3, hKq3⟩ := wt_q hG hL0 hK0 eq3
  have hKq3 : gK G q3 = 12 := hKq3
  refine r_getR (k := 4) cx w hL0 hK0 (by decide) rfl wi_X11_paint_X11 (by decide) rfl eq3 (List.mem_of_getElem? (i := 2) rfl) dX11_paint_37 ?_
  refine lv_iload_n hx hb dX11_paint_40 rfl (lv_at hl 1 rfl) ?_
  refine lv_iload_n hx hb dX11_paint_41 rfl (lv_at hl 2 rfl) ?_
  obtain ⟨z4, h⟩ := x_ix h
  obtain ⟨M5, eM5, h⟩ := x_wI h
  refine r_iast cx w hLq3 hKq3 z4 dX11_paint_42 eM5 (fun H locs w => ?_)
  exact r_vret cx w h dX11_paint_43
set_option maxHeartbeats 4000000 in
set_option maxRecDepth 100000 in
theorem b_X11_paint_19 {p : Program} {e : Env} {s : State} {m : MethodId} {args : Array Value} {below : List Frame} {meth : Method} {c : Code} {A : Nat → Prop} {l : Launch} {D : va_G} {cy : cyS} {G : gS} (cx : cX p s m args meth c cX11_paint RX11 3 none wsX11_paint D cy G A) {k0 n0 : Nat} (hkn : k0 ≤ (rmX11_paint).cells ∧ n0 ≤ (rmX11_paint).slots) {M' : mS} {a0 : Nat} {c1 : Int32} {c2 : Int32} (hL0 : a0 ∈ gL G) (hK0 : gK G a0 = 10)  : ∀ (M : mS) (s0 : Nat) (s1 : Int32) (s2 : Int32) (s3 : Int32) (H : Heap) (locs : List Loc) (ls : Array Slot), s0 ∈ gL G → gK G s0 = 12 → m_X11_paint_19 G a0 c1 c2 M s0 s1 s2 s3 = some (M', ()) → wd D cy G M A s.heap H locs → lv_has ls 3 [(0, .ref a0), (1, .int c1), (2, .int c2)] → W p l e rmX11_paint s m args below meth c H locs k0 n0 (MQ below (va_Qv (fun (_ : Unit) => True) (fun _ t => wOut D cy G M' t) A) args s k0 n0 A) (F0 m 19 ls [.int s3, .int s2, .int s1, .ref s0]) := by
  obtain ⟨hx, hb, hml, hown, hts, hr, hlocks, hK, hA, hG, hsx⟩ := id cx
  intro M s0 s1 s2 s3 H locs ls sL0 sK0 h w hl
  unfold m_X11_paint_19 at h
  refine lv_aload_n hx hb dX11_paint_19 rfl (lv_at hl 0 rfl) ?_
  obtain ⟨q1, eq1, h⟩ := x_rf h
  obtain ⟨hLq1, hKq1⟩ := wt_q hG hL0 hK0 eq1
  have hKq1 : gK G q1 = 12 := hKq1
  refine r_getR (k := 4) cx w hL0 hK0 (by decide) rfl wi_X11_paint_X11 (by decide) rfl eq1 (List.mem_of_getElem? (i := 2) rfl) dX11_paint_20 ?_
  refine lv_iload_n hx hb dX11_paint_23 rfl (lv_at hl 1 rfl) ?_
  obtain ⟨z2, h⟩ := x_ix h
  refine r_iald cx w hLq1 hKq1 z2 dX11_paint_24 ?_
  refine lv_if_le (tgt := 32) hx hb dX11_paint_25 (by decide) (fun k3 => ?_) (fun k3 => ?_)
  · have h := x_t h k3
    refine lv_iconst (v := (0 : Int32)) hx hb dX11_paint_32 (by decide) ?_
    exact b_X11_paint_33 cx hkn hL0 hK0 M s0 s1 s2 s3 ((0 : Int32)) H locs ls sL0 sK0 h w (lv_sub hl [0, 1, 2] rfl)
  · have h := x_f h k3
    refine lv_iconst (v := (1 : Int32)) hx hb dX11_paint_28 (by decide) ?_
    refine lv_goto (tgt := 33) hx hb dX11_paint_29 (by decide) ?_
    exact b_X11_paint_33 cx hkn hL0 hK0 M s0 s1 s2 s3 ((1 : Int32)) H locs ls sL0 sK0 h w (lv_sub hl [0, 1, 2] rfl)
set_option maxHeartbeats 4000000 in
set_option maxRecDepth 100000 in
theorem k_X11_paint {l : Launch} {D : va_G} {cy : cyS} {G : gS} {M M' : mS} {a0 : Nat} {c1 : Int32} {c2 : Int32} (hG : wt G) (hL0 : a0 ∈ gL G) (hK0 : gK G a0 = 10) (h : m_X11_paint G M a0 c1 c2 = some (M', ())) : ctV l yX11_paint wsX11_paint rmX11_paint D cy G M [.ref a0, .int c1, .int c2] M' := by
  unfold m_X11_paint at h
  refine ctV_of (cc := cX11_paint) (nL := 3) (ret := none) (lv := [(0, .ref a0), (1, .int c1), (2, .int c2)]) hG (by decide) rfl ⟨rfl, rfl⟩ (Nat.le_of_ble_eq_true rfl) rfl ?_
  intro p e s m args below meth c A ls cx w hl
  obtain ⟨hx, hb, hml, hown, hts, hr, hlocks, hK, hA, -, hsx⟩ := id cx
  have hkn : 0 ≤ (rmX11_paint).cells ∧ 0 ≤ (rmX11_paint).slots := ⟨Nat.zero_le _, Nat.zero_le _⟩
  refine lv_aload_n hx hb dX11_paint_0 rfl (lv_at hl 0 rfl) ?_
  obtain ⟨q1, eq1, h⟩ := x_rf h
  obtain ⟨hLq1, hKq1⟩ := wt_q hG hL0 hK0 eq1
  have hKq1 : gK G q1 = 12 := hKq1
  refine r_getR (k := 5) cx w hL0 hK0 (by decide) rfl wi_X11_paint_X11 (by decide) rfl eq1 (List.mem_of_getElem? (i := 1) rfl) dX11_paint_1 ?_
  refine lv_iload_n hx hb dX11_paint_4 rfl (lv_at hl 1 rfl) ?_
  refine lv_bipush (v := (64 : Int32)) hx hb dX11_paint_5 (by decide) ?_
  obtain ⟨z2, h⟩ := x_ck h
  refine lv_idiv hx hb dX11_paint_7 z2 ?_
  refine lv_dup2_11 hx hb dX11_paint_8 rfl rfl ?_
  obtain ⟨z3, h⟩ := x_ix h
  refine r_iald cx w hLq1 hKq1 z3 dX11_paint_9 ?_
  refine lv_iload_n hx hb dX11_paint_10 rfl (lv_at hl 2 rfl) ?_
  refine lv_if_le (tgt := 18) hx hb dX11_paint_11 (by decide) (fun k4 => ?_) (fun k4 => ?_)
  · have h := x_t h k4
    refine lv_iconst (v := (0 : Int32)) hx hb dX11_paint_18 (by decide) ?_
    exact b_X11_paint_19 cx hkn hL0 hK0 M q1 ((c1 / (64 : Int32))) ((mI M q1 (Int32.toNatClampNeg (c1 / (64 : Int32))))) ((0 : Int32)) s.heap [] ls hLq1 hKq1 h w (lv_sub hl [0, 1, 2] rfl)
  · have h := x_f h k4
    refine lv_iconst (v := (1 : Int32)) hx hb dX11_paint_14 (by decide) ?_
    refine lv_goto (tgt := 19) hx hb dX11_paint_15 (by decide) ?_
    exact b_X11_paint_19 cx hkn hL0 hK0 M q1 ((c1 / (64 : Int32))) ((mI M q1 (Int32.toNatClampNeg (c1 / (64 : Int32))))) ((1 : Int32)) s.heap [] ls hLq1 hKq1 h w (lv_sub hl [0, 1, 2] rfl)
-- X11_wash
theorem wi_X11_wash_X11 : ∀ w ∈ wsX110, w ∈ wsX11_wash := by decide +kernel
abbrev rmX11_wash : Room := { frames := 1, cells := 0, slots := 0, locals := 22 }
def m_X11_wash_60 (G : gS) (a0 : Nat) (c1 : Int32) (c2 : Int32) (kb5 : mS → Int32 → Int32 → Option (mS × Int32)) (M : mS) (v3 : Int32) (v4 : Int32) : Option (mS × Int32) := o_bd (v4 + 1 : Int32) (fun x1 => kb5 M v3 x1)
def m_X11_wash_24 (G : gS) (a0 : Nat) (c1 : Int32) (c2 : Int32) (kb5 : mS → Int32 → Int32 → Option (mS × Int32)) : Nat → mS → Int32 → Int32 → Int32 → Option (mS × Int32)
  | 0, _, _, _, _ => none
  | n + 1, M, v3, v4, v5 => (if (64 : Int32) ≤ v5 then m_X11_wash_60 G a0 c1 c2 kb5 M v3 v4 else o_rf (gP G a0 5) (fun q2 => o_ix v4 (gN G q2) ((if (mI M q2 (Int32.toNatClampNeg v4)) ≤ 0 then m_X11_wash_60 G a0 c1 c2 kb5 M v3 v4 else o_cl (m_X11_paint G M a0 (((64 : Int32) * v4) + v5) (0 : Int32)) (fun M5 r6 => o_bd (v5 + 1 : Int32) (fun x8 => m_X11_wash_24 G a0 c1 c2 kb5 n M5 v3 v4 x8))))))
def m_X11_wash_5 (G : gS) (a0 : Nat) (c1 : Int32) (c2 : Int32)  : Nat → mS → Int32 → Int32 → Option (mS × Int32)
  | 0, _, _, _ => none
  | n + 1, M, v3, v4 => (if c2 < v4 then o_wI M a0 2 ((mI M a0 2) + v3) (fun M2 => some (M2, v3)) else o_rf (gP G a0 5) (fun q3 => o_ix v4 (gN G q3) (o_bd ((v3 + (mI M q3 (Int32.toNatClampNeg v4)))) (fun x5 => m_X11_wash_24 G a0 c1 c2 (fun M v3 v4 => m_X11_wash_5 G a0 c1 c2 n M v3 v4) fu M x5 v4 ((0 : Int32))))))
def m_X11_wash (G : gS) (M : mS) (a0 : Nat) (c1 : Int32) (c2 : Int32) : Option (mS × Int32) := m_X11_wash_5 G a0 c1 c2 fu M ((0 : Int32)) c1
set_option maxHeartbeats 4000000 in
set_option maxRecDepth 100000 in
theorem b_X11_wash_60 {p : Program} {e : Env} {s : State} {m : MethodId} {args : Array Value} {below : List Frame} {meth : Method} {c : Code} {A : Nat → Prop} {l : Launch} {D : va_G} {cy : cyS} {G : gS} (cx : cX p s m args meth c cX11_wash RX11 6 (some .int) wsX11_wash D cy G A) {k0 n0 : Nat} (hkn : k0 ≤ (rmX11_wash).cells ∧ n0 ≤ (rmX11_wash).slots) {M' : mS} {r : Int32} {a0 : Nat} {c1 : Int32} {c2 : Int32} (hL0 : a0 ∈ gL G) (hK0 : gK G a0 = 10) {kb5 : mS → Int32 → Int32 → Option (mS × Int32)} (hkb5 : ∀ (M : mS) (v3 : Int32) (v4 : Int32) (H : Heap) (locs : List Loc) (ls : Array Slot), kb5 M v3 v4 = some (M', r) → wd D cy G M A s.heap H locs → lv_has ls 6 [(0, .ref a0), (2, .int c2), (3, .int v3), (4, .int v4)] → W p l e rmX11_wash s m args below meth c H locs k0 n0 (MQ below (va_Qi (fun (r' : Int32) (_ : Unit) => r' = r) (fun _ t => wOut D cy G M' t) A) args s k0 n0 A) (F0 m 5 ls [])) : ∀ (M : mS) (v3 : Int32) (v4 : Int32) (H : Heap) (locs : List Loc) (ls : Array Slot), m_X11_wash_60 G a0 c1 c2 kb5 M v3 v4 = some (M', r) → wd D cy G M A s.heap H locs → lv_has ls 6 [(0, .ref a0), (2, .int c2), (3, .int v3), (4, .int v4)] → W p l e rmX11_wash s m args below meth c H locs k0 n0 (MQ below (va_Qi (fun (r' : Int32) (_ : Unit) => r' = r) (fun _ t => wOut D cy G M' t) A) args s k0 n0 A) (F0 m 60 ls []) := by
  obtain ⟨hx, hb, hml, hown, hts, hr, hlocks, hK, hA, hG, hsx⟩ := id cx
  intro M v3 v4 H locs ls h w hl
  unfold m_X11_wash_60 at h
  obtain ⟨x1, ex1, h⟩ := x_bd h
  refine lv_iinc (v := x1) (lv' := [(4, .int x1), (0, .ref a0), (2, .int c2), (3, .int v3)]) hx hb dX11_wash_60 hl (k := 3) rfl (by rw [ex1]; rfl) (by decide) rfl (fun ls hl => ?_)
  refine lv_goto (tgt := 5) hx hb dX11_wash_63 (by decide) ?_
  exact hkb5 M v3 x1 H locs ls h w (lv_sub hl [1, 2, 3, 0] rfl)
set_option maxHeartbeats 4000000 in
set_option maxRecDepth 100000 in
theorem b_X11_wash_24 {p : Program} {e : Env} {s : State} {m : MethodId} {args : Array Value} {below : List Frame} {meth : Method} {c : Code} {A : Nat → Prop} {l : Launch} {D : va_G} {cy : cyS} {G : gS} (cx : cX p s m args meth c cX11_wash RX11 6 (some .int) wsX11_wash D cy G A) {k0 n0 : Nat} (hkn : k0 ≤ (rmX11_wash).cells ∧ n0 ≤ (rmX11_wash).slots) {M' : mS} {r : Int32} {a0 : Nat} {c1 : Int32} {c2 : Int32} (hL0 : a0 ∈ gL G) (hK0 : gK G a0 = 10) {kb5 : mS → Int32 → Int32 → Option (mS × Int32)} (hkb5 : ∀ (M : mS) (v3 : Int32) (v4 : Int32) (H : Heap) (locs : List Loc) (ls : Array Slot), kb5 M v3 v4 = some (M', r) → wd D cy G M A s.heap H locs → lv_has ls 6 [(0, .ref a0), (2, .int c2), (3, .int v3), (4, .int v4)] → W p l e rmX11_wash s m args below meth c H locs k0 n0 (MQ below (va_Qi (fun (r' : Int32) (_ : Unit) => r' = r) (fun _ t => wOut D cy G M' t) A) args s k0 n0 A) (F0 m 5 ls [])) : ∀ (n : Nat), ∀ (M : mS) (v3 : Int32) (v4 : Int32) (v5 : Int32) (H : Heap) (locs : List Loc) (ls : Array Slot), m_X11_wash_24 G a0 c1 c2 kb5 n M v3 v4 v5 = some (M', r) → wd D cy G M A s.heap H locs → lv_has ls 6 [(0, .ref a0), (2, .int c2), (3, .int v3), (4, .int v4), (5, .int v5)] → W p l e rmX11_wash s m args below meth c H locs k0 n0 (MQ below (va_Qi (fun (r' : Int32) (_ : Unit) => r' = r) (fun _ t => wOut D cy G M' t) A) args s k0 n0 A) (F0 m 24 ls []) := by
  obtain ⟨hx, hb, hml, hown, hts, hr, hlocks, hK, hA, hG, hsx⟩ := id cx
  intro n
  induction n with
  | zero =>
    intro M v3 v4 v5 H locs ls h w hl
    have h : none = some _ := h
    cases h
  | succ n ih =>
    intro M v3 v4 v5 H locs ls h w hl
    rw [m_X11_wash_24] at h
    refine lv_iload hx hb dX11_wash_24 (lv_at hl 4 rfl) ?_
    refine lv_bipush (v := (64 : Int32)) hx hb dX11_wash_26 (by decide) ?_
    refine lv_icmp_ge (tgt := 60) hx hb dX11_wash_28 (by decide) (fun k1 => ?_) (fun k1 => ?_)
    · have h := x_t h k1
      exact b_X11_wash_60 cx hkn hL0 hK0 (hkb5 := hkb5) M v3 v4 H locs ls h w (lv_sub hl [0, 1, 2, 3] rfl)
    · have h := x_f h k1
      refine lv_aload_n hx hb dX11_wash_31 rfl (lv_at hl 0 rfl) ?_
      obtain ⟨q2, eq2, h⟩ := x_rf h
      obtain ⟨hLq2, hKq2⟩ := wt_q hG hL0 hK0 eq2
      have hKq2 : gK G q2 = 12 := hKq2
      refine r_getR (k := 5) cx w hL0 hK0 (by decide) rfl wi_X11_wash_X11 (by decide) rfl eq2 (List.mem_of_getElem? (i := 1) rfl) dX11_wash_32 ?_
      refine lv_iload hx hb dX11_wash_35 (lv_at hl 3 rfl) ?_
      obtain ⟨z3, h⟩ := x_ix h
      refine r_iald cx w hLq2 hKq2 z3 dX11_wash_37 ?_
      refine lv_if_le (tgt := 60) hx hb dX11_wash_38 (by decide) (fun k4 => ?_) (fun k4 => ?_)
      · have h := x_t h k4
        exact b_X11_wash_60 cx hkn hL0 hK0 (hkb5 := hkb5) M v3 v4 H locs ls h w (lv_sub hl [0, 1, 2, 3] rfl)
      · have h := x_f h k4
        refine lv_aload_n hx hb dX11_wash_41 rfl (lv_at hl 0 rfl) ?_
        refine lv_bipush (v := (64 : Int32)) hx hb dX11_wash_42 (by decide) ?_
        refine lv_iload hx hb dX11_wash_44 (lv_at hl 3 rfl) ?_
        refine lv_imul hx hb dX11_wash_46 ?_
        refine lv_iload hx hb dX11_wash_47 (lv_at hl 4 rfl) ?_
        refine lv_iadd hx hb dX11_wash_49 ?_
        refine lv_iconst (v := (0 : Int32)) hx hb dX11_wash_50 (by decide) ?_
        obtain ⟨M5, r6, y7, h⟩ := x_cl h
        refine r_callVv (As := [.int ((((64 : Int32) * v4) + v5)), .int ((0 : Int32))]) (rest := []) cx w hkn hl.1 (k_X11_paint hG hL0 hK0 y7) (cwV 2 hts gX11_wash_X11_paint rfl rfl rfl (by decide +kernel) ⟨Nat.le_of_ble_eq_true rfl, Nat.le_of_ble_eq_true rfl⟩) hL0 hK0 (by decide) rfl rfl rfl (Nat.le_of_ble_eq_true rfl) dX11_wash_51 (fun H locs w => ?_)
        obtain ⟨x8, ex8, h⟩ := x_bd h
        refine lv_iinc (v := x8) (lv' := [(5, .int x8), (0, .ref a0), (2, .int c2), (3, .int v3), (4, .int v4)]) hx hb dX11_wash_54 hl (k := 4) rfl (by rw [ex8]; rfl) (by decide) rfl (fun ls hl => ?_)
        refine lv_goto (tgt := 24) hx hb dX11_wash_57 (by decide) ?_
        exact ih M5 v3 v4 x8 H locs ls h w (lv_sub hl [1, 2, 3, 4, 0] rfl)
set_option maxHeartbeats 4000000 in
set_option maxRecDepth 100000 in
theorem b_X11_wash_5 {p : Program} {e : Env} {s : State} {m : MethodId} {args : Array Value} {below : List Frame} {meth : Method} {c : Code} {A : Nat → Prop} {l : Launch} {D : va_G} {cy : cyS} {G : gS} (cx : cX p s m args meth c cX11_wash RX11 6 (some .int) wsX11_wash D cy G A) {k0 n0 : Nat} (hkn : k0 ≤ (rmX11_wash).cells ∧ n0 ≤ (rmX11_wash).slots) {M' : mS} {r : Int32} {a0 : Nat} {c1 : Int32} {c2 : Int32} (hL0 : a0 ∈ gL G) (hK0 : gK G a0 = 10)  : ∀ (n : Nat), ∀ (M : mS) (v3 : Int32) (v4 : Int32) (H : Heap) (locs : List Loc) (ls : Array Slot), m_X11_wash_5 G a0 c1 c2 n M v3 v4 = some (M', r) → wd D cy G M A s.heap H locs → lv_has ls 6 [(0, .ref a0), (2, .int c2), (3, .int v3), (4, .int v4)] → W p l e rmX11_wash s m args below meth c H locs k0 n0 (MQ below (va_Qi (fun (r' : Int32) (_ : Unit) => r' = r) (fun _ t => wOut D cy G M' t) A) args s k0 n0 A) (F0 m 5 ls []) := by
  obtain ⟨hx, hb, hml, hown, hts, hr, hlocks, hK, hA, hG, hsx⟩ := id cx
  intro n
  induction n with
  | zero =>
    intro M v3 v4 H locs ls h w hl
    have h : none = some _ := h
    cases h
  | succ n ih =>
    intro M v3 v4 H locs ls h w hl
    rw [m_X11_wash_5] at h
    refine lv_iload hx hb dX11_wash_5 (lv_at hl 3 rfl) ?_
    refine lv_iload_n hx hb dX11_wash_7 rfl (lv_at hl 1 rfl) ?_
    refine lv_icmp_gt (tgt := 66) hx hb dX11_wash_8 (by decide) (fun k1 => ?_) (fun k1 => ?_)
    · have h := x_t h k1
      refine lv_aload_n hx hb dX11_wash_66 rfl (lv_at hl 0 rfl) ?_
      refine lv_dup hx hb dX11_wash_67 rfl ?_
      refine r_getI (k := 2) (v := .int (mI M a0 2)) cx w hL0 hK0 (by decide) rfl wi_X11_wash_X11 (by decide) rfl (List.mem_of_getElem? (i := 2) rfl) dX11_wash_68 ?_
      refine lv_iload_n hx hb dX11_wash_71 rfl (lv_at hl 2 rfl) ?_
      refine lv_iadd hx hb dX11_wash_72 ?_
      obtain ⟨M2, eM2, h⟩ := x_wI h
      refine r_putI (k := 2) (ty := .int) cx w tyX11 tyX11_ok nmX11 hL0 hK0 (by decide) rfl wi_X11_wash_X11 (by decide) rfl rfl rfl rfl st_10_2 (ln_10 _ _ (by decide)) (List.mem_of_getElem? (i := 2) rfl) dX11_wash_73 eM2 (fun H locs w => ?_)
      refine lv_iload_n hx hb dX11_wash_76 rfl (lv_at hl 2 rfl) ?_
      exact r_iret cx w h dX11_wash_77
    · have h := x_f h k1
      refine lv_iload_n hx hb dX11_wash_11 rfl (lv_at hl 2 rfl) ?_
      refine lv_aload_n hx hb dX11_wash_12 rfl (lv_at hl 0 rfl) ?_
      obtain ⟨q3, eq3, h⟩ := x_rf h
      obtain ⟨hLq3, hKq3⟩ := wt_q hG hL0 hK0 eq3
      have hKq3 : gK G q3 = 12 := hKq3
      refine r_getR (k := 5) cx w hL0 hK0 (by decide) rfl wi_X11_wash_X11 (by decide) rfl eq3 (List.mem_of_getElem? (i := 1) rfl) dX11_wash_13 ?_
      refine lv_iload hx hb dX11_wash_16 (lv_at hl 3 rfl) ?_
      obtain ⟨z4, h⟩ := x_ix h
      refine r_iald cx w hLq3 hKq3 z4 dX11_wash_18 ?_
      refine lv_iadd hx hb dX11_wash_19 ?_
      obtain ⟨x5, ex5, h⟩ := x_bd h
      refine r_topI ex5 ?_
      refine lv_istore_n (lv' := [(3, .int x5), (0, .ref a0), (2, .int c2), (4, .int v4)]) hx hb dX11_wash_20 rfl hl (by decide) rfl (fun ls hl => ?_)
      refine lv_iconst (v := (0 : Int32)) hx hb dX11_wash_21 (by decide) ?_
      refine lv_istore (lv' := [(5, .int ((0 : Int32))), (3, .int x5), (0, .ref a0), (2, .int c2), (4, .int v4)]) hx hb dX11_wash_22 hl (by decide) rfl (fun ls hl => ?_)
      exact b_X11_wash_24 cx hkn hL0 hK0 (hkb5 := ih) fu M x5 v4 ((0 : Int32)) H locs ls h w (lv_sub hl [2, 3, 1, 4, 0] rfl)
set_option maxHeartbeats 4000000 in
set_option maxRecDepth 100000 in
theorem k_X11_wash {l : Launch} {D : va_G} {cy : cyS} {G : gS} {M M' : mS} {r : Int32} {a0 : Nat} {c1 : Int32} {c2 : Int32} (hG : wt G) (hL0 : a0 ∈ gL G) (hK0 : gK G a0 = 10) (h : m_X11_wash G M a0 c1 c2 = some (M', r)) : ctI l yX11_wash wsX11_wash rmX11_wash D cy G M [.ref a0, .int c1, .int c2] M' r := by
  unfold m_X11_wash at h
  refine ctI_of (cc := cX11_wash) (nL := 6) (ret := (some .int)) (lv := [(0, .ref a0), (1, .int c1), (2, .int c2)]) hG (by decide) rfl ⟨rfl, rfl⟩ (Nat.le_of_ble_eq_true rfl) rfl ?_
  intro p e s m args below meth c A ls cx w hl
  obtain ⟨hx, hb, hml, hown, hts, hr, hlocks, hK, hA, -, hsx⟩ := id cx
  have hkn : 0 ≤ (rmX11_wash).cells ∧ 0 ≤ (rmX11_wash).slots := ⟨Nat.zero_le _, Nat.zero_le _⟩
  refine lv_iconst (v := (0 : Int32)) hx hb dX11_wash_0 (by decide) ?_
  refine lv_istore_n (lv' := [(3, .int ((0 : Int32))), (0, .ref a0), (1, .int c1), (2, .int c2)]) hx hb dX11_wash_1 rfl hl (by decide) rfl (fun ls hl => ?_)
  refine lv_iload_n hx hb dX11_wash_2 rfl (lv_at hl 2 rfl) ?_
  refine lv_istore (lv' := [(4, .int c1), (3, .int ((0 : Int32))), (0, .ref a0), (1, .int c1), (2, .int c2)]) hx hb dX11_wash_3 hl (by decide) rfl (fun ls hl => ?_)
  exact b_X11_wash_5 cx hkn hL0 hK0 fu M ((0 : Int32)) c1 s.heap [] ls h w (lv_sub hl [2, 4, 1, 0] rfl)
-- X11_orders
theorem wi_X11_orders_X10 : ∀ w ∈ wsX100, w ∈ wsX11_orders := by decide +kernel
theorem wi_X11_orders_X11 : ∀ w ∈ wsX110, w ∈ wsX11_orders := by decide +kernel
theorem wi_X11_orders_X12 : ∀ w ∈ wsX120, w ∈ wsX11_orders := by decide +kernel
abbrev rmX11_orders : Room := { frames := 2, cells := 0, slots := 0, locals := 47 }
def m_X11_orders_123 (G : gS) (a0 : Nat) (c1 : Int32)  (M : mS) (v2 : Int32) (s0 : Int32) : Option (mS × Int32) := o_rf (gP G a0 9) (fun q1 => o_ix v2 (gN G q1) ((if (mI M q1 (Int32.toNatClampNeg v2)) = s0 then o_ck ((0 : Int32) = 0 ∨ (0 : Int32) = 1) (some (M, (0 : Int32))) else o_rf (gP G a0 9) (fun q4 => o_ix v2 (gN G q4) (o_wI M q4 (Int32.toNatClampNeg v2) s0 (fun M6 => o_ck ((1 : Int32) = 0 ∨ (1 : Int32) = 1) (some (M6, (1 : Int32)))))))))
def m_X11_orders (G : gS) (M : mS) (a0 : Nat) (c1 : Int32) : Option (mS × Int32) := o_rf (gP G a0 15) (fun q1 => o_rf (gP G q1 11) (fun q2 => o_rf (gP G q2 14) (fun q3 => o_ix c1 (gN G q3) (o_bd ((mI M q3 (Int32.toNatClampNeg c1))) (fun x5 => o_rf (gP G a0 15) (fun q6 => o_rf (gP G q6 11) (fun q7 => o_rf (gP G q7 15) (fun q8 => o_ix c1 (gN G q8) (o_bd ((mI M q8 (Int32.toNatClampNeg c1))) (fun x10 => o_rf (gP G a0 15) (fun q11 => o_rf (gP G q11 11) (fun q12 => o_rf (gP G q12 13) (fun q13 => o_ix c1 (gN G q13) ((if (mI M q13 (Int32.toNatClampNeg c1)) = (14 : Int32) then o_cl (m_X11_wash G M a0 x5 x10) (fun M37 r38 => (if r38 ≤ 0 then o_ck ((0 : Int32) = 0 ∨ (0 : Int32) = 1) (some (M37, (0 : Int32))) else o_ck ((1 : Int32) = 0 ∨ (1 : Int32) = 1) (some (M37, (1 : Int32))))) else o_rf (gP G a0 15) (fun q16 => o_rf (gP G q16 11) (fun q17 => o_rf (gP G q17 13) (fun q18 => o_ix c1 (gN G q18) ((if (mI M q18 (Int32.toNatClampNeg c1)) = (16 : Int32) then o_rf (gP G a0 8) (fun q26 => o_ix x5 (gN G q26) ((if (mI M q26 (Int32.toNatClampNeg x5)) = x10 then o_ck ((0 : Int32) = 0 ∨ (0 : Int32) = 1) (some (M, (0 : Int32))) else o_rf (gP G a0 8) (fun q29 => o_ix x5 (gN G q29) (o_wI M q29 (Int32.toNatClampNeg x5) x10 (fun M31 => o_cl (m_X11_forget G M31 a0 x5) (fun M32 r33 => o_ck ((1 : Int32) = 0 ∨ (1 : Int32) = 1) (some (M32, (1 : Int32)))))))))) else o_rf (gP G a0 15) (fun q21 => o_rf (gP G q21 11) (fun q22 => o_rf (gP G q22 13) (fun q23 => o_ix c1 (gN G q23) ((if (mI M q23 (Int32.toNatClampNeg c1)) = (17 : Int32) then m_X11_orders_123 G a0 c1 M x5 ((1 : Int32)) else m_X11_orders_123 G a0 c1 M x5 ((0 : Int32)))))))))))))))))))))))))))
set_option maxHeartbeats 4000000 in
set_option maxRecDepth 100000 in
theorem b_X11_orders_123 {p : Program} {e : Env} {s : State} {m : MethodId} {args : Array Value} {below : List Frame} {meth : Method} {c : Code} {A : Nat → Prop} {l : Launch} {D : va_G} {cy : cyS} {G : gS} (cx : cX p s m args meth c cX11_orders RX11 5 (some .boolean) wsX11_orders D cy G A) {k0 n0 : Nat} (hkn : k0 ≤ (rmX11_orders).cells ∧ n0 ≤ (rmX11_orders).slots) {M' : mS} {r : Int32} {a0 : Nat} {c1 : Int32} (hL0 : a0 ∈ gL G) (hK0 : gK G a0 = 10)  : ∀ (M : mS) (v2 : Int32) (s0 : Int32) (H : Heap) (locs : List Loc) (ls : Array Slot), m_X11_orders_123 G a0 c1 M v2 s0 = some (M', r) → wd D cy G M A s.heap H locs → lv_has ls 5 [(0, .ref a0), (2, .int v2)] → W p l e rmX11_orders s m args below meth c H locs k0 n0 (MQ below (va_Qi (fun (r' : Int32) (_ : Unit) => r' = r) (fun _ t => wOut D cy G M' t) A) args s k0 n0 A) (F0 m 123 ls [.int s0]) := by
  obtain ⟨hx, hb, hml, hown, hts, hr, hlocks, hK, hA, hG, hsx⟩ := id cx
  intro M v2 s0 H locs ls h w hl
  unfold m_X11_orders_123 at h
  refine lv_istore (lv' := [(4, .int s0), (0, .ref a0), (2, .int v2)]) hx hb dX11_orders_123 hl (by decide) rfl (fun ls hl => ?_)
  refine lv_aload_n hx hb dX11_orders_125 rfl (lv_at hl 1 rfl) ?_
  obtain ⟨q1, eq1, h⟩ := x_rf h
  obtain ⟨hLq1, hKq1⟩ := wt_q hG hL0 hK0 eq1
  have hKq1 : gK G q1 = 12 := hKq1
  refine r_getR (k := 9) cx w hL0 hK0 (by decide) rfl wi_X11_orders_X11 (by decide) rfl eq1 (List.mem_of_getElem? (i := 3) rfl) dX11_orders_126 ?_
  refine lv_iload_n hx hb dX11_orders_129 rfl (lv_at hl 2 rfl) ?_
  obtain ⟨z2, h⟩ := x_ix h
  refine r_iald cx w hLq1 hKq1 z2 dX11_orders_130 ?_
  refine lv_iload hx hb dX11_orders_131 (lv_at hl 0 rfl) ?_
  refine lv_icmp_ne (tgt := 138) hx hb dX11_orders_133 (by decide) (fun k3 => ?_) (fun k3 => ?_)
  · have h := x_f h k3
    refine lv_aload_n hx hb dX11_orders_138 rfl (lv_at hl 1 rfl) ?_
    obtain ⟨q4, eq4, h⟩ := x_rf h
    obtain ⟨hLq4, hKq4⟩ := wt_q hG hL0 hK0 eq4
    have hKq4 : gK G q4 = 12 := hKq4
    refine r_getR (k := 9) cx w hL0 hK0 (by decide) rfl wi_X11_orders_X11 (by decide) rfl eq4 (List.mem_of_getElem? (i := 3) rfl) dX11_orders_139 ?_
    refine lv_iload_n hx hb dX11_orders_142 rfl (lv_at hl 2 rfl) ?_
    refine lv_iload hx hb dX11_orders_143 (lv_at hl 0 rfl) ?_
    obtain ⟨z5, h⟩ := x_ix h
    obtain ⟨M6, eM6, h⟩ := x_wI h
    refine r_iast cx w hLq4 hKq4 z5 dX11_orders_145 eM6 (fun H locs w => ?_)
    refine lv_iconst (v := (1 : Int32)) hx hb dX11_orders_146 (by decide) ?_
    obtain ⟨z7, h⟩ := x_ck h
    exact r_zret cx w z7 h dX11_orders_147
  · have h := x_t h k3
    refine lv_iconst (v := (0 : Int32)) hx hb dX11_orders_136 (by decide) ?_
    obtain ⟨z8, h⟩ := x_ck h
    exact r_zret cx w z8 h dX11_orders_137
set_option maxHeartbeats 4000000 in
set_option maxRecDepth 100000 in
theorem k_X11_orders {l : Launch} {D : va_G} {cy : cyS} {G : gS} {M M' : mS} {r : Int32} {a0 : Nat} {c1 : Int32} (hG : wt G) (hL0 : a0 ∈ gL G) (hK0 : gK G a0 = 10) (h : m_X11_orders G M a0 c1 = some (M', r)) : ctI l yX11_orders wsX11_orders rmX11_orders D cy G M [.ref a0, .int c1] M' r := by
  unfold m_X11_orders at h
  refine ctI_of (cc := cX11_orders) (nL := 5) (ret := (some .boolean)) (lv := [(0, .ref a0), (1, .int c1)]) hG (by decide) rfl ⟨rfl, rfl⟩ (Nat.le_of_ble_eq_true rfl) rfl ?_
  intro p e s m args below meth c A ls cx w hl
  obtain ⟨hx, hb, hml, hown, hts, hr, hlocks, hK, hA, -, hsx⟩ := id cx
  have hkn : 0 ≤ (rmX11_orders).cells ∧ 0 ≤ (rmX11_orders).slots := ⟨Nat.zero_le _, Nat.zero_le _⟩
  refine lv_aload_n hx hb dX11_orders_0 rfl (lv_at hl 0 rfl) ?_
  obtain ⟨q1, eq1, h⟩ := x_rf h
  obtain ⟨hLq1, hKq1⟩ := wt_q hG hL0 hK0 eq1
  have hKq1 : gK G q1 = 11 := hKq1
  refine r_getR (k := 15) cx w hL0 hK0 (by decide) rfl wi_X11_orders_X11 (by decide) rfl eq1 (List.mem_of_getElem? (i := 1) rfl) dX11_orders_1 ?_
  obtain ⟨q2, eq2, h⟩ := x_rf h
  obtain ⟨hLq2, hKq2⟩ := wt_q hG hLq1 hKq1 eq2
  have hKq2 : gK G q2 = 9 := hKq2
  refine r_getRN (k := 11) cx w hLq1 hKq1 (by decide) rfl wi_X11_orders_X12 (by decide) rfl eq2 (nwF cx (q := (RX11, 72, "FlagAntsModel", "plan", "LFlagAntsModel$Plan;", "FlagAntsModel")) (List.mem_of_getElem? (i := 30) rfl)) dX11_orders_4 ?_
  obtain ⟨q3, eq3, h⟩ := x_rf h
  obtain ⟨hLq3, hKq3⟩ := wt_q hG hLq2 hKq2 eq3
  have hKq3 : gK G q3 = 12 := hKq3
  refine r_getRN (k := 14) cx w hLq2 hKq2 (by decide) rfl wi_X11_orders_X10 (by decide) rfl eq3 (nwF cx (q := (RX11, 113, "FlagAntsModel$Plan", "one", "[I", "FlagAntsModel")) (List.mem_of_getElem? (i := 39) rfl)) dX11_orders_7 ?_
  refine lv_iload_n hx hb dX11_orders_10 rfl (lv_at hl 1 rfl) ?_
  obtain ⟨z4, h⟩ := x_ix h
  refine r_iald cx w hLq3 hKq3 z4 dX11_orders_11 ?_
  obtain ⟨x5, ex5, h⟩ := x_bd h
  refine r_topI ex5 ?_
  refine lv_istore_n (lv' := [(2, .int x5), (0, .ref a0), (1, .int c1)]) hx hb dX11_orders_12 rfl hl (by decide) rfl (fun ls hl => ?_)
  refine lv_aload_n hx hb dX11_orders_13 rfl (lv_at hl 1 rfl) ?_
  obtain ⟨q6, eq6, h⟩ := x_rf h
  obtain ⟨hLq6, hKq6⟩ := wt_q hG hL0 hK0 eq6
  have hKq6 : gK G q6 = 11 := hKq6
  refine r_getR (k := 15) cx w hL0 hK0 (by decide) rfl wi_X11_orders_X11 (by decide) rfl eq6 (List.mem_of_getElem? (i := 1) rfl) dX11_orders_14 ?_
  obtain ⟨q7, eq7, h⟩ := x_rf h
  obtain ⟨hLq7, hKq7⟩ := wt_q hG hLq6 hKq6 eq7
  have hKq7 : gK G q7 = 9 := hKq7
  refine r_getRN (k := 11) cx w hLq6 hKq6 (by decide) rfl wi_X11_orders_X12 (by decide) rfl eq7 (nwF cx (q := (RX11, 72, "FlagAntsModel", "plan", "LFlagAntsModel$Plan;", "FlagAntsModel")) (List.mem_of_getElem? (i := 30) rfl)) dX11_orders_17 ?_
  obtain ⟨q8, eq8, h⟩ := x_rf h
  obtain ⟨hLq8, hKq8⟩ := wt_q hG hLq7 hKq7 eq8
  have hKq8 : gK G q8 = 12 := hKq8
  refine r_getRN (k := 15) cx w hLq7 hKq7 (by decide) rfl wi_X11_orders_X10 (by decide) rfl eq8 (nwF cx (q := (RX11, 116, "FlagAntsModel$Plan", "other", "[I", "FlagAntsModel")) (List.mem_of_getElem? (i := 40) rfl)) dX11_orders_20 ?_
  refine lv_iload_n hx hb dX11_orders_23 rfl (lv_at hl 2 rfl) ?_
  obtain ⟨z9, h⟩ := x_ix h
  refine r_iald cx w hLq8 hKq8 z9 dX11_orders_24 ?_
  obtain ⟨x10, ex10, h⟩ := x_bd h
  refine r_topI ex10 ?_
  refine lv_istore_n (lv' := [(3, .int x10), (2, .int x5), (0, .ref a0), (1, .int c1)]) hx hb dX11_orders_25 rfl hl (by decide) rfl (fun ls hl => ?_)
  refine lv_aload_n hx hb dX11_orders_26 rfl (lv_at hl 2 rfl) ?_
  obtain ⟨q11, eq11, h⟩ := x_rf h
  obtain ⟨hLq11, hKq11⟩ := wt_q hG hL0 hK0 eq11
  have hKq11 : gK G q11 = 11 := hKq11
  refine r_getR (k := 15) cx w hL0 hK0 (by decide) rfl wi_X11_orders_X11 (by decide) rfl eq11 (List.mem_of_getElem? (i := 1) rfl) dX11_orders_27 ?_
  obtain ⟨q12, eq12, h⟩ := x_rf h
  obtain ⟨hLq12, hKq12⟩ := wt_q hG hLq11 hKq11 eq12
  have hKq12 : gK G q12 = 9 := hKq12
  refine r_getRN (k := 11) cx w hLq11 hKq11 (by decide) rfl wi_X11_orders_X12 (by decide) rfl eq12 (nwF cx (q := (RX11, 72, "FlagAntsModel", "plan", "LFlagAntsModel$Plan;", "FlagAntsModel")) (List.mem_of_getElem? (i := 30) rfl)) dX11_orders_30 ?_
  obtain ⟨q13, eq13, h⟩ := x_rf h
  obtain ⟨hLq13, hKq13⟩ := wt_q hG hLq12 hKq12 eq13
  have hKq13 : gK G q13 = 12 := hKq13
  refine r_getRN (k := 13) cx w hLq12 hKq12 (by decide) rfl wi_X11_orders_X10 (by decide) rfl eq13 (nwF cx (q := (RX11, 119, "FlagAntsModel$Plan", "does", "[I", "FlagAntsModel")) (List.mem_of_getElem? (i := 41) rfl)) dX11_orders_33 ?_
  refine lv_iload_n hx hb dX11_orders_36 rfl (lv_at hl 3 rfl) ?_
  obtain ⟨z14, h⟩ := x_ix h
  refine r_iald cx w hLq13 hKq13 z14 dX11_orders_37 ?_
  refine lv_bipush (v := (14 : Int32)) hx hb dX11_orders_38 (by decide) ?_
  refine lv_icmp_ne (tgt := 58) hx hb dX11_orders_40 (by decide) (fun k15 => ?_) (fun k15 => ?_)
  · have h := x_f h k15
    refine lv_aload_n hx hb dX11_orders_58 rfl (lv_at hl 2 rfl) ?_
    obtain ⟨q16, eq16, h⟩ := x_rf h
    obtain ⟨hLq16, hKq16⟩ := wt_q hG hL0 hK0 eq16
    have hKq16 : gK G q16 = 11 := hKq16
    refine r_getR (k := 15) cx w hL0 hK0 (by decide) rfl wi_X11_orders_X11 (by decide) rfl eq16 (List.mem_of_getElem? (i := 1) rfl) dX11_orders_59 ?_
    obtain ⟨q17, eq17, h⟩ := x_rf h
    obtain ⟨hLq17, hKq17⟩ := wt_q hG hLq16 hKq16 eq17
    have hKq17 : gK G q17 = 9 := hKq17
    refine r_getRN (k := 11) cx w hLq16 hKq16 (by decide) rfl wi_X11_orders_X12 (by decide) rfl eq17 (nwF cx (q := (RX11, 72, "FlagAntsModel", "plan", "LFlagAntsModel$Plan;", "FlagAntsModel")) (List.mem_of_getElem? (i := 30) rfl)) dX11_orders_62 ?_
    obtain ⟨q18, eq18, h⟩ := x_rf h
    obtain ⟨hLq18, hKq18⟩ := wt_q hG hLq17 hKq17 eq18
    have hKq18 : gK G q18 = 12 := hKq18
    refine r_getRN (k := 13) cx w hLq17 hKq17 (by decide) rfl wi_X11_orders_X10 (by decide) rfl eq18 (nwF cx (q := (RX11, 119, "FlagAntsModel$Plan", "does", "[I", "FlagAntsModel")) (List.mem_of_getElem? (i := 41) rfl)) dX11_orders_65 ?_
    refine lv_iload_n hx hb dX11_orders_68 rfl (lv_at hl 3 rfl) ?_
    obtain ⟨z19, h⟩ := x_ix h
    refine r_iald cx w hLq18 hKq18 z19 dX11_orders_69 ?_
    refine lv_bipush (v := (16 : Int32)) hx hb dX11_orders_70 (by decide) ?_
    refine lv_icmp_ne (tgt := 101) hx hb dX11_orders_72 (by decide) (fun k20 => ?_) (fun k20 => ?_)
    · have h := x_f h k20
      refine lv_aload_n hx hb dX11_orders_101 rfl (lv_at hl 2 rfl) ?_
      obtain ⟨q21, eq21, h⟩ := x_rf h
      obtain ⟨hLq21, hKq21⟩ := wt_q hG hL0 hK0 eq21
      have hKq21 : gK G q21 = 11 := hKq21
      refine r_getR (k := 15) cx w hL0 hK0 (by decide) rfl wi_X11_orders_X11 (by decide) rfl eq21 (List.mem_of_getElem? (i := 1) rfl) dX11_orders_102 ?_
      obtain ⟨q22, eq22, h⟩ := x_rf h
      obtain ⟨hLq22, hKq22⟩ := wt_q hG hLq21 hKq21 eq22
      have hKq22 : gK G q22 = 9 := hKq22
      refine r_getRN (k := 11) cx w hLq21 hKq21 (by decide) rfl wi_X11_orders_X12 (by decide) rfl eq22 (nwF cx (q := (RX11, 72, "FlagAntsModel", "plan", "LFlagAntsModel$Plan;", "FlagAntsModel")) (List.mem_of_getElem? (i := 30) rfl)) dX11_orders_105 ?_
      obtain ⟨q23, eq23, h⟩ := x_rf h
      obtain ⟨hLq23, hKq23⟩ := wt_q hG hLq22 hKq22 eq23
      have hKq23 : gK G q23 = 12 := hKq23
      refine r_getRN (k := 13) cx w hLq22 hKq22 (by decide) rfl wi_X11_orders_X10 (by decide) rfl eq23 (nwF cx (q := (RX11, 119, "FlagAntsModel$Plan", "does", "[I", "FlagAntsModel")) (List.mem_of_getElem? (i := 41) rfl)) dX11_orders_108 ?_
      refine lv_iload_n hx hb dX11_orders_111 rfl (lv_at hl 3 rfl) ?_
      obtain ⟨z24, h⟩ := x_ix h
      refine r_iald cx w hLq23 hKq23 z24 dX11_orders_112 ?_
      refine lv_bipush (v := (17 : Int32)) hx hb dX11_orders_113 (by decide) ?_
      refine lv_icmp_ne (tgt := 122) hx hb dX11_orders_115 (by decide) (fun k25 => ?_) (fun k25 => ?_)
      · have h := x_f h k25
        refine lv_iconst (v := (0 : Int32)) hx hb dX11_orders_122 (by decide) ?_
        exact b_X11_orders_123 cx hkn hL0 hK0 M x5 ((0 : Int32)) s.heap [] ls h w (lv_sub hl [2, 1] rfl)
      · have h := x_t h k25
        refine lv_iconst (v := (1 : Int32)) hx hb dX11_orders_118 (by decide) ?_
        refine lv_goto (tgt := 123) hx hb dX11_orders_119 (by decide) ?_
        exact b_X11_orders_123 cx hkn hL0 hK0 M x5 ((1 : Int32)) s.heap [] ls h w (lv_sub hl [2, 1] rfl)
    · have h := x_t h k20
      refine lv_aload_n hx hb dX11_orders_75 rfl (lv_at hl 2 rfl) ?_
      obtain ⟨q26, eq26, h⟩ := x_rf h
      obtain ⟨hLq26, hKq26⟩ := wt_q hG hL0 hK0 eq26
      have hKq26 : gK G q26 = 12 := hKq26
      refine r_getR (k := 8) cx w hL0 hK0 (by decide) rfl wi_X11_orders_X11 (by decide) rfl eq26 (List.mem_of_getElem? (i := 2) rfl) dX11_orders_76 ?_
      refine lv_iload_n hx hb dX11_orders_79 rfl (lv_at hl 1 rfl) ?_
      obtain ⟨z27, h⟩ := x_ix h
      refine r_iald cx w hLq26 hKq26 z27 dX11_orders_80 ?_
      refine lv_iload_n hx hb dX11_orders_81 rfl (lv_at hl 0 rfl) ?_
      refine lv_icmp_ne (tgt := 87) hx hb dX11_orders_82 (by decide) (fun k28 => ?_) (fun k28 => ?_)
      · have h := x_f h k28
        refine lv_aload_n hx hb dX11_orders_87 rfl (lv_at hl 2 rfl) ?_
        obtain ⟨q29, eq29, h⟩ := x_rf h
        obtain ⟨hLq29, hKq29⟩ := wt_q hG hL0 hK0 eq29
        have hKq29 : gK G q29 = 12 := hKq29
        refine r_getR (k := 8) cx w hL0 hK0 (by decide) rfl wi_X11_orders_X11 (by decide) rfl eq29 (List.mem_of_getElem? (i := 2) rfl) dX11_orders_88 ?_
        refine lv_iload_n hx hb dX11_orders_91 rfl (lv_at hl 1 rfl) ?_
        refine lv_iload_n hx hb dX11_orders_92 rfl (lv_at hl 0 rfl) ?_
        obtain ⟨z30, h⟩ := x_ix h
        obtain ⟨M31, eM31, h⟩ := x_wI h
        refine r_iast cx w hLq29 hKq29 z30 dX11_orders_93 eM31 (fun H locs w => ?_)
        refine lv_aload_n hx hb dX11_orders_94 rfl (lv_at hl 2 rfl) ?_
        refine lv_iload_n hx hb dX11_orders_95 rfl (lv_at hl 1 rfl) ?_
        obtain ⟨M32, r33, y34, h⟩ := x_cl h
        refine r_callVv (As := [.int x5]) (rest := []) cx w hkn hl.1 (k_X11_forget hG hL0 hK0 y34) (cwV 1 hts gX11_orders_X11_forget rfl rfl rfl (by decide +kernel) ⟨Nat.le_of_ble_eq_true rfl, Nat.le_of_ble_eq_true rfl⟩) hL0 hK0 (by decide) rfl rfl rfl (Nat.le_of_ble_eq_true rfl) dX11_orders_96 (fun H locs w => ?_)
        refine lv_iconst (v := (1 : Int32)) hx hb dX11_orders_99 (by decide) ?_
        obtain ⟨z35, h⟩ := x_ck h
        exact r_zret cx w z35 h dX11_orders_100
      · have h := x_t h k28
        refine lv_iconst (v := (0 : Int32)) hx hb dX11_orders_85 (by decide) ?_
        obtain ⟨z36, h⟩ := x_ck h
        exact r_zret cx w z36 h dX11_orders_86
  · have h := x_t h k15
    refine lv_aload_n hx hb dX11_orders_43 rfl (lv_at hl 2 rfl) ?_
    refine lv_iload_n hx hb dX11_orders_44 rfl (lv_at hl 1 rfl) ?_
    refine lv_iload_n hx hb dX11_orders_45 rfl (lv_at hl 0 rfl) ?_
    obtain ⟨M37, r38, y39, h⟩ := x_cl h
    refine r_callVi (As := [.int x5, .int x10]) (rest := []) cx w hkn hl.1 (k_X11_wash hG hL0 hK0 y39) (cwV 2 hts gX11_orders_X11_wash rfl rfl rfl (by decide +kernel) ⟨Nat.le_of_ble_eq_true rfl, Nat.le_of_ble_eq_true rfl⟩) hL0 hK0 (by decide) rfl rfl rfl (Nat.le_of_ble_eq_true rfl) dX11_orders_46 (fun H locs w => ?_)
    refine lv_if_le (tgt := 56) hx hb dX11_orders_49 (by decide) (fun k40 => ?_) (fun k40 => ?_)
    · have h := x_t h k40
      refine lv_iconst (v := (0 : Int32)) hx hb dX11_orders_56 (by decide) ?_
      obtain ⟨z41, h⟩ := x_ck h
      exact r_zret cx w z41 h dX11_orders_57
    · have h := x_f h k40
      refine lv_iconst (v := (1 : Int32)) hx hb dX11_orders_52 (by decide) ?_
      refine lv_goto (tgt := 57) hx hb dX11_orders_53 (by decide) ?_
      obtain ⟨z42, h⟩ := x_ck h
      exact r_zret cx w z42 h dX11_orders_57
-- X11_walk
theorem wi_X11_walk_X10 : ∀ w ∈ wsX100, w ∈ wsX11_walk := by decide +kernel
theorem wi_X11_walk_X11 : ∀ w ∈ wsX110, w ∈ wsX11_walk := by decide +kernel
theorem wi_X11_walk_X12 : ∀ w ∈ wsX120, w ∈ wsX11_walk := by decide +kernel
abbrev rmX11_walk : Room := { frames := 1, cells := 0, slots := 0, locals := 24 }
def m_X11_walk_112 (G : gS) (a0 : Nat) (c1 : Int32)  (M : mS) (v2 : Int32) (v3 : Int32) (v4 : Int32) (s0 : Nat) (s1 : Int32) (s2 : Int32) (s3 : Int32) : Option (mS × Unit) := o_ck (¬ (4 : Int32) = 0) (o_ix s1 (gN G s0) (o_wI M s0 (Int32.toNatClampNeg s1) ((s2 + s3) - (s2 + s3) / (4 : Int32) * (4 : Int32)) (fun M3 => o_rf (gP G a0 15) (fun q4 => o_rf (gP G q4 11) (fun q5 => o_rf (gP G q5 1) (fun q6 => o_ix v2 (gN G q6) (o_ck (¬ (mI M3 q6 (Int32.toNatClampNeg v2)) = 0) (o_cl (m_X11_paint G M3 a0 v3 ((v4 + (1 : Int32)) - (v4 + (1 : Int32)) / (mI M3 q6 (Int32.toNatClampNeg v2)) * (mI M3 q6 (Int32.toNatClampNeg v2)))) (fun M9 r10 => o_rf (gP G a0 8) (fun q12 => o_ix c1 (gN G q12) (o_cl (m_X11_go G M9 a0 c1 (mI M9 q12 (Int32.toNatClampNeg c1))) (fun M14 r15 => some (M14, ())))))))))))))
def m_X11_walk (G : gS) (M : mS) (a0 : Nat) (c1 : Int32) : Option (mS × Unit) := o_rf (gP G a0 15) (fun q1 => o_rf (gP G q1 11) (fun q2 => o_rf (gP G q2 6) (fun q3 => o_ix c1 (gN G q3) (o_bd ((mI M q3 (Int32.toNatClampNeg c1))) (fun x5 => o_rf (gP G a0 7) (fun q6 => o_ix c1 (gN G q6) (o_rf (gP G a0 6) (fun q8 => o_ix c1 (gN G q8) (o_bd ((((64 : Int32) * (mI M q6 (Int32.toNatClampNeg c1))) + (mI M q8 (Int32.toNatClampNeg c1)))) (fun x10 => o_rf (gP G a0 4) (fun q11 => o_ix x10 (gN G q11) (o_rf (gP G a0 15) (fun q13 => o_rf (gP G q13 11) (fun q14 => o_rf (gP G q14 1) (fun q15 => o_ix x5 (gN G q15) (o_ck (¬ (mI M q15 (Int32.toNatClampNeg x5)) = 0) (o_bd (((mI M q11 (Int32.toNatClampNeg x10)) - (mI M q11 (Int32.toNatClampNeg x10)) / (mI M q15 (Int32.toNatClampNeg x5)) * (mI M q15 (Int32.toNatClampNeg x5)))) (fun x18 => o_rf (gP G a0 15) (fun q19 => o_rf (gP G q19 11) (fun q20 => o_rf (gP G q20 2) (fun q21 => o_ix (((6 : Int32) * x5) + x18) (gN G q21) (o_bd ((mI M q21 (Int32.toNatClampNeg (((6 : Int32) * x5) + x18)))) (fun x23 => o_rf (gP G a0 8) (fun q24 => o_rf (gP G a0 8) (fun q25 => o_ix c1 (gN G q25) ((if x23 = 0 then m_X11_walk_112 G a0 c1 M x5 x10 x18 q24 c1 ((mI M q25 (Int32.toNatClampNeg c1))) ((3 : Int32)) else (if x23 = (1 : Int32) then m_X11_walk_112 G a0 c1 M x5 x10 x18 q24 c1 ((mI M q25 (Int32.toNatClampNeg c1))) ((1 : Int32)) else (if x23 = (2 : Int32) then m_X11_walk_112 G a0 c1 M x5 x10 x18 q24 c1 ((mI M q25 (Int32.toNatClampNeg c1))) ((0 : Int32)) else m_X11_walk_112 G a0 c1 M x5 x10 x18 q24 c1 ((mI M q25 (Int32.toNatClampNeg c1))) ((2 : Int32)))))))))))))))))))))))))))))))
set_option maxHeartbeats 4000000 in
set_option maxRecDepth 100000 in
theorem b_X11_walk_112 {p : Program} {e : Env} {s : State} {m : MethodId} {args : Array Value} {below : List Frame} {meth : Method} {c : Code} {A : Nat → Prop} {l : Launch} {D : va_G} {cy : cyS} {G : gS} (cx : cX p s m args meth c cX11_walk RX11 6 none wsX11_walk D cy G A) {k0 n0 : Nat} (hkn : k0 ≤ (rmX11_walk).cells ∧ n0 ≤ (rmX11_walk).slots) {M' : mS} {a0 : Nat} {c1 : Int32} (hL0 : a0 ∈ gL G) (hK0 : gK G a0 = 10)  : ∀ (M : mS) (v2 : Int32) (v3 : Int32) (v4 : Int32) (s0 : Nat) (s1 : Int32) (s2 : Int32) (s3 : Int32) (H : Heap) (locs : List Loc) (ls : Array Slot), s0 ∈ gL G → gK G s0 = 12 → m_X11_walk_112 G a0 c1 M v2 v3 v4 s0 s1 s2 s3 = some (M', ()) → wd D cy G M A s.heap H locs → lv_has ls 6 [(0, .ref a0), (1, .int c1), (2, .int v2), (3, .int v3), (4, .int v4)] → W p l e rmX11_walk s m args below meth c H locs k0 n0 (MQ below (va_Qv (fun (_ : Unit) => True) (fun _ t => wOut D cy G M' t) A) args s k0 n0 A) (F0 m 112 ls [.int s3, .int s2, .int s1, .ref s0]) := by
  obtain ⟨hx, hb, hml, hown, hts, hr, hlocks, hK, hA, hG, hsx⟩ := id cx
  intro M v2 v3 v4 s0 s1 s2 s3 H locs ls sL0 sK0 h w hl
  unfold m_X11_walk_112 at h
  refine lv_iadd hx hb dX11_walk_112 ?_
  refine lv_iconst (v := (4 : Int32)) hx hb dX11_walk_113 (by decide) ?_
  obtain ⟨z1, h⟩ := x_ck h
  refine lv_irem hx hb dX11_walk_114 z1 ?_
  obtain ⟨z2, h⟩ := x_ix h
  obtain ⟨M3, eM3, h⟩ := x_wI h
  refine r_iast cx w sL0 sK0 z2 dX11_walk_115 eM3 (fun H locs w => ?_)
  refine lv_aload_n hx hb dX11_walk_116 rfl (lv_at hl 0 rfl) ?_
  refine lv_iload_n hx hb dX11_walk_117 rfl (lv_at hl 3 rfl) ?_
  refine lv_iload hx hb dX11_walk_118 (lv_at hl 4 rfl) ?_
  refine lv_iconst (v := (1 : Int32)) hx hb dX11_walk_120 (by decide) ?_
  refine lv_iadd hx hb dX11_walk_121 ?_
  refine lv_aload_n hx hb dX11_walk_122 rfl (lv_at hl 0 rfl) ?_
  obtain ⟨q4, eq4, h⟩ := x_rf h
  obtain ⟨hLq4, hKq4⟩ := wt_q hG hL0 hK0 eq4
  have hKq4 : gK G q4 = 11 := hKq4
  refine r_getR (k := 15) cx w hL0 hK0 (by decide) rfl wi_X11_walk_X11 (by decide) rfl eq4 (List.mem_of_getElem? (i := 1) rfl) dX11_walk_123 ?_
  obtain ⟨q5, eq5, h⟩ := x_rf h
  obtain ⟨hLq5, hKq5⟩ := wt_q hG hLq4 hKq4 eq5
  have hKq5 : gK G q5 = 9 := hKq5
  refine r_getRN (k := 11) cx w hLq4 hKq4 (by decide) rfl wi_X11_walk_X12 (by decide) rfl eq5 (nwF cx (q := (RX11, 72, "FlagAntsModel", "plan", "LFlagAntsModel$Plan;", "FlagAntsModel")) (List.mem_of_getElem? (i := 30) rfl)) dX11_walk_126 ?_
  obtain ⟨q6, eq6, h⟩ := x_rf h
  obtain ⟨hLq6, hKq6⟩ := wt_q hG hLq5 hKq5 eq6
  have hKq6 : gK G q6 = 12 := hKq6
  refine r_getRN (k := 1) cx w hLq5 hKq5 (by decide) rfl wi_X11_walk_X10 (by decide) rfl eq6 (nwF cx (q := (RX11, 97, "FlagAntsModel$Plan", "turns", "[I", "FlagAntsModel")) (List.mem_of_getElem? (i := 36) rfl)) dX11_walk_129 ?_
  refine lv_iload_n hx hb dX11_walk_132 rfl (lv_at hl 2 rfl) ?_
  obtain ⟨z7, h⟩ := x_ix h
  refine r_iald cx w hLq6 hKq6 z7 dX11_walk_133 ?_
  obtain ⟨z8, h⟩ := x_ck h
  refine lv_irem hx hb dX11_walk_134 z8 ?_
  obtain ⟨M9, r10, y11, h⟩ := x_cl h
  refine r_callVv (As := [.int v3, .int (((v4 + (1 : Int32)) - (v4 + (1 : Int32)) / (mI M3 q6 (Int32.toNatClampNeg v2)) * (mI M3 q6 (Int32.toNatClampNeg v2))))]) (rest := []) cx w hkn hl.1 (k_X11_paint hG hL0 hK0 y11) (cwV 2 hts gX11_walk_X11_paint rfl rfl rfl (by decide +kernel) ⟨Nat.le_of_ble_eq_true rfl, Nat.le_of_ble_eq_true rfl⟩) hL0 hK0 (by decide) rfl rfl rfl (Nat.le_of_ble_eq_true rfl) dX11_walk_135 (fun H locs w => ?_)
  refine lv_aload_n hx hb dX11_walk_138 rfl (lv_at hl 0 rfl) ?_
  refine lv_iload_n hx hb dX11_walk_139 rfl (lv_at hl 1 rfl) ?_
  refine lv_aload_n hx hb dX11_walk_140 rfl (lv_at hl 0 rfl) ?_
  obtain ⟨q12, eq12, h⟩ := x_rf h
  obtain ⟨hLq12, hKq12⟩ := wt_q hG hL0 hK0 eq12
  have hKq12 : gK G q12 = 12 := hKq12
  refine r_getR (k := 8) cx w hL0 hK0 (by decide) rfl wi_X11_walk_X11 (by decide) rfl eq12 (List.mem_of_getElem? (i := 5) rfl) dX11_walk_141 ?_
  refine lv_iload_n hx hb dX11_walk_144 rfl (lv_at hl 1 rfl) ?_
  obtain ⟨z13, h⟩ := x_ix h
  refine r_iald cx w hLq12 hKq12 z13 dX11_walk_145 ?_
  obtain ⟨M14, r15, y16, h⟩ := x_cl h
  refine r_callVv (As := [.int c1, .int ((mI M9 q12 (Int32.toNatClampNeg c1)))]) (rest := []) cx w hkn hl.1 (k_X11_go hG hL0 hK0 y16) (cwV 2 hts gX11_walk_X11_go rfl rfl rfl (by decide +kernel) ⟨Nat.le_of_ble_eq_true rfl, Nat.le_of_ble_eq_true rfl⟩) hL0 hK0 (by decide) rfl rfl rfl (Nat.le_of_ble_eq_true rfl) dX11_walk_146 (fun H locs w => ?_)
  exact r_vret cx w h dX11_walk_149
set_option maxHeartbeats 4000000 in
set_option maxRecDepth 100000 in
theorem k_X11_walk {l : Launch} {D : va_G} {cy : cyS} {G : gS} {M M' : mS} {a0 : Nat} {c1 : Int32} (hG : wt G) (hL0 : a0 ∈ gL G) (hK0 : gK G a0 = 10) (h : m_X11_walk G M a0 c1 = some (M', ())) : ctV l yX11_walk wsX11_walk rmX11_walk D cy G M [.ref a0, .int c1] M' := by
  unfold m_X11_walk at h
  refine ctV_of (cc := cX11_walk) (nL := 6) (ret := none) (lv := [(0, .ref a0), (1, .int c1)]) hG (by decide) rfl ⟨rfl, rfl⟩ (Nat.le_of_ble_eq_true rfl) rfl ?_
  intro p e s m args below meth c A ls cx w hl
  obtain ⟨hx, hb, hml, hown, hts, hr, hlocks, hK, hA, -, hsx⟩ := id cx
  have hkn : 0 ≤ (rmX11_walk).cells ∧ 0 ≤ (rmX11_walk).slots := ⟨Nat.zero_le _, Nat.zero_le _⟩
  refine lv_aload_n hx hb dX11_walk_0 rfl (lv_at hl 0 rfl) ?_
  obtain ⟨q1, eq1, h⟩ := x_rf h
  obtain ⟨hLq1, hKq1⟩ := wt_q hG hL0 hK0 eq1
  have hKq1 : gK G q1 = 11 := hKq1
  refine r_getR (k := 15) cx w hL0 hK0 (by decide) rfl wi_X11_walk_X11 (by decide) rfl eq1 (List.mem_of_getElem? (i := 1) rfl) dX11_walk_1 ?_
  obtain ⟨q2, eq2, h⟩ := x_rf h
  obtain ⟨hLq2, hKq2⟩ := wt_q hG hLq1 hKq1 eq2
  have hKq2 : gK G q2 = 9 := hKq2
  refine r_getRN (k := 11) cx w hLq1 hKq1 (by decide) rfl wi_X11_walk_X12 (by decide) rfl eq2 (nwF cx (q := (RX11, 72, "FlagAntsModel", "plan", "LFlagAntsModel$Plan;", "FlagAntsModel")) (List.mem_of_getElem? (i := 30) rfl)) dX11_walk_4 ?_
  obtain ⟨q3, eq3, h⟩ := x_rf h
  obtain ⟨hLq3, hKq3⟩ := wt_q hG hLq2 hKq2 eq3
  have hKq3 : gK G q3 = 12 := hKq3
  refine r_getRN (k := 6) cx w hLq2 hKq2 (by decide) rfl wi_X11_walk_X10 (by decide) rfl eq3 (nwF cx (q := (RX11, 94, "FlagAntsModel$Plan", "rule", "[I", "FlagAntsModel")) (List.mem_of_getElem? (i := 35) rfl)) dX11_walk_7 ?_
  refine lv_iload_n hx hb dX11_walk_10 rfl (lv_at hl 1 rfl) ?_
  obtain ⟨z4, h⟩ := x_ix h
  refine r_iald cx w hLq3 hKq3 z4 dX11_walk_11 ?_
  obtain ⟨x5, ex5, h⟩ := x_bd h
  refine r_topI ex5 ?_
  refine lv_istore_n (lv' := [(2, .int x5), (0, .ref a0), (1, .int c1)]) hx hb dX11_walk_12 rfl hl (by decide) rfl (fun ls hl => ?_)
  refine lv_bipush (v := (64 : Int32)) hx hb dX11_walk_13 (by decide) ?_
  refine lv_aload_n hx hb dX11_walk_15 rfl (lv_at hl 1 rfl) ?_
  obtain ⟨q6, eq6, h⟩ := x_rf h
  obtain ⟨hLq6, hKq6⟩ := wt_q hG hL0 hK0 eq6
  have hKq6 : gK G q6 = 12 := hKq6
  refine r_getR (k := 7) cx w hL0 hK0 (by decide) rfl wi_X11_walk_X11 (by decide) rfl eq6 (List.mem_of_getElem? (i := 2) rfl) dX11_walk_16 ?_
  refine lv_iload_n hx hb dX11_walk_19 rfl (lv_at hl 2 rfl) ?_
  obtain ⟨z7, h⟩ := x_ix h
  refine r_iald cx w hLq6 hKq6 z7 dX11_walk_20 ?_
  refine lv_imul hx hb dX11_walk_21 ?_
  refine lv_aload_n hx hb dX11_walk_22 rfl (lv_at hl 1 rfl) ?_
  obtain ⟨q8, eq8, h⟩ := x_rf h
  obtain ⟨hLq8, hKq8⟩ := wt_q hG hL0 hK0 eq8
  have hKq8 : gK G q8 = 12 := hKq8
  refine r_getR (k := 6) cx w hL0 hK0 (by decide) rfl wi_X11_walk_X11 (by decide) rfl eq8 (List.mem_of_getElem? (i := 3) rfl) dX11_walk_23 ?_
  refine lv_iload_n hx hb dX11_walk_26 rfl (lv_at hl 2 rfl) ?_
  obtain ⟨z9, h⟩ := x_ix h
  refine r_iald cx w hLq8 hKq8 z9 dX11_walk_27 ?_
  refine lv_iadd hx hb dX11_walk_28 ?_
  obtain ⟨x10, ex10, h⟩ := x_bd h
  refine r_topI ex10 ?_
  refine lv_istore_n (lv' := [(3, .int x10), (2, .int x5), (0, .ref a0), (1, .int c1)]) hx hb dX11_walk_29 rfl hl (by decide) rfl (fun ls hl => ?_)
  refine lv_aload_n hx hb dX11_walk_30 rfl (lv_at hl 2 rfl) ?_
  obtain ⟨q11, eq11, h⟩ := x_rf h
  obtain ⟨hLq11, hKq11⟩ := wt_q hG hL0 hK0 eq11
  have hKq11 : gK G q11 = 12 := hKq11
  refine r_getR (k := 4) cx w hL0 hK0 (by decide) rfl wi_X11_walk_X11 (by decide) rfl eq11 (List.mem_of_getElem? (i := 4) rfl) dX11_walk_31 ?_
  refine lv_iload_n hx hb dX11_walk_34 rfl (lv_at hl 0 rfl) ?_
  obtain ⟨z12, h⟩ := x_ix h
  refine r_iald cx w hLq11 hKq11 z12 dX11_walk_35 ?_
  refine lv_aload_n hx hb dX11_walk_36 rfl (lv_at hl 2 rfl) ?_
  obtain ⟨q13, eq13, h⟩ := x_rf h
  obtain ⟨hLq13, hKq13⟩ := wt_q hG hL0 hK0 eq13
  have hKq13 : gK G q13 = 11 := hKq13
  refine r_getR (k := 15) cx w hL0 hK0 (by decide) rfl wi_X11_walk_X11 (by decide) rfl eq13 (List.mem_of_getElem? (i := 1) rfl) dX11_walk_37 ?_
  obtain ⟨q14, eq14, h⟩ := x_rf h
  obtain ⟨hLq14, hKq14⟩ := wt_q hG hLq13 hKq13 eq14
  have hKq14 : gK G q14 = 9 := hKq14
  refine r_getRN (k := 11) cx w hLq13 hKq13 (by decide) rfl wi_X11_walk_X12 (by decide) rfl eq14 (nwF cx (q := (RX11, 72, "FlagAntsModel", "plan", "LFlagAntsModel$Plan;", "FlagAntsModel")) (List.mem_of_getElem? (i := 30) rfl)) dX11_walk_40 ?_
  obtain ⟨q15, eq15, h⟩ := x_rf h
  obtain ⟨hLq15, hKq15⟩ := wt_q hG hLq14 hKq14 eq15
  have hKq15 : gK G q15 = 12 := hKq15
  refine r_getRN (k := 1) cx w hLq14 hKq14 (by decide) rfl wi_X11_walk_X10 (by decide) rfl eq15 (nwF cx (q := (RX11, 97, "FlagAntsModel$Plan", "turns", "[I", "FlagAntsModel")) (List.mem_of_getElem? (i := 36) rfl)) dX11_walk_43 ?_
  refine lv_iload_n hx hb dX11_walk_46 rfl (lv_at hl 1 rfl) ?_
  obtain ⟨z16, h⟩ := x_ix h
  refine r_iald cx w hLq15 hKq15 z16 dX11_walk_47 ?_
  obtain ⟨z17, h⟩ := x_ck h
  refine lv_irem hx hb dX11_walk_48 z17 ?_
  obtain ⟨x18, ex18, h⟩ := x_bd h
  refine r_topI ex18 ?_
  refine lv_istore (lv' := [(4, .int x18), (3, .int x10), (2, .int x5), (0, .ref a0), (1, .int c1)]) hx hb dX11_walk_49 hl (by decide) rfl (fun ls hl => ?_)
  refine lv_aload_n hx hb dX11_walk_51 rfl (lv_at hl 3 rfl) ?_
  obtain ⟨q19, eq19, h⟩ := x_rf h
  obtain ⟨hLq19, hKq19⟩ := wt_q hG hL0 hK0 eq19
  have hKq19 : gK G q19 = 11 := hKq19
  refine r_getR (k := 15) cx w hL0 hK0 (by decide) rfl wi_X11_walk_X11 (by decide) rfl eq19 (List.mem_of_getElem? (i := 1) rfl) dX11_walk_52 ?_
  obtain ⟨q20, eq20, h⟩ := x_rf h
  obtain ⟨hLq20, hKq20⟩ := wt_q hG hLq19 hKq19 eq20
  have hKq20 : gK G q20 = 9 := hKq20
  refine r_getRN (k := 11) cx w hLq19 hKq19 (by decide) rfl wi_X11_walk_X12 (by decide) rfl eq20 (nwF cx (q := (RX11, 72, "FlagAntsModel", "plan", "LFlagAntsModel$Plan;", "FlagAntsModel")) (List.mem_of_getElem? (i := 30) rfl)) dX11_walk_55 ?_
  obtain ⟨q21, eq21, h⟩ := x_rf h
  obtain ⟨hLq21, hKq21⟩ := wt_q hG hLq20 hKq20 eq21
  have hKq21 : gK G q21 = 12 := hKq21
  refine r_getRN (k := 2) cx w hLq20 hKq20 (by decide) rfl wi_X11_walk_X10 (by decide) rfl eq21 (nwF cx (q := (RX11, 100, "FlagAntsModel$Plan", "turn", "[I", "FlagAntsModel")) (List.mem_of_getElem? (i := 37) rfl)) dX11_walk_58 ?_
  refine lv_bipush (v := (6 : Int32)) hx hb dX11_walk_61 (by decide) ?_
  refine lv_iload_n hx hb dX11_walk_63 rfl (lv_at hl 2 rfl) ?_
  refine lv_imul hx hb dX11_walk_64 ?_
  refine lv_iload hx hb dX11_walk_65 (lv_at hl 0 rfl) ?_
  refine lv_iadd hx hb dX11_walk_67 ?_
  obtain ⟨z22, h⟩ := x_ix h
  refine r_iald cx w hLq21 hKq21 z22 dX11_walk_68 ?_
  obtain ⟨x23, ex23, h⟩ := x_bd h
  refine r_topI ex23 ?_
  refine lv_istore (lv' := [(5, .int x23), (4, .int x18), (3, .int x10), (2, .int x5), (0, .ref a0), (1, .int c1)]) hx hb dX11_walk_69 hl (by decide) rfl (fun ls hl => ?_)
  refine lv_aload_n hx hb dX11_walk_71 rfl (lv_at hl 4 rfl) ?_
  obtain ⟨q24, eq24, h⟩ := x_rf h
  obtain ⟨hLq24, hKq24⟩ := wt_q hG hL0 hK0 eq24
  have hKq24 : gK G q24 = 12 := hKq24
  refine r_getR (k := 8) cx w hL0 hK0 (by decide) rfl wi_X11_walk_X11 (by decide) rfl eq24 (List.mem_of_getElem? (i := 5) rfl) dX11_walk_72 ?_
  refine lv_iload_n hx hb dX11_walk_75 rfl (lv_at hl 5 rfl) ?_
  refine lv_aload_n hx hb dX11_walk_76 rfl (lv_at hl 4 rfl) ?_
  obtain ⟨q25, eq25, h⟩ := x_rf h
  obtain ⟨hLq25, hKq25⟩ := wt_q hG hL0 hK0 eq25
  have hKq25 : gK G q25 = 12 := hKq25
  refine r_getR (k := 8) cx w hL0 hK0 (by decide) rfl wi_X11_walk_X11 (by decide) rfl eq25 (List.mem_of_getElem? (i := 5) rfl) dX11_walk_77 ?_
  refine lv_iload_n hx hb dX11_walk_80 rfl (lv_at hl 5 rfl) ?_
  obtain ⟨z26, h⟩ := x_ix h
  refine r_iald cx w hLq25 hKq25 z26 dX11_walk_81 ?_
  refine lv_iload hx hb dX11_walk_82 (lv_at hl 0 rfl) ?_
  refine lv_if_ne (tgt := 91) hx hb dX11_walk_84 (by decide) (fun k27 => ?_) (fun k27 => ?_)
  · have h := x_f h k27
    refine lv_iload hx hb dX11_walk_91 (lv_at hl 0 rfl) ?_
    refine lv_iconst (v := (1 : Int32)) hx hb dX11_walk_93 (by decide) ?_
    refine lv_icmp_ne (tgt := 101) hx hb dX11_walk_94 (by decide) (fun k28 => ?_) (fun k28 => ?_)
    · have h := x_f h k28
      refine lv_iload hx hb dX11_walk_101 (lv_at hl 0 rfl) ?_
      refine lv_iconst (v := (2 : Int32)) hx hb dX11_walk_103 (by decide) ?_
      refine lv_icmp_ne (tgt := 111) hx hb dX11_walk_104 (by decide) (fun k29 => ?_) (fun k29 => ?_)
      · have h := x_f h k29
        refine lv_iconst (v := (2 : Int32)) hx hb dX11_walk_111 (by decide) ?_
        exact b_X11_walk_112 cx hkn hL0 hK0 M x5 x10 x18 q24 c1 ((mI M q25 (Int32.toNatClampNeg c1))) ((2 : Int32)) s.heap [] ls hLq24 hKq24 h w (lv_sub hl [4, 5, 3, 2, 1] rfl)
      · have h := x_t h k29
        refine lv_iconst (v := (0 : Int32)) hx hb dX11_walk_107 (by decide) ?_
        refine lv_goto (tgt := 112) hx hb dX11_walk_108 (by decide) ?_
        exact b_X11_walk_112 cx hkn hL0 hK0 M x5 x10 x18 q24 c1 ((mI M q25 (Int32.toNatClampNeg c1))) ((0 : Int32)) s.heap [] ls hLq24 hKq24 h w (lv_sub hl [4, 5, 3, 2, 1] rfl)
    · have h := x_t h k28
      refine lv_iconst (v := (1 : Int32)) hx hb dX11_walk_97 (by decide) ?_
      refine lv_goto (tgt := 112) hx hb dX11_walk_98 (by decide) ?_
      exact b_X11_walk_112 cx hkn hL0 hK0 M x5 x10 x18 q24 c1 ((mI M q25 (Int32.toNatClampNeg c1))) ((1 : Int32)) s.heap [] ls hLq24 hKq24 h w (lv_sub hl [4, 5, 3, 2, 1] rfl)
  · have h := x_t h k27
    refine lv_iconst (v := (3 : Int32)) hx hb dX11_walk_87 (by decide) ?_
    refine lv_goto (tgt := 112) hx hb dX11_walk_88 (by decide) ?_
    exact b_X11_walk_112 cx hkn hL0 hK0 M x5 x10 x18 q24 c1 ((mI M q25 (Int32.toNatClampNeg c1))) ((3 : Int32)) s.heap [] ls hLq24 hKq24 h w (lv_sub hl [4, 5, 3, 2, 1] rfl)
-- X11_pass
theorem wi_X11_pass_X10 : ∀ w ∈ wsX100, w ∈ wsX11_pass := by decide +kernel
theorem wi_X11_pass_X11 : ∀ w ∈ wsX110, w ∈ wsX11_pass := by decide +kernel
theorem wi_X11_pass_X12 : ∀ w ∈ wsX120, w ∈ wsX11_pass := by decide +kernel
abbrev rmX11_pass : Room := { frames := 4, cells := 0, slots := 0, locals := 107 }
def m_X11_pass_66 (G : gS) (a0 : Nat) (kb2 : mS → Int32 → Option (mS × Unit)) (M : mS) (v1 : Int32) : Option (mS × Unit) := o_bd (v1 + 1 : Int32) (fun x1 => kb2 M x1)
def m_X11_pass_102 (G : gS) (a0 : Nat) (kb74 : mS → Int32 → Option (mS × Unit)) (M : mS) (v1 : Int32) : Option (mS × Unit) := o_bd (v1 + 1 : Int32) (fun x1 => kb74 M x1)
def m_X11_pass_161 (G : gS) (a0 : Nat) (kb110 : mS → Int32 → Option (mS × Unit)) (kb128 : mS → Int32 → Int32 → Option (mS × Unit)) (M : mS) (v1 : Int32) (v2 : Int32) (s1 : Int32) (s2 : Int32) : Option (mS × Unit) := o_wI M a0 1 (s1 + s2) (fun M1 => o_bd (v2 + 1 : Int32) (fun x2 => kb128 M1 v1 x2))
def m_X11_pass_128 (G : gS) (a0 : Nat) (kb110 : mS → Int32 → Option (mS × Unit)) : Nat → mS → Int32 → Int32 → Option (mS × Unit)
  | 0, _, _, _ => none
  | n + 1, M, v1, v2 => o_rf (gP G a0 15) (fun q1 => o_rf (gP G q1 11) (fun q2 => (if (mI M q2 3) ≤ v2 then o_bd (v1 + 1 : Int32) (fun x4 => kb110 M x4) else o_cl (m_X11_isAt G M a0 v1 v2) (fun M5 r6 => (if r6 = 0 then m_X11_pass_161 G a0 kb110 (fun M v1 v2 => m_X11_pass_128 G a0 kb110 n M v1 v2) M5 v1 v2 ((mI M a0 1)) ((0 : Int32)) else m_X11_pass_161 G a0 kb110 (fun M v1 v2 => m_X11_pass_128 G a0 kb110 n M v1 v2) M5 v1 v2 ((mI M a0 1)) ((1 : Int32)))))))
def m_X11_pass_110 (G : gS) (a0 : Nat)  : Nat → mS → Int32 → Option (mS × Unit)
  | 0, _, _ => none
  | n + 1, M, v1 => o_rf (gP G a0 15) (fun q1 => o_rf (gP G q1 11) (fun q2 => (if (mI M q2 3) ≤ v1 then o_wI M a0 0 ((mI M a0 0) + (1 : Int32)) (fun M4 => some (M4, ())) else o_bd ((v1 + (1 : Int32))) (fun x5 => m_X11_pass_128 G a0 (fun M v1 => m_X11_pass_110 G a0 n M v1) fu M v1 x5))))
def m_X11_pass_74 (G : gS) (a0 : Nat)  : Nat → mS → Int32 → Option (mS × Unit)
  | 0, _, _ => none
  | n + 1, M, v1 => o_rf (gP G a0 15) (fun q1 => o_rf (gP G q1 11) (fun q2 => (if (mI M q2 3) ≤ v1 then m_X11_pass_110 G a0 fu M ((0 : Int32)) else o_rf (gP G a0 9) (fun q4 => o_ix v1 (gN G q4) ((if (mI M q4 (Int32.toNatClampNeg v1)) = 0 then o_cl (m_X11_walk G M a0 v1) (fun M7 r8 => m_X11_pass_102 G a0 (fun M v1 => m_X11_pass_74 G a0 n M v1) M7 v1) else m_X11_pass_102 G a0 (fun M v1 => m_X11_pass_74 G a0 n M v1) M v1))))))
def m_X11_pass_2 (G : gS) (a0 : Nat)  : Nat → mS → Int32 → Option (mS × Unit)
  | 0, _, _ => none
  | n + 1, M, v1 => o_rf (gP G a0 15) (fun q1 => o_rf (gP G q1 11) (fun q2 => (if (mI M q2 11) ≤ v1 then m_X11_pass_74 G a0 fu M ((0 : Int32)) else o_rf (gP G a0 15) (fun q4 => o_rf (gP G q4 11) (fun q5 => o_rf (gP G q5 16) (fun q6 => o_ix v1 (gN G q6) (o_rf (gP G a0 15) (fun q8 => o_rf (gP G q8 11) (fun q9 => o_rf (gP G q9 17) (fun q10 => o_ix v1 (gN G q10) (o_cl (m_X11_carryOut G M a0 (mI M q6 (Int32.toNatClampNeg v1)) (mI M q10 (Int32.toNatClampNeg v1))) (fun M12 r13 => (if r13 = (1 : Int32) then o_cl (m_X11_orders G M12 a0 v1) (fun M16 r17 => (if r17 = 0 then m_X11_pass_66 G a0 (fun M v1 => m_X11_pass_2 G a0 n M v1) M16 v1 else o_wI M16 a0 3 ((mI M16 a0 3) + (1 : Int32)) (fun M20 => m_X11_pass_66 G a0 (fun M v1 => m_X11_pass_2 G a0 n M v1) M20 v1))) else m_X11_pass_66 G a0 (fun M v1 => m_X11_pass_2 G a0 n M v1) M12 v1)))))))))))))
def m_X11_pass (G : gS) (M : mS) (a0 : Nat) : Option (mS × Unit) := m_X11_pass_2 G a0 fu M ((0 : Int32))
set_option maxHeartbeats 4000000 in
set_option maxRecDepth 100000 in
theorem b_X11_pass_66 {p : Program} {e : Env} {s : State} {m : MethodId} {args : Array Value} {below : List Frame} {meth : Method} {c : Code} {A : Nat → Prop} {l : Launch} {D : va_G} {cy : cyS} {G : gS} (cx : cX p s m args meth c cX11_pass RX11 3 none wsX11_pass D cy G A) {k0 n0 : Nat} (hkn : k0 ≤ (rmX11_pass).cells ∧ n0 ≤ (rmX11_pass).slots) {M' : mS} {a0 : Nat} (hL0 : a0 ∈ gL G) (hK0 : gK G a0 = 10) {kb2 : mS → Int32 → Option (mS × Unit)} (hkb2 : ∀ (M : mS) (v1 : Int32) (H : Heap) (locs : List Loc) (ls : Array Slot), kb2 M v1 = some (M', ()) → wd D cy G M A s.heap H locs → lv_has ls 3 [(0, .ref a0), (1, .int v1)] → W p l e rmX11_pass s m args below meth c H locs k0 n0 (MQ below (va_Qv (fun (_ : Unit) => True) (fun _ t => wOut D cy G M' t) A) args s k0 n0 A) (F0 m 2 ls [])) : ∀ (M : mS) (v1 : Int32) (H : Heap) (locs : List Loc) (ls : Array Slot), m_X11_pass_66 G a0 kb2 M v1 = some (M', ()) → wd D cy G M A s.heap H locs → lv_has ls 3 [(0, .ref a0), (1, .int v1)] → W p l e rmX11_pass s m args below meth c H locs k0 n0 (MQ below (va_Qv (fun (_ : Unit) => True) (fun _ t => wOut D cy G M' t) A) args s k0 n0 A) (F0 m 66 ls []) := by
  obtain ⟨hx, hb, hml, hown, hts, hr, hlocks, hK, hA, hG, hsx⟩ := id cx
  intro M v1 H locs ls h w hl
  unfold m_X11_pass_66 at h
  obtain ⟨x1, ex1, h⟩ := x_bd h
  refine lv_iinc (v := x1) (lv' := [(1, .int x1), (0, .ref a0)]) hx hb dX11_pass_66 hl (k := 1) rfl (by rw [ex1]; rfl) (by decide) rfl (fun ls hl => ?_)
  refine lv_goto (tgt := 2) hx hb dX11_pass_69 (by decide) ?_
  exact hkb2 M x1 H locs ls h w (lv_sub hl [1, 0] rfl)
set_option maxHeartbeats 4000000 in
set_option maxRecDepth 100000 in
theorem b_X11_pass_102 {p : Program} {e : Env} {s : State} {m : MethodId} {args : Array Value} {below : List Frame} {meth : Method} {c : Code} {A : Nat → Prop} {l : Launch} {D : va_G} {cy : cyS} {G : gS} (cx : cX p s m args meth c cX11_pass RX11 3 none wsX11_pass D cy G A) {k0 n0 : Nat} (hkn : k0 ≤ (rmX11_pass).cells ∧ n0 ≤ (rmX11_pass).slots) {M' : mS} {a0 : Nat} (hL0 : a0 ∈ gL G) (hK0 : gK G a0 = 10) {kb74 : mS → Int32 → Option (mS × Unit)} (hkb74 : ∀ (M : mS) (v1 : Int32) (H : Heap) (locs : List Loc) (ls : Array Slot), kb74 M v1 = some (M', ()) → wd D cy G M A s.heap H locs → lv_has ls 3 [(0, .ref a0), (1, .int v1)] → W p l e rmX11_pass s m args below meth c H locs k0 n0 (MQ below (va_Qv (fun (_ : Unit) => True) (fun _ t => wOut D cy G M' t) A) args s k0 n0 A) (F0 m 74 ls [])) : ∀ (M : mS) (v1 : Int32) (H : Heap) (locs : List Loc) (ls : Array Slot), m_X11_pass_102 G a0 kb74 M v1 = some (M', ()) → wd D cy G M A s.heap H locs → lv_has ls 3 [(0, .ref a0), (1, .int v1)] → W p l e rmX11_pass s m args below meth c H locs k0 n0 (MQ below (va_Qv (fun (_ : Unit) => True) (fun _ t => wOut D cy G M' t) A) args s k0 n0 A) (F0 m 102 ls []) := by
  obtain ⟨hx, hb, hml, hown, hts, hr, hlocks, hK, hA, hG, hsx⟩ := id cx
  intro M v1 H locs ls h w hl
  unfold m_X11_pass_102 at h
  obtain ⟨x1, ex1, h⟩ := x_bd h
  refine lv_iinc (v := x1) (lv' := [(1, .int x1), (0, .ref a0)]) hx hb dX11_pass_102 hl (k := 1) rfl (by rw [ex1]; rfl) (by decide) rfl (fun ls hl => ?_)
  refine lv_goto (tgt := 74) hx hb dX11_pass_105 (by decide) ?_
  exact hkb74 M x1 H locs ls h w (lv_sub hl [1, 0] rfl)
set_option maxHeartbeats 4000000 in
set_option maxRecDepth 100000 in
theorem b_X11_pass_161 {p : Program} {e : Env} {s : State} {m : MethodId} {args : Array Value} {below : List Frame} {meth : Method} {c : Code} {A : Nat → Prop} {l : Launch} {D : va_G} {cy : cyS} {G : gS} (cx : cX p s m args meth c cX11_pass RX11 3 none wsX11_pass D cy G A) {k0 n0 : Nat} (hkn : k0 ≤ (rmX11_pass).cells ∧ n0 ≤ (rmX11_pass).slots) {M' : mS} {a0 : Nat} (hL0 : a0 ∈ gL G) (hK0 : gK G a0 = 10) {kb110 : mS → Int32 → Option (mS × Unit)} (hkb110 : ∀ (M : mS) (v1 : Int32) (H : Heap) (locs : List Loc) (ls : Array Slot), kb110 M v1 = some (M', ()) → wd D cy G M A s.heap H locs → lv_has ls 3 [(0, .ref a0), (1, .int v1)] → W p l e rmX11_pass s m args below meth c H locs k0 n0 (MQ below (va_Qv (fun (_ : Unit) => True) (fun _ t => wOut D cy G M' t) A) args s k0 n0 A) (F0 m 110 ls [])) {kb128 : mS → Int32 → Int32 → Option (mS × Unit)} (hkb128 : ∀ (M : mS) (v1 : Int32) (v2 : Int32) (H : Heap) (locs : List Loc) (ls : Array Slot), kb128 M v1 v2 = some (M', ()) → wd D cy G M A s.heap H locs → lv_has ls 3 [(0, .ref a0), (1, .int v1), (2, .int v2)] → W p l e rmX11_pass s m args below meth c H locs k0 n0 (MQ below (va_Qv (fun (_ : Unit) => True) (fun _ t => wOut D cy G M' t) A) args s k0 n0 A) (F0 m 128 ls [])) : ∀ (M : mS) (v1 : Int32) (v2 : Int32) (s1 : Int32) (s2 : Int32) (H : Heap) (locs : List Loc) (ls : Array Slot), m_X11_pass_161 G a0 kb110 kb128 M v1 v2 s1 s2 = some (M', ()) → wd D cy G M A s.heap H locs → lv_has ls 3 [(0, .ref a0), (1, .int v1), (2, .int v2)] → W p l e rmX11_pass s m args below meth c H locs k0 n0 (MQ below (va_Qv (fun (_ : Unit) => True) (fun _ t => wOut D cy G M' t) A) args s k0 n0 A) (F0 m 161 ls [.int s2, .int s1, .ref a0]) := by
  obtain ⟨hx, hb, hml, hown, hts, hr, hlocks, hK, hA, hG, hsx⟩ := id cx
  intro M v1 v2 s1 s2 H locs ls h w hl
  unfold m_X11_pass_161 at h
  refine lv_iadd hx hb dX11_pass_161 ?_
  obtain ⟨M1, eM1, h⟩ := x_wI h
  refine r_putI (k := 1) (ty := .int) cx w tyX11 tyX11_ok nmX11 hL0 hK0 (by decide) rfl wi_X11_pass_X11 (by decide) rfl rfl rfl rfl st_10_1 (ln_10 _ _ (by decide)) (List.mem_of_getElem? (i := 4) rfl) dX11_pass_162 eM1 (fun H locs w => ?_)
  obtain ⟨x2, ex2, h⟩ := x_bd h
  refine lv_iinc (v := x2) (lv' := [(2, .int x2), (0, .ref a0), (1, .int v1)]) hx hb dX11_pass_165 hl (k := 2) rfl (by rw [ex2]; rfl) (by decide) rfl (fun ls hl => ?_)
  refine lv_goto (tgt := 128) hx hb dX11_pass_168 (by decide) ?_
  exact hkb128 M1 v1 x2 H locs ls h w (lv_sub hl [1, 2, 0] rfl)
set_option maxHeartbeats 4000000 in
set_option maxRecDepth 100000 in
theorem b_X11_pass_128 {p : Program} {e : Env} {s : State} {m : MethodId} {args : Array Value} {below : List Frame} {meth : Method} {c : Code} {A : Nat → Prop} {l : Launch} {D : va_G} {cy : cyS} {G : gS} (cx : cX p s m args meth c cX11_pass RX11 3 none wsX11_pass D cy G A) {k0 n0 : Nat} (hkn : k0 ≤ (rmX11_pass).cells ∧ n0 ≤ (rmX11_pass).slots) {M' : mS} {a0 : Nat} (hL0 : a0 ∈ gL G) (hK0 : gK G a0 = 10) {kb110 : mS → Int32 → Option (mS × Unit)} (hkb110 : ∀ (M : mS) (v1 : Int32) (H : Heap) (locs : List Loc) (ls : Array Slot), kb110 M v1 = some (M', ()) → wd D cy G M A s.heap H locs → lv_has ls 3 [(0, .ref a0), (1, .int v1)] → W p l e rmX11_pass s m args below meth c H locs k0 n0 (MQ below (va_Qv (fun (_ : Unit) => True) (fun _ t => wOut D cy G M' t) A) args s k0 n0 A) (F0 m 110 ls [])) : ∀ (n : Nat), ∀ (M : mS) (v1 : Int32) (v2 : Int32) (H : Heap) (locs : List Loc) (ls : Array Slot), m_X11_pass_128 G a0 kb110 n M v1 v2 = some (M', ()) → wd D cy G M A s.heap H locs → lv_has ls 3 [(0, .ref a0), (1, .int v1), (2, .int v2)] → W p l e rmX11_pass s m args below meth c H locs k0 n0 (MQ below (va_Qv (fun (_ : Unit) => True) (fun _ t => wOut D cy G M' t) A) args s k0 n0 A) (F0 m 128 ls []) := by
  obtain ⟨hx, hb, hml, hown, hts, hr, hlocks, hK, hA, hG, hsx⟩ := id cx
  intro n
  induction n with
  | zero =>
    intro M v1 v2 H locs ls h w hl
    have h : none = some _ := h
    cases h
  | succ n ih =>
    intro M v1 v2 H locs ls h w hl
    rw [m_X11_pass_128] at h
    refine lv_iload_n hx hb dX11_pass_128 rfl (lv_at hl 2 rfl) ?_
    refine lv_aload_n hx hb dX11_pass_129 rfl (lv_at hl 0 rfl) ?_
    obtain ⟨q1, eq1, h⟩ := x_rf h
    obtain ⟨hLq1, hKq1⟩ := wt_q hG hL0 hK0 eq1
    have hKq1 : gK G q1 = 11 := hKq1
    refine r_getR (k := 15) cx w hL0 hK0 (by decide) rfl wi_X11_pass_X11 (by decide) rfl eq1 (List.mem_of_getElem? (i := 1) rfl) dX11_pass_130 ?_
    obtain ⟨q2, eq2, h⟩ := x_rf h
    obtain ⟨hLq2, hKq2⟩ := wt_q hG hLq1 hKq1 eq2
    have hKq2 : gK G q2 = 9 := hKq2
    refine r_getRN (k := 11) cx w hLq1 hKq1 (by decide) rfl wi_X11_pass_X12 (by decide) rfl eq2 (nwF cx (q := (RX11, 72, "FlagAntsModel", "plan", "LFlagAntsModel$Plan;", "FlagAntsModel")) (List.mem_of_getElem? (i := 30) rfl)) dX11_pass_133 ?_
    refine r_getIN (k := 3) (v := .int (mI M q2 3)) cx w hLq2 hKq2 (by decide) rfl wi_X11_pass_X10 (by decide) rfl (nwF cx (q := (RX11, 106, "FlagAntsModel$Plan", "ants", "I", "FlagAntsModel")) (List.mem_of_getElem? (i := 38) rfl)) dX11_pass_136 ?_
    refine lv_icmp_ge (tgt := 171) hx hb dX11_pass_139 (by decide) (fun k3 => ?_) (fun k3 => ?_)
    · have h := x_t h k3
      obtain ⟨x4, ex4, h⟩ := x_bd h
      refine lv_iinc (v := x4) (lv' := [(1, .int x4), (0, .ref a0), (2, .int v2)]) hx hb dX11_pass_171 hl (k := 1) rfl (by rw [ex4]; rfl) (by decide) rfl (fun ls hl => ?_)
      refine lv_goto (tgt := 110) hx hb dX11_pass_174 (by decide) ?_
      exact hkb110 M x4 H locs ls h w (lv_sub hl [1, 0] rfl)
    · have h := x_f h k3
      refine lv_aload_n hx hb dX11_pass_142 rfl (lv_at hl 0 rfl) ?_
      refine lv_dup hx hb dX11_pass_143 rfl ?_
      refine r_getI (k := 1) (v := .int (mI M a0 1)) cx w hL0 hK0 (by decide) rfl wi_X11_pass_X11 (by decide) rfl (List.mem_of_getElem? (i := 4) rfl) dX11_pass_144 ?_
      refine lv_aload_n hx hb dX11_pass_147 rfl (lv_at hl 0 rfl) ?_
      refine lv_iload_n hx hb dX11_pass_148 rfl (lv_at hl 1 rfl) ?_
      refine lv_iload_n hx hb dX11_pass_149 rfl (lv_at hl 2 rfl) ?_
      obtain ⟨M5, r6, y7, h⟩ := x_cl h
      refine r_callVi (As := [.int v1, .int v2]) (rest := [.int ((mI M a0 1)), .ref a0]) cx w hkn hl.1 (k_X11_isAt hG hL0 hK0 y7) (cwV 2 hts gX11_pass_X11_isAt rfl rfl rfl (by decide +kernel) ⟨Nat.le_of_ble_eq_true rfl, Nat.le_of_ble_eq_true rfl⟩) hL0 hK0 (by decide) rfl rfl rfl (Nat.le_of_ble_eq_true rfl) dX11_pass_150 (fun H locs w => ?_)
      refine lv_if_eq (tgt := 160) hx hb dX11_pass_153 (by decide) (fun k8 => ?_) (fun k8 => ?_)
      · have h := x_t h k8
        refine lv_iconst (v := (0 : Int32)) hx hb dX11_pass_160 (by decide) ?_
        exact b_X11_pass_161 cx hkn hL0 hK0 (hkb110 := hkb110) (hkb128 := ih) M5 v1 v2 ((mI M a0 1)) ((0 : Int32)) H locs ls h w (lv_sub hl [0, 1, 2] rfl)
      · have h := x_f h k8
        refine lv_iconst (v := (1 : Int32)) hx hb dX11_pass_156 (by decide) ?_
        refine lv_goto (tgt := 161) hx hb dX11_pass_157 (by decide) ?_
        exact b_X11_pass_161 cx hkn hL0 hK0 (hkb110 := hkb110) (hkb128 := ih) M5 v1 v2 ((mI M a0 1)) ((1 : Int32)) H locs ls h w (lv_sub hl [0, 1, 2] rfl)
set_option maxHeartbeats 4000000 in
set_option maxRecDepth 100000 in
theorem b_X11_pass_110 {p : Program} {e : Env} {s : State} {m : MethodId} {args : Array Value} {below : List Frame} {meth : Method} {c : Code} {A : Nat → Prop} {l : Launch} {D : va_G} {cy : cyS} {G : gS} (cx : cX p s m args meth c cX11_pass RX11 3 none wsX11_pass D cy G A) {k0 n0 : Nat} (hkn : k0 ≤ (rmX11_pass).cells ∧ n0 ≤ (rmX11_pass).slots) {M' : mS} {a0 : Nat} (hL0 : a0 ∈ gL G) (hK0 : gK G a0 = 10)  : ∀ (n : Nat), ∀ (M : mS) (v1 : Int32) (H : Heap) (locs : List Loc) (ls : Array Slot), m_X11_pass_110 G a0 n M v1 = some (M', ()) → wd D cy G M A s.heap H locs → lv_has ls 3 [(0, .ref a0), (1, .int v1)] → W p l e rmX11_pass s m args below meth c H locs k0 n0 (MQ below (va_Qv (fun (_ : Unit) => True) (fun _ t => wOut D cy G M' t) A) args s k0 n0 A) (F0 m 110 ls []) := by
  obtain ⟨hx, hb, hml, hown, hts, hr, hlocks, hK, hA, hG, hsx⟩ := id cx
  intro n
  induction n with
  | zero =>
    intro M v1 H locs ls h w hl
    have h : none = some _ := h
    cases h
  | succ n ih =>
    intro M v1 H locs ls h w hl
    rw [m_X11_pass_110] at h
    refine lv_iload_n hx hb dX11_pass_110 rfl (lv_at hl 1 rfl) ?_
    refine lv_aload_n hx hb dX11_pass_111 rfl (lv_at hl 0 rfl) ?_
    obtain ⟨q1, eq1, h⟩ := x_rf h
    obtain ⟨hLq1, hKq1⟩ := wt_q hG hL0 hK0 eq1
    have hKq1 : gK G q1 = 11 := hKq1
    refine r_getR (k := 15) cx w hL0 hK0 (by decide) rfl wi_X11_pass_X11 (by decide) rfl eq1 (List.mem_of_getElem? (i := 1) rfl) dX11_pass_112 ?_
    obtain ⟨q2, eq2, h⟩ := x_rf h
    obtain ⟨hLq2, hKq2⟩ := wt_q hG hLq1 hKq1 eq2
    have hKq2 : gK G q2 = 9 := hKq2
    refine r_getRN (k := 11) cx w hLq1 hKq1 (by decide) rfl wi_X11_pass_X12 (by decide) rfl eq2 (nwF cx (q := (RX11, 72, "FlagAntsModel", "plan", "LFlagAntsModel$Plan;", "FlagAntsModel")) (List.mem_of_getElem? (i := 30) rfl)) dX11_pass_115 ?_
    refine r_getIN (k := 3) (v := .int (mI M q2 3)) cx w hLq2 hKq2 (by decide) rfl wi_X11_pass_X10 (by decide) rfl (nwF cx (q := (RX11, 106, "FlagAntsModel$Plan", "ants", "I", "FlagAntsModel")) (List.mem_of_getElem? (i := 38) rfl)) dX11_pass_118 ?_
    refine lv_icmp_ge (tgt := 177) hx hb dX11_pass_121 (by decide) (fun k3 => ?_) (fun k3 => ?_)
    · have h := x_t h k3
      refine lv_aload_n hx hb dX11_pass_177 rfl (lv_at hl 0 rfl) ?_
      refine lv_dup hx hb dX11_pass_178 rfl ?_
      refine r_getI (k := 0) (v := .int (mI M a0 0)) cx w hL0 hK0 (by decide) rfl wi_X11_pass_X11 (by decide) rfl (List.mem_of_getElem? (i := 5) rfl) dX11_pass_179 ?_
      refine lv_iconst (v := (1 : Int32)) hx hb dX11_pass_182 (by decide) ?_
      refine lv_iadd hx hb dX11_pass_183 ?_
      obtain ⟨M4, eM4, h⟩ := x_wI h
      refine r_putI (k := 0) (ty := .int) cx w tyX11 tyX11_ok nmX11 hL0 hK0 (by decide) rfl wi_X11_pass_X11 (by decide) rfl rfl rfl rfl st_10_0 (ln_10 _ _ (by decide)) (List.mem_of_getElem? (i := 5) rfl) dX11_pass_184 eM4 (fun H locs w => ?_)
      exact r_vret cx w h dX11_pass_187
    · have h := x_f h k3
      refine lv_iload_n hx hb dX11_pass_124 rfl (lv_at hl 1 rfl) ?_
      refine lv_iconst (v := (1 : Int32)) hx hb dX11_pass_125 (by decide) ?_
      refine lv_iadd hx hb dX11_pass_126 ?_
      obtain ⟨x5, ex5, h⟩ := x_bd h
      refine r_topI ex5 ?_
      refine lv_istore_n (lv' := [(2, .int x5), (0, .ref a0), (1, .int v1)]) hx hb dX11_pass_127 rfl hl (by decide) rfl (fun ls hl => ?_)
      exact b_X11_pass_128 cx hkn hL0 hK0 (hkb110 := ih) fu M v1 x5 H locs ls h w (lv_sub hl [1, 2, 0] rfl)
set_option maxHeartbeats 4000000 in
set_option maxRecDepth 100000 in
theorem b_X11_pass_74 {p : Program} {e : Env} {s : State} {m : MethodId} {args : Array Value} {below : List Frame} {meth : Method} {c : Code} {A : Nat → Prop} {l : Launch} {D : va_G} {cy : cyS} {G : gS} (cx : cX p s m args meth c cX11_pass RX11 3 none wsX11_pass D cy G A) {k0 n0 : Nat} (hkn : k0 ≤ (rmX11_pass).cells ∧ n0 ≤ (rmX11_pass).slots) {M' : mS} {a0 : Nat} (hL0 : a0 ∈ gL G) (hK0 : gK G a0 = 10)  : ∀ (n : Nat), ∀ (M : mS) (v1 : Int32) (H : Heap) (locs : List Loc) (ls : Array Slot), m_X11_pass_74 G a0 n M v1 = some (M', ()) → wd D cy G M A s.heap H locs → lv_has ls 3 [(0, .ref a0), (1, .int v1)] → W p l e rmX11_pass s m args below meth c H locs k0 n0 (MQ below (va_Qv (fun (_ : Unit) => True) (fun _ t => wOut D cy G M' t) A) args s k0 n0 A) (F0 m 74 ls []) := by
  obtain ⟨hx, hb, hml, hown, hts, hr, hlocks, hK, hA, hG, hsx⟩ := id cx
  intro n
  induction n with
  | zero =>
    intro M v1 H locs ls h w hl
    have h : none = some _ := h
    cases h
  | succ n ih =>
    intro M v1 H locs ls h w hl
    rw [m_X11_pass_74] at h
    refine lv_iload_n hx hb dX11_pass_74 rfl (lv_at hl 1 rfl) ?_
    refine lv_aload_n hx hb dX11_pass_75 rfl (lv_at hl 0 rfl) ?_
    obtain ⟨q1, eq1, h⟩ := x_rf h
    obtain ⟨hLq1, hKq1⟩ := wt_q hG hL0 hK0 eq1
    have hKq1 : gK G q1 = 11 := hKq1
    refine r_getR (k := 15) cx w hL0 hK0 (by decide) rfl wi_X11_pass_X11 (by decide) rfl eq1 (List.mem_of_getElem? (i := 1) rfl) dX11_pass_76 ?_
    obtain ⟨q2, eq2, h⟩ := x_rf h
    obtain ⟨hLq2, hKq2⟩ := wt_q hG hLq1 hKq1 eq2
    have hKq2 : gK G q2 = 9 := hKq2
    refine r_getRN (k := 11) cx w hLq1 hKq1 (by decide) rfl wi_X11_pass_X12 (by decide) rfl eq2 (nwF cx (q := (RX11, 72, "FlagAntsModel", "plan", "LFlagAntsModel$Plan;", "FlagAntsModel")) (List.mem_of_getElem? (i := 30) rfl)) dX11_pass_79 ?_
    refine r_getIN (k := 3) (v := .int (mI M q2 3)) cx w hLq2 hKq2 (by decide) rfl wi_X11_pass_X10 (by decide) rfl (nwF cx (q := (RX11, 106, "FlagAntsModel$Plan", "ants", "I", "FlagAntsModel")) (List.mem_of_getElem? (i := 38) rfl)) dX11_pass_82 ?_
    refine lv_icmp_ge (tgt := 108) hx hb dX11_pass_85 (by decide) (fun k3 => ?_) (fun k3 => ?_)
    · have h := x_t h k3
      refine lv_iconst (v := (0 : Int32)) hx hb dX11_pass_108 (by decide) ?_
      refine lv_istore_n (lv' := [(1, .int ((0 : Int32))), (0, .ref a0)]) hx hb dX11_pass_109 rfl hl (by decide) rfl (fun ls hl => ?_)
      exact b_X11_pass_110 cx hkn hL0 hK0 fu M ((0 : Int32)) H locs ls h w (lv_sub hl [1, 0] rfl)
    · have h := x_f h k3
      refine lv_aload_n hx hb dX11_pass_88 rfl (lv_at hl 0 rfl) ?_
      obtain ⟨q4, eq4, h⟩ := x_rf h
      obtain ⟨hLq4, hKq4⟩ := wt_q hG hL0 hK0 eq4
      have hKq4 : gK G q4 = 12 := hKq4
      refine r_getR (k := 9) cx w hL0 hK0 (by decide) rfl wi_X11_pass_X11 (by decide) rfl eq4 (List.mem_of_getElem? (i := 3) rfl) dX11_pass_89 ?_
      refine lv_iload_n hx hb dX11_pass_92 rfl (lv_at hl 1 rfl) ?_
      obtain ⟨z5, h⟩ := x_ix h
      refine r_iald cx w hLq4 hKq4 z5 dX11_pass_93 ?_
      refine lv_if_ne (tgt := 102) hx hb dX11_pass_94 (by decide) (fun k6 => ?_) (fun k6 => ?_)
      · have h := x_f h k6
        exact b_X11_pass_102 cx hkn hL0 hK0 (hkb74 := ih) M v1 H locs ls h w (lv_sub hl [0, 1] rfl)
      · have h := x_t h k6
        refine lv_aload_n hx hb dX11_pass_97 rfl (lv_at hl 0 rfl) ?_
        refine lv_iload_n hx hb dX11_pass_98 rfl (lv_at hl 1 rfl) ?_
        obtain ⟨M7, r8, y9, h⟩ := x_cl h
        refine r_callVv (As := [.int v1]) (rest := []) cx w hkn hl.1 (k_X11_walk hG hL0 hK0 y9) (cwV 1 hts gX11_pass_X11_walk rfl rfl rfl (by decide +kernel) ⟨Nat.le_of_ble_eq_true rfl, Nat.le_of_ble_eq_true rfl⟩) hL0 hK0 (by decide) rfl rfl rfl (Nat.le_of_ble_eq_true rfl) dX11_pass_99 (fun H locs w => ?_)
        exact b_X11_pass_102 cx hkn hL0 hK0 (hkb74 := ih) M7 v1 H locs ls h w (lv_sub hl [0, 1] rfl)
set_option maxHeartbeats 4000000 in
set_option maxRecDepth 100000 in
theorem b_X11_pass_2 {p : Program} {e : Env} {s : State} {m : MethodId} {args : Array Value} {below : List Frame} {meth : Method} {c : Code} {A : Nat → Prop} {l : Launch} {D : va_G} {cy : cyS} {G : gS} (cx : cX p s m args meth c cX11_pass RX11 3 none wsX11_pass D cy G A) {k0 n0 : Nat} (hkn : k0 ≤ (rmX11_pass).cells ∧ n0 ≤ (rmX11_pass).slots) {M' : mS} {a0 : Nat} (hL0 : a0 ∈ gL G) (hK0 : gK G a0 = 10)  : ∀ (n : Nat), ∀ (M : mS) (v1 : Int32) (H : Heap) (locs : List Loc) (ls : Array Slot), m_X11_pass_2 G a0 n M v1 = some (M', ()) → wd D cy G M A s.heap H locs → lv_has ls 3 [(0, .ref a0), (1, .int v1)] → W p l e rmX11_pass s m args below meth c H locs k0 n0 (MQ below (va_Qv (fun (_ : Unit) => True) (fun _ t => wOut D cy G M' t) A) args s k0 n0 A) (F0 m 2 ls []) := by
  obtain ⟨hx, hb, hml, hown, hts, hr, hlocks, hK, hA, hG, hsx⟩ := id cx
  intro n
  induction n with
  | zero =>
    intro M v1 H locs ls h w hl
    have h : none = some _ := h
    cases h
  | succ n ih =>
    intro M v1 H locs ls h w hl
    rw [m_X11_pass_2] at h
    refine lv_iload_n hx hb dX11_pass_2 rfl (lv_at hl 1 rfl) ?_
    refine lv_aload_n hx hb dX11_pass_3 rfl (lv_at hl 0 rfl) ?_
    obtain ⟨q1, eq1, h⟩ := x_rf h
    obtain ⟨hLq1, hKq1⟩ := wt_q hG hL0 hK0 eq1
    have hKq1 : gK G q1 = 11 := hKq1
    refine r_getR (k := 15) cx w hL0 hK0 (by decide) rfl wi_X11_pass_X11 (by decide) rfl eq1 (List.mem_of_getElem? (i := 1) rfl) dX11_pass_4 ?_
    obtain ⟨q2, eq2, h⟩ := x_rf h
    obtain ⟨hLq2, hKq2⟩ := wt_q hG hLq1 hKq1 eq2
    have hKq2 : gK G q2 = 9 := hKq2
    refine r_getRN (k := 11) cx w hLq1 hKq1 (by decide) rfl wi_X11_pass_X12 (by decide) rfl eq2 (nwF cx (q := (RX11, 72, "FlagAntsModel", "plan", "LFlagAntsModel$Plan;", "FlagAntsModel")) (List.mem_of_getElem? (i := 30) rfl)) dX11_pass_7 ?_
    refine r_getIN (k := 11) (v := .int (mI M q2 11)) cx w hLq2 hKq2 (by decide) rfl wi_X11_pass_X10 (by decide) rfl (nwF cx (q := (RX11, 126, "FlagAntsModel$Plan", "orders", "I", "FlagAntsModel")) (List.mem_of_getElem? (i := 42) rfl)) dX11_pass_10 ?_
    refine lv_icmp_ge (tgt := 72) hx hb dX11_pass_13 (by decide) (fun k3 => ?_) (fun k3 => ?_)
    · have h := x_t h k3
      refine lv_iconst (v := (0 : Int32)) hx hb dX11_pass_72 (by decide) ?_
      refine lv_istore_n (lv' := [(1, .int ((0 : Int32))), (0, .ref a0)]) hx hb dX11_pass_73 rfl hl (by decide) rfl (fun ls hl => ?_)
      exact b_X11_pass_74 cx hkn hL0 hK0 fu M ((0 : Int32)) H locs ls h w (lv_sub hl [1, 0] rfl)
    · have h := x_f h k3
      refine lv_aload_n hx hb dX11_pass_16 rfl (lv_at hl 0 rfl) ?_
      refine lv_aload_n hx hb dX11_pass_17 rfl (lv_at hl 0 rfl) ?_
      obtain ⟨q4, eq4, h⟩ := x_rf h
      obtain ⟨hLq4, hKq4⟩ := wt_q hG hL0 hK0 eq4
      have hKq4 : gK G q4 = 11 := hKq4
      refine r_getR (k := 15) cx w hL0 hK0 (by decide) rfl wi_X11_pass_X11 (by decide) rfl eq4 (List.mem_of_getElem? (i := 1) rfl) dX11_pass_18 ?_
      obtain ⟨q5, eq5, h⟩ := x_rf h
      obtain ⟨hLq5, hKq5⟩ := wt_q hG hLq4 hKq4 eq5
      have hKq5 : gK G q5 = 9 := hKq5
      refine r_getRN (k := 11) cx w hLq4 hKq4 (by decide) rfl wi_X11_pass_X12 (by decide) rfl eq5 (nwF cx (q := (RX11, 72, "FlagAntsModel", "plan", "LFlagAntsModel$Plan;", "FlagAntsModel")) (List.mem_of_getElem? (i := 30) rfl)) dX11_pass_21 ?_
      obtain ⟨q6, eq6, h⟩ := x_rf h
      obtain ⟨hLq6, hKq6⟩ := wt_q hG hLq5 hKq5 eq6
      have hKq6 : gK G q6 = 12 := hKq6
      refine r_getRN (k := 16) cx w hLq5 hKq5 (by decide) rfl wi_X11_pass_X10 (by decide) rfl eq6 (nwF cx (q := (RX11, 129, "FlagAntsModel$Plan", "test", "[I", "FlagAntsModel")) (List.mem_of_getElem? (i := 43) rfl)) dX11_pass_24 ?_
      refine lv_iload_n hx hb dX11_pass_27 rfl (lv_at hl 1 rfl) ?_
      obtain ⟨z7, h⟩ := x_ix h
      refine r_iald cx w hLq6 hKq6 z7 dX11_pass_28 ?_
      refine lv_aload_n hx hb dX11_pass_29 rfl (lv_at hl 0 rfl) ?_
      obtain ⟨q8, eq8, h⟩ := x_rf h
      obtain ⟨hLq8, hKq8⟩ := wt_q hG hL0 hK0 eq8
      have hKq8 : gK G q8 = 11 := hKq8
      refine r_getR (k := 15) cx w hL0 hK0 (by decide) rfl wi_X11_pass_X11 (by decide) rfl eq8 (List.mem_of_getElem? (i := 1) rfl) dX11_pass_30 ?_
      obtain ⟨q9, eq9, h⟩ := x_rf h
      obtain ⟨hLq9, hKq9⟩ := wt_q hG hLq8 hKq8 eq9
      have hKq9 : gK G q9 = 9 := hKq9
      refine r_getRN (k := 11) cx w hLq8 hKq8 (by decide) rfl wi_X11_pass_X12 (by decide) rfl eq9 (nwF cx (q := (RX11, 72, "FlagAntsModel", "plan", "LFlagAntsModel$Plan;", "FlagAntsModel")) (List.mem_of_getElem? (i := 30) rfl)) dX11_pass_33 ?_
      obtain ⟨q10, eq10, h⟩ := x_rf h
      obtain ⟨hLq10, hKq10⟩ := wt_q hG hLq9 hKq9 eq10
      have hKq10 : gK G q10 = 12 := hKq10
      refine r_getRN (k := 17) cx w hLq9 hKq9 (by decide) rfl wi_X11_pass_X10 (by decide) rfl eq10 (nwF cx (q := (RX11, 132, "FlagAntsModel$Plan", "testEnd", "[I", "FlagAntsModel")) (List.mem_of_getElem? (i := 44) rfl)) dX11_pass_36 ?_
      refine lv_iload_n hx hb dX11_pass_39 rfl (lv_at hl 1 rfl) ?_
      obtain ⟨z11, h⟩ := x_ix h
      refine r_iald cx w hLq10 hKq10 z11 dX11_pass_40 ?_
      obtain ⟨M12, r13, y14, h⟩ := x_cl h
      refine r_callVi (As := [.int ((mI M q6 (Int32.toNatClampNeg v1))), .int ((mI M q10 (Int32.toNatClampNeg v1)))]) (rest := []) cx w hkn hl.1 (k_X11_carryOut hG hL0 hK0 y14) (cwV 2 hts gX11_pass_X11_carryOut rfl rfl rfl (by decide +kernel) ⟨Nat.le_of_ble_eq_true rfl, Nat.le_of_ble_eq_true rfl⟩) hL0 hK0 (by decide) rfl rfl rfl (Nat.le_of_ble_eq_true rfl) dX11_pass_41 (fun H locs w => ?_)
      refine lv_iconst (v := (1 : Int32)) hx hb dX11_pass_44 (by decide) ?_
      refine lv_icmp_ne (tgt := 66) hx hb dX11_pass_45 (by decide) (fun k15 => ?_) (fun k15 => ?_)
      · have h := x_f h k15
        exact b_X11_pass_66 cx hkn hL0 hK0 (hkb2 := ih) M12 v1 H locs ls h w (lv_sub hl [0, 1] rfl)
      · have h := x_t h k15
        refine lv_aload_n hx hb dX11_pass_48 rfl (lv_at hl 0 rfl) ?_
        refine lv_iload_n hx hb dX11_pass_49 rfl (lv_at hl 1 rfl) ?_
        obtain ⟨M16, r17, y18, h⟩ := x_cl h
        refine r_callVi (As := [.int v1]) (rest := []) cx w hkn hl.1 (k_X11_orders hG hL0 hK0 y18) (cwV 1 hts gX11_pass_X11_orders rfl rfl rfl (by decide +kernel) ⟨Nat.le_of_ble_eq_true rfl, Nat.le_of_ble_eq_true rfl⟩) hL0 hK0 (by decide) rfl rfl rfl (Nat.le_of_ble_eq_true rfl) dX11_pass_50 (fun H locs w => ?_)
        refine lv_if_eq (tgt := 66) hx hb dX11_pass_53 (by decide) (fun k19 => ?_) (fun k19 => ?_)
        · have h := x_t h k19
          exact b_X11_pass_66 cx hkn hL0 hK0 (hkb2 := ih) M16 v1 H locs ls h w (lv_sub hl [0, 1] rfl)
        · have h := x_f h k19
          refine lv_aload_n hx hb dX11_pass_56 rfl (lv_at hl 0 rfl) ?_
          refine lv_dup hx hb dX11_pass_57 rfl ?_
          refine r_getI (k := 3) (v := .int (mI M16 a0 3)) cx w hL0 hK0 (by decide) rfl wi_X11_pass_X11 (by decide) rfl (List.mem_of_getElem? (i := 2) rfl) dX11_pass_58 ?_
          refine lv_iconst (v := (1 : Int32)) hx hb dX11_pass_61 (by decide) ?_
          refine lv_iadd hx hb dX11_pass_62 ?_
          obtain ⟨M20, eM20, h⟩ := x_wI h
          refine r_putI (k := 3) (ty := .int) cx w tyX11 tyX11_ok nmX11 hL0 hK0 (by decide) rfl wi_X11_pass_X11 (by decide) rfl rfl rfl rfl st_10_3 (ln_10 _ _ (by decide)) (List.mem_of_getElem? (i := 2) rfl) dX11_pass_63 eM20 (fun H locs w => ?_)
          exact b_X11_pass_66 cx hkn hL0 hK0 (hkb2 := ih) M20 v1 H locs ls h w (lv_sub hl [0, 1] rfl)
set_option maxHeartbeats 4000000 in
set_option maxRecDepth 100000 in
theorem k_X11_pass {l : Launch} {D : va_G} {cy : cyS} {G : gS} {M M' : mS} {a0 : Nat} (hG : wt G) (hL0 : a0 ∈ gL G) (hK0 : gK G a0 = 10) (h : m_X11_pass G M a0 = some (M', ())) : ctV l yX11_pass wsX11_pass rmX11_pass D cy G M [.ref a0] M' := by
  unfold m_X11_pass at h
  refine ctV_of (cc := cX11_pass) (nL := 3) (ret := none) (lv := [(0, .ref a0)]) hG (by decide) rfl ⟨rfl, rfl⟩ (Nat.le_of_ble_eq_true rfl) rfl ?_
  intro p e s m args below meth c A ls cx w hl
  obtain ⟨hx, hb, hml, hown, hts, hr, hlocks, hK, hA, -, hsx⟩ := id cx
  have hkn : 0 ≤ (rmX11_pass).cells ∧ 0 ≤ (rmX11_pass).slots := ⟨Nat.zero_le _, Nat.zero_le _⟩
  refine lv_iconst (v := (0 : Int32)) hx hb dX11_pass_0 (by decide) ?_
  refine lv_istore_n (lv' := [(1, .int ((0 : Int32))), (0, .ref a0)]) hx hb dX11_pass_1 rfl hl (by decide) rfl (fun ls hl => ?_)
  exact b_X11_pass_2 cx hkn hL0 hK0 fu M ((0 : Int32)) s.heap [] ls h w (lv_sub hl [1, 0] rfl)
-- X11_pass_
abbrev rmX11_pass_ : Room := { frames := 5, cells := 0, slots := 0, locals := 129 }
def m_X11_pass__2 (G : gS) (a0 : Nat) (c1 : Int32)  : Nat → mS → Int32 → Option (mS × Nat)
  | 0, _, _ => none
  | n + 1, M, v2 => (if c1 ≤ v2 then some (M, a0) else o_cl (m_X11_pass G M a0) (fun M2 r3 => o_bd (v2 + 1 : Int32) (fun x5 => m_X11_pass__2 G a0 c1 n M2 x5)))
def m_X11_pass_ (G : gS) (M : mS) (a0 : Nat) (c1 : Int32) : Option (mS × Nat) := m_X11_pass__2 G a0 c1 fu M ((0 : Int32))
set_option maxHeartbeats 4000000 in
set_option maxRecDepth 100000 in
theorem b_X11_pass__2 {p : Program} {e : Env} {s : State} {m : MethodId} {args : Array Value} {below : List Frame} {meth : Method} {c : Code} {A : Nat → Prop} {l : Launch} {D : va_G} {cy : cyS} {G : gS} (cx : cX p s m args meth c cX11_pass_ RX11 3 (some (.object "FlagAntsModel$State")) wsX11_pass_ D cy G A) {k0 n0 : Nat} (hkn : k0 ≤ (rmX11_pass_).cells ∧ n0 ≤ (rmX11_pass_).slots) {M' : mS} {r : Nat} {a0 : Nat} {c1 : Int32} (hL0 : a0 ∈ gL G) (hK0 : gK G a0 = 10)  : ∀ (n : Nat), ∀ (M : mS) (v2 : Int32) (H : Heap) (locs : List Loc) (ls : Array Slot), m_X11_pass__2 G a0 c1 n M v2 = some (M', r) → wd D cy G M A s.heap H locs → lv_has ls 3 [(0, .ref a0), (1, .int c1), (2, .int v2)] → W p l e rmX11_pass_ s m args below meth c H locs k0 n0 (MQ below (va_Qr (fun (_ : Unit) => True) (fun _ a t => a = r ∧ wOut D cy G M' t) A) args s k0 n0 A) (F0 m 2 ls []) := by
  obtain ⟨hx, hb, hml, hown, hts, hr, hlocks, hK, hA, hG, hsx⟩ := id cx
  intro n
  induction n with
  | zero =>
    intro M v2 H locs ls h w hl
    have h : none = some _ := h
    cases h
  | succ n ih =>
    intro M v2 H locs ls h w hl
    rw [m_X11_pass__2] at h
    refine lv_iload_n hx hb dX11_pass__2 rfl (lv_at hl 2 rfl) ?_
    refine lv_iload_n hx hb dX11_pass__3 rfl (lv_at hl 1 rfl) ?_
    refine lv_icmp_ge (tgt := 17) hx hb dX11_pass__4 (by decide) (fun k1 => ?_) (fun k1 => ?_)
    · have h := x_t h k1
      refine lv_aload_n hx hb dX11_pass__17 rfl (lv_at hl 0 rfl) ?_
      exact r_aret cx w h dX11_pass__18
    · have h := x_f h k1
      refine lv_aload_n hx hb dX11_pass__7 rfl (lv_at hl 0 rfl) ?_
      obtain ⟨M2, r3, y4, h⟩ := x_cl h
      refine r_callVv (As := []) (rest := []) cx w hkn hl.1 (k_X11_pass hG hL0 hK0 y4) (cwV 0 hts gX11_pass__X11_pass rfl rfl rfl (by decide +kernel) ⟨Nat.le_of_ble_eq_true rfl, Nat.le_of_ble_eq_true rfl⟩) hL0 hK0 (by decide) rfl rfl rfl (Nat.le_of_ble_eq_true rfl) dX11_pass__8 (fun H locs w => ?_)
      obtain ⟨x5, ex5, h⟩ := x_bd h
      refine lv_iinc (v := x5) (lv' := [(2, .int x5), (0, .ref a0), (1, .int c1)]) hx hb dX11_pass__11 hl (k := 2) rfl (by rw [ex5]; rfl) (by decide) rfl (fun ls hl => ?_)
      refine lv_goto (tgt := 2) hx hb dX11_pass__14 (by decide) ?_
      exact ih M2 x5 H locs ls h w (lv_sub hl [1, 2, 0] rfl)
set_option maxHeartbeats 4000000 in
set_option maxRecDepth 100000 in
theorem k_X11_pass_ {l : Launch} {D : va_G} {cy : cyS} {G : gS} {M M' : mS} {r : Nat} {a0 : Nat} {c1 : Int32} (hG : wt G) (hL0 : a0 ∈ gL G) (hK0 : gK G a0 = 10) (h : m_X11_pass_ G M a0 c1 = some (M', r)) : ctR l yX11_pass_ wsX11_pass_ rmX11_pass_ D cy G M [.ref a0, .int c1] M' r := by
  unfold m_X11_pass_ at h
  refine ctR_of (cc := cX11_pass_) (nL := 3) (ret := (some (.object "FlagAntsModel$State"))) (lv := [(0, .ref a0), (1, .int c1)]) hG (by decide) rfl ⟨rfl, rfl⟩ (Nat.le_of_ble_eq_true rfl) rfl ?_
  intro p e s m args below meth c A ls cx w hl
  obtain ⟨hx, hb, hml, hown, hts, hr, hlocks, hK, hA, -, hsx⟩ := id cx
  have hkn : 0 ≤ (rmX11_pass_).cells ∧ 0 ≤ (rmX11_pass_).slots := ⟨Nat.zero_le _, Nat.zero_le _⟩
  refine lv_iconst (v := (0 : Int32)) hx hb dX11_pass__0 (by decide) ?_
  refine lv_istore_n (lv' := [(2, .int ((0 : Int32))), (0, .ref a0), (1, .int c1)]) hx hb dX11_pass__1 rfl hl (by decide) rfl (fun ls hl => ?_)
  exact b_X11_pass__2 cx hkn hL0 hK0 fu M ((0 : Int32)) s.heap [] ls h w (lv_sub hl [1, 2, 0] rfl)
-- X12_no
theorem wi_X12_no_X12 : ∀ w ∈ wsX120, w ∈ wsX12_no := by decide +kernel
abbrev rmX12_no : Room := { frames := 0, cells := 0, slots := 0, locals := 0 }
def m_X12_no (G : gS) (M : mS) (a0 : Nat) (c1 : Int32) : Option (mS × Int32) := o_wI M a0 0 c1 (fun M1 => some (M1, (0 : Int32)))
set_option maxHeartbeats 4000000 in
set_option maxRecDepth 100000 in
theorem k_X12_no {l : Launch} {D : va_G} {cy : cyS} {G : gS} {M M' : mS} {r : Int32} {a0 : Nat} {c1 : Int32} (hG : wt G) (hL0 : a0 ∈ gL G) (hK0 : gK G a0 = 11) (h : m_X12_no G M a0 c1 = some (M', r)) : ctI l yX12_no wsX12_no rmX12_no D cy G M [.ref a0, .int c1] M' r := by
  unfold m_X12_no at h
  refine ctI_of (cc := cX12_no) (nL := 2) (ret := (some .int)) (lv := [(0, .ref a0), (1, .int c1)]) hG (by decide) rfl ⟨rfl, rfl⟩ (Nat.le_of_ble_eq_true rfl) rfl ?_
  intro p e s m args below meth c A ls cx w hl
  obtain ⟨hx, hb, hml, hown, hts, hr, hlocks, hK, hA, -, hsx⟩ := id cx
  have hkn : 0 ≤ (rmX12_no).cells ∧ 0 ≤ (rmX12_no).slots := ⟨Nat.zero_le _, Nat.zero_le _⟩
  refine lv_aload_n hx hb dX12_no_0 rfl (lv_at hl 0 rfl) ?_
  refine lv_iload_n hx hb dX12_no_1 rfl (lv_at hl 1 rfl) ?_
  obtain ⟨M1, eM1, h⟩ := x_wI h
  refine r_putI (k := 0) (ty := .int) cx w tyX12 tyX12_ok nmX12 hL0 hK0 (by decide) rfl wi_X12_no_X12 (by decide) rfl rfl rfl rfl st_11_0 (ln_11 _ _ (by decide)) (List.mem_of_getElem? (i := 1) rfl) dX12_no_2 eM1 (fun H locs w => ?_)
  refine lv_iconst (v := (0 : Int32)) hx hb dX12_no_5 (by decide) ?_
  exact r_iret cx w h dX12_no_6
-- X12_advise
theorem wi_X12_advise_X12 : ∀ w ∈ wsX120, w ∈ wsX12_advise := by decide +kernel
abbrev rmX12_advise : Room := { frames := 6, cells := 0, slots := 0, locals := 151 }
def m_X12_advise_103 (G : gS) (a0 : Nat) (c1 : Int32) (kb46 : mS → Int32 → Int32 → Int32 → Option (mS × Int32)) (M : mS) (v2 : Int32) (v3 : Int32) (v4 : Int32) : Option (mS × Int32) := o_bd (v4 + 8 : Int32) (fun x1 => kb46 M v2 v3 x1)
def m_X12_advise_46 (G : gS) (a0 : Nat) (c1 : Int32)  : Nat → mS → Int32 → Int32 → Int32 → Option (mS × Int32)
  | 0, _, _, _, _ => none
  | n + 1, M, v2, v3, v4 => (if (64 : Int32) ≤ v4 then some (M, v2) else o_rf (gP G a0 14) (fun q2 => o_rf (gP G a0 13) (fun q3 => o_cl (m_X11_become G M q2 q3) (fun M4 r5 => o_ck (r5 ∈ gL G ∧ gK G r5 = 10) (o_cl (m_X11_wash G M4 r5 v4 (v4 + (7 : Int32))) (fun M8 r9 => o_rf (gP G a0 14) (fun q11 => o_cl (m_X11_pass_ G M8 q11 c1) (fun M12 r13 => o_ck (r13 ∈ gL G ∧ gK G r13 = 10) (o_cl (m_X11_dark G M12 r13) (fun M16 r17 => (if r17 < v3 then m_X12_advise_103 G a0 c1 (fun M v2 v3 v4 => m_X12_advise_46 G a0 c1 n M v2 v3 v4) M16 v4 r17 v4 else m_X12_advise_103 G a0 c1 (fun M v2 v3 v4 => m_X12_advise_46 G a0 c1 n M v2 v3 v4) M16 v2 v3 v4)))))))))))
def m_X12_advise (G : gS) (M : mS) (a0 : Nat) (c1 : Int32) : Option (mS × Int32) := o_wI M a0 0 (0 : Int32) (fun M1 => o_cl (m_X12_isIn G M1 c1 (1 : Int32) (300 : Int32)) (fun M2 r3 => (if r3 = 0 then o_cl (m_X12_no G M2 a0 (1 : Int32)) (fun M19 r20 => some (M19, r20)) else o_rf (gP G a0 14) (fun q6 => o_rf (gP G a0 13) (fun q7 => o_cl (m_X11_become G M2 q6 q7) (fun M8 r9 => o_ck (r9 ∈ gL G ∧ gK G r9 = 10) (o_cl (m_X11_pass_ G M8 r9 c1) (fun M12 r13 => o_ck (r13 ∈ gL G ∧ gK G r13 = 10) (o_cl (m_X11_dark G M12 r13) (fun M16 r17 => m_X12_advise_46 G a0 c1 fu M16 ((-1 : Int32)) r17 ((0 : Int32))))))))))))
set_option maxHeartbeats 4000000 in
set_option maxRecDepth 100000 in
theorem b_X12_advise_103 {p : Program} {e : Env} {s : State} {m : MethodId} {args : Array Value} {below : List Frame} {meth : Method} {c : Code} {A : Nat → Prop} {l : Launch} {D : va_G} {cy : cyS} {G : gS} (cx : cX p s m args meth c cX12_advise RX12 6 (some .int) wsX12_advise D cy G A) {k0 n0 : Nat} (hkn : k0 ≤ (rmX12_advise).cells ∧ n0 ≤ (rmX12_advise).slots) {M' : mS} {r : Int32} {a0 : Nat} {c1 : Int32} (hL0 : a0 ∈ gL G) (hK0 : gK G a0 = 11) {kb46 : mS → Int32 → Int32 → Int32 → Option (mS × Int32)} (hkb46 : ∀ (M : mS) (v2 : Int32) (v3 : Int32) (v4 : Int32) (H : Heap) (locs : List Loc) (ls : Array Slot), kb46 M v2 v3 v4 = some (M', r) → wd D cy G M A s.heap H locs → lv_has ls 6 [(0, .ref a0), (1, .int c1), (2, .int v2), (3, .int v3), (4, .int v4)] → W p l e rmX12_advise s m args below meth c H locs k0 n0 (MQ below (va_Qi (fun (r' : Int32) (_ : Unit) => r' = r) (fun _ t => wOut D cy G M' t) A) args s k0 n0 A) (F0 m 46 ls [])) : ∀ (M : mS) (v2 : Int32) (v3 : Int32) (v4 : Int32) (H : Heap) (locs : List Loc) (ls : Array Slot), m_X12_advise_103 G a0 c1 kb46 M v2 v3 v4 = some (M', r) → wd D cy G M A s.heap H locs → lv_has ls 6 [(0, .ref a0), (1, .int c1), (2, .int v2), (3, .int v3), (4, .int v4)] → W p l e rmX12_advise s m args below meth c H locs k0 n0 (MQ below (va_Qi (fun (r' : Int32) (_ : Unit) => r' = r) (fun _ t => wOut D cy G M' t) A) args s k0 n0 A) (F0 m 103 ls []) := by
  obtain ⟨hx, hb, hml, hown, hts, hr, hlocks, hK, hA, hG, hsx⟩ := id cx
  intro M v2 v3 v4 H locs ls h w hl
  unfold m_X12_advise_103 at h
  obtain ⟨x1, ex1, h⟩ := x_bd h
  refine lv_iinc (v := x1) (lv' := [(4, .int x1), (0, .ref a0), (1, .int c1), (2, .int v2), (3, .int v3)]) hx hb dX12_advise_103 hl (k := 4) rfl (by rw [ex1]; rfl) (by decide) rfl (fun ls hl => ?_)
  refine lv_goto (tgt := 46) hx hb dX12_advise_106 (by decide) ?_
  exact hkb46 M v2 v3 x1 H locs ls h w (lv_sub hl [1, 2, 3, 4, 0] rfl)
set_option maxHeartbeats 4000000 in
set_option maxRecDepth 100000 in
theorem b_X12_advise_46 {p : Program} {e : Env} {s : State} {m : MethodId} {args : Array Value} {below : List Frame} {meth : Method} {c : Code} {A : Nat → Prop} {l : Launch} {D : va_G} {cy : cyS} {G : gS} (cx : cX p s m args meth c cX12_advise RX12 6 (some .int) wsX12_advise D cy G A) {k0 n0 : Nat} (hkn : k0 ≤ (rmX12_advise).cells ∧ n0 ≤ (rmX12_advise).slots) {M' : mS} {r : Int32} {a0 : Nat} {c1 : Int32} (hL0 : a0 ∈ gL G) (hK0 : gK G a0 = 11)  : ∀ (n : Nat), ∀ (M : mS) (v2 : Int32) (v3 : Int32) (v4 : Int32) (H : Heap) (locs : List Loc) (ls : Array Slot), m_X12_advise_46 G a0 c1 n M v2 v3 v4 = some (M', r) → wd D cy G M A s.heap H locs → lv_has ls 6 [(0, .ref a0), (1, .int c1), (2, .int v2), (3, .int v3), (4, .int v4)] → W p l e rmX12_advise s m args below meth c H locs k0 n0 (MQ below (va_Qi (fun (r' : Int32) (_ : Unit) => r' = r) (fun _ t => wOut D cy G M' t) A) args s k0 n0 A) (F0 m 46 ls []) := by
  obtain ⟨hx, hb, hml, hown, hts, hr, hlocks, hK, hA, hG, hsx⟩ := id cx
  intro n
  induction n with
  | zero =>
    intro M v2 v3 v4 H locs ls h w hl
    have h : none = some _ := h
    cases h
  | succ n ih =>
    intro M v2 v3 v4 H locs ls h w hl
    rw [m_X12_advise_46] at h
    refine lv_iload hx hb dX12_advise_46 (lv_at hl 4 rfl) ?_
    refine lv_bipush (v := (64 : Int32)) hx hb dX12_advise_48 (by decide) ?_
    refine lv_icmp_ge (tgt := 109) hx hb dX12_advise_50 (by decide) (fun k1 => ?_) (fun k1 => ?_)
    · have h := x_t h k1
      refine lv_iload_n hx hb dX12_advise_109 rfl (lv_at hl 2 rfl) ?_
      exact r_iret cx w h dX12_advise_110
    · have h := x_f h k1
      refine lv_aload_n hx hb dX12_advise_53 rfl (lv_at hl 0 rfl) ?_
      obtain ⟨q2, eq2, h⟩ := x_rf h
      obtain ⟨hLq2, hKq2⟩ := wt_q hG hL0 hK0 eq2
      have hKq2 : gK G q2 = 10 := hKq2
      refine r_getR (k := 14) cx w hL0 hK0 (by decide) rfl wi_X12_advise_X12 (by decide) rfl eq2 (List.mem_of_getElem? (i := 2) rfl) dX12_advise_54 ?_
      refine lv_aload_n hx hb dX12_advise_57 rfl (lv_at hl 0 rfl) ?_
      obtain ⟨q3, eq3, h⟩ := x_rf h
      obtain ⟨hLq3, hKq3⟩ := wt_q hG hL0 hK0 eq3
      have hKq3 : gK G q3 = 10 := hKq3
      refine r_getR (k := 13) cx w hL0 hK0 (by decide) rfl wi_X12_advise_X12 (by decide) rfl eq3 (List.mem_of_getElem? (i := 3) rfl) dX12_advise_58 ?_
      obtain ⟨M4, r5, y6, h⟩ := x_cl h
      refine r_callVr (As := [.ref q3]) (rest := []) cx w hkn hl.1 (k_X11_become hG hLq2 hKq2 hLq3 hKq3 y6) (cwV 1 hts gX12_advise_X11_become rfl rfl rfl (by decide +kernel) ⟨Nat.le_of_ble_eq_true rfl, Nat.le_of_ble_eq_true rfl⟩) hLq2 hKq2 (by decide) rfl rfl rfl (Nat.le_of_ble_eq_true rfl) dX12_advise_61 (fun H locs w => ?_)
      obtain ⟨⟨hLr5, hKr5⟩, h⟩ := x_ck h
      refine lv_iload hx hb dX12_advise_64 (lv_at hl 4 rfl) ?_
      refine lv_iload hx hb dX12_advise_66 (lv_at hl 4 rfl) ?_
      refine lv_bipush (v := (7 : Int32)) hx hb dX12_advise_68 (by decide) ?_
      refine lv_iadd hx hb dX12_advise_70 ?_
      obtain ⟨M8, r9, y10, h⟩ := x_cl h
      refine r_callVi (As := [.int v4, .int ((v4 + (7 : Int32)))]) (rest := []) cx w hkn hl.1 (k_X11_wash hG hLr5 hKr5 y10) (cwV 2 hts gX12_advise_X11_wash rfl rfl rfl (by decide +kernel) ⟨Nat.le_of_ble_eq_true rfl, Nat.le_of_ble_eq_true rfl⟩) hLr5 hKr5 (by decide) rfl rfl rfl (Nat.le_of_ble_eq_true rfl) dX12_advise_71 (fun H locs w => ?_)
      refine lv_pop hx hb dX12_advise_74 rfl ?_
      refine lv_aload_n hx hb dX12_advise_75 rfl (lv_at hl 0 rfl) ?_
      obtain ⟨q11, eq11, h⟩ := x_rf h
      obtain ⟨hLq11, hKq11⟩ := wt_q hG hL0 hK0 eq11
      have hKq11 : gK G q11 = 10 := hKq11
      refine r_getR (k := 14) cx w hL0 hK0 (by decide) rfl wi_X12_advise_X12 (by decide) rfl eq11 (List.mem_of_getElem? (i := 2) rfl) dX12_advise_76 ?_
      refine lv_iload_n hx hb dX12_advise_79 rfl (lv_at hl 1 rfl) ?_
      obtain ⟨M12, r13, y14, h⟩ := x_cl h
      refine r_callVr (As := [.int c1]) (rest := []) cx w hkn hl.1 (k_X11_pass_ hG hLq11 hKq11 y14) (cwV 1 hts gX12_advise_X11_pass_ rfl rfl rfl (by decide +kernel) ⟨Nat.le_of_ble_eq_true rfl, Nat.le_of_ble_eq_true rfl⟩) hLq11 hKq11 (by decide) rfl rfl rfl (Nat.le_of_ble_eq_true rfl) dX12_advise_80 (fun H locs w => ?_)
      obtain ⟨⟨hLr13, hKr13⟩, h⟩ := x_ck h
      obtain ⟨M16, r17, y18, h⟩ := x_cl h
      refine r_callVi (As := []) (rest := []) cx w hkn hl.1 (k_X11_dark hG hLr13 hKr13 y18) (cwV 0 hts gX12_advise_X11_dark rfl rfl rfl (by decide +kernel) ⟨Nat.le_of_ble_eq_true rfl, Nat.le_of_ble_eq_true rfl⟩) hLr13 hKr13 (by decide) rfl rfl rfl (Nat.le_of_ble_eq_true rfl) dX12_advise_83 (fun H locs w => ?_)
      refine lv_istore (lv' := [(5, .int r17), (0, .ref a0), (1, .int c1), (2, .int v2), (3, .int v3), (4, .int v4)]) hx hb dX12_advise_86 hl (by decide) rfl (fun ls hl => ?_)
      refine lv_iload hx hb dX12_advise_88 (lv_at hl 0 rfl) ?_
      refine lv_iload_n hx hb dX12_advise_90 rfl (lv_at hl 4 rfl) ?_
      refine lv_icmp_lt (tgt := 97) hx hb dX12_advise_91 (by decide) (fun k19 => ?_) (fun k19 => ?_)
      · have h := x_t h k19
        refine lv_iload hx hb dX12_advise_97 (lv_at hl 5 rfl) ?_
        refine lv_istore_n (lv' := [(2, .int v4), (5, .int r17), (0, .ref a0), (1, .int c1), (3, .int v3), (4, .int v4)]) hx hb dX12_advise_99 rfl hl (by decide) rfl (fun ls hl => ?_)
        refine lv_iload hx hb dX12_advise_100 (lv_at hl 1 rfl) ?_
        refine lv_istore_n (lv' := [(3, .int r17), (2, .int v4), (5, .int r17), (0, .ref a0), (1, .int c1), (4, .int v4)]) hx hb dX12_advise_102 rfl hl (by decide) rfl (fun ls hl => ?_)
        exact b_X12_advise_103 cx hkn hL0 hK0 (hkb46 := ih) M16 v4 r17 v4 H locs ls h w (lv_sub hl [3, 4, 1, 0, 5] rfl)
      · have h := x_f h k19
        refine lv_goto (tgt := 103) hx hb dX12_advise_94 (by decide) ?_
        exact b_X12_advise_103 cx hkn hL0 hK0 (hkb46 := ih) M16 v2 v3 v4 H locs ls h w (lv_sub hl [1, 2, 3, 4, 5] rfl)
set_option maxHeartbeats 4000000 in
set_option maxRecDepth 100000 in
theorem k_X12_advise {l : Launch} {D : va_G} {cy : cyS} {G : gS} {M M' : mS} {r : Int32} {a0 : Nat} {c1 : Int32} (hG : wt G) (hL0 : a0 ∈ gL G) (hK0 : gK G a0 = 11) (h : m_X12_advise G M a0 c1 = some (M', r)) : ctI l yX12_advise wsX12_advise rmX12_advise D cy G M [.ref a0, .int c1] M' r := by
  unfold m_X12_advise at h
  refine ctI_of (cc := cX12_advise) (nL := 6) (ret := (some .int)) (lv := [(0, .ref a0), (1, .int c1)]) hG (by decide) rfl ⟨rfl, rfl⟩ (Nat.le_of_ble_eq_true rfl) rfl ?_
  intro p e s m args below meth c A ls cx w hl
  obtain ⟨hx, hb, hml, hown, hts, hr, hlocks, hK, hA, -, hsx⟩ := id cx
  have hkn : 0 ≤ (rmX12_advise).cells ∧ 0 ≤ (rmX12_advise).slots := ⟨Nat.zero_le _, Nat.zero_le _⟩
  refine lv_aload_n hx hb dX12_advise_0 rfl (lv_at hl 0 rfl) ?_
  refine lv_iconst (v := (0 : Int32)) hx hb dX12_advise_1 (by decide) ?_
  obtain ⟨M1, eM1, h⟩ := x_wI h
  refine r_putI (k := 0) (ty := .int) cx w tyX12 tyX12_ok nmX12 hL0 hK0 (by decide) rfl wi_X12_advise_X12 (by decide) rfl rfl rfl rfl st_11_0 (ln_11 _ _ (by decide)) (List.mem_of_getElem? (i := 1) rfl) dX12_advise_2 eM1 (fun H locs w => ?_)
  refine lv_iload_n hx hb dX12_advise_5 rfl (lv_at hl 1 rfl) ?_
  refine lv_iconst (v := (1 : Int32)) hx hb dX12_advise_6 (by decide) ?_
  refine lv_sipush (v := (300 : Int32)) hx hb dX12_advise_7 (by decide) ?_
  obtain ⟨M2, r3, y4, h⟩ := x_cl h
  refine r_callSi (As := [.int c1, .int ((1 : Int32)), .int ((300 : Int32))]) (rest := []) cx w hkn hl.1 (k_X12_isIn hG y4) (va_cwS 3 hts gX12_advise_X12_isIn rfl rfl rfl (by decide +kernel) ⟨Nat.le_of_ble_eq_true rfl, Nat.le_of_ble_eq_true rfl⟩) rfl rfl (Nat.le_of_ble_eq_true rfl) dX12_advise_10 (fun H locs w => ?_)
  refine lv_if_ne (tgt := 22) hx hb dX12_advise_13 (by decide) (fun k5 => ?_) (fun k5 => ?_)
  · have h := x_f h k5
    refine lv_iconst (v := (-1 : Int32)) hx hb dX12_advise_22 (by decide) ?_
    refine lv_istore_n (lv' := [(2, .int ((-1 : Int32))), (0, .ref a0), (1, .int c1)]) hx hb dX12_advise_23 rfl hl (by decide) rfl (fun ls hl => ?_)
    refine lv_aload_n hx hb dX12_advise_24 rfl (lv_at hl 1 rfl) ?_
    obtain ⟨q6, eq6, h⟩ := x_rf h
    obtain ⟨hLq6, hKq6⟩ := wt_q hG hL0 hK0 eq6
    have hKq6 : gK G q6 = 10 := hKq6
    refine r_getR (k := 14) cx w hL0 hK0 (by decide) rfl wi_X12_advise_X12 (by decide) rfl eq6 (List.mem_of_getElem? (i := 2) rfl) dX12_advise_25 ?_
    refine lv_aload_n hx hb dX12_advise_28 rfl (lv_at hl 1 rfl) ?_
    obtain ⟨q7, eq7, h⟩ := x_rf h
    obtain ⟨hLq7, hKq7⟩ := wt_q hG hL0 hK0 eq7
    have hKq7 : gK G q7 = 10 := hKq7
    refine r_getR (k := 13) cx w hL0 hK0 (by decide) rfl wi_X12_advise_X12 (by decide) rfl eq7 (List.mem_of_getElem? (i := 3) rfl) dX12_advise_29 ?_
    obtain ⟨M8, r9, y10, h⟩ := x_cl h
    refine r_callVr (As := [.ref q7]) (rest := []) cx w hkn hl.1 (k_X11_become hG hLq6 hKq6 hLq7 hKq7 y10) (cwV 1 hts gX12_advise_X11_become rfl rfl rfl (by decide +kernel) ⟨Nat.le_of_ble_eq_true rfl, Nat.le_of_ble_eq_true rfl⟩) hLq6 hKq6 (by decide) rfl rfl rfl (Nat.le_of_ble_eq_true rfl) dX12_advise_32 (fun H locs w => ?_)
    obtain ⟨⟨hLr9, hKr9⟩, h⟩ := x_ck h
    refine lv_iload_n hx hb dX12_advise_35 rfl (lv_at hl 2 rfl) ?_
    obtain ⟨M12, r13, y14, h⟩ := x_cl h
    refine r_callVr (As := [.int c1]) (rest := []) cx w hkn hl.1 (k_X11_pass_ hG hLr9 hKr9 y14) (cwV 1 hts gX12_advise_X11_pass_ rfl rfl rfl (by decide +kernel) ⟨Nat.le_of_ble_eq_true rfl, Nat.le_of_ble_eq_true rfl⟩) hLr9 hKr9 (by decide) rfl rfl rfl (Nat.le_of_ble_eq_true rfl) dX12_advise_36 (fun H locs w => ?_)
    obtain ⟨⟨hLr13, hKr13⟩, h⟩ := x_ck h
    obtain ⟨M16, r17, y18, h⟩ := x_cl h
    refine r_callVi (As := []) (rest := []) cx w hkn hl.1 (k_X11_dark hG hLr13 hKr13 y18) (cwV 0 hts gX12_advise_X11_dark rfl rfl rfl (by decide +kernel) ⟨Nat.le_of_ble_eq_true rfl, Nat.le_of_ble_eq_true rfl⟩) hLr13 hKr13 (by decide) rfl rfl rfl (Nat.le_of_ble_eq_true rfl) dX12_advise_39 (fun H locs w => ?_)
    refine lv_istore_n (lv' := [(3, .int r17), (2, .int ((-1 : Int32))), (0, .ref a0), (1, .int c1)]) hx hb dX12_advise_42 rfl hl (by decide) rfl (fun ls hl => ?_)
    refine lv_iconst (v := (0 : Int32)) hx hb dX12_advise_43 (by decide) ?_
    refine lv_istore (lv' := [(4, .int ((0 : Int32))), (3, .int r17), (2, .int ((-1 : Int32))), (0, .ref a0), (1, .int c1)]) hx hb dX12_advise_44 hl (by decide) rfl (fun ls hl => ?_)
    exact b_X12_advise_46 cx hkn hL0 hK0 fu M16 ((-1 : Int32)) r17 ((0 : Int32)) H locs ls h w (lv_sub hl [3, 4, 2, 1, 0] rfl)
  · have h := x_t h k5
    refine lv_aload_n hx hb dX12_advise_16 rfl (lv_at hl 0 rfl) ?_
    refine lv_iconst (v := (1 : Int32)) hx hb dX12_advise_17 (by decide) ?_
    obtain ⟨M19, r20, y21, h⟩ := x_cl h
    refine r_callVi (As := [.int ((1 : Int32))]) (rest := []) cx w hkn hl.1 (k_X12_no hG hL0 hK0 y21) (cwV 1 hts gX12_advise_X12_no rfl rfl rfl (by decide +kernel) ⟨Nat.le_of_ble_eq_true rfl, Nat.le_of_ble_eq_true rfl⟩) hL0 hK0 (by decide) rfl rfl rfl (Nat.le_of_ble_eq_true rfl) dX12_advise_18 (fun H locs w => ?_)
    exact r_iret cx w h dX12_advise_21
-- X12_isAnt
theorem wi_X12_isAnt_X10 : ∀ w ∈ wsX100, w ∈ wsX12_isAnt := by decide +kernel
theorem wi_X12_isAnt_X12 : ∀ w ∈ wsX120, w ∈ wsX12_isAnt := by decide +kernel
abbrev rmX12_isAnt : Room := { frames := 1, cells := 0, slots := 0, locals := 22 }
def m_X12_isAnt (G : gS) (M : mS) (a0 : Nat) (c1 : Int32) : Option (mS × Int32) := o_rf (gP G a0 11) (fun q1 => o_cl (m_X12_isIn G M c1 (0 : Int32) ((mI M q1 3) - (1 : Int32))) (fun M2 r3 => o_ck (r3 = 0 ∨ r3 = 1) (some (M2, r3))))
set_option maxHeartbeats 4000000 in
set_option maxRecDepth 100000 in
theorem k_X12_isAnt {l : Launch} {D : va_G} {cy : cyS} {G : gS} {M M' : mS} {r : Int32} {a0 : Nat} {c1 : Int32} (hG : wt G) (hL0 : a0 ∈ gL G) (hK0 : gK G a0 = 11) (h : m_X12_isAnt G M a0 c1 = some (M', r)) : ctI l yX12_isAnt wsX12_isAnt rmX12_isAnt D cy G M [.ref a0, .int c1] M' r := by
  unfold m_X12_isAnt at h
  refine ctI_of (cc := cX12_isAnt) (nL := 2) (ret := (some .boolean)) (lv := [(0, .ref a0), (1, .int c1)]) hG (by decide) rfl ⟨rfl, rfl⟩ (Nat.le_of_ble_eq_true rfl) rfl ?_
  intro p e s m args below meth c A ls cx w hl
  obtain ⟨hx, hb, hml, hown, hts, hr, hlocks, hK, hA, -, hsx⟩ := id cx
  have hkn : 0 ≤ (rmX12_isAnt).cells ∧ 0 ≤ (rmX12_isAnt).slots := ⟨Nat.zero_le _, Nat.zero_le _⟩
  refine lv_iload_n hx hb dX12_isAnt_0 rfl (lv_at hl 1 rfl) ?_
  refine lv_iconst (v := (0 : Int32)) hx hb dX12_isAnt_1 (by decide) ?_
  refine lv_aload_n hx hb dX12_isAnt_2 rfl (lv_at hl 0 rfl) ?_
  obtain ⟨q1, eq1, h⟩ := x_rf h
  obtain ⟨hLq1, hKq1⟩ := wt_q hG hL0 hK0 eq1
  have hKq1 : gK G q1 = 9 := hKq1
  refine r_getR (k := 11) cx w hL0 hK0 (by decide) rfl wi_X12_isAnt_X12 (by decide) rfl eq1 (List.mem_of_getElem? (i := 1) rfl) dX12_isAnt_3 ?_
  refine r_getIN (k := 3) (v := .int (mI M q1 3)) cx w hLq1 hKq1 (by decide) rfl wi_X12_isAnt_X10 (by decide) rfl (nwF cx (q := (RX12, 64, "FlagAntsModel$Plan", "ants", "I", "FlagAntsModel")) (List.mem_of_getElem? (i := 0) rfl)) dX12_isAnt_6 ?_
  refine lv_iconst (v := (1 : Int32)) hx hb dX12_isAnt_9 (by decide) ?_
  refine lv_isub hx hb dX12_isAnt_10 ?_
  obtain ⟨M2, r3, y4, h⟩ := x_cl h
  refine r_callSi (As := [.int c1, .int ((0 : Int32)), .int (((mI M q1 3) - (1 : Int32)))]) (rest := []) cx w hkn hl.1 (k_X12_isIn hG y4) (va_cwS 3 hts gX12_isAnt_X12_isIn rfl rfl rfl (by decide +kernel) ⟨Nat.le_of_ble_eq_true rfl, Nat.le_of_ble_eq_true rfl⟩) rfl rfl (Nat.le_of_ble_eq_true rfl) dX12_isAnt_11 (fun H locs w => ?_)
  obtain ⟨z5, h⟩ := x_ck h
  exact r_zret cx w z5 h dX12_isAnt_14
-- X12_antTold
theorem wi_X12_antTold_X10 : ∀ w ∈ wsX100, w ∈ wsX12_antTold := by decide +kernel
theorem wi_X12_antTold_X11 : ∀ w ∈ wsX110, w ∈ wsX12_antTold := by decide +kernel
theorem wi_X12_antTold_X12 : ∀ w ∈ wsX120, w ∈ wsX12_antTold := by decide +kernel
abbrev rmX12_antTold : Room := { frames := 2, cells := 0, slots := 0, locals := 48 }
def m_X12_antTold (G : gS) (M : mS) (a0 : Nat) (c1 : Int32) (c2 : Int32) : Option (mS × Int32) := (if c2 = 0 then o_rf (gP G a0 11) (fun q2 => o_rf (gP G q2 6) (fun q3 => o_ix c1 (gN G q3) (some (M, (mI M q3 (Int32.toNatClampNeg c1)))))) else if c2 = 1 then o_rf (gP G a0 13) (fun q6 => o_rf (gP G q6 6) (fun q7 => o_ix c1 (gN G q7) (some (M, (mI M q7 (Int32.toNatClampNeg c1)))))) else if c2 = 2 then o_rf (gP G a0 13) (fun q10 => o_rf (gP G q10 7) (fun q11 => o_ix c1 (gN G q11) (some (M, (mI M q11 (Int32.toNatClampNeg c1)))))) else if c2 = 3 then o_rf (gP G a0 13) (fun q14 => o_rf (gP G q14 8) (fun q15 => o_ix c1 (gN G q15) (some (M, (mI M q15 (Int32.toNatClampNeg c1)))))) else if c2 = 4 then o_rf (gP G a0 13) (fun q18 => o_rf (gP G q18 9) (fun q19 => o_ix c1 (gN G q19) (some (M, ((1 : Int32) - (mI M q19 (Int32.toNatClampNeg c1))))))) else if c2 = 5 then o_rf (gP G a0 13) (fun q22 => o_rf (gP G q22 10) (fun q23 => o_ix c1 (gN G q23) (some (M, (mI M q23 (Int32.toNatClampNeg c1)))))) else if c2 = 6 then o_rf (gP G a0 13) (fun q26 => o_cl (m_X11_period G M q26 c1) (fun M27 r28 => some (M27, r28))) else o_rf (gP G a0 13) (fun q30 => o_rf (gP G a0 13) (fun q31 => o_cl (m_X11_period G M q31 c1) (fun M32 r33 => o_cl (m_X11_led G M32 q30 c1 r33 (c2 - (6 : Int32))) (fun M35 r36 => some (M35, r36))))))
set_option maxHeartbeats 4000000 in
set_option maxRecDepth 100000 in
theorem k_X12_antTold {l : Launch} {D : va_G} {cy : cyS} {G : gS} {M M' : mS} {r : Int32} {a0 : Nat} {c1 : Int32} {c2 : Int32} (hG : wt G) (hL0 : a0 ∈ gL G) (hK0 : gK G a0 = 11) (h : m_X12_antTold G M a0 c1 c2 = some (M', r)) : ctI l yX12_antTold wsX12_antTold rmX12_antTold D cy G M [.ref a0, .int c1, .int c2] M' r := by
  unfold m_X12_antTold at h
  refine ctI_of (cc := cX12_antTold) (nL := 3) (ret := (some .int)) (lv := [(0, .ref a0), (1, .int c1), (2, .int c2)]) hG (by decide) rfl ⟨rfl, rfl⟩ (Nat.le_of_ble_eq_true rfl) rfl ?_
  intro p e s m args below meth c A ls cx w hl
  obtain ⟨hx, hb, hml, hown, hts, hr, hlocks, hK, hA, -, hsx⟩ := id cx
  have hkn : 0 ≤ (rmX12_antTold).cells ∧ 0 ≤ (rmX12_antTold).slots := ⟨Nat.zero_le _, Nat.zero_le _⟩
  refine lv_iload_n hx hb dX12_antTold_0 rfl (lv_at hl 2 rfl) ?_
  rcases Decidable.em (c2 = 0) with k1 | k1
  · have h := x_t h k1
    rw [k1]
    refine lv_tableIn (tgt := 44) hx hb dX12_antTold_1 (by decide) (by decide) rfl (by decide) ?_
    refine lv_aload_n hx hb dX12_antTold_44 rfl (lv_at hl 0 rfl) ?_
    obtain ⟨q2, eq2, h⟩ := x_rf h
    obtain ⟨hLq2, hKq2⟩ := wt_q hG hL0 hK0 eq2
    have hKq2 : gK G q2 = 9 := hKq2
    refine r_getR (k := 11) cx w hL0 hK0 (by decide) rfl wi_X12_antTold_X12 (by decide) rfl eq2 (List.mem_of_getElem? (i := 1) rfl) dX12_antTold_45 ?_
    obtain ⟨q3, eq3, h⟩ := x_rf h
    obtain ⟨hLq3, hKq3⟩ := wt_q hG hLq2 hKq2 eq3
    have hKq3 : gK G q3 = 12 := hKq3
    refine r_getRN (k := 6) cx w hLq2 hKq2 (by decide) rfl wi_X12_antTold_X10 (by decide) rfl eq3 (nwF cx (q := (RX12, 271, "FlagAntsModel$Plan", "rule", "[I", "FlagAntsModel")) (List.mem_of_getElem? (i := 18) rfl)) dX12_antTold_48 ?_
    refine lv_iload_n hx hb dX12_antTold_51 rfl (lv_at hl 1 rfl) ?_
    obtain ⟨z4, h⟩ := x_ix h
    refine r_iald cx w hLq3 hKq3 z4 dX12_antTold_52 ?_
    exact r_iret cx w h dX12_antTold_53
  · have h := x_f h k1
    rcases Decidable.em (c2 = 1) with k5 | k5
    · have h := x_t h k5
      rw [k5]
      refine lv_tableIn (tgt := 54) hx hb dX12_antTold_1 (by decide) (by decide) rfl (by decide) ?_
      refine lv_aload_n hx hb dX12_antTold_54 rfl (lv_at hl 0 rfl) ?_
      obtain ⟨q6, eq6, h⟩ := x_rf h
      obtain ⟨hLq6, hKq6⟩ := wt_q hG hL0 hK0 eq6
      have hKq6 : gK G q6 = 10 := hKq6
      refine r_getR (k := 13) cx w hL0 hK0 (by decide) rfl wi_X12_antTold_X12 (by decide) rfl eq6 (List.mem_of_getElem? (i := 2) rfl) dX12_antTold_55 ?_
      obtain ⟨q7, eq7, h⟩ := x_rf h
      obtain ⟨hLq7, hKq7⟩ := wt_q hG hLq6 hKq6 eq7
      have hKq7 : gK G q7 = 12 := hKq7
      refine r_getRN (k := 6) cx w hLq6 hKq6 (by decide) rfl wi_X12_antTold_X11 (by decide) rfl eq7 (nwF cx (q := (RX12, 328, "FlagAntsModel$State", "column", "[I", "FlagAntsModel")) (List.mem_of_getElem? (i := 25) rfl)) dX12_antTold_58 ?_
      refine lv_iload_n hx hb dX12_antTold_61 rfl (lv_at hl 1 rfl) ?_
      obtain ⟨z8, h⟩ := x_ix h
      refine r_iald cx w hLq7 hKq7 z8 dX12_antTold_62 ?_
      exact r_iret cx w h dX12_antTold_63
    · have h := x_f h k5
      rcases Decidable.em (c2 = 2) with k9 | k9
      · have h := x_t h k9
        rw [k9]
        refine lv_tableIn (tgt := 64) hx hb dX12_antTold_1 (by decide) (by decide) rfl (by decide) ?_
        refine lv_aload_n hx hb dX12_antTold_64 rfl (lv_at hl 0 rfl) ?_
        obtain ⟨q10, eq10, h⟩ := x_rf h
        obtain ⟨hLq10, hKq10⟩ := wt_q hG hL0 hK0 eq10
        have hKq10 : gK G q10 = 10 := hKq10
        refine r_getR (k := 13) cx w hL0 hK0 (by decide) rfl wi_X12_antTold_X12 (by decide) rfl eq10 (List.mem_of_getElem? (i := 2) rfl) dX12_antTold_65 ?_
        obtain ⟨q11, eq11, h⟩ := x_rf h
        obtain ⟨hLq11, hKq11⟩ := wt_q hG hLq10 hKq10 eq11
        have hKq11 : gK G q11 = 12 := hKq11
        refine r_getRN (k := 7) cx w hLq10 hKq10 (by decide) rfl wi_X12_antTold_X11 (by decide) rfl eq11 (nwF cx (q := (RX12, 329, "FlagAntsModel$State", "row", "[I", "FlagAntsModel")) (List.mem_of_getElem? (i := 26) rfl)) dX12_antTold_68 ?_
        refine lv_iload_n hx hb dX12_antTold_71 rfl (lv_at hl 1 rfl) ?_
        obtain ⟨z12, h⟩ := x_ix h
        refine r_iald cx w hLq11 hKq11 z12 dX12_antTold_72 ?_
        exact r_iret cx w h dX12_antTold_73
      · have h := x_f h k9
        rcases Decidable.em (c2 = 3) with k13 | k13
        · have h := x_t h k13
          rw [k13]
          refine lv_tableIn (tgt := 74) hx hb dX12_antTold_1 (by decide) (by decide) rfl (by decide) ?_
          refine lv_aload_n hx hb dX12_antTold_74 rfl (lv_at hl 0 rfl) ?_
          obtain ⟨q14, eq14, h⟩ := x_rf h
          obtain ⟨hLq14, hKq14⟩ := wt_q hG hL0 hK0 eq14
          have hKq14 : gK G q14 = 10 := hKq14
          refine r_getR (k := 13) cx w hL0 hK0 (by decide) rfl wi_X12_antTold_X12 (by decide) rfl eq14 (List.mem_of_getElem? (i := 2) rfl) dX12_antTold_75 ?_
          obtain ⟨q15, eq15, h⟩ := x_rf h
          obtain ⟨hLq15, hKq15⟩ := wt_q hG hLq14 hKq14 eq15
          have hKq15 : gK G q15 = 12 := hKq15
          refine r_getRN (k := 8) cx w hLq14 hKq14 (by decide) rfl wi_X12_antTold_X11 (by decide) rfl eq15 (nwF cx (q := (RX12, 330, "FlagAntsModel$State", "side", "[I", "FlagAntsModel")) (List.mem_of_getElem? (i := 27) rfl)) dX12_antTold_78 ?_
          refine lv_iload_n hx hb dX12_antTold_81 rfl (lv_at hl 1 rfl) ?_
          obtain ⟨z16, h⟩ := x_ix h
          refine r_iald cx w hLq15 hKq15 z16 dX12_antTold_82 ?_
          exact r_iret cx w h dX12_antTold_83
        · have h := x_f h k13
          rcases Decidable.em (c2 = 4) with k17 | k17
          · have h := x_t h k17
            rw [k17]
            refine lv_tableIn (tgt := 84) hx hb dX12_antTold_1 (by decide) (by decide) rfl (by decide) ?_
            refine lv_iconst (v := (1 : Int32)) hx hb dX12_antTold_84 (by decide) ?_
            refine lv_aload_n hx hb dX12_antTold_85 rfl (lv_at hl 0 rfl) ?_
            obtain ⟨q18, eq18, h⟩ := x_rf h
            obtain ⟨hLq18, hKq18⟩ := wt_q hG hL0 hK0 eq18
            have hKq18 : gK G q18 = 10 := hKq18
            refine r_getR (k := 13) cx w hL0 hK0 (by decide) rfl wi_X12_antTold_X12 (by decide) rfl eq18 (List.mem_of_getElem? (i := 2) rfl) dX12_antTold_86 ?_
            obtain ⟨q19, eq19, h⟩ := x_rf h
            obtain ⟨hLq19, hKq19⟩ := wt_q hG hLq18 hKq18 eq19
            have hKq19 : gK G q19 = 12 := hKq19
            refine r_getRN (k := 9) cx w hLq18 hKq18 (by decide) rfl wi_X12_antTold_X11 (by decide) rfl eq19 (nwF cx (q := (RX12, 331, "FlagAntsModel$State", "rests", "[I", "FlagAntsModel")) (List.mem_of_getElem? (i := 28) rfl)) dX12_antTold_89 ?_
            refine lv_iload_n hx hb dX12_antTold_92 rfl (lv_at hl 1 rfl) ?_
            obtain ⟨z20, h⟩ := x_ix h
            refine r_iald cx w hLq19 hKq19 z20 dX12_antTold_93 ?_
            refine lv_isub hx hb dX12_antTold_94 ?_
            exact r_iret cx w h dX12_antTold_95
          · have h := x_f h k17
            rcases Decidable.em (c2 = 5) with k21 | k21
            · have h := x_t h k21
              rw [k21]
              refine lv_tableIn (tgt := 96) hx hb dX12_antTold_1 (by decide) (by decide) rfl (by decide) ?_
              refine lv_aload_n hx hb dX12_antTold_96 rfl (lv_at hl 0 rfl) ?_
              obtain ⟨q22, eq22, h⟩ := x_rf h
              obtain ⟨hLq22, hKq22⟩ := wt_q hG hL0 hK0 eq22
              have hKq22 : gK G q22 = 10 := hKq22
              refine r_getR (k := 13) cx w hL0 hK0 (by decide) rfl wi_X12_antTold_X12 (by decide) rfl eq22 (List.mem_of_getElem? (i := 2) rfl) dX12_antTold_97 ?_
              obtain ⟨q23, eq23, h⟩ := x_rf h
              obtain ⟨hLq23, hKq23⟩ := wt_q hG hLq22 hKq22 eq23
              have hKq23 : gK G q23 = 12 := hKq23
              refine r_getRN (k := 10) cx w hLq22 hKq22 (by decide) rfl wi_X12_antTold_X11 (by decide) rfl eq23 (nwF cx (q := (RX12, 334, "FlagAntsModel$State", "steps", "[I", "FlagAntsModel")) (List.mem_of_getElem? (i := 29) rfl)) dX12_antTold_100 ?_
              refine lv_iload_n hx hb dX12_antTold_103 rfl (lv_at hl 1 rfl) ?_
              obtain ⟨z24, h⟩ := x_ix h
              refine r_iald cx w hLq23 hKq23 z24 dX12_antTold_104 ?_
              exact r_iret cx w h dX12_antTold_105
            · have h := x_f h k21
              rcases Decidable.em (c2 = 6) with k25 | k25
              · have h := x_t h k25
                rw [k25]
                refine lv_tableIn (tgt := 106) hx hb dX12_antTold_1 (by decide) (by decide) rfl (by decide) ?_
                refine lv_aload_n hx hb dX12_antTold_106 rfl (lv_at hl 0 rfl) ?_
                obtain ⟨q26, eq26, h⟩ := x_rf h
                obtain ⟨hLq26, hKq26⟩ := wt_q hG hL0 hK0 eq26
                have hKq26 : gK G q26 = 10 := hKq26
                refine r_getR (k := 13) cx w hL0 hK0 (by decide) rfl wi_X12_antTold_X12 (by decide) rfl eq26 (List.mem_of_getElem? (i := 2) rfl) dX12_antTold_107 ?_
                refine lv_iload_n hx hb dX12_antTold_110 rfl (lv_at hl 1 rfl) ?_
                obtain ⟨M27, r28, y29, h⟩ := x_cl h
                refine r_callVi (As := [.int c1]) (rest := []) cx w hkn hl.1 (k_X11_period hG hLq26 hKq26 y29) (cwV 1 hts gX12_antTold_X11_period rfl rfl rfl (by decide +kernel) ⟨Nat.le_of_ble_eq_true rfl, Nat.le_of_ble_eq_true rfl⟩) hLq26 hKq26 (by decide) rfl rfl rfl (Nat.le_of_ble_eq_true rfl) dX12_antTold_111 (fun H locs w => ?_)
                exact r_iret cx w h dX12_antTold_114
              · have h := x_f h k25
                refine lv_tableOut (tgt := 115) hx hb dX12_antTold_1 (by have nk1 : Int32.toInt c2 ≠ 0 := fun hh => k1 (Int32.toInt_inj.mp hh); have nk5 : Int32.toInt c2 ≠ 1 := fun hh => k5 (Int32.toInt_inj.mp hh); have nk9 : Int32.toInt c2 ≠ 2 := fun hh => k9 (Int32.toInt_inj.mp hh); have nk13 : Int32.toInt c2 ≠ 3 := fun hh => k13 (Int32.toInt_inj.mp hh); have nk17 : Int32.toInt c2 ≠ 4 := fun hh => k17 (Int32.toInt_inj.mp hh); have nk21 : Int32.toInt c2 ≠ 5 := fun hh => k21 (Int32.toInt_inj.mp hh); have nk25 : Int32.toInt c2 ≠ 6 := fun hh => k25 (Int32.toInt_inj.mp hh); omega) (by decide) ?_
                refine lv_aload_n hx hb dX12_antTold_115 rfl (lv_at hl 0 rfl) ?_
                obtain ⟨q30, eq30, h⟩ := x_rf h
                obtain ⟨hLq30, hKq30⟩ := wt_q hG hL0 hK0 eq30
                have hKq30 : gK G q30 = 10 := hKq30
                refine r_getR (k := 13) cx w hL0 hK0 (by decide) rfl wi_X12_antTold_X12 (by decide) rfl eq30 (List.mem_of_getElem? (i := 2) rfl) dX12_antTold_116 ?_
                refine lv_iload_n hx hb dX12_antTold_119 rfl (lv_at hl 1 rfl) ?_
                refine lv_aload_n hx hb dX12_antTold_120 rfl (lv_at hl 0 rfl) ?_
                obtain ⟨q31, eq31, h⟩ := x_rf h
                obtain ⟨hLq31, hKq31⟩ := wt_q hG hL0 hK0 eq31
                have hKq31 : gK G q31 = 10 := hKq31
                refine r_getR (k := 13) cx w hL0 hK0 (by decide) rfl wi_X12_antTold_X12 (by decide) rfl eq31 (List.mem_of_getElem? (i := 2) rfl) dX12_antTold_121 ?_
                refine lv_iload_n hx hb dX12_antTold_124 rfl (lv_at hl 1 rfl) ?_
                obtain ⟨M32, r33, y34, h⟩ := x_cl h
                refine r_callVi (As := [.int c1]) (rest := [.int c1, .ref q30]) cx w hkn hl.1 (k_X11_period hG hLq31 hKq31 y34) (cwV 1 hts gX12_antTold_X11_period rfl rfl rfl (by decide +kernel) ⟨Nat.le_of_ble_eq_true rfl, Nat.le_of_ble_eq_true rfl⟩) hLq31 hKq31 (by decide) rfl rfl rfl (Nat.le_of_ble_eq_true rfl) dX12_antTold_125 (fun H locs w => ?_)
                refine lv_iload_n hx hb dX12_antTold_128 rfl (lv_at hl 2 rfl) ?_
                refine lv_bipush (v := (6 : Int32)) hx hb dX12_antTold_129 (by decide) ?_
                refine lv_isub hx hb dX12_antTold_131 ?_
                obtain ⟨M35, r36, y37, h⟩ := x_cl h
                refine r_callVi (As := [.int c1, .int r33, .int ((c2 - (6 : Int32)))]) (rest := []) cx w hkn hl.1 (k_X11_led hG hLq30 hKq30 y37) (cwV 3 hts gX12_antTold_X11_led rfl rfl rfl (by decide +kernel) ⟨Nat.le_of_ble_eq_true rfl, Nat.le_of_ble_eq_true rfl⟩) hLq30 hKq30 (by decide) rfl rfl rfl (Nat.le_of_ble_eq_true rfl) dX12_antTold_132 (fun H locs w => ?_)
                exact r_iret cx w h dX12_antTold_135
-- X12_ant
theorem wi_X12_ant_X12 : ∀ w ∈ wsX120, w ∈ wsX12_ant := by decide +kernel
abbrev rmX12_ant : Room := { frames := 3, cells := 0, slots := 0, locals := 70 }
def m_X12_ant_32 (G : gS) (a0 : Nat) (c1 : Int32) (c2 : Int32)  (M : mS)  : Option (mS × Int32) := o_cl (m_X12_no G M a0 (1 : Int32)) (fun M1 r2 => some (M1, r2))
def m_X12_ant (G : gS) (M : mS) (a0 : Nat) (c1 : Int32) (c2 : Int32) : Option (mS × Int32) := o_wI M a0 0 (0 : Int32) (fun M1 => o_cl (m_X12_isAnt G M1 a0 c1) (fun M2 r3 => (if r3 = 0 then m_X12_ant_32 G a0 c1 c2 M2 else o_cl (m_X12_isIn G M2 c2 (0 : Int32) (8 : Int32)) (fun M6 r7 => (if r7 = 0 then m_X12_ant_32 G a0 c1 c2 M6 else o_cl (m_X12_antTold G M6 a0 c1 c2) (fun M10 r11 => some (M10, r11)))))))
set_option maxHeartbeats 4000000 in
set_option maxRecDepth 100000 in
theorem b_X12_ant_32 {p : Program} {e : Env} {s : State} {m : MethodId} {args : Array Value} {below : List Frame} {meth : Method} {c : Code} {A : Nat → Prop} {l : Launch} {D : va_G} {cy : cyS} {G : gS} (cx : cX p s m args meth c cX12_ant RX12 3 (some .int) wsX12_ant D cy G A) {k0 n0 : Nat} (hkn : k0 ≤ (rmX12_ant).cells ∧ n0 ≤ (rmX12_ant).slots) {M' : mS} {r : Int32} {a0 : Nat} {c1 : Int32} {c2 : Int32} (hL0 : a0 ∈ gL G) (hK0 : gK G a0 = 11)  : ∀ (M : mS) (H : Heap) (locs : List Loc) (ls : Array Slot), m_X12_ant_32 G a0 c1 c2 M = some (M', r) → wd D cy G M A s.heap H locs → lv_has ls 3 [(0, .ref a0)] → W p l e rmX12_ant s m args below meth c H locs k0 n0 (MQ below (va_Qi (fun (r' : Int32) (_ : Unit) => r' = r) (fun _ t => wOut D cy G M' t) A) args s k0 n0 A) (F0 m 32 ls []) := by
  obtain ⟨hx, hb, hml, hown, hts, hr, hlocks, hK, hA, hG, hsx⟩ := id cx
  intro M H locs ls h w hl
  unfold m_X12_ant_32 at h
  refine lv_aload_n hx hb dX12_ant_32 rfl (lv_at hl 0 rfl) ?_
  refine lv_iconst (v := (1 : Int32)) hx hb dX12_ant_33 (by decide) ?_
  obtain ⟨M1, r2, y3, h⟩ := x_cl h
  refine r_callVi (As := [.int ((1 : Int32))]) (rest := []) cx w hkn hl.1 (k_X12_no hG hL0 hK0 y3) (cwV 1 hts gX12_ant_X12_no rfl rfl rfl (by decide +kernel) ⟨Nat.le_of_ble_eq_true rfl, Nat.le_of_ble_eq_true rfl⟩) hL0 hK0 (by decide) rfl rfl rfl (Nat.le_of_ble_eq_true rfl) dX12_ant_34 (fun H locs w => ?_)
  exact r_iret cx w h dX12_ant_37
set_option maxHeartbeats 4000000 in
set_option maxRecDepth 100000 in
theorem k_X12_ant {l : Launch} {D : va_G} {cy : cyS} {G : gS} {M M' : mS} {r : Int32} {a0 : Nat} {c1 : Int32} {c2 : Int32} (hG : wt G) (hL0 : a0 ∈ gL G) (hK0 : gK G a0 = 11) (h : m_X12_ant G M a0 c1 c2 = some (M', r)) : ctI l yX12_ant wsX12_ant rmX12_ant D cy G M [.ref a0, .int c1, .int c2] M' r := by
  unfold m_X12_ant at h
  refine ctI_of (cc := cX12_ant) (nL := 3) (ret := (some .int)) (lv := [(0, .ref a0), (1, .int c1), (2, .int c2)]) hG (by decide) rfl ⟨rfl, rfl⟩ (Nat.le_of_ble_eq_true rfl) rfl ?_
  intro p e s m args below meth c A ls cx w hl
  obtain ⟨hx, hb, hml, hown, hts, hr, hlocks, hK, hA, -, hsx⟩ := id cx
  have hkn : 0 ≤ (rmX12_ant).cells ∧ 0 ≤ (rmX12_ant).slots := ⟨Nat.zero_le _, Nat.zero_le _⟩
  refine lv_aload_n hx hb dX12_ant_0 rfl (lv_at hl 0 rfl) ?_
  refine lv_iconst (v := (0 : Int32)) hx hb dX12_ant_1 (by decide) ?_
  obtain ⟨M1, eM1, h⟩ := x_wI h
  refine r_putI (k := 0) (ty := .int) cx w tyX12 tyX12_ok nmX12 hL0 hK0 (by decide) rfl wi_X12_ant_X12 (by decide) rfl rfl rfl rfl st_11_0 (ln_11 _ _ (by decide)) (List.mem_of_getElem? (i := 1) rfl) dX12_ant_2 eM1 (fun H locs w => ?_)
  refine lv_aload_n hx hb dX12_ant_5 rfl (lv_at hl 0 rfl) ?_
  refine lv_iload_n hx hb dX12_ant_6 rfl (lv_at hl 1 rfl) ?_
  obtain ⟨M2, r3, y4, h⟩ := x_cl h
  refine r_callVi (As := [.int c1]) (rest := []) cx w hkn hl.1 (k_X12_isAnt hG hL0 hK0 y4) (cwV 1 hts gX12_ant_X12_isAnt rfl rfl rfl (by decide +kernel) ⟨Nat.le_of_ble_eq_true rfl, Nat.le_of_ble_eq_true rfl⟩) hL0 hK0 (by decide) rfl rfl rfl (Nat.le_of_ble_eq_true rfl) dX12_ant_7 (fun H locs w => ?_)
  refine lv_if_eq (tgt := 32) hx hb dX12_ant_10 (by decide) (fun k5 => ?_) (fun k5 => ?_)
  · have h := x_t h k5
    exact b_X12_ant_32 cx hkn hL0 hK0 M2 H locs ls h w (lv_sub hl [0] rfl)
  · have h := x_f h k5
    refine lv_iload_n hx hb dX12_ant_13 rfl (lv_at hl 2 rfl) ?_
    refine lv_iconst (v := (0 : Int32)) hx hb dX12_ant_14 (by decide) ?_
    refine lv_bipush (v := (8 : Int32)) hx hb dX12_ant_15 (by decide) ?_
    obtain ⟨M6, r7, y8, h⟩ := x_cl h
    refine r_callSi (As := [.int c2, .int ((0 : Int32)), .int ((8 : Int32))]) (rest := []) cx w hkn hl.1 (k_X12_isIn hG y8) (va_cwS 3 hts gX12_ant_X12_isIn rfl rfl rfl (by decide +kernel) ⟨Nat.le_of_ble_eq_true rfl, Nat.le_of_ble_eq_true rfl⟩) rfl rfl (Nat.le_of_ble_eq_true rfl) dX12_ant_17 (fun H locs w => ?_)
    refine lv_if_eq (tgt := 32) hx hb dX12_ant_20 (by decide) (fun k9 => ?_) (fun k9 => ?_)
    · have h := x_t h k9
      exact b_X12_ant_32 cx hkn hL0 hK0 M6 H locs ls h w (lv_sub hl [0] rfl)
    · have h := x_f h k9
      refine lv_aload_n hx hb dX12_ant_23 rfl (lv_at hl 0 rfl) ?_
      refine lv_iload_n hx hb dX12_ant_24 rfl (lv_at hl 1 rfl) ?_
      refine lv_iload_n hx hb dX12_ant_25 rfl (lv_at hl 2 rfl) ?_
      obtain ⟨M10, r11, y12, h⟩ := x_cl h
      refine r_callVi (As := [.int c1, .int c2]) (rest := []) cx w hkn hl.1 (k_X12_antTold hG hL0 hK0 y12) (cwV 2 hts gX12_ant_X12_antTold rfl rfl rfl (by decide +kernel) ⟨Nat.le_of_ble_eq_true rfl, Nat.le_of_ble_eq_true rfl⟩) hL0 hK0 (by decide) rfl rfl rfl (Nat.le_of_ble_eq_true rfl) dX12_ant_26 (fun H locs w => ?_)
      refine lv_goto (tgt := 37) hx hb dX12_ant_29 (by decide) ?_
      exact r_iret cx w h dX12_ant_37
-- X12_numberAt
theorem wi_X12_numberAt_X12 : ∀ w ∈ wsX120, w ∈ wsX12_numberAt := by decide +kernel
abbrev rmX12_numberAt : Room := { frames := 0, cells := 0, slots := 0, locals := 0 }
def m_X12_numberAt_4 (G : gS) (a0 : Nat) (c1 : Int32)  : Nat → mS → Int32 → Int32 → Option (mS × Int32)
  | 0, _, _, _ => none
  | n + 1, M, v2, v3 => o_rf (gP G a0 6) (fun q1 => o_ix c1 (gN G q1) ((if (mI M q1 (Int32.toNatClampNeg c1)) ≤ v3 then some (M, v2) else o_rf (gP G a0 1) (fun q4 => o_rf (gP G a0 5) (fun q5 => o_ix c1 (gN G q5) (o_ix ((mI M q5 (Int32.toNatClampNeg c1)) + v3) (gN G q4) (o_bd (((((10 : Int32) * v2) + (mI M q4 (Int32.toNatClampNeg ((mI M q5 (Int32.toNatClampNeg c1)) + v3)))) - (48 : Int32))) (fun x8 => o_bd (v3 + 1 : Int32) (fun x9 => m_X12_numberAt_4 G a0 c1 n M x8 x9)))))))))
def m_X12_numberAt (G : gS) (M : mS) (a0 : Nat) (c1 : Int32) : Option (mS × Int32) := m_X12_numberAt_4 G a0 c1 fu M ((0 : Int32)) ((0 : Int32))
set_option maxHeartbeats 4000000 in
set_option maxRecDepth 100000 in
theorem b_X12_numberAt_4 {p : Program} {e : Env} {s : State} {m : MethodId} {args : Array Value} {below : List Frame} {meth : Method} {c : Code} {A : Nat → Prop} {l : Launch} {D : va_G} {cy : cyS} {G : gS} (cx : cX p s m args meth c cX12_numberAt RX12 4 (some .int) wsX12_numberAt D cy G A) {k0 n0 : Nat} (hkn : k0 ≤ (rmX12_numberAt).cells ∧ n0 ≤ (rmX12_numberAt).slots) {M' : mS} {r : Int32} {a0 : Nat} {c1 : Int32} (hL0 : a0 ∈ gL G) (hK0 : gK G a0 = 11)  : ∀ (n : Nat), ∀ (M : mS) (v2 : Int32) (v3 : Int32) (H : Heap) (locs : List Loc) (ls : Array Slot), m_X12_numberAt_4 G a0 c1 n M v2 v3 = some (M', r) → wd D cy G M A s.heap H locs → lv_has ls 4 [(0, .ref a0), (1, .int c1), (2, .int v2), (3, .int v3)] → W p l e rmX12_numberAt s m args below meth c H locs k0 n0 (MQ below (va_Qi (fun (r' : Int32) (_ : Unit) => r' = r) (fun _ t => wOut D cy G M' t) A) args s k0 n0 A) (F0 m 4 ls []) := by
  obtain ⟨hx, hb, hml, hown, hts, hr, hlocks, hK, hA, hG, hsx⟩ := id cx
  intro n
  induction n with
  | zero =>
    intro M v2 v3 H locs ls h w hl
    have h : none = some _ := h
    cases h
  | succ n ih =>
    intro M v2 v3 H locs ls h w hl
    rw [m_X12_numberAt_4] at h
    refine lv_iload_n hx hb dX12_numberAt_4 rfl (lv_at hl 3 rfl) ?_
    refine lv_aload_n hx hb dX12_numberAt_5 rfl (lv_at hl 0 rfl) ?_
    obtain ⟨q1, eq1, h⟩ := x_rf h
    obtain ⟨hLq1, hKq1⟩ := wt_q hG hL0 hK0 eq1
    have hKq1 : gK G q1 = 12 := hKq1
    refine r_getR (k := 6) cx w hL0 hK0 (by decide) rfl wi_X12_numberAt_X12 (by decide) rfl eq1 (List.mem_of_getElem? (i := 1) rfl) dX12_numberAt_6 ?_
    refine lv_iload_n hx hb dX12_numberAt_9 rfl (lv_at hl 1 rfl) ?_
    obtain ⟨z2, h⟩ := x_ix h
    refine r_iald cx w hLq1 hKq1 z2 dX12_numberAt_10 ?_
    refine lv_icmp_ge (tgt := 42) hx hb dX12_numberAt_11 (by decide) (fun k3 => ?_) (fun k3 => ?_)
    · have h := x_t h k3
      refine lv_iload_n hx hb dX12_numberAt_42 rfl (lv_at hl 2 rfl) ?_
      exact r_iret cx w h dX12_numberAt_43
    · have h := x_f h k3
      refine lv_bipush (v := (10 : Int32)) hx hb dX12_numberAt_14 (by decide) ?_
      refine lv_iload_n hx hb dX12_numberAt_16 rfl (lv_at hl 2 rfl) ?_
      refine lv_imul hx hb dX12_numberAt_17 ?_
      refine lv_aload_n hx hb dX12_numberAt_18 rfl (lv_at hl 0 rfl) ?_
      obtain ⟨q4, eq4, h⟩ := x_rf h
      obtain ⟨hLq4, hKq4⟩ := wt_q hG hL0 hK0 eq4
      have hKq4 : gK G q4 = 12 := hKq4
      refine r_getR (k := 1) cx w hL0 hK0 (by decide) rfl wi_X12_numberAt_X12 (by decide) rfl eq4 (List.mem_of_getElem? (i := 2) rfl) dX12_numberAt_19 ?_
      refine lv_aload_n hx hb dX12_numberAt_22 rfl (lv_at hl 0 rfl) ?_
      obtain ⟨q5, eq5, h⟩ := x_rf h
      obtain ⟨hLq5, hKq5⟩ := wt_q hG hL0 hK0 eq5
      have hKq5 : gK G q5 = 12 := hKq5
      refine r_getR (k := 5) cx w hL0 hK0 (by decide) rfl wi_X12_numberAt_X12 (by decide) rfl eq5 (List.mem_of_getElem? (i := 3) rfl) dX12_numberAt_23 ?_
      refine lv_iload_n hx hb dX12_numberAt_26 rfl (lv_at hl 1 rfl) ?_
      obtain ⟨z6, h⟩ := x_ix h
      refine r_iald cx w hLq5 hKq5 z6 dX12_numberAt_27 ?_
      refine lv_iload_n hx hb dX12_numberAt_28 rfl (lv_at hl 3 rfl) ?_
      refine lv_iadd hx hb dX12_numberAt_29 ?_
      obtain ⟨z7, h⟩ := x_ix h
      refine r_iald cx w hLq4 hKq4 z7 dX12_numberAt_30 ?_
      refine lv_iadd hx hb dX12_numberAt_31 ?_
      refine lv_bipush (v := (48 : Int32)) hx hb dX12_numberAt_32 (by decide) ?_
      refine lv_isub hx hb dX12_numberAt_34 ?_
      obtain ⟨x8, ex8, h⟩ := x_bd h
      refine r_topI ex8 ?_
      refine lv_istore_n (lv' := [(2, .int x8), (0, .ref a0), (1, .int c1), (3, .int v3)]) hx hb dX12_numberAt_35 rfl hl (by decide) rfl (fun ls hl => ?_)
      obtain ⟨x9, ex9, h⟩ := x_bd h
      refine lv_iinc (v := x9) (lv' := [(3, .int x9), (2, .int x8), (0, .ref a0), (1, .int c1)]) hx hb dX12_numberAt_36 hl (k := 3) rfl (by rw [ex9]; rfl) (by decide) rfl (fun ls hl => ?_)
      refine lv_goto (tgt := 4) hx hb dX12_numberAt_39 (by decide) ?_
      exact ih M x8 x9 H locs ls h w (lv_sub hl [2, 3, 1, 0] rfl)
set_option maxHeartbeats 4000000 in
set_option maxRecDepth 100000 in
theorem k_X12_numberAt {l : Launch} {D : va_G} {cy : cyS} {G : gS} {M M' : mS} {r : Int32} {a0 : Nat} {c1 : Int32} (hG : wt G) (hL0 : a0 ∈ gL G) (hK0 : gK G a0 = 11) (h : m_X12_numberAt G M a0 c1 = some (M', r)) : ctI l yX12_numberAt wsX12_numberAt rmX12_numberAt D cy G M [.ref a0, .int c1] M' r := by
  unfold m_X12_numberAt at h
  refine ctI_of (cc := cX12_numberAt) (nL := 4) (ret := (some .int)) (lv := [(0, .ref a0), (1, .int c1)]) hG (by decide) rfl ⟨rfl, rfl⟩ (Nat.le_of_ble_eq_true rfl) rfl ?_
  intro p e s m args below meth c A ls cx w hl
  obtain ⟨hx, hb, hml, hown, hts, hr, hlocks, hK, hA, -, hsx⟩ := id cx
  have hkn : 0 ≤ (rmX12_numberAt).cells ∧ 0 ≤ (rmX12_numberAt).slots := ⟨Nat.zero_le _, Nat.zero_le _⟩
  refine lv_iconst (v := (0 : Int32)) hx hb dX12_numberAt_0 (by decide) ?_
  refine lv_istore_n (lv' := [(2, .int ((0 : Int32))), (0, .ref a0), (1, .int c1)]) hx hb dX12_numberAt_1 rfl hl (by decide) rfl (fun ls hl => ?_)
  refine lv_iconst (v := (0 : Int32)) hx hb dX12_numberAt_2 (by decide) ?_
  refine lv_istore_n (lv' := [(3, .int ((0 : Int32))), (2, .int ((0 : Int32))), (0, .ref a0), (1, .int c1)]) hx hb dX12_numberAt_3 rfl hl (by decide) rfl (fun ls hl => ?_)
  exact b_X12_numberAt_4 cx hkn hL0 hK0 fu M ((0 : Int32)) ((0 : Int32)) s.heap [] ls h w (lv_sub hl [2, 3, 1, 0] rfl)
-- X12_inRange
abbrev rmX12_inRange : Room := { frames := 1, cells := 0, slots := 0, locals := 23 }
def m_X12_inRange (G : gS) (M : mS) (a0 : Nat) (c1 : Int32) (c2 : Int32) (c3 : Int32) : Option (mS × Int32) := o_cl (m_X12_numberAt G M a0 c1) (fun M1 r2 => o_cl (m_X12_isIn G M1 r2 c2 c3) (fun M4 r5 => (if r5 = 0 then some (M4, (5 : Int32)) else some (M4, (0 : Int32)))))
set_option maxHeartbeats 4000000 in
set_option maxRecDepth 100000 in
theorem k_X12_inRange {l : Launch} {D : va_G} {cy : cyS} {G : gS} {M M' : mS} {r : Int32} {a0 : Nat} {c1 : Int32} {c2 : Int32} {c3 : Int32} (hG : wt G) (hL0 : a0 ∈ gL G) (hK0 : gK G a0 = 11) (h : m_X12_inRange G M a0 c1 c2 c3 = some (M', r)) : ctI l yX12_inRange wsX12_inRange rmX12_inRange D cy G M [.ref a0, .int c1, .int c2, .int c3] M' r := by
  unfold m_X12_inRange at h
  refine ctI_of (cc := cX12_inRange) (nL := 4) (ret := (some .int)) (lv := [(0, .ref a0), (1, .int c1), (2, .int c2), (3, .int c3)]) hG (by decide) rfl ⟨rfl, rfl⟩ (Nat.le_of_ble_eq_true rfl) rfl ?_
  intro p e s m args below meth c A ls cx w hl
  obtain ⟨hx, hb, hml, hown, hts, hr, hlocks, hK, hA, -, hsx⟩ := id cx
  have hkn : 0 ≤ (rmX12_inRange).cells ∧ 0 ≤ (rmX12_inRange).slots := ⟨Nat.zero_le _, Nat.zero_le _⟩
  refine lv_aload_n hx hb dX12_inRange_0 rfl (lv_at hl 0 rfl) ?_
  refine lv_iload_n hx hb dX12_inRange_1 rfl (lv_at hl 1 rfl) ?_
  obtain ⟨M1, r2, y3, h⟩ := x_cl h
  refine r_callVi (As := [.int c1]) (rest := []) cx w hkn hl.1 (k_X12_numberAt hG hL0 hK0 y3) (cwV 1 hts gX12_inRange_X12_numberAt rfl rfl rfl (by decide +kernel) ⟨Nat.le_of_ble_eq_true rfl, Nat.le_of_ble_eq_true rfl⟩) hL0 hK0 (by decide) rfl rfl rfl (Nat.le_of_ble_eq_true rfl) dX12_inRange_2 (fun H locs w => ?_)
  refine lv_iload_n hx hb dX12_inRange_5 rfl (lv_at hl 2 rfl) ?_
  refine lv_iload_n hx hb dX12_inRange_6 rfl (lv_at hl 3 rfl) ?_
  obtain ⟨M4, r5, y6, h⟩ := x_cl h
  refine r_callSi (As := [.int r2, .int c2, .int c3]) (rest := []) cx w hkn hl.1 (k_X12_isIn hG y6) (va_cwS 3 hts gX12_inRange_X12_isIn rfl rfl rfl (by decide +kernel) ⟨Nat.le_of_ble_eq_true rfl, Nat.le_of_ble_eq_true rfl⟩) rfl rfl (Nat.le_of_ble_eq_true rfl) dX12_inRange_7 (fun H locs w => ?_)
  refine lv_if_eq (tgt := 17) hx hb dX12_inRange_10 (by decide) (fun k7 => ?_) (fun k7 => ?_)
  · have h := x_t h k7
    refine lv_iconst (v := (5 : Int32)) hx hb dX12_inRange_17 (by decide) ?_
    exact r_iret cx w h dX12_inRange_18
  · have h := x_f h k7
    refine lv_iconst (v := (0 : Int32)) hx hb dX12_inRange_13 (by decide) ?_
    refine lv_goto (tgt := 18) hx hb dX12_inRange_14 (by decide) ?_
    exact r_iret cx w h dX12_inRange_18
-- X12_place
theorem wi_X12_place_X10 : ∀ w ∈ wsX100, w ∈ wsX12_place := by decide +kernel
theorem wi_X12_place_X12 : ∀ w ∈ wsX120, w ∈ wsX12_place := by decide +kernel
abbrev rmX12_place : Room := { frames := 2, cells := 0, slots := 0, locals := 46 }
def m_X12_place (G : gS) (M : mS) (a0 : Nat) (c1 : Int32) : Option (mS × Int32) := o_rf (gP G a0 12) (fun q1 => o_rf (gP G q1 5) (fun q2 => o_rf (gP G a0 12) (fun q3 => o_cl (m_X12_numberAt G M a0 c1) (fun M4 r5 => o_ix (mI M q3 4) (gN G q2) (o_wI M4 q2 (Int32.toNatClampNeg (mI M q3 4)) r5 (fun M8 => o_rf (gP G a0 12) (fun q9 => o_wI M8 q9 4 ((mI M8 q9 4) + (1 : Int32)) (fun M10 => o_cl (m_X12_inRange G M10 a0 c1 (0 : Int32) (63 : Int32)) (fun M11 r12 => some (M11, r12))))))))))
set_option maxHeartbeats 4000000 in
set_option maxRecDepth 100000 in
theorem k_X12_place {l : Launch} {D : va_G} {cy : cyS} {G : gS} {M M' : mS} {r : Int32} {a0 : Nat} {c1 : Int32} (hG : wt G) (hL0 : a0 ∈ gL G) (hK0 : gK G a0 = 11) (h : m_X12_place G M a0 c1 = some (M', r)) : ctI l yX12_place wsX12_place rmX12_place D cy G M [.ref a0, .int c1] M' r := by
  unfold m_X12_place at h
  refine ctI_of (cc := cX12_place) (nL := 2) (ret := (some .int)) (lv := [(0, .ref a0), (1, .int c1)]) hG (by decide) rfl ⟨rfl, rfl⟩ (Nat.le_of_ble_eq_true rfl) rfl ?_
  intro p e s m args below meth c A ls cx w hl
  obtain ⟨hx, hb, hml, hown, hts, hr, hlocks, hK, hA, -, hsx⟩ := id cx
  have hkn : 0 ≤ (rmX12_place).cells ∧ 0 ≤ (rmX12_place).slots := ⟨Nat.zero_le _, Nat.zero_le _⟩
  refine lv_aload_n hx hb dX12_place_0 rfl (lv_at hl 0 rfl) ?_
  obtain ⟨q1, eq1, h⟩ := x_rf h
  obtain ⟨hLq1, hKq1⟩ := wt_q hG hL0 hK0 eq1
  have hKq1 : gK G q1 = 9 := hKq1
  refine r_getR (k := 12) cx w hL0 hK0 (by decide) rfl wi_X12_place_X12 (by decide) rfl eq1 (List.mem_of_getElem? (i := 1) rfl) dX12_place_1 ?_
  obtain ⟨q2, eq2, h⟩ := x_rf h
  obtain ⟨hLq2, hKq2⟩ := wt_q hG hLq1 hKq1 eq2
  have hKq2 : gK G q2 = 12 := hKq2
  refine r_getRN (k := 5) cx w hLq1 hKq1 (by decide) rfl wi_X12_place_X10 (by decide) rfl eq2 (nwF cx (q := (RX12, 241, "FlagAntsModel$Plan", "line", "[I", "FlagAntsModel")) (List.mem_of_getElem? (i := 14) rfl)) dX12_place_4 ?_
  refine lv_aload_n hx hb dX12_place_7 rfl (lv_at hl 0 rfl) ?_
  obtain ⟨q3, eq3, h⟩ := x_rf h
  obtain ⟨hLq3, hKq3⟩ := wt_q hG hL0 hK0 eq3
  have hKq3 : gK G q3 = 9 := hKq3
  refine r_getR (k := 12) cx w hL0 hK0 (by decide) rfl wi_X12_place_X12 (by decide) rfl eq3 (List.mem_of_getElem? (i := 1) rfl) dX12_place_8 ?_
  refine r_getIN (k := 4) (v := .int (mI M q3 4)) cx w hLq3 hKq3 (by decide) rfl wi_X12_place_X10 (by decide) rfl (nwF cx (q := (RX12, 233, "FlagAntsModel$Plan", "told", "I", "FlagAntsModel")) (List.mem_of_getElem? (i := 11) rfl)) dX12_place_11 ?_
  refine lv_aload_n hx hb dX12_place_14 rfl (lv_at hl 0 rfl) ?_
  refine lv_iload_n hx hb dX12_place_15 rfl (lv_at hl 1 rfl) ?_
  obtain ⟨M4, r5, y6, h⟩ := x_cl h
  refine r_callVi (As := [.int c1]) (rest := [.int ((mI M q3 4)), .ref q2]) cx w hkn hl.1 (k_X12_numberAt hG hL0 hK0 y6) (cwV 1 hts gX12_place_X12_numberAt rfl rfl rfl (by decide +kernel) ⟨Nat.le_of_ble_eq_true rfl, Nat.le_of_ble_eq_true rfl⟩) hL0 hK0 (by decide) rfl rfl rfl (Nat.le_of_ble_eq_true rfl) dX12_place_16 (fun H locs w => ?_)
  obtain ⟨z7, h⟩ := x_ix h
  obtain ⟨M8, eM8, h⟩ := x_wI h
  refine r_iast cx w hLq2 hKq2 z7 dX12_place_19 eM8 (fun H locs w => ?_)
  refine lv_aload_n hx hb dX12_place_20 rfl (lv_at hl 0 rfl) ?_
  obtain ⟨q9, eq9, h⟩ := x_rf h
  obtain ⟨hLq9, hKq9⟩ := wt_q hG hL0 hK0 eq9
  have hKq9 : gK G q9 = 9 := hKq9
  refine r_getR (k := 12) cx w hL0 hK0 (by decide) rfl wi_X12_place_X12 (by decide) rfl eq9 (List.mem_of_getElem? (i := 1) rfl) dX12_place_21 ?_
  refine lv_dup hx hb dX12_place_24 rfl ?_
  refine r_getIN (k := 4) (v := .int (mI M8 q9 4)) cx w hLq9 hKq9 (by decide) rfl wi_X12_place_X10 (by decide) rfl (nwF cx (q := (RX12, 233, "FlagAntsModel$Plan", "told", "I", "FlagAntsModel")) (List.mem_of_getElem? (i := 11) rfl)) dX12_place_25 ?_
  refine lv_iconst (v := (1 : Int32)) hx hb dX12_place_28 (by decide) ?_
  refine lv_iadd hx hb dX12_place_29 ?_
  obtain ⟨M10, eM10, h⟩ := x_wI h
  refine r_putIN (k := 4) (ty := .int) cx w tyX10 tyX10_ok nmX10 hLq9 hKq9 (by decide) rfl wi_X12_place_X10 (by decide) rfl rfl rfl rfl st_9_4 (ln_9 _ _ (by decide)) (nwF cx (q := (RX12, 233, "FlagAntsModel$Plan", "told", "I", "FlagAntsModel")) (List.mem_of_getElem? (i := 11) rfl)) dX12_place_30 eM10 (fun H locs w => ?_)
  refine lv_aload_n hx hb dX12_place_33 rfl (lv_at hl 0 rfl) ?_
  refine lv_iload_n hx hb dX12_place_34 rfl (lv_at hl 1 rfl) ?_
  refine lv_iconst (v := (0 : Int32)) hx hb dX12_place_35 (by decide) ?_
  refine lv_bipush (v := (63 : Int32)) hx hb dX12_place_36 (by decide) ?_
  obtain ⟨M11, r12, y13, h⟩ := x_cl h
  refine r_callVi (As := [.int c1, .int ((0 : Int32)), .int ((63 : Int32))]) (rest := []) cx w hkn hl.1 (k_X12_inRange hG hL0 hK0 y13) (cwV 3 hts gX12_place_X12_inRange rfl rfl rfl (by decide +kernel) ⟨Nat.le_of_ble_eq_true rfl, Nat.le_of_ble_eq_true rfl⟩) hL0 hK0 (by decide) rfl rfl rfl (Nat.le_of_ble_eq_true rfl) dX12_place_38 (fun H locs w => ?_)
  exact r_iret cx w h dX12_place_41
-- X12_antPlace
theorem wi_X12_antPlace_X10 : ∀ w ∈ wsX100, w ∈ wsX12_antPlace := by decide +kernel
theorem wi_X12_antPlace_X12 : ∀ w ∈ wsX120, w ∈ wsX12_antPlace := by decide +kernel
abbrev rmX12_antPlace : Room := { frames := 3, cells := 0, slots := 0, locals := 67 }
def m_X12_antPlace_72 (G : gS) (a0 : Nat) (c1 : Int32)  (M : mS) (v2 : Int32) (s0 : Nat) (s1 : Int32) (s2 : Int32) : Option (mS × Int32) := o_ix s1 (gN G s0) (o_wI M s0 (Int32.toNatClampNeg s1) s2 (fun M2 => some (M2, v2)))
def m_X12_antPlace (G : gS) (M : mS) (a0 : Nat) (c1 : Int32) : Option (mS × Int32) := o_cl (m_X12_place G M a0 c1) (fun M1 r2 => o_rf (gP G a0 12) (fun q4 => o_rf (gP G q4 7) (fun q5 => o_rf (gP G a0 12) (fun q6 => o_rf (gP G a0 12) (fun q7 => o_rf (gP G q7 5) (fun q8 => o_ix (0 : Int32) (gN G q8) (o_ix ((mI M1 q6 3) - (1 : Int32)) (gN G q5) (o_wI M1 q5 (Int32.toNatClampNeg ((mI M1 q6 3) - (1 : Int32))) (mI M1 q8 (Int32.toNatClampNeg (0 : Int32))) (fun M11 => o_rf (gP G a0 12) (fun q12 => o_rf (gP G q12 8) (fun q13 => o_rf (gP G a0 12) (fun q14 => o_rf (gP G a0 12) (fun q15 => (if (mI M11 q15 4) ≤ (1 : Int32) then m_X12_antPlace_72 G a0 c1 M11 r2 q13 (((mI M11 q14 3) - (1 : Int32))) ((0 : Int32)) else o_rf (gP G a0 12) (fun q17 => o_rf (gP G q17 5) (fun q18 => o_ix (1 : Int32) (gN G q18) (m_X12_antPlace_72 G a0 c1 M11 r2 q13 (((mI M11 q14 3) - (1 : Int32))) ((mI M11 q18 (Int32.toNatClampNeg (1 : Int32)))))))))))))))))))))
set_option maxHeartbeats 4000000 in
set_option maxRecDepth 100000 in
theorem b_X12_antPlace_72 {p : Program} {e : Env} {s : State} {m : MethodId} {args : Array Value} {below : List Frame} {meth : Method} {c : Code} {A : Nat → Prop} {l : Launch} {D : va_G} {cy : cyS} {G : gS} (cx : cX p s m args meth c cX12_antPlace RX12 3 (some .int) wsX12_antPlace D cy G A) {k0 n0 : Nat} (hkn : k0 ≤ (rmX12_antPlace).cells ∧ n0 ≤ (rmX12_antPlace).slots) {M' : mS} {r : Int32} {a0 : Nat} {c1 : Int32} (hL0 : a0 ∈ gL G) (hK0 : gK G a0 = 11)  : ∀ (M : mS) (v2 : Int32) (s0 : Nat) (s1 : Int32) (s2 : Int32) (H : Heap) (locs : List Loc) (ls : Array Slot), s0 ∈ gL G → gK G s0 = 12 → m_X12_antPlace_72 G a0 c1 M v2 s0 s1 s2 = some (M', r) → wd D cy G M A s.heap H locs → lv_has ls 3 [(2, .int v2)] → W p l e rmX12_antPlace s m args below meth c H locs k0 n0 (MQ below (va_Qi (fun (r' : Int32) (_ : Unit) => r' = r) (fun _ t => wOut D cy G M' t) A) args s k0 n0 A) (F0 m 72 ls [.int s2, .int s1, .ref s0]) := by
  obtain ⟨hx, hb, hml, hown, hts, hr, hlocks, hK, hA, hG, hsx⟩ := id cx
  intro M v2 s0 s1 s2 H locs ls sL0 sK0 h w hl
  unfold m_X12_antPlace_72 at h
  obtain ⟨z1, h⟩ := x_ix h
  obtain ⟨M2, eM2, h⟩ := x_wI h
  refine r_iast cx w sL0 sK0 z1 dX12_antPlace_72 eM2 (fun H locs w => ?_)
  refine lv_iload_n hx hb dX12_antPlace_73 rfl (lv_at hl 0 rfl) ?_
  exact r_iret cx w h dX12_antPlace_74
set_option maxHeartbeats 4000000 in
set_option maxRecDepth 100000 in
theorem k_X12_antPlace {l : Launch} {D : va_G} {cy : cyS} {G : gS} {M M' : mS} {r : Int32} {a0 : Nat} {c1 : Int32} (hG : wt G) (hL0 : a0 ∈ gL G) (hK0 : gK G a0 = 11) (h : m_X12_antPlace G M a0 c1 = some (M', r)) : ctI l yX12_antPlace wsX12_antPlace rmX12_antPlace D cy G M [.ref a0, .int c1] M' r := by
  unfold m_X12_antPlace at h
  refine ctI_of (cc := cX12_antPlace) (nL := 3) (ret := (some .int)) (lv := [(0, .ref a0), (1, .int c1)]) hG (by decide) rfl ⟨rfl, rfl⟩ (Nat.le_of_ble_eq_true rfl) rfl ?_
  intro p e s m args below meth c A ls cx w hl
  obtain ⟨hx, hb, hml, hown, hts, hr, hlocks, hK, hA, -, hsx⟩ := id cx
  have hkn : 0 ≤ (rmX12_antPlace).cells ∧ 0 ≤ (rmX12_antPlace).slots := ⟨Nat.zero_le _, Nat.zero_le _⟩
  refine lv_aload_n hx hb dX12_antPlace_0 rfl (lv_at hl 0 rfl) ?_
  refine lv_iload_n hx hb dX12_antPlace_1 rfl (lv_at hl 1 rfl) ?_
  obtain ⟨M1, r2, y3, h⟩ := x_cl h
  refine r_callVi (As := [.int c1]) (rest := []) cx w hkn hl.1 (k_X12_place hG hL0 hK0 y3) (cwV 1 hts gX12_antPlace_X12_place rfl rfl rfl (by decide +kernel) ⟨Nat.le_of_ble_eq_true rfl, Nat.le_of_ble_eq_true rfl⟩) hL0 hK0 (by decide) rfl rfl rfl (Nat.le_of_ble_eq_true rfl) dX12_antPlace_2 (fun H locs w => ?_)
  refine lv_istore_n (lv' := [(2, .int r2), (0, .ref a0), (1, .int c1)]) hx hb dX12_antPlace_5 rfl hl (by decide) rfl (fun ls hl => ?_)
  refine lv_aload_n hx hb dX12_antPlace_6 rfl (lv_at hl 1 rfl) ?_
  obtain ⟨q4, eq4, h⟩ := x_rf h
  obtain ⟨hLq4, hKq4⟩ := wt_q hG hL0 hK0 eq4
  have hKq4 : gK G q4 = 9 := hKq4
  refine r_getR (k := 12) cx w hL0 hK0 (by decide) rfl wi_X12_antPlace_X12 (by decide) rfl eq4 (List.mem_of_getElem? (i := 1) rfl) dX12_antPlace_7 ?_
  obtain ⟨q5, eq5, h⟩ := x_rf h
  obtain ⟨hLq5, hKq5⟩ := wt_q hG hLq4 hKq4 eq5
  have hKq5 : gK G q5 = 12 := hKq5
  refine r_getRN (k := 7) cx w hLq4 hKq4 (by decide) rfl wi_X12_antPlace_X10 (by decide) rfl eq5 (nwF cx (q := (RX12, 250, "FlagAntsModel$Plan", "column", "[I", "FlagAntsModel")) (List.mem_of_getElem? (i := 15) rfl)) dX12_antPlace_10 ?_
  refine lv_aload_n hx hb dX12_antPlace_13 rfl (lv_at hl 1 rfl) ?_
  obtain ⟨q6, eq6, h⟩ := x_rf h
  obtain ⟨hLq6, hKq6⟩ := wt_q hG hL0 hK0 eq6
  have hKq6 : gK G q6 = 9 := hKq6
  refine r_getR (k := 12) cx w hL0 hK0 (by decide) rfl wi_X12_antPlace_X12 (by decide) rfl eq6 (List.mem_of_getElem? (i := 1) rfl) dX12_antPlace_14 ?_
  refine r_getIN (k := 3) (v := .int (mI M1 q6 3)) cx w hLq6 hKq6 (by decide) rfl wi_X12_antPlace_X10 (by decide) rfl (nwF cx (q := (RX12, 64, "FlagAntsModel$Plan", "ants", "I", "FlagAntsModel")) (List.mem_of_getElem? (i := 0) rfl)) dX12_antPlace_17 ?_
  refine lv_iconst (v := (1 : Int32)) hx hb dX12_antPlace_20 (by decide) ?_
  refine lv_isub hx hb dX12_antPlace_21 ?_
  refine lv_aload_n hx hb dX12_antPlace_22 rfl (lv_at hl 1 rfl) ?_
  obtain ⟨q7, eq7, h⟩ := x_rf h
  obtain ⟨hLq7, hKq7⟩ := wt_q hG hL0 hK0 eq7
  have hKq7 : gK G q7 = 9 := hKq7
  refine r_getR (k := 12) cx w hL0 hK0 (by decide) rfl wi_X12_antPlace_X12 (by decide) rfl eq7 (List.mem_of_getElem? (i := 1) rfl) dX12_antPlace_23 ?_
  obtain ⟨q8, eq8, h⟩ := x_rf h
  obtain ⟨hLq8, hKq8⟩ := wt_q hG hLq7 hKq7 eq8
  have hKq8 : gK G q8 = 12 := hKq8
  refine r_getRN (k := 5) cx w hLq7 hKq7 (by decide) rfl wi_X12_antPlace_X10 (by decide) rfl eq8 (nwF cx (q := (RX12, 241, "FlagAntsModel$Plan", "line", "[I", "FlagAntsModel")) (List.mem_of_getElem? (i := 14) rfl)) dX12_antPlace_26 ?_
  refine lv_iconst (v := (0 : Int32)) hx hb dX12_antPlace_29 (by decide) ?_
  obtain ⟨z9, h⟩ := x_ix h
  refine r_iald cx w hLq8 hKq8 z9 dX12_antPlace_30 ?_
  obtain ⟨z10, h⟩ := x_ix h
  obtain ⟨M11, eM11, h⟩ := x_wI h
  refine r_iast cx w hLq5 hKq5 z10 dX12_antPlace_31 eM11 (fun H locs w => ?_)
  refine lv_aload_n hx hb dX12_antPlace_32 rfl (lv_at hl 1 rfl) ?_
  obtain ⟨q12, eq12, h⟩ := x_rf h
  obtain ⟨hLq12, hKq12⟩ := wt_q hG hL0 hK0 eq12
  have hKq12 : gK G q12 = 9 := hKq12
  refine r_getR (k := 12) cx w hL0 hK0 (by decide) rfl wi_X12_antPlace_X12 (by decide) rfl eq12 (List.mem_of_getElem? (i := 1) rfl) dX12_antPlace_33 ?_
  obtain ⟨q13, eq13, h⟩ := x_rf h
  obtain ⟨hLq13, hKq13⟩ := wt_q hG hLq12 hKq12 eq13
  have hKq13 : gK G q13 = 12 := hKq13
  refine r_getRN (k := 8) cx w hLq12 hKq12 (by decide) rfl wi_X12_antPlace_X10 (by decide) rfl eq13 (nwF cx (q := (RX12, 253, "FlagAntsModel$Plan", "row", "[I", "FlagAntsModel")) (List.mem_of_getElem? (i := 16) rfl)) dX12_antPlace_36 ?_
  refine lv_aload_n hx hb dX12_antPlace_39 rfl (lv_at hl 1 rfl) ?_
  obtain ⟨q14, eq14, h⟩ := x_rf h
  obtain ⟨hLq14, hKq14⟩ := wt_q hG hL0 hK0 eq14
  have hKq14 : gK G q14 = 9 := hKq14
  refine r_getR (k := 12) cx w hL0 hK0 (by decide) rfl wi_X12_antPlace_X12 (by decide) rfl eq14 (List.mem_of_getElem? (i := 1) rfl) dX12_antPlace_40 ?_
  refine r_getIN (k := 3) (v := .int (mI M11 q14 3)) cx w hLq14 hKq14 (by decide) rfl wi_X12_antPlace_X10 (by decide) rfl (nwF cx (q := (RX12, 64, "FlagAntsModel$Plan", "ants", "I", "FlagAntsModel")) (List.mem_of_getElem? (i := 0) rfl)) dX12_antPlace_43 ?_
  refine lv_iconst (v := (1 : Int32)) hx hb dX12_antPlace_46 (by decide) ?_
  refine lv_isub hx hb dX12_antPlace_47 ?_
  refine lv_aload_n hx hb dX12_antPlace_48 rfl (lv_at hl 1 rfl) ?_
  obtain ⟨q15, eq15, h⟩ := x_rf h
  obtain ⟨hLq15, hKq15⟩ := wt_q hG hL0 hK0 eq15
  have hKq15 : gK G q15 = 9 := hKq15
  refine r_getR (k := 12) cx w hL0 hK0 (by decide) rfl wi_X12_antPlace_X12 (by decide) rfl eq15 (List.mem_of_getElem? (i := 1) rfl) dX12_antPlace_49 ?_
  refine r_getIN (k := 4) (v := .int (mI M11 q15 4)) cx w hLq15 hKq15 (by decide) rfl wi_X12_antPlace_X10 (by decide) rfl (nwF cx (q := (RX12, 233, "FlagAntsModel$Plan", "told", "I", "FlagAntsModel")) (List.mem_of_getElem? (i := 11) rfl)) dX12_antPlace_52 ?_
  refine lv_iconst (v := (1 : Int32)) hx hb dX12_antPlace_55 (by decide) ?_
  refine lv_icmp_le (tgt := 71) hx hb dX12_antPlace_56 (by decide) (fun k16 => ?_) (fun k16 => ?_)
  · have h := x_t h k16
    refine lv_iconst (v := (0 : Int32)) hx hb dX12_antPlace_71 (by decide) ?_
    exact b_X12_antPlace_72 cx hkn hL0 hK0 M11 r2 q13 (((mI M11 q14 3) - (1 : Int32))) ((0 : Int32)) H locs ls hLq13 hKq13 h w (lv_sub hl [0] rfl)
  · have h := x_f h k16
    refine lv_aload_n hx hb dX12_antPlace_59 rfl (lv_at hl 1 rfl) ?_
    obtain ⟨q17, eq17, h⟩ := x_rf h
    obtain ⟨hLq17, hKq17⟩ := wt_q hG hL0 hK0 eq17
    have hKq17 : gK G q17 = 9 := hKq17
    refine r_getR (k := 12) cx w hL0 hK0 (by decide) rfl wi_X12_antPlace_X12 (by decide) rfl eq17 (List.mem_of_getElem? (i := 1) rfl) dX12_antPlace_60 ?_
    obtain ⟨q18, eq18, h⟩ := x_rf h
    obtain ⟨hLq18, hKq18⟩ := wt_q hG hLq17 hKq17 eq18
    have hKq18 : gK G q18 = 12 := hKq18
    refine r_getRN (k := 5) cx w hLq17 hKq17 (by decide) rfl wi_X12_antPlace_X10 (by decide) rfl eq18 (nwF cx (q := (RX12, 241, "FlagAntsModel$Plan", "line", "[I", "FlagAntsModel")) (List.mem_of_getElem? (i := 14) rfl)) dX12_antPlace_63 ?_
    refine lv_iconst (v := (1 : Int32)) hx hb dX12_antPlace_66 (by decide) ?_
    obtain ⟨z19, h⟩ := x_ix h
    refine r_iald cx w hLq18 hKq18 z19 dX12_antPlace_67 ?_
    refine lv_goto (tgt := 72) hx hb dX12_antPlace_68 (by decide) ?_
    exact b_X12_antPlace_72 cx hkn hL0 hK0 M11 r2 q13 (((mI M11 q14 3) - (1 : Int32))) ((mI M11 q18 (Int32.toNatClampNeg (1 : Int32)))) H locs ls hLq13 hKq13 h w (lv_sub hl [0] rfl)
-- X12_byteOf
theorem wi_X12_byteOf_X12 : ∀ w ∈ wsX120, w ∈ wsX12_byteOf := by decide +kernel
abbrev rmX12_byteOf : Room := { frames := 0, cells := 0, slots := 0, locals := 0 }
def m_X12_byteOf (G : gS) (M : mS) (a0 : Nat) (c1 : Int32) : Option (mS × Int32) := (if (mI M a0 2) ≤ c1 then some (M, (-1 : Int32)) else o_rf (gP G a0 1) (fun q2 => o_ix c1 (gN G q2) (some (M, (mI M q2 (Int32.toNatClampNeg c1))))))
set_option maxHeartbeats 4000000 in
set_option maxRecDepth 100000 in
theorem k_X12_byteOf {l : Launch} {D : va_G} {cy : cyS} {G : gS} {M M' : mS} {r : Int32} {a0 : Nat} {c1 : Int32} (hG : wt G) (hL0 : a0 ∈ gL G) (hK0 : gK G a0 = 11) (h : m_X12_byteOf G M a0 c1 = some (M', r)) : ctI l yX12_byteOf wsX12_byteOf rmX12_byteOf D cy G M [.ref a0, .int c1] M' r := by
  unfold m_X12_byteOf at h
  refine ctI_of (cc := cX12_byteOf) (nL := 2) (ret := (some .int)) (lv := [(0, .ref a0), (1, .int c1)]) hG (by decide) rfl ⟨rfl, rfl⟩ (Nat.le_of_ble_eq_true rfl) rfl ?_
  intro p e s m args below meth c A ls cx w hl
  obtain ⟨hx, hb, hml, hown, hts, hr, hlocks, hK, hA, -, hsx⟩ := id cx
  have hkn : 0 ≤ (rmX12_byteOf).cells ∧ 0 ≤ (rmX12_byteOf).slots := ⟨Nat.zero_le _, Nat.zero_le _⟩
  refine lv_iload_n hx hb dX12_byteOf_0 rfl (lv_at hl 1 rfl) ?_
  refine lv_aload_n hx hb dX12_byteOf_1 rfl (lv_at hl 0 rfl) ?_
  refine r_getI (k := 2) (v := .int (mI M a0 2)) cx w hL0 hK0 (by decide) rfl wi_X12_byteOf_X12 (by decide) rfl (List.mem_of_getElem? (i := 1) rfl) dX12_byteOf_2 ?_
  refine lv_icmp_ge (tgt := 17) hx hb dX12_byteOf_5 (by decide) (fun k1 => ?_) (fun k1 => ?_)
  · have h := x_t h k1
    refine lv_iconst (v := (-1 : Int32)) hx hb dX12_byteOf_17 (by decide) ?_
    exact r_iret cx w h dX12_byteOf_18
  · have h := x_f h k1
    refine lv_aload_n hx hb dX12_byteOf_8 rfl (lv_at hl 0 rfl) ?_
    obtain ⟨q2, eq2, h⟩ := x_rf h
    obtain ⟨hLq2, hKq2⟩ := wt_q hG hL0 hK0 eq2
    have hKq2 : gK G q2 = 12 := hKq2
    refine r_getR (k := 1) cx w hL0 hK0 (by decide) rfl wi_X12_byteOf_X12 (by decide) rfl eq2 (List.mem_of_getElem? (i := 2) rfl) dX12_byteOf_9 ?_
    refine lv_iload_n hx hb dX12_byteOf_12 rfl (lv_at hl 1 rfl) ?_
    obtain ⟨z3, h⟩ := x_ix h
    refine r_iald cx w hLq2 hKq2 z3 dX12_byteOf_13 ?_
    refine lv_goto (tgt := 18) hx hb dX12_byteOf_14 (by decide) ?_
    exact r_iret cx w h dX12_byteOf_18
-- X12_stonesOf
theorem wi_X12_stonesOf_X11 : ∀ w ∈ wsX110, w ∈ wsX12_stonesOf := by decide +kernel
theorem wi_X12_stonesOf_X12 : ∀ w ∈ wsX120, w ∈ wsX12_stonesOf := by decide +kernel
abbrev rmX12_stonesOf : Room := { frames := 0, cells := 0, slots := 0, locals := 0 }
def m_X12_stonesOf_42 (G : gS) (a0 : Nat) (c1 : Int32) (kb17 : mS → Int32 → Nat → Int32 → Int32 → Option (mS × Int32)) (M : mS) (v3 : Nat) (v4 : Int32) (v5 : Int32) (s0 : Int32) (s1 : Int32) : Option (mS × Int32) := o_bd ((s0 + s1)) (fun x1 => o_bd (v5 + 1 : Int32) (fun x2 => kb17 M x1 v3 v4 x2))
def m_X12_stonesOf_17 (G : gS) (a0 : Nat) (c1 : Int32)  : Nat → mS → Int32 → Nat → Int32 → Int32 → Option (mS × Int32)
  | 0, _, _, _, _, _ => none
  | n + 1, M, v2, v3, v4, v5 => (if v4 ≤ v5 then some (M, v2) else o_ix v5 (gN G v3) (o_bd ((mI M v3 (Int32.toNatClampNeg v5))) (fun x3 => (if x3 = c1 then m_X12_stonesOf_42 G a0 c1 (fun M v2 v3 v4 v5 => m_X12_stonesOf_17 G a0 c1 n M v2 v3 v4 v5) M v3 v4 v5 v2 ((1 : Int32)) else m_X12_stonesOf_42 G a0 c1 (fun M v2 v3 v4 v5 => m_X12_stonesOf_17 G a0 c1 n M v2 v3 v4 v5) M v3 v4 v5 v2 ((0 : Int32))))))
def m_X12_stonesOf (G : gS) (M : mS) (a0 : Nat) (c1 : Int32) : Option (mS × Int32) := o_rf (gP G a0 13) (fun q1 => o_rf (gP G q1 4) (fun q2 => o_bd ((Int32.ofNat (gN G q2))) (fun x3 => m_X12_stonesOf_17 G a0 c1 fu M ((0 : Int32)) q2 x3 ((0 : Int32)))))
set_option maxHeartbeats 4000000 in
set_option maxRecDepth 100000 in
theorem b_X12_stonesOf_42 {p : Program} {e : Env} {s : State} {m : MethodId} {args : Array Value} {below : List Frame} {meth : Method} {c : Code} {A : Nat → Prop} {l : Launch} {D : va_G} {cy : cyS} {G : gS} (cx : cX p s m args meth c cX12_stonesOf RX12 7 (some .int) wsX12_stonesOf D cy G A) {k0 n0 : Nat} (hkn : k0 ≤ (rmX12_stonesOf).cells ∧ n0 ≤ (rmX12_stonesOf).slots) {M' : mS} {r : Int32} {a0 : Nat} {c1 : Int32} (hL0 : a0 ∈ gL G) (hK0 : gK G a0 = 11) {kb17 : mS → Int32 → Nat → Int32 → Int32 → Option (mS × Int32)} (hkb17 : ∀ (M : mS) (v2 : Int32) (v3 : Nat) (v4 : Int32) (v5 : Int32) (H : Heap) (locs : List Loc) (ls : Array Slot), v3 ∈ gL G → gK G v3 = 12 → kb17 M v2 v3 v4 v5 = some (M', r) → wd D cy G M A s.heap H locs → lv_has ls 7 [(1, .int c1), (2, .int v2), (3, .ref v3), (4, .int v4), (5, .int v5)] → W p l e rmX12_stonesOf s m args below meth c H locs k0 n0 (MQ below (va_Qi (fun (r' : Int32) (_ : Unit) => r' = r) (fun _ t => wOut D cy G M' t) A) args s k0 n0 A) (F0 m 17 ls [])) : ∀ (M : mS) (v3 : Nat) (v4 : Int32) (v5 : Int32) (s0 : Int32) (s1 : Int32) (H : Heap) (locs : List Loc) (ls : Array Slot), v3 ∈ gL G → gK G v3 = 12 → m_X12_stonesOf_42 G a0 c1 kb17 M v3 v4 v5 s0 s1 = some (M', r) → wd D cy G M A s.heap H locs → lv_has ls 7 [(1, .int c1), (3, .ref v3), (4, .int v4), (5, .int v5)] → W p l e rmX12_stonesOf s m args below meth c H locs k0 n0 (MQ below (va_Qi (fun (r' : Int32) (_ : Unit) => r' = r) (fun _ t => wOut D cy G M' t) A) args s k0 n0 A) (F0 m 42 ls [.int s1, .int s0]) := by
  obtain ⟨hx, hb, hml, hown, hts, hr, hlocks, hK, hA, hG, hsx⟩ := id cx
  intro M v3 v4 v5 s0 s1 H locs ls gL3 gK3 h w hl
  unfold m_X12_stonesOf_42 at h
  refine lv_iadd hx hb dX12_stonesOf_42 ?_
  obtain ⟨x1, ex1, h⟩ := x_bd h
  refine r_topI ex1 ?_
  refine lv_istore_n (lv' := [(2, .int x1), (1, .int c1), (3, .ref v3), (4, .int v4), (5, .int v5)]) hx hb dX12_stonesOf_43 rfl hl (by decide) rfl (fun ls hl => ?_)
  obtain ⟨x2, ex2, h⟩ := x_bd h
  refine lv_iinc (v := x2) (lv' := [(5, .int x2), (2, .int x1), (1, .int c1), (3, .ref v3), (4, .int v4)]) hx hb dX12_stonesOf_44 hl (k := 4) rfl (by rw [ex2]; rfl) (by decide) rfl (fun ls hl => ?_)
  refine lv_goto (tgt := 17) hx hb dX12_stonesOf_47 (by decide) ?_
  exact hkb17 M x1 v3 v4 x2 H locs ls gL3 gK3 h w (lv_sub hl [2, 1, 3, 4, 0] rfl)
set_option maxHeartbeats 4000000 in
set_option maxRecDepth 100000 in
theorem b_X12_stonesOf_17 {p : Program} {e : Env} {s : State} {m : MethodId} {args : Array Value} {below : List Frame} {meth : Method} {c : Code} {A : Nat → Prop} {l : Launch} {D : va_G} {cy : cyS} {G : gS} (cx : cX p s m args meth c cX12_stonesOf RX12 7 (some .int) wsX12_stonesOf D cy G A) {k0 n0 : Nat} (hkn : k0 ≤ (rmX12_stonesOf).cells ∧ n0 ≤ (rmX12_stonesOf).slots) {M' : mS} {r : Int32} {a0 : Nat} {c1 : Int32} (hL0 : a0 ∈ gL G) (hK0 : gK G a0 = 11)  : ∀ (n : Nat), ∀ (M : mS) (v2 : Int32) (v3 : Nat) (v4 : Int32) (v5 : Int32) (H : Heap) (locs : List Loc) (ls : Array Slot), v3 ∈ gL G → gK G v3 = 12 → m_X12_stonesOf_17 G a0 c1 n M v2 v3 v4 v5 = some (M', r) → wd D cy G M A s.heap H locs → lv_has ls 7 [(1, .int c1), (2, .int v2), (3, .ref v3), (4, .int v4), (5, .int v5)] → W p l e rmX12_stonesOf s m args below meth c H locs k0 n0 (MQ below (va_Qi (fun (r' : Int32) (_ : Unit) => r' = r) (fun _ t => wOut D cy G M' t) A) args s k0 n0 A) (F0 m 17 ls []) := by
  obtain ⟨hx, hb, hml, hown, hts, hr, hlocks, hK, hA, hG, hsx⟩ := id cx
  intro n
  induction n with
  | zero =>
    intro M v2 v3 v4 v5 H locs ls gL3 gK3 h w hl
    have h : none = some _ := h
    cases h
  | succ n ih =>
    intro M v2 v3 v4 v5 H locs ls gL3 gK3 h w hl
    rw [m_X12_stonesOf_17] at h
    refine lv_iload hx hb dX12_stonesOf_17 (lv_at hl 4 rfl) ?_
    refine lv_iload hx hb dX12_stonesOf_19 (lv_at hl 3 rfl) ?_
    refine lv_icmp_ge (tgt := 50) hx hb dX12_stonesOf_21 (by decide) (fun k1 => ?_) (fun k1 => ?_)
    · have h := x_t h k1
      refine lv_iload_n hx hb dX12_stonesOf_50 rfl (lv_at hl 1 rfl) ?_
      exact r_iret cx w h dX12_stonesOf_51
    · have h := x_f h k1
      refine lv_aload_n hx hb dX12_stonesOf_24 rfl (lv_at hl 2 rfl) ?_
      refine lv_iload hx hb dX12_stonesOf_25 (lv_at hl 4 rfl) ?_
      obtain ⟨z2, h⟩ := x_ix h
      refine r_iald cx w gL3 gK3 z2 dX12_stonesOf_27 ?_
      obtain ⟨x3, ex3, h⟩ := x_bd h
      refine r_topI ex3 ?_
      refine lv_istore (lv' := [(6, .int x3), (1, .int c1), (2, .int v2), (3, .ref v3), (4, .int v4), (5, .int v5)]) hx hb dX12_stonesOf_28 hl (by decide) rfl (fun ls hl => ?_)
      refine lv_iload_n hx hb dX12_stonesOf_30 rfl (lv_at hl 2 rfl) ?_
      refine lv_iload hx hb dX12_stonesOf_31 (lv_at hl 0 rfl) ?_
      refine lv_iload_n hx hb dX12_stonesOf_33 rfl (lv_at hl 1 rfl) ?_
      refine lv_icmp_ne (tgt := 41) hx hb dX12_stonesOf_34 (by decide) (fun k4 => ?_) (fun k4 => ?_)
      · have h := x_f h k4
        refine lv_iconst (v := (0 : Int32)) hx hb dX12_stonesOf_41 (by decide) ?_
        exact b_X12_stonesOf_42 cx hkn hL0 hK0 (hkb17 := ih) M v3 v4 v5 v2 ((0 : Int32)) H locs ls gL3 gK3 h w (lv_sub hl [1, 3, 4, 5] rfl)
      · have h := x_t h k4
        refine lv_iconst (v := (1 : Int32)) hx hb dX12_stonesOf_37 (by decide) ?_
        refine lv_goto (tgt := 42) hx hb dX12_stonesOf_38 (by decide) ?_
        exact b_X12_stonesOf_42 cx hkn hL0 hK0 (hkb17 := ih) M v3 v4 v5 v2 ((1 : Int32)) H locs ls gL3 gK3 h w (lv_sub hl [1, 3, 4, 5] rfl)
set_option maxHeartbeats 4000000 in
set_option maxRecDepth 100000 in
theorem k_X12_stonesOf {l : Launch} {D : va_G} {cy : cyS} {G : gS} {M M' : mS} {r : Int32} {a0 : Nat} {c1 : Int32} (hG : wt G) (hL0 : a0 ∈ gL G) (hK0 : gK G a0 = 11) (h : m_X12_stonesOf G M a0 c1 = some (M', r)) : ctI l yX12_stonesOf wsX12_stonesOf rmX12_stonesOf D cy G M [.ref a0, .int c1] M' r := by
  unfold m_X12_stonesOf at h
  refine ctI_of (cc := cX12_stonesOf) (nL := 7) (ret := (some .int)) (lv := [(0, .ref a0), (1, .int c1)]) hG (by decide) rfl ⟨rfl, rfl⟩ (Nat.le_of_ble_eq_true rfl) rfl ?_
  intro p e s m args below meth c A ls cx w hl
  obtain ⟨hx, hb, hml, hown, hts, hr, hlocks, hK, hA, -, hsx⟩ := id cx
  have hkn : 0 ≤ (rmX12_stonesOf).cells ∧ 0 ≤ (rmX12_stonesOf).slots := ⟨Nat.zero_le _, Nat.zero_le _⟩
  refine lv_iconst (v := (0 : Int32)) hx hb dX12_stonesOf_0 (by decide) ?_
  refine lv_istore_n (lv' := [(2, .int ((0 : Int32))), (0, .ref a0), (1, .int c1)]) hx hb dX12_stonesOf_1 rfl hl (by decide) rfl (fun ls hl => ?_)
  refine lv_aload_n hx hb dX12_stonesOf_2 rfl (lv_at hl 1 rfl) ?_
  obtain ⟨q1, eq1, h⟩ := x_rf h
  obtain ⟨hLq1, hKq1⟩ := wt_q hG hL0 hK0 eq1
  have hKq1 : gK G q1 = 10 := hKq1
  refine r_getR (k := 13) cx w hL0 hK0 (by decide) rfl wi_X12_stonesOf_X12 (by decide) rfl eq1 (List.mem_of_getElem? (i := 1) rfl) dX12_stonesOf_3 ?_
  obtain ⟨q2, eq2, h⟩ := x_rf h
  obtain ⟨hLq2, hKq2⟩ := wt_q hG hLq1 hKq1 eq2
  have hKq2 : gK G q2 = 12 := hKq2
  refine r_getRN (k := 4) cx w hLq1 hKq1 (by decide) rfl wi_X12_stonesOf_X11 (by decide) rfl eq2 (nwF cx (q := (RX12, 321, "FlagAntsModel$State", "colours", "[I", "FlagAntsModel")) (List.mem_of_getElem? (i := 23) rfl)) dX12_stonesOf_6 ?_
  refine lv_astore_n (lv' := [(3, .ref q2), (2, .int ((0 : Int32))), (0, .ref a0), (1, .int c1)]) hx hb dX12_stonesOf_9 rfl hl (by decide) rfl (fun ls hl => ?_)
  refine lv_aload_n hx hb dX12_stonesOf_10 rfl (lv_at hl 0 rfl) ?_
  refine r_alen cx w hLq2 hKq2 (by decide) dX12_stonesOf_11 ?_
  obtain ⟨x3, ex3, h⟩ := x_bd h
  refine r_topI ex3 ?_
  refine lv_istore (lv' := [(4, .int x3), (3, .ref q2), (2, .int ((0 : Int32))), (0, .ref a0), (1, .int c1)]) hx hb dX12_stonesOf_12 hl (by decide) rfl (fun ls hl => ?_)
  refine lv_iconst (v := (0 : Int32)) hx hb dX12_stonesOf_14 (by decide) ?_
  refine lv_istore (lv' := [(5, .int ((0 : Int32))), (4, .int x3), (3, .ref q2), (2, .int ((0 : Int32))), (0, .ref a0), (1, .int c1)]) hx hb dX12_stonesOf_15 hl (by decide) rfl (fun ls hl => ?_)
  exact b_X12_stonesOf_17 cx hkn hL0 hK0 fu M ((0 : Int32)) q2 x3 ((0 : Int32)) s.heap [] ls hLq2 hKq2 h w (lv_sub hl [5, 3, 2, 1, 0] rfl)
-- X12_colour
theorem wi_X12_colour_X12 : ∀ w ∈ wsX120, w ∈ wsX12_colour := by decide +kernel
abbrev rmX12_colour : Room := { frames := 1, cells := 0, slots := 0, locals := 26 }
def m_X12_colour (G : gS) (M : mS) (a0 : Nat) (c1 : Int32) : Option (mS × Int32) := o_wI M a0 0 (0 : Int32) (fun M1 => o_cl (m_X12_isIn G M1 c1 (0 : Int32) (5 : Int32)) (fun M2 r3 => (if r3 = 0 then o_cl (m_X12_no G M2 a0 (1 : Int32)) (fun M6 r7 => some (M6, r7)) else o_cl (m_X12_stonesOf G M2 a0 c1) (fun M9 r10 => some (M9, r10)))))
set_option maxHeartbeats 4000000 in
set_option maxRecDepth 100000 in
theorem k_X12_colour {l : Launch} {D : va_G} {cy : cyS} {G : gS} {M M' : mS} {r : Int32} {a0 : Nat} {c1 : Int32} (hG : wt G) (hL0 : a0 ∈ gL G) (hK0 : gK G a0 = 11) (h : m_X12_colour G M a0 c1 = some (M', r)) : ctI l yX12_colour wsX12_colour rmX12_colour D cy G M [.ref a0, .int c1] M' r := by
  unfold m_X12_colour at h
  refine ctI_of (cc := cX12_colour) (nL := 2) (ret := (some .int)) (lv := [(0, .ref a0), (1, .int c1)]) hG (by decide) rfl ⟨rfl, rfl⟩ (Nat.le_of_ble_eq_true rfl) rfl ?_
  intro p e s m args below meth c A ls cx w hl
  obtain ⟨hx, hb, hml, hown, hts, hr, hlocks, hK, hA, -, hsx⟩ := id cx
  have hkn : 0 ≤ (rmX12_colour).cells ∧ 0 ≤ (rmX12_colour).slots := ⟨Nat.zero_le _, Nat.zero_le _⟩
  refine lv_aload_n hx hb dX12_colour_0 rfl (lv_at hl 0 rfl) ?_
  refine lv_iconst (v := (0 : Int32)) hx hb dX12_colour_1 (by decide) ?_
  obtain ⟨M1, eM1, h⟩ := x_wI h
  refine r_putI (k := 0) (ty := .int) cx w tyX12 tyX12_ok nmX12 hL0 hK0 (by decide) rfl wi_X12_colour_X12 (by decide) rfl rfl rfl rfl st_11_0 (ln_11 _ _ (by decide)) (List.mem_of_getElem? (i := 1) rfl) dX12_colour_2 eM1 (fun H locs w => ?_)
  refine lv_iload_n hx hb dX12_colour_5 rfl (lv_at hl 1 rfl) ?_
  refine lv_iconst (v := (0 : Int32)) hx hb dX12_colour_6 (by decide) ?_
  refine lv_iconst (v := (5 : Int32)) hx hb dX12_colour_7 (by decide) ?_
  obtain ⟨M2, r3, y4, h⟩ := x_cl h
  refine r_callSi (As := [.int c1, .int ((0 : Int32)), .int ((5 : Int32))]) (rest := []) cx w hkn hl.1 (k_X12_isIn hG y4) (va_cwS 3 hts gX12_colour_X12_isIn rfl rfl rfl (by decide +kernel) ⟨Nat.le_of_ble_eq_true rfl, Nat.le_of_ble_eq_true rfl⟩) rfl rfl (Nat.le_of_ble_eq_true rfl) dX12_colour_8 (fun H locs w => ?_)
  refine lv_if_eq (tgt := 22) hx hb dX12_colour_11 (by decide) (fun k5 => ?_) (fun k5 => ?_)
  · have h := x_t h k5
    refine lv_aload_n hx hb dX12_colour_22 rfl (lv_at hl 0 rfl) ?_
    refine lv_iconst (v := (1 : Int32)) hx hb dX12_colour_23 (by decide) ?_
    obtain ⟨M6, r7, y8, h⟩ := x_cl h
    refine r_callVi (As := [.int ((1 : Int32))]) (rest := []) cx w hkn hl.1 (k_X12_no hG hL0 hK0 y8) (cwV 1 hts gX12_colour_X12_no rfl rfl rfl (by decide +kernel) ⟨Nat.le_of_ble_eq_true rfl, Nat.le_of_ble_eq_true rfl⟩) hL0 hK0 (by decide) rfl rfl rfl (Nat.le_of_ble_eq_true rfl) dX12_colour_24 (fun H locs w => ?_)
    exact r_iret cx w h dX12_colour_27
  · have h := x_f h k5
    refine lv_aload_n hx hb dX12_colour_14 rfl (lv_at hl 0 rfl) ?_
    refine lv_iload_n hx hb dX12_colour_15 rfl (lv_at hl 1 rfl) ?_
    obtain ⟨M9, r10, y11, h⟩ := x_cl h
    refine r_callVi (As := [.int c1]) (rest := []) cx w hkn hl.1 (k_X12_stonesOf hG hL0 hK0 y11) (cwV 1 hts gX12_colour_X12_stonesOf rfl rfl rfl (by decide +kernel) ⟨Nat.le_of_ble_eq_true rfl, Nat.le_of_ble_eq_true rfl⟩) hL0 hK0 (by decide) rfl rfl rfl (Nat.le_of_ble_eq_true rfl) dX12_colour_16 (fun H locs w => ?_)
    refine lv_goto (tgt := 27) hx hb dX12_colour_19 (by decide) ?_
    exact r_iret cx w h dX12_colour_27
-- X12_isLetter
abbrev rmX12_isLetter : Room := { frames := 0, cells := 0, slots := 0, locals := 0 }
def m_X12_isLetter_16 (G : gS) (c0 : Int32)  (M : mS)  : Option (mS × Int32) := o_ck ((0 : Int32) = 0 ∨ (0 : Int32) = 1) (some (M, (0 : Int32)))
def m_X12_isLetter (G : gS) (M : mS) (c0 : Int32) : Option (mS × Int32) := (if c0 < (97 : Int32) then m_X12_isLetter_16 G c0 M else (if (122 : Int32) < c0 then m_X12_isLetter_16 G c0 M else o_ck ((1 : Int32) = 0 ∨ (1 : Int32) = 1) (some (M, (1 : Int32)))))
set_option maxHeartbeats 4000000 in
set_option maxRecDepth 100000 in
theorem b_X12_isLetter_16 {p : Program} {e : Env} {s : State} {m : MethodId} {args : Array Value} {below : List Frame} {meth : Method} {c : Code} {A : Nat → Prop} {l : Launch} {D : va_G} {cy : cyS} {G : gS} (cx : cX p s m args meth c cX12_isLetter RX12 1 (some .boolean) wsX12_isLetter D cy G A) {k0 n0 : Nat} (hkn : k0 ≤ (rmX12_isLetter).cells ∧ n0 ≤ (rmX12_isLetter).slots) {M' : mS} {r : Int32} {c0 : Int32}   : ∀ (M : mS) (H : Heap) (locs : List Loc) (ls : Array Slot), m_X12_isLetter_16 G c0 M = some (M', r) → wd D cy G M A s.heap H locs → lv_has ls 1 [] → W p l e rmX12_isLetter s m args below meth c H locs k0 n0 (MQ below (va_Qi (fun (r' : Int32) (_ : Unit) => r' = r) (fun _ t => wOut D cy G M' t) A) args s k0 n0 A) (F0 m 16 ls []) := by
  obtain ⟨hx, hb, hml, hown, hts, hr, hlocks, hK, hA, hG, hsx⟩ := id cx
  intro M H locs ls h w hl
  unfold m_X12_isLetter_16 at h
  refine lv_iconst (v := (0 : Int32)) hx hb dX12_isLetter_16 (by decide) ?_
  obtain ⟨z1, h⟩ := x_ck h
  exact r_zret cx w z1 h dX12_isLetter_17
set_option maxHeartbeats 4000000 in
set_option maxRecDepth 100000 in
theorem k_X12_isLetter {l : Launch} {D : va_G} {cy : cyS} {G : gS} {M M' : mS} {r : Int32} {c0 : Int32} (hG : wt G)  (h : m_X12_isLetter G M c0 = some (M', r)) : ctI l yX12_isLetter wsX12_isLetter rmX12_isLetter D cy G M [.int c0] M' r := by
  unfold m_X12_isLetter at h
  refine ctI_of (cc := cX12_isLetter) (nL := 1) (ret := (some .boolean)) (lv := [(0, .int c0)]) hG (by decide) rfl ⟨rfl, rfl⟩ (Nat.le_of_ble_eq_true rfl) rfl ?_
  intro p e s m args below meth c A ls cx w hl
  obtain ⟨hx, hb, hml, hown, hts, hr, hlocks, hK, hA, -, hsx⟩ := id cx
  have hkn : 0 ≤ (rmX12_isLetter).cells ∧ 0 ≤ (rmX12_isLetter).slots := ⟨Nat.zero_le _, Nat.zero_le _⟩
  refine lv_iload_n hx hb dX12_isLetter_0 rfl (lv_at hl 0 rfl) ?_
  refine lv_bipush (v := (97 : Int32)) hx hb dX12_isLetter_1 (by decide) ?_
  refine lv_icmp_lt (tgt := 16) hx hb dX12_isLetter_3 (by decide) (fun k1 => ?_) (fun k1 => ?_)
  · have h := x_t h k1
    exact b_X12_isLetter_16 cx hkn M s.heap [] ls h w (lv_sub hl [] rfl)
  · have h := x_f h k1
    refine lv_iload_n hx hb dX12_isLetter_6 rfl (lv_at hl 0 rfl) ?_
    refine lv_bipush (v := (122 : Int32)) hx hb dX12_isLetter_7 (by decide) ?_
    refine lv_icmp_gt (tgt := 16) hx hb dX12_isLetter_9 (by decide) (fun k2 => ?_) (fun k2 => ?_)
    · have h := x_t h k2
      exact b_X12_isLetter_16 cx hkn M s.heap [] ls h w (lv_sub hl [] rfl)
    · have h := x_f h k2
      refine lv_iconst (v := (1 : Int32)) hx hb dX12_isLetter_12 (by decide) ?_
      refine lv_goto (tgt := 17) hx hb dX12_isLetter_13 (by decide) ?_
      obtain ⟨z3, h⟩ := x_ck h
      exact r_zret cx w z3 h dX12_isLetter_17
-- X12_isDigit
abbrev rmX12_isDigit : Room := { frames := 0, cells := 0, slots := 0, locals := 0 }
def m_X12_isDigit_16 (G : gS) (c0 : Int32)  (M : mS)  : Option (mS × Int32) := o_ck ((0 : Int32) = 0 ∨ (0 : Int32) = 1) (some (M, (0 : Int32)))
def m_X12_isDigit (G : gS) (M : mS) (c0 : Int32) : Option (mS × Int32) := (if c0 < (48 : Int32) then m_X12_isDigit_16 G c0 M else (if (57 : Int32) < c0 then m_X12_isDigit_16 G c0 M else o_ck ((1 : Int32) = 0 ∨ (1 : Int32) = 1) (some (M, (1 : Int32)))))
set_option maxHeartbeats 4000000 in
set_option maxRecDepth 100000 in
theorem b_X12_isDigit_16 {p : Program} {e : Env} {s : State} {m : MethodId} {args : Array Value} {below : List Frame} {meth : Method} {c : Code} {A : Nat → Prop} {l : Launch} {D : va_G} {cy : cyS} {G : gS} (cx : cX p s m args meth c cX12_isDigit RX12 1 (some .boolean) wsX12_isDigit D cy G A) {k0 n0 : Nat} (hkn : k0 ≤ (rmX12_isDigit).cells ∧ n0 ≤ (rmX12_isDigit).slots) {M' : mS} {r : Int32} {c0 : Int32}   : ∀ (M : mS) (H : Heap) (locs : List Loc) (ls : Array Slot), m_X12_isDigit_16 G c0 M = some (M', r) → wd D cy G M A s.heap H locs → lv_has ls 1 [] → W p l e rmX12_isDigit s m args below meth c H locs k0 n0 (MQ below (va_Qi (fun (r' : Int32) (_ : Unit) => r' = r) (fun _ t => wOut D cy G M' t) A) args s k0 n0 A) (F0 m 16 ls []) := by
  obtain ⟨hx, hb, hml, hown, hts, hr, hlocks, hK, hA, hG, hsx⟩ := id cx
  intro M H locs ls h w hl
  unfold m_X12_isDigit_16 at h
  refine lv_iconst (v := (0 : Int32)) hx hb dX12_isDigit_16 (by decide) ?_
  obtain ⟨z1, h⟩ := x_ck h
  exact r_zret cx w z1 h dX12_isDigit_17
set_option maxHeartbeats 4000000 in
set_option maxRecDepth 100000 in
theorem k_X12_isDigit {l : Launch} {D : va_G} {cy : cyS} {G : gS} {M M' : mS} {r : Int32} {c0 : Int32} (hG : wt G)  (h : m_X12_isDigit G M c0 = some (M', r)) : ctI l yX12_isDigit wsX12_isDigit rmX12_isDigit D cy G M [.int c0] M' r := by
  unfold m_X12_isDigit at h
  refine ctI_of (cc := cX12_isDigit) (nL := 1) (ret := (some .boolean)) (lv := [(0, .int c0)]) hG (by decide) rfl ⟨rfl, rfl⟩ (Nat.le_of_ble_eq_true rfl) rfl ?_
  intro p e s m args below meth c A ls cx w hl
  obtain ⟨hx, hb, hml, hown, hts, hr, hlocks, hK, hA, -, hsx⟩ := id cx
  have hkn : 0 ≤ (rmX12_isDigit).cells ∧ 0 ≤ (rmX12_isDigit).slots := ⟨Nat.zero_le _, Nat.zero_le _⟩
  refine lv_iload_n hx hb dX12_isDigit_0 rfl (lv_at hl 0 rfl) ?_
  refine lv_bipush (v := (48 : Int32)) hx hb dX12_isDigit_1 (by decide) ?_
  refine lv_icmp_lt (tgt := 16) hx hb dX12_isDigit_3 (by decide) (fun k1 => ?_) (fun k1 => ?_)
  · have h := x_t h k1
    exact b_X12_isDigit_16 cx hkn M s.heap [] ls h w (lv_sub hl [] rfl)
  · have h := x_f h k1
    refine lv_iload_n hx hb dX12_isDigit_6 rfl (lv_at hl 0 rfl) ?_
    refine lv_bipush (v := (57 : Int32)) hx hb dX12_isDigit_7 (by decide) ?_
    refine lv_icmp_gt (tgt := 16) hx hb dX12_isDigit_9 (by decide) (fun k2 => ?_) (fun k2 => ?_)
    · have h := x_t h k2
      exact b_X12_isDigit_16 cx hkn M s.heap [] ls h w (lv_sub hl [] rfl)
    · have h := x_f h k2
      refine lv_iconst (v := (1 : Int32)) hx hb dX12_isDigit_12 (by decide) ?_
      refine lv_goto (tgt := 17) hx hb dX12_isDigit_13 (by decide) ?_
      obtain ⟨z3, h⟩ := x_ck h
      exact r_zret cx w z3 h dX12_isDigit_17
-- X12_word
theorem wi_X12_word_X12 : ∀ w ∈ wsX120, w ∈ wsX12_word := by decide +kernel
abbrev rmX12_word : Room := { frames := 4, cells := 0, slots := 0, locals := 85 }
def m_X12_word_78 (G : gS) (a0 : Nat) (c1 : Int32) (c2 : Int32) (kb2 : mS → Int32 → Option (mS × Int32)) (M : mS) (v3 : Int32) (v4 : Int32) : Option (mS × Int32) := (if v4 = 0 then o_bd (v3 + 1 : Int32) (fun x2 => kb2 M x2) else some (M, v3))
def m_X12_word_70 (G : gS) (a0 : Nat) (c1 : Int32) (c2 : Int32) (kb2 : mS → Int32 → Option (mS × Int32)) (kb32 : mS → Int32 → Int32 → Int32 → Option (mS × Int32)) (M : mS) (v3 : Int32) (v5 : Int32) (s0 : Int32) : Option (mS × Int32) := o_bd (v5 + 1 : Int32) (fun x1 => kb32 M v3 s0 x1)
def m_X12_word_32 (G : gS) (a0 : Nat) (c1 : Int32) (c2 : Int32) (kb2 : mS → Int32 → Option (mS × Int32)) : Nat → mS → Int32 → Int32 → Int32 → Option (mS × Int32)
  | 0, _, _, _, _ => none
  | n + 1, M, v3, v4, v5 => (if v4 = 0 then m_X12_word_78 G a0 c1 c2 kb2 M v3 v4 else (if c2 ≤ v5 then m_X12_word_78 G a0 c1 c2 kb2 M v3 v4 else o_ix v3 33 (o_cl (m_J0_charAt_5068e G M (Int32.toNatClampNeg v3) v5) (fun M4 r5 => o_rf (gP G a0 1) (fun q7 => o_ix (c1 + v5) (gN G q7) ((if r5 = (mI M4 q7 (Int32.toNatClampNeg (c1 + v5))) then m_X12_word_70 G a0 c1 c2 kb2 (fun M v3 v4 v5 => m_X12_word_32 G a0 c1 c2 kb2 n M v3 v4 v5) M4 v3 v5 ((1 : Int32)) else m_X12_word_70 G a0 c1 c2 kb2 (fun M v3 v4 v5 => m_X12_word_32 G a0 c1 c2 kb2 n M v3 v4 v5) M4 v3 v5 ((0 : Int32)))))))))
def m_X12_word_27 (G : gS) (a0 : Nat) (c1 : Int32) (c2 : Int32) (kb2 : mS → Int32 → Option (mS × Int32)) (M : mS) (v3 : Int32) (s0 : Int32) : Option (mS × Int32) := m_X12_word_32 G a0 c1 c2 kb2 fu M v3 s0 ((0 : Int32))
def m_X12_word_2 (G : gS) (a0 : Nat) (c1 : Int32) (c2 : Int32)  : Nat → mS → Int32 → Option (mS × Int32)
  | 0, _, _ => none
  | n + 1, M, v3 => (if (33 : Int32) ≤ v3 then some (M, (40 : Int32)) else o_ix v3 33 (o_cl (m_J0_length_8abf5 G M (Int32.toNatClampNeg v3)) (fun M3 r4 => (if r4 = c2 then m_X12_word_27 G a0 c1 c2 (fun M v3 => m_X12_word_2 G a0 c1 c2 n M v3) M3 v3 ((1 : Int32)) else m_X12_word_27 G a0 c1 c2 (fun M v3 => m_X12_word_2 G a0 c1 c2 n M v3) M3 v3 ((0 : Int32))))))
def m_X12_word (G : gS) (M : mS) (a0 : Nat) (c1 : Int32) (c2 : Int32) : Option (mS × Int32) := m_X12_word_2 G a0 c1 c2 fu M ((0 : Int32))
set_option maxHeartbeats 4000000 in
set_option maxRecDepth 100000 in
theorem b_X12_word_78 {p : Program} {e : Env} {s : State} {m : MethodId} {args : Array Value} {below : List Frame} {meth : Method} {c : Code} {A : Nat → Prop} {l : Launch} {D : va_G} {cy : cyS} {G : gS} (cx : cX p s m args meth c cX12_word RX12 6 (some .int) wsX12_word D cy G A) {k0 n0 : Nat} (hkn : k0 ≤ (rmX12_word).cells ∧ n0 ≤ (rmX12_word).slots) {M' : mS} {r : Int32} {a0 : Nat} {c1 : Int32} {c2 : Int32} (hL0 : a0 ∈ gL G) (hK0 : gK G a0 = 11) {kb2 : mS → Int32 → Option (mS × Int32)} (hkb2 : ∀ (M : mS) (v3 : Int32) (H : Heap) (locs : List Loc) (ls : Array Slot), kb2 M v3 = some (M', r) → wd D cy G M A s.heap H locs → lv_has ls 6 [(0, .ref a0), (1, .int c1), (2, .int c2), (3, .int v3)] → W p l e rmX12_word s m args below meth c H locs k0 n0 (MQ below (va_Qi (fun (r' : Int32) (_ : Unit) => r' = r) (fun _ t => wOut D cy G M' t) A) args s k0 n0 A) (F0 m 2 ls [])) : ∀ (M : mS) (v3 : Int32) (v4 : Int32) (H : Heap) (locs : List Loc) (ls : Array Slot), m_X12_word_78 G a0 c1 c2 kb2 M v3 v4 = some (M', r) → wd D cy G M A s.heap H locs → lv_has ls 6 [(0, .ref a0), (1, .int c1), (2, .int c2), (3, .int v3), (4, .int v4)] → W p l e rmX12_word s m args below meth c H locs k0 n0 (MQ below (va_Qi (fun (r' : Int32) (_ : Unit) => r' = r) (fun _ t => wOut D cy G M' t) A) args s k0 n0 A) (F0 m 78 ls []) := by
  obtain ⟨hx, hb, hml, hown, hts, hr, hlocks, hK, hA, hG, hsx⟩ := id cx
  intro M v3 v4 H locs ls h w hl
  unfold m_X12_word_78 at h
  refine lv_iload hx hb dX12_word_78 (lv_at hl 4 rfl) ?_
  refine lv_if_eq (tgt := 85) hx hb dX12_word_80 (by decide) (fun k1 => ?_) (fun k1 => ?_)
  · have h := x_t h k1
    obtain ⟨x2, ex2, h⟩ := x_bd h
    refine lv_iinc (v := x2) (lv' := [(3, .int x2), (0, .ref a0), (1, .int c1), (2, .int c2), (4, .int v4)]) hx hb dX12_word_85 hl (k := 3) rfl (by rw [ex2]; rfl) (by decide) rfl (fun ls hl => ?_)
    refine lv_goto (tgt := 2) hx hb dX12_word_88 (by decide) ?_
    exact hkb2 M x2 H locs ls h w (lv_sub hl [1, 2, 3, 0] rfl)
  · have h := x_f h k1
    refine lv_iload_n hx hb dX12_word_83 rfl (lv_at hl 3 rfl) ?_
    exact r_iret cx w h dX12_word_84
set_option maxHeartbeats 4000000 in
set_option maxRecDepth 100000 in
theorem b_X12_word_70 {p : Program} {e : Env} {s : State} {m : MethodId} {args : Array Value} {below : List Frame} {meth : Method} {c : Code} {A : Nat → Prop} {l : Launch} {D : va_G} {cy : cyS} {G : gS} (cx : cX p s m args meth c cX12_word RX12 6 (some .int) wsX12_word D cy G A) {k0 n0 : Nat} (hkn : k0 ≤ (rmX12_word).cells ∧ n0 ≤ (rmX12_word).slots) {M' : mS} {r : Int32} {a0 : Nat} {c1 : Int32} {c2 : Int32} (hL0 : a0 ∈ gL G) (hK0 : gK G a0 = 11) {kb2 : mS → Int32 → Option (mS × Int32)} (hkb2 : ∀ (M : mS) (v3 : Int32) (H : Heap) (locs : List Loc) (ls : Array Slot), kb2 M v3 = some (M', r) → wd D cy G M A s.heap H locs → lv_has ls 6 [(0, .ref a0), (1, .int c1), (2, .int c2), (3, .int v3)] → W p l e rmX12_word s m args below meth c H locs k0 n0 (MQ below (va_Qi (fun (r' : Int32) (_ : Unit) => r' = r) (fun _ t => wOut D cy G M' t) A) args s k0 n0 A) (F0 m 2 ls [])) {kb32 : mS → Int32 → Int32 → Int32 → Option (mS × Int32)} (hkb32 : ∀ (M : mS) (v3 : Int32) (v4 : Int32) (v5 : Int32) (H : Heap) (locs : List Loc) (ls : Array Slot), kb32 M v3 v4 v5 = some (M', r) → wd D cy G M A s.heap H locs → lv_has ls 6 [(0, .ref a0), (1, .int c1), (2, .int c2), (3, .int v3), (4, .int v4), (5, .int v5)] → W p l e rmX12_word s m args below meth c H locs k0 n0 (MQ below (va_Qi (fun (r' : Int32) (_ : Unit) => r' = r) (fun _ t => wOut D cy G M' t) A) args s k0 n0 A) (F0 m 32 ls [])) : ∀ (M : mS) (v3 : Int32) (v5 : Int32) (s0 : Int32) (H : Heap) (locs : List Loc) (ls : Array Slot), m_X12_word_70 G a0 c1 c2 kb2 kb32 M v3 v5 s0 = some (M', r) → wd D cy G M A s.heap H locs → lv_has ls 6 [(0, .ref a0), (1, .int c1), (2, .int c2), (3, .int v3), (5, .int v5)] → W p l e rmX12_word s m args below meth c H locs k0 n0 (MQ below (va_Qi (fun (r' : Int32) (_ : Unit) => r' = r) (fun _ t => wOut D cy G M' t) A) args s k0 n0 A) (F0 m 70 ls [.int s0]) := by
  obtain ⟨hx, hb, hml, hown, hts, hr, hlocks, hK, hA, hG, hsx⟩ := id cx
  intro M v3 v5 s0 H locs ls h w hl
  unfold m_X12_word_70 at h
  refine lv_istore (lv' := [(4, .int s0), (0, .ref a0), (1, .int c1), (2, .int c2), (3, .int v3), (5, .int v5)]) hx hb dX12_word_70 hl (by decide) rfl (fun ls hl => ?_)
  obtain ⟨x1, ex1, h⟩ := x_bd h
  refine lv_iinc (v := x1) (lv' := [(5, .int x1), (4, .int s0), (0, .ref a0), (1, .int c1), (2, .int c2), (3, .int v3)]) hx hb dX12_word_72 hl (k := 5) rfl (by rw [ex1]; rfl) (by decide) rfl (fun ls hl => ?_)
  refine lv_goto (tgt := 32) hx hb dX12_word_75 (by decide) ?_
  exact hkb32 M v3 s0 x1 H locs ls h w (lv_sub hl [2, 3, 4, 5, 1, 0] rfl)
set_option maxHeartbeats 4000000 in
set_option maxRecDepth 100000 in
theorem b_X12_word_32 {p : Program} {e : Env} {s : State} {m : MethodId} {args : Array Value} {below : List Frame} {meth : Method} {c : Code} {A : Nat → Prop} {l : Launch} {D : va_G} {cy : cyS} {G : gS} (cx : cX p s m args meth c cX12_word RX12 6 (some .int) wsX12_word D cy G A) {k0 n0 : Nat} (hkn : k0 ≤ (rmX12_word).cells ∧ n0 ≤ (rmX12_word).slots) {M' : mS} {r : Int32} {a0 : Nat} {c1 : Int32} {c2 : Int32} (hL0 : a0 ∈ gL G) (hK0 : gK G a0 = 11) {kb2 : mS → Int32 → Option (mS × Int32)} (hkb2 : ∀ (M : mS) (v3 : Int32) (H : Heap) (locs : List Loc) (ls : Array Slot), kb2 M v3 = some (M', r) → wd D cy G M A s.heap H locs → lv_has ls 6 [(0, .ref a0), (1, .int c1), (2, .int c2), (3, .int v3)] → W p l e rmX12_word s m args below meth c H locs k0 n0 (MQ below (va_Qi (fun (r' : Int32) (_ : Unit) => r' = r) (fun _ t => wOut D cy G M' t) A) args s k0 n0 A) (F0 m 2 ls [])) : ∀ (n : Nat), ∀ (M : mS) (v3 : Int32) (v4 : Int32) (v5 : Int32) (H : Heap) (locs : List Loc) (ls : Array Slot), m_X12_word_32 G a0 c1 c2 kb2 n M v3 v4 v5 = some (M', r) → wd D cy G M A s.heap H locs → lv_has ls 6 [(0, .ref a0), (1, .int c1), (2, .int c2), (3, .int v3), (4, .int v4), (5, .int v5)] → W p l e rmX12_word s m args below meth c H locs k0 n0 (MQ below (va_Qi (fun (r' : Int32) (_ : Unit) => r' = r) (fun _ t => wOut D cy G M' t) A) args s k0 n0 A) (F0 m 32 ls []) := by
  obtain ⟨hx, hb, hml, hown, hts, hr, hlocks, hK, hA, hG, hsx⟩ := id cx
  intro n
  induction n with
  | zero =>
    intro M v3 v4 v5 H locs ls h w hl
    have h : none = some _ := h
    cases h
  | succ n ih =>
    intro M v3 v4 v5 H locs ls h w hl
    rw [m_X12_word_32] at h
    refine lv_iload hx hb dX12_word_32 (lv_at hl 4 rfl) ?_
    refine lv_if_eq (tgt := 78) hx hb dX12_word_34 (by decide) (fun k1 => ?_) (fun k1 => ?_)
    · have h := x_t h k1
      exact b_X12_word_78 cx hkn hL0 hK0 (hkb2 := hkb2) M v3 v4 H locs ls h w (lv_sub hl [0, 1, 2, 3, 4] rfl)
    · have h := x_f h k1
      refine lv_iload hx hb dX12_word_37 (lv_at hl 5 rfl) ?_
      refine lv_iload_n hx hb dX12_word_39 rfl (lv_at hl 2 rfl) ?_
      refine lv_icmp_ge (tgt := 78) hx hb dX12_word_40 (by decide) (fun k2 => ?_) (fun k2 => ?_)
      · have h := x_t h k2
        exact b_X12_word_78 cx hkn hL0 hK0 (hkb2 := hkb2) M v3 v4 H locs ls h w (lv_sub hl [0, 1, 2, 3, 4] rfl)
      · have h := x_f h k2
        refine r_getW cx w (List.mem_of_getElem? (i := 1) rfl) dX12_word_43 ?_
        refine lv_iload_n hx hb dX12_word_46 rfl (lv_at hl 3 rfl) ?_
        obtain ⟨z3, h⟩ := x_ix h
        refine r_wald cx w z3 dX12_word_47 ?_
        refine lv_iload hx hb dX12_word_48 (lv_at hl 5 rfl) ?_
        obtain ⟨M4, r5, y6, h⟩ := x_cl h
        refine r_callVTi (As := [.int v5]) (rest := []) cx w hkn hl.1 (vp_lt35 z3) (k_J0_charAt_5068e hG (vp_lt35 z3) y6) (cwV 1 hts gX12_word_J0_charAt_5068e rfl rfl rfl (by decide +kernel) ⟨Nat.le_of_ble_eq_true rfl, Nat.le_of_ble_eq_true rfl⟩) rfl rfl (Nat.le_of_ble_eq_true rfl) dX12_word_50 (fun H locs w => ?_)
        refine lv_aload_n hx hb dX12_word_53 rfl (lv_at hl 0 rfl) ?_
        obtain ⟨q7, eq7, h⟩ := x_rf h
        obtain ⟨hLq7, hKq7⟩ := wt_q hG hL0 hK0 eq7
        have hKq7 : gK G q7 = 12 := hKq7
        refine r_getR (k := 1) cx w hL0 hK0 (by decide) rfl wi_X12_word_X12 (by decide) rfl eq7 (List.mem_of_getElem? (i := 2) rfl) dX12_word_54 ?_
        refine lv_iload_n hx hb dX12_word_57 rfl (lv_at hl 1 rfl) ?_
        refine lv_iload hx hb dX12_word_58 (lv_at hl 5 rfl) ?_
        refine lv_iadd hx hb dX12_word_60 ?_
        obtain ⟨z8, h⟩ := x_ix h
        refine r_iald cx w hLq7 hKq7 z8 dX12_word_61 ?_
        refine lv_icmp_ne (tgt := 69) hx hb dX12_word_62 (by decide) (fun k9 => ?_) (fun k9 => ?_)
        · have h := x_f h k9
          refine lv_iconst (v := (0 : Int32)) hx hb dX12_word_69 (by decide) ?_
          exact b_X12_word_70 cx hkn hL0 hK0 (hkb2 := hkb2) (hkb32 := ih) M4 v3 v5 ((0 : Int32)) H locs ls h w (lv_sub hl [0, 1, 2, 3, 5] rfl)
        · have h := x_t h k9
          refine lv_iconst (v := (1 : Int32)) hx hb dX12_word_65 (by decide) ?_
          refine lv_goto (tgt := 70) hx hb dX12_word_66 (by decide) ?_
          exact b_X12_word_70 cx hkn hL0 hK0 (hkb2 := hkb2) (hkb32 := ih) M4 v3 v5 ((1 : Int32)) H locs ls h w (lv_sub hl [0, 1, 2, 3, 5] rfl)
set_option maxHeartbeats 4000000 in
set_option maxRecDepth 100000 in
theorem b_X12_word_27 {p : Program} {e : Env} {s : State} {m : MethodId} {args : Array Value} {below : List Frame} {meth : Method} {c : Code} {A : Nat → Prop} {l : Launch} {D : va_G} {cy : cyS} {G : gS} (cx : cX p s m args meth c cX12_word RX12 6 (some .int) wsX12_word D cy G A) {k0 n0 : Nat} (hkn : k0 ≤ (rmX12_word).cells ∧ n0 ≤ (rmX12_word).slots) {M' : mS} {r : Int32} {a0 : Nat} {c1 : Int32} {c2 : Int32} (hL0 : a0 ∈ gL G) (hK0 : gK G a0 = 11) {kb2 : mS → Int32 → Option (mS × Int32)} (hkb2 : ∀ (M : mS) (v3 : Int32) (H : Heap) (locs : List Loc) (ls : Array Slot), kb2 M v3 = some (M', r) → wd D cy G M A s.heap H locs → lv_has ls 6 [(0, .ref a0), (1, .int c1), (2, .int c2), (3, .int v3)] → W p l e rmX12_word s m args below meth c H locs k0 n0 (MQ below (va_Qi (fun (r' : Int32) (_ : Unit) => r' = r) (fun _ t => wOut D cy G M' t) A) args s k0 n0 A) (F0 m 2 ls [])) : ∀ (M : mS) (v3 : Int32) (s0 : Int32) (H : Heap) (locs : List Loc) (ls : Array Slot), m_X12_word_27 G a0 c1 c2 kb2 M v3 s0 = some (M', r) → wd D cy G M A s.heap H locs → lv_has ls 6 [(0, .ref a0), (1, .int c1), (2, .int c2), (3, .int v3)] → W p l e rmX12_word s m args below meth c H locs k0 n0 (MQ below (va_Qi (fun (r' : Int32) (_ : Unit) => r' = r) (fun _ t => wOut D cy G M' t) A) args s k0 n0 A) (F0 m 27 ls [.int s0]) := by
  obtain ⟨hx, hb, hml, hown, hts, hr, hlocks, hK, hA, hG, hsx⟩ := id cx
  intro M v3 s0 H locs ls h w hl
  unfold m_X12_word_27 at h
  refine lv_istore (lv' := [(4, .int s0), (0, .ref a0), (1, .int c1), (2, .int c2), (3, .int v3)]) hx hb dX12_word_27 hl (by decide) rfl (fun ls hl => ?_)
  refine lv_iconst (v := (0 : Int32)) hx hb dX12_word_29 (by decide) ?_
  refine lv_istore (lv' := [(5, .int ((0 : Int32))), (4, .int s0), (0, .ref a0), (1, .int c1), (2, .int c2), (3, .int v3)]) hx hb dX12_word_30 hl (by decide) rfl (fun ls hl => ?_)
  exact b_X12_word_32 cx hkn hL0 hK0 (hkb2 := hkb2) fu M v3 s0 ((0 : Int32)) H locs ls h w (lv_sub hl [2, 3, 4, 5, 1, 0] rfl)
set_option maxHeartbeats 4000000 in
set_option maxRecDepth 100000 in
theorem b_X12_word_2 {p : Program} {e : Env} {s : State} {m : MethodId} {args : Array Value} {below : List Frame} {meth : Method} {c : Code} {A : Nat → Prop} {l : Launch} {D : va_G} {cy : cyS} {G : gS} (cx : cX p s m args meth c cX12_word RX12 6 (some .int) wsX12_word D cy G A) {k0 n0 : Nat} (hkn : k0 ≤ (rmX12_word).cells ∧ n0 ≤ (rmX12_word).slots) {M' : mS} {r : Int32} {a0 : Nat} {c1 : Int32} {c2 : Int32} (hL0 : a0 ∈ gL G) (hK0 : gK G a0 = 11)  : ∀ (n : Nat), ∀ (M : mS) (v3 : Int32) (H : Heap) (locs : List Loc) (ls : Array Slot), m_X12_word_2 G a0 c1 c2 n M v3 = some (M', r) → wd D cy G M A s.heap H locs → lv_has ls 6 [(0, .ref a0), (1, .int c1), (2, .int c2), (3, .int v3)] → W p l e rmX12_word s m args below meth c H locs k0 n0 (MQ below (va_Qi (fun (r' : Int32) (_ : Unit) => r' = r) (fun _ t => wOut D cy G M' t) A) args s k0 n0 A) (F0 m 2 ls []) := by
  obtain ⟨hx, hb, hml, hown, hts, hr, hlocks, hK, hA, hG, hsx⟩ := id cx
  intro n
  induction n with
  | zero =>
    intro M v3 H locs ls h w hl
    have h : none = some _ := h
    cases h
  | succ n ih =>
    intro M v3 H locs ls h w hl
    rw [m_X12_word_2] at h
    refine lv_iload_n hx hb dX12_word_2 rfl (lv_at hl 3 rfl) ?_
    refine r_getW cx w (List.mem_of_getElem? (i := 1) rfl) dX12_word_3 ?_
    refine r_wlen cx w dX12_word_6 ?_
    refine lv_icmp_ge (tgt := 91) hx hb dX12_word_7 (by decide) (fun k1 => ?_) (fun k1 => ?_)
    · have h := x_t h k1
      refine lv_bipush (v := (40 : Int32)) hx hb dX12_word_91 (by decide) ?_
      exact r_iret cx w h dX12_word_93
    · have h := x_f h k1
      refine r_getW cx w (List.mem_of_getElem? (i := 1) rfl) dX12_word_10 ?_
      refine lv_iload_n hx hb dX12_word_13 rfl (lv_at hl 3 rfl) ?_
      obtain ⟨z2, h⟩ := x_ix h
      refine r_wald cx w z2 dX12_word_14 ?_
      obtain ⟨M3, r4, y5, h⟩ := x_cl h
      refine r_callVTi (As := []) (rest := []) cx w hkn hl.1 (vp_lt35 z2) (k_J0_length_8abf5 hG (vp_lt35 z2) y5) (cwV 0 hts gX12_word_J0_length_8abf5 rfl rfl rfl (by decide +kernel) ⟨Nat.le_of_ble_eq_true rfl, Nat.le_of_ble_eq_true rfl⟩) rfl rfl (Nat.le_of_ble_eq_true rfl) dX12_word_15 (fun H locs w => ?_)
      refine lv_iload_n hx hb dX12_word_18 rfl (lv_at hl 2 rfl) ?_
      refine lv_icmp_ne (tgt := 26) hx hb dX12_word_19 (by decide) (fun k6 => ?_) (fun k6 => ?_)
      · have h := x_f h k6
        refine lv_iconst (v := (0 : Int32)) hx hb dX12_word_26 (by decide) ?_
        exact b_X12_word_27 cx hkn hL0 hK0 (hkb2 := ih) M3 v3 ((0 : Int32)) H locs ls h w (lv_sub hl [0, 1, 2, 3] rfl)
      · have h := x_t h k6
        refine lv_iconst (v := (1 : Int32)) hx hb dX12_word_22 (by decide) ?_
        refine lv_goto (tgt := 27) hx hb dX12_word_23 (by decide) ?_
        exact b_X12_word_27 cx hkn hL0 hK0 (hkb2 := ih) M3 v3 ((1 : Int32)) H locs ls h w (lv_sub hl [0, 1, 2, 3] rfl)
set_option maxHeartbeats 4000000 in
set_option maxRecDepth 100000 in
theorem k_X12_word {l : Launch} {D : va_G} {cy : cyS} {G : gS} {M M' : mS} {r : Int32} {a0 : Nat} {c1 : Int32} {c2 : Int32} (hG : wt G) (hL0 : a0 ∈ gL G) (hK0 : gK G a0 = 11) (h : m_X12_word G M a0 c1 c2 = some (M', r)) : ctI l yX12_word wsX12_word rmX12_word D cy G M [.ref a0, .int c1, .int c2] M' r := by
  unfold m_X12_word at h
  refine ctI_of (cc := cX12_word) (nL := 6) (ret := (some .int)) (lv := [(0, .ref a0), (1, .int c1), (2, .int c2)]) hG (by decide) rfl ⟨rfl, rfl⟩ (Nat.le_of_ble_eq_true rfl) rfl ?_
  intro p e s m args below meth c A ls cx w hl
  obtain ⟨hx, hb, hml, hown, hts, hr, hlocks, hK, hA, -, hsx⟩ := id cx
  have hkn : 0 ≤ (rmX12_word).cells ∧ 0 ≤ (rmX12_word).slots := ⟨Nat.zero_le _, Nat.zero_le _⟩
  refine lv_iconst (v := (0 : Int32)) hx hb dX12_word_0 (by decide) ?_
  refine lv_istore_n (lv' := [(3, .int ((0 : Int32))), (0, .ref a0), (1, .int c1), (2, .int c2)]) hx hb dX12_word_1 rfl hl (by decide) rfl (fun ls hl => ?_)
  exact b_X12_word_2 cx hkn hL0 hK0 fu M ((0 : Int32)) s.heap [] ls h w (lv_sub hl [1, 2, 3, 0] rfl)
-- X12_kindAt
theorem wi_X12_kindAt_X12 : ∀ w ∈ wsX120, w ∈ wsX12_kindAt := by decide +kernel
abbrev rmX12_kindAt : Room := { frames := 5, cells := 0, slots := 0, locals := 126 }
def m_X12_kindAt_65 (G : gS) (a0 : Nat) (c1 : Int32) (c2 : Int32) (kb34 : mS → Int32 → Int32 → Option (mS × Int32)) (M : mS) (v3 : Int32) (v4 : Int32) : Option (mS × Int32) := o_bd (v4 + 1 : Int32) (fun x1 => kb34 M v3 x1)
def m_X12_kindAt_99 (G : gS) (a0 : Nat) (c1 : Int32) (c2 : Int32)  (M : mS) (v3 : Int32) (v4 : Int32) (s0 : Int32) (s1 : Int32) : Option (mS × Int32) := (if s0 ≤ s1 then o_cl (m_X12_isLetter G M v3) (fun M2 r3 => (if r3 = 0 then some (M2, (41 : Int32)) else o_cl (m_X12_word G M2 a0 c1 (v4 - c1)) (fun M6 r7 => some (M6, r7)))) else some (M, (901 : Int32)))
def m_X12_kindAt_71 (G : gS) (a0 : Nat) (c1 : Int32) (c2 : Int32)  (M : mS) (v3 : Int32) (v4 : Int32) : Option (mS × Int32) := o_rf (gP G a0 6) (fun q1 => o_ix c2 (gN G q1) (o_wI M q1 (Int32.toNatClampNeg c2) (v4 - c1) (fun M3 => o_cl (m_X12_isLetter G M3 v3) (fun M4 r5 => (if r5 = 0 then m_X12_kindAt_99 G a0 c1 c2 M4 v3 v4 ((v4 - c1)) ((6 : Int32)) else m_X12_kindAt_99 G a0 c1 c2 M4 v3 v4 ((v4 - c1)) ((10 : Int32)))))))
def m_X12_kindAt_34 (G : gS) (a0 : Nat) (c1 : Int32) (c2 : Int32)  : Nat → mS → Int32 → Int32 → Option (mS × Int32)
  | 0, _, _, _ => none
  | n + 1, M, v3, v4 => o_cl (m_X12_byteOf G M a0 v4) (fun M1 r2 => o_cl (m_X12_isDigit G M1 r2) (fun M4 r5 => (if r5 = 0 then o_cl (m_X12_isLetter G M4 v3) (fun M8 r9 => (if r9 = 0 then m_X12_kindAt_71 G a0 c1 c2 M8 v3 v4 else o_cl (m_X12_byteOf G M8 a0 v4) (fun M12 r13 => o_cl (m_X12_isLetter G M12 r13) (fun M15 r16 => (if r16 = 0 then m_X12_kindAt_71 G a0 c1 c2 M15 v3 v4 else m_X12_kindAt_65 G a0 c1 c2 (fun M v3 v4 => m_X12_kindAt_34 G a0 c1 c2 n M v3 v4) M15 v3 v4))))) else m_X12_kindAt_65 G a0 c1 c2 (fun M v3 v4 => m_X12_kindAt_34 G a0 c1 c2 n M v3 v4) M4 v3 v4)))
def m_X12_kindAt_223 (G : gS) (a0 : Nat) (c1 : Int32) (c2 : Int32)  (M : mS)  : Option (mS × Int32) := some (M, (901 : Int32))
def m_X12_kindAt_173 (G : gS) (a0 : Nat) (c1 : Int32) (c2 : Int32)  (M : mS) (v3 : Int32) (v5 : Int32) (s0 : Nat) (s1 : Int32) (s2 : Int32) : Option (mS × Int32) := o_ix s1 (gN G s0) (o_wI M s0 (Int32.toNatClampNeg s1) s2 (fun M2 => (if v5 = 0 then (if v3 ≤ 0 then m_X12_kindAt_223 G a0 c1 c2 M2 else (if (128 : Int32) ≤ v3 then m_X12_kindAt_223 G a0 c1 c2 M2 else o_cl (m_J0_indexOf_0f7a4 G M2 33 ((Int32.toUInt32 v3 % 65536).toInt32)) (fun M6 r7 => (if r7 < 0 then m_X12_kindAt_223 G a0 c1 c2 M6 else some (M6, ((50 : Int32) + v3)))))) else (if v3 = (60 : Int32) then some (M2, (300 : Int32)) else some (M2, (301 : Int32))))))
def m_X12_kindAt_156 (G : gS) (a0 : Nat) (c1 : Int32) (c2 : Int32)  (M : mS) (v3 : Int32) (s0 : Int32) : Option (mS × Int32) := o_rf (gP G a0 6) (fun q1 => (if s0 = 0 then m_X12_kindAt_173 G a0 c1 c2 M v3 s0 q1 c2 ((1 : Int32)) else m_X12_kindAt_173 G a0 c1 c2 M v3 s0 q1 c2 ((2 : Int32))))
def m_X12_kindAt_155 (G : gS) (a0 : Nat) (c1 : Int32) (c2 : Int32)  (M : mS) (v3 : Int32) : Option (mS × Int32) := m_X12_kindAt_156 G a0 c1 c2 M v3 ((0 : Int32))
def m_X12_kindAt_140 (G : gS) (a0 : Nat) (c1 : Int32) (c2 : Int32)  (M : mS) (v3 : Int32) (v4 : Int32) : Option (mS × Int32) := o_cl (m_X12_byteOf G M a0 v4) (fun M1 r2 => (if r2 = (61 : Int32) then m_X12_kindAt_156 G a0 c1 c2 M1 v3 ((1 : Int32)) else m_X12_kindAt_155 G a0 c1 c2 M1 v3))
def m_X12_kindAt (G : gS) (M : mS) (a0 : Nat) (c1 : Int32) (c2 : Int32) : Option (mS × Int32) := o_cl (m_X12_byteOf G M a0 c1) (fun M1 r2 => o_bd ((c1 + (1 : Int32))) (fun x4 => (if r2 = (-1 : Int32) then some (M1, (900 : Int32)) else o_cl (m_X12_isLetter G M1 r2) (fun M6 r7 => (if r7 = 0 then o_cl (m_X12_isDigit G M6 r2) (fun M10 r11 => (if r11 = 0 then (if r2 = (60 : Int32) then m_X12_kindAt_140 G a0 c1 c2 M10 r2 x4 else (if r2 = (62 : Int32) then m_X12_kindAt_140 G a0 c1 c2 M10 r2 x4 else m_X12_kindAt_155 G a0 c1 c2 M10 r2)) else m_X12_kindAt_34 G a0 c1 c2 fu M10 r2 x4)) else m_X12_kindAt_34 G a0 c1 c2 fu M6 r2 x4)))))
set_option maxHeartbeats 4000000 in
set_option maxRecDepth 100000 in
theorem b_X12_kindAt_65 {p : Program} {e : Env} {s : State} {m : MethodId} {args : Array Value} {below : List Frame} {meth : Method} {c : Code} {A : Nat → Prop} {l : Launch} {D : va_G} {cy : cyS} {G : gS} (cx : cX p s m args meth c cX12_kindAt RX12 6 (some .int) wsX12_kindAt D cy G A) {k0 n0 : Nat} (hkn : k0 ≤ (rmX12_kindAt).cells ∧ n0 ≤ (rmX12_kindAt).slots) {M' : mS} {r : Int32} {a0 : Nat} {c1 : Int32} {c2 : Int32} (hL0 : a0 ∈ gL G) (hK0 : gK G a0 = 11) {kb34 : mS → Int32 → Int32 → Option (mS × Int32)} (hkb34 : ∀ (M : mS) (v3 : Int32) (v4 : Int32) (H : Heap) (locs : List Loc) (ls : Array Slot), kb34 M v3 v4 = some (M', r) → wd D cy G M A s.heap H locs → lv_has ls 6 [(0, .ref a0), (1, .int c1), (2, .int c2), (3, .int v3), (4, .int v4)] → W p l e rmX12_kindAt s m args below meth c H locs k0 n0 (MQ below (va_Qi (fun (r' : Int32) (_ : Unit) => r' = r) (fun _ t => wOut D cy G M' t) A) args s k0 n0 A) (F0 m 34 ls [])) : ∀ (M : mS) (v3 : Int32) (v4 : Int32) (H : Heap) (locs : List Loc) (ls : Array Slot), m_X12_kindAt_65 G a0 c1 c2 kb34 M v3 v4 = some (M', r) → wd D cy G M A s.heap H locs → lv_has ls 6 [(0, .ref a0), (1, .int c1), (2, .int c2), (3, .int v3), (4, .int v4)] → W p l e rmX12_kindAt s m args below meth c H locs k0 n0 (MQ below (va_Qi (fun (r' : Int32) (_ : Unit) => r' = r) (fun _ t => wOut D cy G M' t) A) args s k0 n0 A) (F0 m 65 ls []) := by
  obtain ⟨hx, hb, hml, hown, hts, hr, hlocks, hK, hA, hG, hsx⟩ := id cx
  intro M v3 v4 H locs ls h w hl
  unfold m_X12_kindAt_65 at h
  obtain ⟨x1, ex1, h⟩ := x_bd h
  refine lv_iinc (v := x1) (lv' := [(4, .int x1), (0, .ref a0), (1, .int c1), (2, .int c2), (3, .int v3)]) hx hb dX12_kindAt_65 hl (k := 4) rfl (by rw [ex1]; rfl) (by decide) rfl (fun ls hl => ?_)
  refine lv_goto (tgt := 34) hx hb dX12_kindAt_68 (by decide) ?_
  exact hkb34 M v3 x1 H locs ls h w (lv_sub hl [1, 2, 3, 4, 0] rfl)
set_option maxHeartbeats 4000000 in
set_option maxRecDepth 100000 in
theorem b_X12_kindAt_99 {p : Program} {e : Env} {s : State} {m : MethodId} {args : Array Value} {below : List Frame} {meth : Method} {c : Code} {A : Nat → Prop} {l : Launch} {D : va_G} {cy : cyS} {G : gS} (cx : cX p s m args meth c cX12_kindAt RX12 6 (some .int) wsX12_kindAt D cy G A) {k0 n0 : Nat} (hkn : k0 ≤ (rmX12_kindAt).cells ∧ n0 ≤ (rmX12_kindAt).slots) {M' : mS} {r : Int32} {a0 : Nat} {c1 : Int32} {c2 : Int32} (hL0 : a0 ∈ gL G) (hK0 : gK G a0 = 11)  : ∀ (M : mS) (v3 : Int32) (v4 : Int32) (s0 : Int32) (s1 : Int32) (H : Heap) (locs : List Loc) (ls : Array Slot), m_X12_kindAt_99 G a0 c1 c2 M v3 v4 s0 s1 = some (M', r) → wd D cy G M A s.heap H locs → lv_has ls 6 [(0, .ref a0), (1, .int c1), (3, .int v3), (4, .int v4)] → W p l e rmX12_kindAt s m args below meth c H locs k0 n0 (MQ below (va_Qi (fun (r' : Int32) (_ : Unit) => r' = r) (fun _ t => wOut D cy G M' t) A) args s k0 n0 A) (F0 m 99 ls [.int s1, .int s0]) := by
  obtain ⟨hx, hb, hml, hown, hts, hr, hlocks, hK, hA, hG, hsx⟩ := id cx
  intro M v3 v4 s0 s1 H locs ls h w hl
  unfold m_X12_kindAt_99 at h
  refine lv_icmp_le (tgt := 106) hx hb dX12_kindAt_99 (by decide) (fun k1 => ?_) (fun k1 => ?_)
  · have h := x_t h k1
    refine lv_iload_n hx hb dX12_kindAt_106 rfl (lv_at hl 2 rfl) ?_
    obtain ⟨M2, r3, y4, h⟩ := x_cl h
    refine r_callSi (As := [.int v3]) (rest := []) cx w hkn hl.1 (k_X12_isLetter hG y4) (va_cwS 1 hts gX12_kindAt_X12_isLetter rfl rfl rfl (by decide +kernel) ⟨Nat.le_of_ble_eq_true rfl, Nat.le_of_ble_eq_true rfl⟩) rfl rfl (Nat.le_of_ble_eq_true rfl) dX12_kindAt_107 (fun H locs w => ?_)
    refine lv_if_eq (tgt := 125) hx hb dX12_kindAt_110 (by decide) (fun k5 => ?_) (fun k5 => ?_)
    · have h := x_t h k5
      refine lv_bipush (v := (41 : Int32)) hx hb dX12_kindAt_125 (by decide) ?_
      exact r_iret cx w h dX12_kindAt_127
    · have h := x_f h k5
      refine lv_aload_n hx hb dX12_kindAt_113 rfl (lv_at hl 0 rfl) ?_
      refine lv_iload_n hx hb dX12_kindAt_114 rfl (lv_at hl 1 rfl) ?_
      refine lv_iload hx hb dX12_kindAt_115 (lv_at hl 3 rfl) ?_
      refine lv_iload_n hx hb dX12_kindAt_117 rfl (lv_at hl 1 rfl) ?_
      refine lv_isub hx hb dX12_kindAt_118 ?_
      obtain ⟨M6, r7, y8, h⟩ := x_cl h
      refine r_callVi (As := [.int c1, .int ((v4 - c1))]) (rest := []) cx w hkn hl.1 (k_X12_word hG hL0 hK0 y8) (cwV 2 hts gX12_kindAt_X12_word rfl rfl rfl (by decide +kernel) ⟨Nat.le_of_ble_eq_true rfl, Nat.le_of_ble_eq_true rfl⟩) hL0 hK0 (by decide) rfl rfl rfl (Nat.le_of_ble_eq_true rfl) dX12_kindAt_119 (fun H locs w => ?_)
      refine lv_goto (tgt := 127) hx hb dX12_kindAt_122 (by decide) ?_
      exact r_iret cx w h dX12_kindAt_127
  · have h := x_f h k1
    refine lv_sipush (v := (901 : Int32)) hx hb dX12_kindAt_102 (by decide) ?_
    exact r_iret cx w h dX12_kindAt_105
set_option maxHeartbeats 4000000 in
set_option maxRecDepth 100000 in
theorem b_X12_kindAt_71 {p : Program} {e : Env} {s : State} {m : MethodId} {args : Array Value} {below : List Frame} {meth : Method} {c : Code} {A : Nat → Prop} {l : Launch} {D : va_G} {cy : cyS} {G : gS} (cx : cX p s m args meth c cX12_kindAt RX12 6 (some .int) wsX12_kindAt D cy G A) {k0 n0 : Nat} (hkn : k0 ≤ (rmX12_kindAt).cells ∧ n0 ≤ (rmX12_kindAt).slots) {M' : mS} {r : Int32} {a0 : Nat} {c1 : Int32} {c2 : Int32} (hL0 : a0 ∈ gL G) (hK0 : gK G a0 = 11)  : ∀ (M : mS) (v3 : Int32) (v4 : Int32) (H : Heap) (locs : List Loc) (ls : Array Slot), m_X12_kindAt_71 G a0 c1 c2 M v3 v4 = some (M', r) → wd D cy G M A s.heap H locs → lv_has ls 6 [(0, .ref a0), (1, .int c1), (2, .int c2), (3, .int v3), (4, .int v4)] → W p l e rmX12_kindAt s m args below meth c H locs k0 n0 (MQ below (va_Qi (fun (r' : Int32) (_ : Unit) => r' = r) (fun _ t => wOut D cy G M' t) A) args s k0 n0 A) (F0 m 71 ls []) := by
  obtain ⟨hx, hb, hml, hown, hts, hr, hlocks, hK, hA, hG, hsx⟩ := id cx
  intro M v3 v4 H locs ls h w hl
  unfold m_X12_kindAt_71 at h
  refine lv_aload_n hx hb dX12_kindAt_71 rfl (lv_at hl 0 rfl) ?_
  obtain ⟨q1, eq1, h⟩ := x_rf h
  obtain ⟨hLq1, hKq1⟩ := wt_q hG hL0 hK0 eq1
  have hKq1 : gK G q1 = 12 := hKq1
  refine r_getR (k := 6) cx w hL0 hK0 (by decide) rfl wi_X12_kindAt_X12 (by decide) rfl eq1 (List.mem_of_getElem? (i := 1) rfl) dX12_kindAt_72 ?_
  refine lv_iload_n hx hb dX12_kindAt_75 rfl (lv_at hl 2 rfl) ?_
  refine lv_iload hx hb dX12_kindAt_76 (lv_at hl 4 rfl) ?_
  refine lv_iload_n hx hb dX12_kindAt_78 rfl (lv_at hl 1 rfl) ?_
  refine lv_isub hx hb dX12_kindAt_79 ?_
  obtain ⟨z2, h⟩ := x_ix h
  obtain ⟨M3, eM3, h⟩ := x_wI h
  refine r_iast cx w hLq1 hKq1 z2 dX12_kindAt_80 eM3 (fun H locs w => ?_)
  refine lv_iload hx hb dX12_kindAt_81 (lv_at hl 4 rfl) ?_
  refine lv_iload_n hx hb dX12_kindAt_83 rfl (lv_at hl 1 rfl) ?_
  refine lv_isub hx hb dX12_kindAt_84 ?_
  refine lv_iload_n hx hb dX12_kindAt_85 rfl (lv_at hl 3 rfl) ?_
  obtain ⟨M4, r5, y6, h⟩ := x_cl h
  refine r_callSi (As := [.int v3]) (rest := [.int ((v4 - c1))]) cx w hkn hl.1 (k_X12_isLetter hG y6) (va_cwS 1 hts gX12_kindAt_X12_isLetter rfl rfl rfl (by decide +kernel) ⟨Nat.le_of_ble_eq_true rfl, Nat.le_of_ble_eq_true rfl⟩) rfl rfl (Nat.le_of_ble_eq_true rfl) dX12_kindAt_86 (fun H locs w => ?_)
  refine lv_if_eq (tgt := 97) hx hb dX12_kindAt_89 (by decide) (fun k7 => ?_) (fun k7 => ?_)
  · have h := x_t h k7
    refine lv_bipush (v := (6 : Int32)) hx hb dX12_kindAt_97 (by decide) ?_
    exact b_X12_kindAt_99 cx hkn hL0 hK0 M4 v3 v4 ((v4 - c1)) ((6 : Int32)) H locs ls h w (lv_sub hl [0, 1, 3, 4] rfl)
  · have h := x_f h k7
    refine lv_bipush (v := (10 : Int32)) hx hb dX12_kindAt_92 (by decide) ?_
    refine lv_goto (tgt := 99) hx hb dX12_kindAt_94 (by decide) ?_
    exact b_X12_kindAt_99 cx hkn hL0 hK0 M4 v3 v4 ((v4 - c1)) ((10 : Int32)) H locs ls h w (lv_sub hl [0, 1, 3, 4] rfl)
set_option maxHeartbeats 4000000 in
set_option maxRecDepth 100000 in
theorem b_X12_kindAt_34 {p : Program} {e : Env} {s : State} {m : MethodId} {args : Array Value} {below : List Frame} {meth : Method} {c : Code} {A : Nat → Prop} {l : Launch} {D : va_G} {cy : cyS} {G : gS} (cx : cX p s m args meth c cX12_kindAt RX12 6 (some .int) wsX12_kindAt D cy G A) {k0 n0 : Nat} (hkn : k0 ≤ (rmX12_kindAt).cells ∧ n0 ≤ (rmX12_kindAt).slots) {M' : mS} {r : Int32} {a0 : Nat} {c1 : Int32} {c2 : Int32} (hL0 : a0 ∈ gL G) (hK0 : gK G a0 = 11)  : ∀ (n : Nat), ∀ (M : mS) (v3 : Int32) (v4 : Int32) (H : Heap) (locs : List Loc) (ls : Array Slot), m_X12_kindAt_34 G a0 c1 c2 n M v3 v4 = some (M', r) → wd D cy G M A s.heap H locs → lv_has ls 6 [(0, .ref a0), (1, .int c1), (2, .int c2), (3, .int v3), (4, .int v4)] → W p l e rmX12_kindAt s m args below meth c H locs k0 n0 (MQ below (va_Qi (fun (r' : Int32) (_ : Unit) => r' = r) (fun _ t => wOut D cy G M' t) A) args s k0 n0 A) (F0 m 34 ls []) := by
  obtain ⟨hx, hb, hml, hown, hts, hr, hlocks, hK, hA, hG, hsx⟩ := id cx
  intro n
  induction n with
  | zero =>
    intro M v3 v4 H locs ls h w hl
    have h : none = some _ := h
    cases h
  | succ n ih =>
    intro M v3 v4 H locs ls h w hl
    rw [m_X12_kindAt_34] at h
    refine lv_aload_n hx hb dX12_kindAt_34 rfl (lv_at hl 0 rfl) ?_
    refine lv_iload hx hb dX12_kindAt_35 (lv_at hl 4 rfl) ?_
    obtain ⟨M1, r2, y3, h⟩ := x_cl h
    refine r_callVi (As := [.int v4]) (rest := []) cx w hkn hl.1 (k_X12_byteOf hG hL0 hK0 y3) (cwV 1 hts gX12_kindAt_X12_byteOf rfl rfl rfl (by decide +kernel) ⟨Nat.le_of_ble_eq_true rfl, Nat.le_of_ble_eq_true rfl⟩) hL0 hK0 (by decide) rfl rfl rfl (Nat.le_of_ble_eq_true rfl) dX12_kindAt_37 (fun H locs w => ?_)
    obtain ⟨M4, r5, y6, h⟩ := x_cl h
    refine r_callSi (As := [.int r2]) (rest := []) cx w hkn hl.1 (k_X12_isDigit hG y6) (va_cwS 1 hts gX12_kindAt_X12_isDigit rfl rfl rfl (by decide +kernel) ⟨Nat.le_of_ble_eq_true rfl, Nat.le_of_ble_eq_true rfl⟩) rfl rfl (Nat.le_of_ble_eq_true rfl) dX12_kindAt_40 (fun H locs w => ?_)
    refine lv_if_ne (tgt := 65) hx hb dX12_kindAt_43 (by decide) (fun k7 => ?_) (fun k7 => ?_)
    · have h := x_f h k7
      exact b_X12_kindAt_65 cx hkn hL0 hK0 (hkb34 := ih) M4 v3 v4 H locs ls h w (lv_sub hl [0, 1, 2, 3, 4] rfl)
    · have h := x_t h k7
      refine lv_iload_n hx hb dX12_kindAt_46 rfl (lv_at hl 3 rfl) ?_
      obtain ⟨M8, r9, y10, h⟩ := x_cl h
      refine r_callSi (As := [.int v3]) (rest := []) cx w hkn hl.1 (k_X12_isLetter hG y10) (va_cwS 1 hts gX12_kindAt_X12_isLetter rfl rfl rfl (by decide +kernel) ⟨Nat.le_of_ble_eq_true rfl, Nat.le_of_ble_eq_true rfl⟩) rfl rfl (Nat.le_of_ble_eq_true rfl) dX12_kindAt_47 (fun H locs w => ?_)
      refine lv_if_eq (tgt := 71) hx hb dX12_kindAt_50 (by decide) (fun k11 => ?_) (fun k11 => ?_)
      · have h := x_t h k11
        exact b_X12_kindAt_71 cx hkn hL0 hK0 M8 v3 v4 H locs ls h w (lv_sub hl [0, 1, 2, 3, 4] rfl)
      · have h := x_f h k11
        refine lv_aload_n hx hb dX12_kindAt_53 rfl (lv_at hl 0 rfl) ?_
        refine lv_iload hx hb dX12_kindAt_54 (lv_at hl 4 rfl) ?_
        obtain ⟨M12, r13, y14, h⟩ := x_cl h
        refine r_callVi (As := [.int v4]) (rest := []) cx w hkn hl.1 (k_X12_byteOf hG hL0 hK0 y14) (cwV 1 hts gX12_kindAt_X12_byteOf rfl rfl rfl (by decide +kernel) ⟨Nat.le_of_ble_eq_true rfl, Nat.le_of_ble_eq_true rfl⟩) hL0 hK0 (by decide) rfl rfl rfl (Nat.le_of_ble_eq_true rfl) dX12_kindAt_56 (fun H locs w => ?_)
        obtain ⟨M15, r16, y17, h⟩ := x_cl h
        refine r_callSi (As := [.int r13]) (rest := []) cx w hkn hl.1 (k_X12_isLetter hG y17) (va_cwS 1 hts gX12_kindAt_X12_isLetter rfl rfl rfl (by decide +kernel) ⟨Nat.le_of_ble_eq_true rfl, Nat.le_of_ble_eq_true rfl⟩) rfl rfl (Nat.le_of_ble_eq_true rfl) dX12_kindAt_59 (fun H locs w => ?_)
        refine lv_if_eq (tgt := 71) hx hb dX12_kindAt_62 (by decide) (fun k18 => ?_) (fun k18 => ?_)
        · have h := x_t h k18
          exact b_X12_kindAt_71 cx hkn hL0 hK0 M15 v3 v4 H locs ls h w (lv_sub hl [0, 1, 2, 3, 4] rfl)
        · have h := x_f h k18
          exact b_X12_kindAt_65 cx hkn hL0 hK0 (hkb34 := ih) M15 v3 v4 H locs ls h w (lv_sub hl [0, 1, 2, 3, 4] rfl)
set_option maxHeartbeats 4000000 in
set_option maxRecDepth 100000 in
theorem b_X12_kindAt_223 {p : Program} {e : Env} {s : State} {m : MethodId} {args : Array Value} {below : List Frame} {meth : Method} {c : Code} {A : Nat → Prop} {l : Launch} {D : va_G} {cy : cyS} {G : gS} (cx : cX p s m args meth c cX12_kindAt RX12 6 (some .int) wsX12_kindAt D cy G A) {k0 n0 : Nat} (hkn : k0 ≤ (rmX12_kindAt).cells ∧ n0 ≤ (rmX12_kindAt).slots) {M' : mS} {r : Int32} {a0 : Nat} {c1 : Int32} {c2 : Int32} (hL0 : a0 ∈ gL G) (hK0 : gK G a0 = 11)  : ∀ (M : mS) (H : Heap) (locs : List Loc) (ls : Array Slot), m_X12_kindAt_223 G a0 c1 c2 M = some (M', r) → wd D cy G M A s.heap H locs → lv_has ls 6 [] → W p l e rmX12_kindAt s m args below meth c H locs k0 n0 (MQ below (va_Qi (fun (r' : Int32) (_ : Unit) => r' = r) (fun _ t => wOut D cy G M' t) A) args s k0 n0 A) (F0 m 223 ls []) := by
  obtain ⟨hx, hb, hml, hown, hts, hr, hlocks, hK, hA, hG, hsx⟩ := id cx
  intro M H locs ls h w hl
  unfold m_X12_kindAt_223 at h
  refine lv_sipush (v := (901 : Int32)) hx hb dX12_kindAt_223 (by decide) ?_
  exact r_iret cx w h dX12_kindAt_226
set_option maxHeartbeats 4000000 in
set_option maxRecDepth 100000 in
theorem b_X12_kindAt_173 {p : Program} {e : Env} {s : State} {m : MethodId} {args : Array Value} {below : List Frame} {meth : Method} {c : Code} {A : Nat → Prop} {l : Launch} {D : va_G} {cy : cyS} {G : gS} (cx : cX p s m args meth c cX12_kindAt RX12 6 (some .int) wsX12_kindAt D cy G A) {k0 n0 : Nat} (hkn : k0 ≤ (rmX12_kindAt).cells ∧ n0 ≤ (rmX12_kindAt).slots) {M' : mS} {r : Int32} {a0 : Nat} {c1 : Int32} {c2 : Int32} (hL0 : a0 ∈ gL G) (hK0 : gK G a0 = 11)  : ∀ (M : mS) (v3 : Int32) (v5 : Int32) (s0 : Nat) (s1 : Int32) (s2 : Int32) (H : Heap) (locs : List Loc) (ls : Array Slot), s0 ∈ gL G → gK G s0 = 12 → m_X12_kindAt_173 G a0 c1 c2 M v3 v5 s0 s1 s2 = some (M', r) → wd D cy G M A s.heap H locs → lv_has ls 6 [(3, .int v3), (5, .int v5)] → W p l e rmX12_kindAt s m args below meth c H locs k0 n0 (MQ below (va_Qi (fun (r' : Int32) (_ : Unit) => r' = r) (fun _ t => wOut D cy G M' t) A) args s k0 n0 A) (F0 m 173 ls [.int s2, .int s1, .ref s0]) := by
  obtain ⟨hx, hb, hml, hown, hts, hr, hlocks, hK, hA, hG, hsx⟩ := id cx
  intro M v3 v5 s0 s1 s2 H locs ls sL0 sK0 h w hl
  unfold m_X12_kindAt_173 at h
  obtain ⟨z1, h⟩ := x_ix h
  obtain ⟨M2, eM2, h⟩ := x_wI h
  refine r_iast cx w sL0 sK0 z1 dX12_kindAt_173 eM2 (fun H locs w => ?_)
  refine lv_iload hx hb dX12_kindAt_174 (lv_at hl 1 rfl) ?_
  refine lv_if_eq (tgt := 195) hx hb dX12_kindAt_176 (by decide) (fun k3 => ?_) (fun k3 => ?_)
  · have h := x_t h k3
    refine lv_iload_n hx hb dX12_kindAt_195 rfl (lv_at hl 0 rfl) ?_
    refine lv_if_le (tgt := 223) hx hb dX12_kindAt_196 (by decide) (fun k4 => ?_) (fun k4 => ?_)
    · have h := x_t h k4
      exact b_X12_kindAt_223 cx hkn hL0 hK0 M2 H locs ls h w (lv_sub hl [] rfl)
    · have h := x_f h k4
      refine lv_iload_n hx hb dX12_kindAt_199 rfl (lv_at hl 0 rfl) ?_
      refine lv_sipush (v := (128 : Int32)) hx hb dX12_kindAt_200 (by decide) ?_
      refine lv_icmp_ge (tgt := 223) hx hb dX12_kindAt_203 (by decide) (fun k5 => ?_) (fun k5 => ?_)
      · have h := x_t h k5
        exact b_X12_kindAt_223 cx hkn hL0 hK0 M2 H locs ls h w (lv_sub hl [] rfl)
      · have h := x_f h k5
        refine r_ldc33 cx w rfl dX12_kindAt_206 ?_
        refine lv_iload_n hx hb dX12_kindAt_208 rfl (lv_at hl 0 rfl) ?_
        refine lv_i2c (v := ((Int32.toUInt32 v3 % 65536).toInt32)) hx hb dX12_kindAt_209 rfl ?_
        obtain ⟨M6, r7, y8, h⟩ := x_cl h
        refine r_callVTi (As := [.int (((Int32.toUInt32 v3 % 65536).toInt32))]) (rest := []) cx w hkn hl.1 (by decide) (k_J0_indexOf_0f7a4 hG (by decide) y8) (cwV 1 hts gX12_kindAt_J0_indexOf_0f7a4 rfl rfl rfl (by decide +kernel) ⟨Nat.le_of_ble_eq_true rfl, Nat.le_of_ble_eq_true rfl⟩) rfl rfl (Nat.le_of_ble_eq_true rfl) dX12_kindAt_210 (fun H locs w => ?_)
        refine lv_if_lt (tgt := 223) hx hb dX12_kindAt_213 (by decide) (fun k9 => ?_) (fun k9 => ?_)
        · have h := x_t h k9
          exact b_X12_kindAt_223 cx hkn hL0 hK0 M6 H locs ls h w (lv_sub hl [] rfl)
        · have h := x_f h k9
          refine lv_bipush (v := (50 : Int32)) hx hb dX12_kindAt_216 (by decide) ?_
          refine lv_iload_n hx hb dX12_kindAt_218 rfl (lv_at hl 0 rfl) ?_
          refine lv_iadd hx hb dX12_kindAt_219 ?_
          refine lv_goto (tgt := 226) hx hb dX12_kindAt_220 (by decide) ?_
          exact r_iret cx w h dX12_kindAt_226
  · have h := x_f h k3
    refine lv_iload_n hx hb dX12_kindAt_179 rfl (lv_at hl 0 rfl) ?_
    refine lv_bipush (v := (60 : Int32)) hx hb dX12_kindAt_180 (by decide) ?_
    refine lv_icmp_ne (tgt := 191) hx hb dX12_kindAt_182 (by decide) (fun k10 => ?_) (fun k10 => ?_)
    · have h := x_f h k10
      refine lv_sipush (v := (301 : Int32)) hx hb dX12_kindAt_191 (by decide) ?_
      exact r_iret cx w h dX12_kindAt_194
    · have h := x_t h k10
      refine lv_sipush (v := (300 : Int32)) hx hb dX12_kindAt_185 (by decide) ?_
      refine lv_goto (tgt := 194) hx hb dX12_kindAt_188 (by decide) ?_
      exact r_iret cx w h dX12_kindAt_194
set_option maxHeartbeats 4000000 in
set_option maxRecDepth 100000 in
theorem b_X12_kindAt_156 {p : Program} {e : Env} {s : State} {m : MethodId} {args : Array Value} {below : List Frame} {meth : Method} {c : Code} {A : Nat → Prop} {l : Launch} {D : va_G} {cy : cyS} {G : gS} (cx : cX p s m args meth c cX12_kindAt RX12 6 (some .int) wsX12_kindAt D cy G A) {k0 n0 : Nat} (hkn : k0 ≤ (rmX12_kindAt).cells ∧ n0 ≤ (rmX12_kindAt).slots) {M' : mS} {r : Int32} {a0 : Nat} {c1 : Int32} {c2 : Int32} (hL0 : a0 ∈ gL G) (hK0 : gK G a0 = 11)  : ∀ (M : mS) (v3 : Int32) (s0 : Int32) (H : Heap) (locs : List Loc) (ls : Array Slot), m_X12_kindAt_156 G a0 c1 c2 M v3 s0 = some (M', r) → wd D cy G M A s.heap H locs → lv_has ls 6 [(0, .ref a0), (2, .int c2), (3, .int v3)] → W p l e rmX12_kindAt s m args below meth c H locs k0 n0 (MQ below (va_Qi (fun (r' : Int32) (_ : Unit) => r' = r) (fun _ t => wOut D cy G M' t) A) args s k0 n0 A) (F0 m 156 ls [.int s0]) := by
  obtain ⟨hx, hb, hml, hown, hts, hr, hlocks, hK, hA, hG, hsx⟩ := id cx
  intro M v3 s0 H locs ls h w hl
  unfold m_X12_kindAt_156 at h
  refine lv_istore (lv' := [(5, .int s0), (0, .ref a0), (2, .int c2), (3, .int v3)]) hx hb dX12_kindAt_156 hl (by decide) rfl (fun ls hl => ?_)
  refine lv_aload_n hx hb dX12_kindAt_158 rfl (lv_at hl 1 rfl) ?_
  obtain ⟨q1, eq1, h⟩ := x_rf h
  obtain ⟨hLq1, hKq1⟩ := wt_q hG hL0 hK0 eq1
  have hKq1 : gK G q1 = 12 := hKq1
  refine r_getR (k := 6) cx w hL0 hK0 (by decide) rfl wi_X12_kindAt_X12 (by decide) rfl eq1 (List.mem_of_getElem? (i := 1) rfl) dX12_kindAt_159 ?_
  refine lv_iload_n hx hb dX12_kindAt_162 rfl (lv_at hl 2 rfl) ?_
  refine lv_iload hx hb dX12_kindAt_163 (lv_at hl 0 rfl) ?_
  refine lv_if_eq (tgt := 172) hx hb dX12_kindAt_165 (by decide) (fun k2 => ?_) (fun k2 => ?_)
  · have h := x_t h k2
    refine lv_iconst (v := (1 : Int32)) hx hb dX12_kindAt_172 (by decide) ?_
    exact b_X12_kindAt_173 cx hkn hL0 hK0 M v3 s0 q1 c2 ((1 : Int32)) H locs ls hLq1 hKq1 h w (lv_sub hl [3, 0] rfl)
  · have h := x_f h k2
    refine lv_iconst (v := (2 : Int32)) hx hb dX12_kindAt_168 (by decide) ?_
    refine lv_goto (tgt := 173) hx hb dX12_kindAt_169 (by decide) ?_
    exact b_X12_kindAt_173 cx hkn hL0 hK0 M v3 s0 q1 c2 ((2 : Int32)) H locs ls hLq1 hKq1 h w (lv_sub hl [3, 0] rfl)
set_option maxHeartbeats 4000000 in
set_option maxRecDepth 100000 in
theorem b_X12_kindAt_155 {p : Program} {e : Env} {s : State} {m : MethodId} {args : Array Value} {below : List Frame} {meth : Method} {c : Code} {A : Nat → Prop} {l : Launch} {D : va_G} {cy : cyS} {G : gS} (cx : cX p s m args meth c cX12_kindAt RX12 6 (some .int) wsX12_kindAt D cy G A) {k0 n0 : Nat} (hkn : k0 ≤ (rmX12_kindAt).cells ∧ n0 ≤ (rmX12_kindAt).slots) {M' : mS} {r : Int32} {a0 : Nat} {c1 : Int32} {c2 : Int32} (hL0 : a0 ∈ gL G) (hK0 : gK G a0 = 11)  : ∀ (M : mS) (v3 : Int32) (H : Heap) (locs : List Loc) (ls : Array Slot), m_X12_kindAt_155 G a0 c1 c2 M v3 = some (M', r) → wd D cy G M A s.heap H locs → lv_has ls 6 [(0, .ref a0), (2, .int c2), (3, .int v3)] → W p l e rmX12_kindAt s m args below meth c H locs k0 n0 (MQ below (va_Qi (fun (r' : Int32) (_ : Unit) => r' = r) (fun _ t => wOut D cy G M' t) A) args s k0 n0 A) (F0 m 155 ls []) := by
  obtain ⟨hx, hb, hml, hown, hts, hr, hlocks, hK, hA, hG, hsx⟩ := id cx
  intro M v3 H locs ls h w hl
  unfold m_X12_kindAt_155 at h
  refine lv_iconst (v := (0 : Int32)) hx hb dX12_kindAt_155 (by decide) ?_
  exact b_X12_kindAt_156 cx hkn hL0 hK0 M v3 ((0 : Int32)) H locs ls h w (lv_sub hl [0, 1, 2] rfl)
set_option maxHeartbeats 4000000 in
set_option maxRecDepth 100000 in
theorem b_X12_kindAt_140 {p : Program} {e : Env} {s : State} {m : MethodId} {args : Array Value} {below : List Frame} {meth : Method} {c : Code} {A : Nat → Prop} {l : Launch} {D : va_G} {cy : cyS} {G : gS} (cx : cX p s m args meth c cX12_kindAt RX12 6 (some .int) wsX12_kindAt D cy G A) {k0 n0 : Nat} (hkn : k0 ≤ (rmX12_kindAt).cells ∧ n0 ≤ (rmX12_kindAt).slots) {M' : mS} {r : Int32} {a0 : Nat} {c1 : Int32} {c2 : Int32} (hL0 : a0 ∈ gL G) (hK0 : gK G a0 = 11)  : ∀ (M : mS) (v3 : Int32) (v4 : Int32) (H : Heap) (locs : List Loc) (ls : Array Slot), m_X12_kindAt_140 G a0 c1 c2 M v3 v4 = some (M', r) → wd D cy G M A s.heap H locs → lv_has ls 6 [(0, .ref a0), (2, .int c2), (3, .int v3), (4, .int v4)] → W p l e rmX12_kindAt s m args below meth c H locs k0 n0 (MQ below (va_Qi (fun (r' : Int32) (_ : Unit) => r' = r) (fun _ t => wOut D cy G M' t) A) args s k0 n0 A) (F0 m 140 ls []) := by
  obtain ⟨hx, hb, hml, hown, hts, hr, hlocks, hK, hA, hG, hsx⟩ := id cx
  intro M v3 v4 H locs ls h w hl
  unfold m_X12_kindAt_140 at h
  refine lv_aload_n hx hb dX12_kindAt_140 rfl (lv_at hl 0 rfl) ?_
  refine lv_iload hx hb dX12_kindAt_141 (lv_at hl 3 rfl) ?_
  obtain ⟨M1, r2, y3, h⟩ := x_cl h
  refine r_callVi (As := [.int v4]) (rest := []) cx w hkn hl.1 (k_X12_byteOf hG hL0 hK0 y3) (cwV 1 hts gX12_kindAt_X12_byteOf rfl rfl rfl (by decide +kernel) ⟨Nat.le_of_ble_eq_true rfl, Nat.le_of_ble_eq_true rfl⟩) hL0 hK0 (by decide) rfl rfl rfl (Nat.le_of_ble_eq_true rfl) dX12_kindAt_143 (fun H locs w => ?_)
  refine lv_bipush (v := (61 : Int32)) hx hb dX12_kindAt_146 (by decide) ?_
  refine lv_icmp_ne (tgt := 155) hx hb dX12_kindAt_148 (by decide) (fun k4 => ?_) (fun k4 => ?_)
  · have h := x_f h k4
    exact b_X12_kindAt_155 cx hkn hL0 hK0 M1 v3 H locs ls h w (lv_sub hl [0, 1, 2] rfl)
  · have h := x_t h k4
    refine lv_iconst (v := (1 : Int32)) hx hb dX12_kindAt_151 (by decide) ?_
    refine lv_goto (tgt := 156) hx hb dX12_kindAt_152 (by decide) ?_
    exact b_X12_kindAt_156 cx hkn hL0 hK0 M1 v3 ((1 : Int32)) H locs ls h w (lv_sub hl [0, 1, 2] rfl)
set_option maxHeartbeats 4000000 in
set_option maxRecDepth 100000 in
theorem k_X12_kindAt {l : Launch} {D : va_G} {cy : cyS} {G : gS} {M M' : mS} {r : Int32} {a0 : Nat} {c1 : Int32} {c2 : Int32} (hG : wt G) (hL0 : a0 ∈ gL G) (hK0 : gK G a0 = 11) (h : m_X12_kindAt G M a0 c1 c2 = some (M', r)) : ctI l yX12_kindAt wsX12_kindAt rmX12_kindAt D cy G M [.ref a0, .int c1, .int c2] M' r := by
  unfold m_X12_kindAt at h
  refine ctI_of (cc := cX12_kindAt) (nL := 6) (ret := (some .int)) (lv := [(0, .ref a0), (1, .int c1), (2, .int c2)]) hG (by decide) rfl ⟨rfl, rfl⟩ (Nat.le_of_ble_eq_true rfl) rfl ?_
  intro p e s m args below meth c A ls cx w hl
  obtain ⟨hx, hb, hml, hown, hts, hr, hlocks, hK, hA, -, hsx⟩ := id cx
  have hkn : 0 ≤ (rmX12_kindAt).cells ∧ 0 ≤ (rmX12_kindAt).slots := ⟨Nat.zero_le _, Nat.zero_le _⟩
  refine lv_aload_n hx hb dX12_kindAt_0 rfl (lv_at hl 0 rfl) ?_
  refine lv_iload_n hx hb dX12_kindAt_1 rfl (lv_at hl 1 rfl) ?_
  obtain ⟨M1, r2, y3, h⟩ := x_cl h
  refine r_callVi (As := [.int c1]) (rest := []) cx w hkn hl.1 (k_X12_byteOf hG hL0 hK0 y3) (cwV 1 hts gX12_kindAt_X12_byteOf rfl rfl rfl (by decide +kernel) ⟨Nat.le_of_ble_eq_true rfl, Nat.le_of_ble_eq_true rfl⟩) hL0 hK0 (by decide) rfl rfl rfl (Nat.le_of_ble_eq_true rfl) dX12_kindAt_2 (fun H locs w => ?_)
  refine lv_istore_n (lv' := [(3, .int r2), (0, .ref a0), (1, .int c1), (2, .int c2)]) hx hb dX12_kindAt_5 rfl hl (by decide) rfl (fun ls hl => ?_)
  refine lv_iload_n hx hb dX12_kindAt_6 rfl (lv_at hl 2 rfl) ?_
  refine lv_iconst (v := (1 : Int32)) hx hb dX12_kindAt_7 (by decide) ?_
  refine lv_iadd hx hb dX12_kindAt_8 ?_
  obtain ⟨x4, ex4, h⟩ := x_bd h
  refine r_topI ex4 ?_
  refine lv_istore (lv' := [(4, .int x4), (3, .int r2), (0, .ref a0), (1, .int c1), (2, .int c2)]) hx hb dX12_kindAt_9 hl (by decide) rfl (fun ls hl => ?_)
  refine lv_iload_n hx hb dX12_kindAt_11 rfl (lv_at hl 1 rfl) ?_
  refine lv_iconst (v := (-1 : Int32)) hx hb dX12_kindAt_12 (by decide) ?_
  refine lv_icmp_ne (tgt := 20) hx hb dX12_kindAt_13 (by decide) (fun k5 => ?_) (fun k5 => ?_)
  · have h := x_f h k5
    refine lv_iload_n hx hb dX12_kindAt_20 rfl (lv_at hl 1 rfl) ?_
    obtain ⟨M6, r7, y8, h⟩ := x_cl h
    refine r_callSi (As := [.int r2]) (rest := []) cx w hkn hl.1 (k_X12_isLetter hG y8) (va_cwS 1 hts gX12_kindAt_X12_isLetter rfl rfl rfl (by decide +kernel) ⟨Nat.le_of_ble_eq_true rfl, Nat.le_of_ble_eq_true rfl⟩) rfl rfl (Nat.le_of_ble_eq_true rfl) dX12_kindAt_21 (fun H locs w => ?_)
    refine lv_if_ne (tgt := 34) hx hb dX12_kindAt_24 (by decide) (fun k9 => ?_) (fun k9 => ?_)
    · have h := x_f h k9
      exact b_X12_kindAt_34 cx hkn hL0 hK0 fu M6 r2 x4 H locs ls h w (lv_sub hl [2, 3, 4, 1, 0] rfl)
    · have h := x_t h k9
      refine lv_iload_n hx hb dX12_kindAt_27 rfl (lv_at hl 1 rfl) ?_
      obtain ⟨M10, r11, y12, h⟩ := x_cl h
      refine r_callSi (As := [.int r2]) (rest := []) cx w hkn hl.1 (k_X12_isDigit hG y12) (va_cwS 1 hts gX12_kindAt_X12_isDigit rfl rfl rfl (by decide +kernel) ⟨Nat.le_of_ble_eq_true rfl, Nat.le_of_ble_eq_true rfl⟩) rfl rfl (Nat.le_of_ble_eq_true rfl) dX12_kindAt_28 (fun H locs w => ?_)
      refine lv_if_eq (tgt := 128) hx hb dX12_kindAt_31 (by decide) (fun k13 => ?_) (fun k13 => ?_)
      · have h := x_t h k13
        refine lv_iload_n hx hb dX12_kindAt_128 rfl (lv_at hl 1 rfl) ?_
        refine lv_bipush (v := (60 : Int32)) hx hb dX12_kindAt_129 (by decide) ?_
        refine lv_icmp_eq (tgt := 140) hx hb dX12_kindAt_131 (by decide) (fun k14 => ?_) (fun k14 => ?_)
        · have h := x_t h k14
          exact b_X12_kindAt_140 cx hkn hL0 hK0 M10 r2 x4 H locs ls h w (lv_sub hl [2, 4, 1, 0] rfl)
        · have h := x_f h k14
          refine lv_iload_n hx hb dX12_kindAt_134 rfl (lv_at hl 1 rfl) ?_
          refine lv_bipush (v := (62 : Int32)) hx hb dX12_kindAt_135 (by decide) ?_
          refine lv_icmp_ne (tgt := 155) hx hb dX12_kindAt_137 (by decide) (fun k15 => ?_) (fun k15 => ?_)
          · have h := x_f h k15
            exact b_X12_kindAt_155 cx hkn hL0 hK0 M10 r2 H locs ls h w (lv_sub hl [2, 4, 1] rfl)
          · have h := x_t h k15
            exact b_X12_kindAt_140 cx hkn hL0 hK0 M10 r2 x4 H locs ls h w (lv_sub hl [2, 4, 1, 0] rfl)
      · have h := x_f h k13
        exact b_X12_kindAt_34 cx hkn hL0 hK0 fu M10 r2 x4 H locs ls h w (lv_sub hl [2, 3, 4, 1, 0] rfl)
  · have h := x_t h k5
    refine lv_sipush (v := (900 : Int32)) hx hb dX12_kindAt_16 (by decide) ?_
    exact r_iret cx w h dX12_kindAt_19
-- X12_cut
theorem wi_X12_cut_X12 : ∀ w ∈ wsX120, w ∈ wsX12_cut := by decide +kernel
abbrev rmX12_cut : Room := { frames := 6, cells := 0, slots := 0, locals := 151 }
def m_X12_cut_31 (G : gS) (a0 : Nat) (kb4 : mS → Int32 → Int32 → Option (mS × Unit)) (kb11 : mS → Int32 → Int32 → Option (mS × Unit)) (M : mS) (v1 : Int32) (v2 : Int32) : Option (mS × Unit) := o_bd (v1 + 1 : Int32) (fun x1 => kb11 M x1 v2)
def m_X12_cut_98 (G : gS) (a0 : Nat) (kb4 : mS → Int32 → Int32 → Option (mS × Unit)) (M : mS) (v1 : Int32) (v2 : Int32) : Option (mS × Unit) := o_rf (gP G a0 4) (fun q1 => o_ix v2 (gN G q1) ((if (mI M q1 (Int32.toNatClampNeg v2)) < (900 : Int32) then o_rf (gP G a0 6) (fun q4 => o_ix v2 (gN G q4) (o_bd ((v1 + (mI M q4 (Int32.toNatClampNeg v2)))) (fun x6 => o_bd (v2 + 1 : Int32) (fun x7 => kb4 M x6 x7)))) else some (M, ()))))
def m_X12_cut_11 (G : gS) (a0 : Nat) (kb4 : mS → Int32 → Int32 → Option (mS × Unit)) : Nat → mS → Int32 → Int32 → Option (mS × Unit)
  | 0, _, _, _ => none
  | n + 1, M, v1, v2 => o_cl (m_X12_byteOf G M a0 v1) (fun M1 r2 => (if r2 = (32 : Int32) then m_X12_cut_31 G a0 kb4 (fun M v1 v2 => m_X12_cut_11 G a0 kb4 n M v1 v2) M1 v1 v2 else o_cl (m_X12_byteOf G M1 a0 v1) (fun M5 r6 => (if r6 = (10 : Int32) then m_X12_cut_31 G a0 kb4 (fun M v1 v2 => m_X12_cut_11 G a0 kb4 n M v1 v2) M5 v1 v2 else o_rf (gP G a0 5) (fun q9 => o_ix v2 (gN G q9) (o_wI M5 q9 (Int32.toNatClampNeg v2) v1 (fun M11 => o_rf (gP G a0 7) (fun q12 => o_ix v2 (gN G q12) (o_wI M11 q12 (Int32.toNatClampNeg v2) (0 : Int32) (fun M14 => o_rf (gP G a0 8) (fun q15 => o_ix v2 (gN G q15) (o_wI M14 q15 (Int32.toNatClampNeg v2) (0 : Int32) (fun M17 => o_rf (gP G a0 4) (fun q18 => o_cl (m_X12_kindAt G M17 a0 v1 v2) (fun M19 r20 => o_ix v2 (gN G q18) (o_wI M19 q18 (Int32.toNatClampNeg v2) r20 (fun M23 => (if v2 = (400 : Int32) then o_rf (gP G a0 4) (fun q25 => o_ix v2 (gN G q25) ((if (mI M23 q25 (Int32.toNatClampNeg v2)) = (900 : Int32) then m_X12_cut_98 G a0 kb4 M23 v1 v2 else o_rf (gP G a0 4) (fun q28 => o_ix v2 (gN G q28) (o_wI M23 q28 (Int32.toNatClampNeg v2) (901 : Int32) (fun M30 => m_X12_cut_98 G a0 kb4 M30 v1 v2)))))) else m_X12_cut_98 G a0 kb4 M23 v1 v2))))))))))))))))))
def m_X12_cut_4 (G : gS) (a0 : Nat)  : Nat → mS → Int32 → Int32 → Option (mS × Unit)
  | 0, _, _, _ => none
  | n + 1, M, v1, v2 => (if (400 : Int32) < v2 then some (M, ()) else m_X12_cut_11 G a0 (fun M v1 v2 => m_X12_cut_4 G a0 n M v1 v2) fu M v1 v2)
def m_X12_cut (G : gS) (M : mS) (a0 : Nat) : Option (mS × Unit) := m_X12_cut_4 G a0 fu M ((0 : Int32)) ((0 : Int32))
set_option maxHeartbeats 4000000 in
set_option maxRecDepth 100000 in
theorem b_X12_cut_31 {p : Program} {e : Env} {s : State} {m : MethodId} {args : Array Value} {below : List Frame} {meth : Method} {c : Code} {A : Nat → Prop} {l : Launch} {D : va_G} {cy : cyS} {G : gS} (cx : cX p s m args meth c cX12_cut RX12 3 none wsX12_cut D cy G A) {k0 n0 : Nat} (hkn : k0 ≤ (rmX12_cut).cells ∧ n0 ≤ (rmX12_cut).slots) {M' : mS} {a0 : Nat} (hL0 : a0 ∈ gL G) (hK0 : gK G a0 = 11) {kb4 : mS → Int32 → Int32 → Option (mS × Unit)} (hkb4 : ∀ (M : mS) (v1 : Int32) (v2 : Int32) (H : Heap) (locs : List Loc) (ls : Array Slot), kb4 M v1 v2 = some (M', ()) → wd D cy G M A s.heap H locs → lv_has ls 3 [(0, .ref a0), (1, .int v1), (2, .int v2)] → W p l e rmX12_cut s m args below meth c H locs k0 n0 (MQ below (va_Qv (fun (_ : Unit) => True) (fun _ t => wOut D cy G M' t) A) args s k0 n0 A) (F0 m 4 ls [])) {kb11 : mS → Int32 → Int32 → Option (mS × Unit)} (hkb11 : ∀ (M : mS) (v1 : Int32) (v2 : Int32) (H : Heap) (locs : List Loc) (ls : Array Slot), kb11 M v1 v2 = some (M', ()) → wd D cy G M A s.heap H locs → lv_has ls 3 [(0, .ref a0), (1, .int v1), (2, .int v2)] → W p l e rmX12_cut s m args below meth c H locs k0 n0 (MQ below (va_Qv (fun (_ : Unit) => True) (fun _ t => wOut D cy G M' t) A) args s k0 n0 A) (F0 m 11 ls [])) : ∀ (M : mS) (v1 : Int32) (v2 : Int32) (H : Heap) (locs : List Loc) (ls : Array Slot), m_X12_cut_31 G a0 kb4 kb11 M v1 v2 = some (M', ()) → wd D cy G M A s.heap H locs → lv_has ls 3 [(0, .ref a0), (1, .int v1), (2, .int v2)] → W p l e rmX12_cut s m args below meth c H locs k0 n0 (MQ below (va_Qv (fun (_ : Unit) => True) (fun _ t => wOut D cy G M' t) A) args s k0 n0 A) (F0 m 31 ls []) := by
  obtain ⟨hx, hb, hml, hown, hts, hr, hlocks, hK, hA, hG, hsx⟩ := id cx
  intro M v1 v2 H locs ls h w hl
  unfold m_X12_cut_31 at h
  obtain ⟨x1, ex1, h⟩ := x_bd h
  refine lv_iinc (v := x1) (lv' := [(1, .int x1), (0, .ref a0), (2, .int v2)]) hx hb dX12_cut_31 hl (k := 1) rfl (by rw [ex1]; rfl) (by decide) rfl (fun ls hl => ?_)
  refine lv_goto (tgt := 11) hx hb dX12_cut_34 (by decide) ?_
  exact hkb11 M x1 v2 H locs ls h w (lv_sub hl [1, 0, 2] rfl)
set_option maxHeartbeats 4000000 in
set_option maxRecDepth 100000 in
theorem b_X12_cut_98 {p : Program} {e : Env} {s : State} {m : MethodId} {args : Array Value} {below : List Frame} {meth : Method} {c : Code} {A : Nat → Prop} {l : Launch} {D : va_G} {cy : cyS} {G : gS} (cx : cX p s m args meth c cX12_cut RX12 3 none wsX12_cut D cy G A) {k0 n0 : Nat} (hkn : k0 ≤ (rmX12_cut).cells ∧ n0 ≤ (rmX12_cut).slots) {M' : mS} {a0 : Nat} (hL0 : a0 ∈ gL G) (hK0 : gK G a0 = 11) {kb4 : mS → Int32 → Int32 → Option (mS × Unit)} (hkb4 : ∀ (M : mS) (v1 : Int32) (v2 : Int32) (H : Heap) (locs : List Loc) (ls : Array Slot), kb4 M v1 v2 = some (M', ()) → wd D cy G M A s.heap H locs → lv_has ls 3 [(0, .ref a0), (1, .int v1), (2, .int v2)] → W p l e rmX12_cut s m args below meth c H locs k0 n0 (MQ below (va_Qv (fun (_ : Unit) => True) (fun _ t => wOut D cy G M' t) A) args s k0 n0 A) (F0 m 4 ls [])) : ∀ (M : mS) (v1 : Int32) (v2 : Int32) (H : Heap) (locs : List Loc) (ls : Array Slot), m_X12_cut_98 G a0 kb4 M v1 v2 = some (M', ()) → wd D cy G M A s.heap H locs → lv_has ls 3 [(0, .ref a0), (1, .int v1), (2, .int v2)] → W p l e rmX12_cut s m args below meth c H locs k0 n0 (MQ below (va_Qv (fun (_ : Unit) => True) (fun _ t => wOut D cy G M' t) A) args s k0 n0 A) (F0 m 98 ls []) := by
  obtain ⟨hx, hb, hml, hown, hts, hr, hlocks, hK, hA, hG, hsx⟩ := id cx
  intro M v1 v2 H locs ls h w hl
  unfold m_X12_cut_98 at h
  refine lv_aload_n hx hb dX12_cut_98 rfl (lv_at hl 0 rfl) ?_
  obtain ⟨q1, eq1, h⟩ := x_rf h
  obtain ⟨hLq1, hKq1⟩ := wt_q hG hL0 hK0 eq1
  have hKq1 : gK G q1 = 12 := hKq1
  refine r_getR (k := 4) cx w hL0 hK0 (by decide) rfl wi_X12_cut_X12 (by decide) rfl eq1 (List.mem_of_getElem? (i := 4) rfl) dX12_cut_99 ?_
  refine lv_iload_n hx hb dX12_cut_102 rfl (lv_at hl 2 rfl) ?_
  obtain ⟨z2, h⟩ := x_ix h
  refine r_iald cx w hLq1 hKq1 z2 dX12_cut_103 ?_
  refine lv_sipush (v := (900 : Int32)) hx hb dX12_cut_104 (by decide) ?_
  refine lv_icmp_lt (tgt := 111) hx hb dX12_cut_107 (by decide) (fun k3 => ?_) (fun k3 => ?_)
  · have h := x_t h k3
    refine lv_iload_n hx hb dX12_cut_111 rfl (lv_at hl 1 rfl) ?_
    refine lv_aload_n hx hb dX12_cut_112 rfl (lv_at hl 0 rfl) ?_
    obtain ⟨q4, eq4, h⟩ := x_rf h
    obtain ⟨hLq4, hKq4⟩ := wt_q hG hL0 hK0 eq4
    have hKq4 : gK G q4 = 12 := hKq4
    refine r_getR (k := 6) cx w hL0 hK0 (by decide) rfl wi_X12_cut_X12 (by decide) rfl eq4 (List.mem_of_getElem? (i := 5) rfl) dX12_cut_113 ?_
    refine lv_iload_n hx hb dX12_cut_116 rfl (lv_at hl 2 rfl) ?_
    obtain ⟨z5, h⟩ := x_ix h
    refine r_iald cx w hLq4 hKq4 z5 dX12_cut_117 ?_
    refine lv_iadd hx hb dX12_cut_118 ?_
    obtain ⟨x6, ex6, h⟩ := x_bd h
    refine r_topI ex6 ?_
    refine lv_istore_n (lv' := [(1, .int x6), (0, .ref a0), (2, .int v2)]) hx hb dX12_cut_119 rfl hl (by decide) rfl (fun ls hl => ?_)
    obtain ⟨x7, ex7, h⟩ := x_bd h
    refine lv_iinc (v := x7) (lv' := [(2, .int x7), (1, .int x6), (0, .ref a0)]) hx hb dX12_cut_120 hl (k := 2) rfl (by rw [ex7]; rfl) (by decide) rfl (fun ls hl => ?_)
    refine lv_goto (tgt := 4) hx hb dX12_cut_123 (by decide) ?_
    exact hkb4 M x6 x7 H locs ls h w (lv_sub hl [2, 1, 0] rfl)
  · have h := x_f h k3
    exact r_vret cx w h dX12_cut_110
set_option maxHeartbeats 4000000 in
set_option maxRecDepth 100000 in
theorem b_X12_cut_11 {p : Program} {e : Env} {s : State} {m : MethodId} {args : Array Value} {below : List Frame} {meth : Method} {c : Code} {A : Nat → Prop} {l : Launch} {D : va_G} {cy : cyS} {G : gS} (cx : cX p s m args meth c cX12_cut RX12 3 none wsX12_cut D cy G A) {k0 n0 : Nat} (hkn : k0 ≤ (rmX12_cut).cells ∧ n0 ≤ (rmX12_cut).slots) {M' : mS} {a0 : Nat} (hL0 : a0 ∈ gL G) (hK0 : gK G a0 = 11) {kb4 : mS → Int32 → Int32 → Option (mS × Unit)} (hkb4 : ∀ (M : mS) (v1 : Int32) (v2 : Int32) (H : Heap) (locs : List Loc) (ls : Array Slot), kb4 M v1 v2 = some (M', ()) → wd D cy G M A s.heap H locs → lv_has ls 3 [(0, .ref a0), (1, .int v1), (2, .int v2)] → W p l e rmX12_cut s m args below meth c H locs k0 n0 (MQ below (va_Qv (fun (_ : Unit) => True) (fun _ t => wOut D cy G M' t) A) args s k0 n0 A) (F0 m 4 ls [])) : ∀ (n : Nat), ∀ (M : mS) (v1 : Int32) (v2 : Int32) (H : Heap) (locs : List Loc) (ls : Array Slot), m_X12_cut_11 G a0 kb4 n M v1 v2 = some (M', ()) → wd D cy G M A s.heap H locs → lv_has ls 3 [(0, .ref a0), (1, .int v1), (2, .int v2)] → W p l e rmX12_cut s m args below meth c H locs k0 n0 (MQ below (va_Qv (fun (_ : Unit) => True) (fun _ t => wOut D cy G M' t) A) args s k0 n0 A) (F0 m 11 ls []) := by
  obtain ⟨hx, hb, hml, hown, hts, hr, hlocks, hK, hA, hG, hsx⟩ := id cx
  intro n
  induction n with
  | zero =>
    intro M v1 v2 H locs ls h w hl
    have h : none = some _ := h
    cases h
  | succ n ih =>
    intro M v1 v2 H locs ls h w hl
    rw [m_X12_cut_11] at h
    refine lv_aload_n hx hb dX12_cut_11 rfl (lv_at hl 0 rfl) ?_
    refine lv_iload_n hx hb dX12_cut_12 rfl (lv_at hl 1 rfl) ?_
    obtain ⟨M1, r2, y3, h⟩ := x_cl h
    refine r_callVi (As := [.int v1]) (rest := []) cx w hkn hl.1 (k_X12_byteOf hG hL0 hK0 y3) (cwV 1 hts gX12_cut_X12_byteOf rfl rfl rfl (by decide +kernel) ⟨Nat.le_of_ble_eq_true rfl, Nat.le_of_ble_eq_true rfl⟩) hL0 hK0 (by decide) rfl rfl rfl (Nat.le_of_ble_eq_true rfl) dX12_cut_13 (fun H locs w => ?_)
    refine lv_bipush (v := (32 : Int32)) hx hb dX12_cut_16 (by decide) ?_
    refine lv_icmp_eq (tgt := 31) hx hb dX12_cut_18 (by decide) (fun k4 => ?_) (fun k4 => ?_)
    · have h := x_t h k4
      exact b_X12_cut_31 cx hkn hL0 hK0 (hkb4 := hkb4) (hkb11 := ih) M1 v1 v2 H locs ls h w (lv_sub hl [0, 1, 2] rfl)
    · have h := x_f h k4
      refine lv_aload_n hx hb dX12_cut_21 rfl (lv_at hl 0 rfl) ?_
      refine lv_iload_n hx hb dX12_cut_22 rfl (lv_at hl 1 rfl) ?_
      obtain ⟨M5, r6, y7, h⟩ := x_cl h
      refine r_callVi (As := [.int v1]) (rest := []) cx w hkn hl.1 (k_X12_byteOf hG hL0 hK0 y7) (cwV 1 hts gX12_cut_X12_byteOf rfl rfl rfl (by decide +kernel) ⟨Nat.le_of_ble_eq_true rfl, Nat.le_of_ble_eq_true rfl⟩) hL0 hK0 (by decide) rfl rfl rfl (Nat.le_of_ble_eq_true rfl) dX12_cut_23 (fun H locs w => ?_)
      refine lv_bipush (v := (10 : Int32)) hx hb dX12_cut_26 (by decide) ?_
      refine lv_icmp_ne (tgt := 37) hx hb dX12_cut_28 (by decide) (fun k8 => ?_) (fun k8 => ?_)
      · have h := x_f h k8
        refine lv_aload_n hx hb dX12_cut_37 rfl (lv_at hl 0 rfl) ?_
        obtain ⟨q9, eq9, h⟩ := x_rf h
        obtain ⟨hLq9, hKq9⟩ := wt_q hG hL0 hK0 eq9
        have hKq9 : gK G q9 = 12 := hKq9
        refine r_getR (k := 5) cx w hL0 hK0 (by decide) rfl wi_X12_cut_X12 (by decide) rfl eq9 (List.mem_of_getElem? (i := 1) rfl) dX12_cut_38 ?_
        refine lv_iload_n hx hb dX12_cut_41 rfl (lv_at hl 2 rfl) ?_
        refine lv_iload_n hx hb dX12_cut_42 rfl (lv_at hl 1 rfl) ?_
        obtain ⟨z10, h⟩ := x_ix h
        obtain ⟨M11, eM11, h⟩ := x_wI h
        refine r_iast cx w hLq9 hKq9 z10 dX12_cut_43 eM11 (fun H locs w => ?_)
        refine lv_aload_n hx hb dX12_cut_44 rfl (lv_at hl 0 rfl) ?_
        obtain ⟨q12, eq12, h⟩ := x_rf h
        obtain ⟨hLq12, hKq12⟩ := wt_q hG hL0 hK0 eq12
        have hKq12 : gK G q12 = 12 := hKq12
        refine r_getR (k := 7) cx w hL0 hK0 (by decide) rfl wi_X12_cut_X12 (by decide) rfl eq12 (List.mem_of_getElem? (i := 2) rfl) dX12_cut_45 ?_
        refine lv_iload_n hx hb dX12_cut_48 rfl (lv_at hl 2 rfl) ?_
        refine lv_iconst (v := (0 : Int32)) hx hb dX12_cut_49 (by decide) ?_
        obtain ⟨z13, h⟩ := x_ix h
        obtain ⟨M14, eM14, h⟩ := x_wI h
        refine r_iast cx w hLq12 hKq12 z13 dX12_cut_50 eM14 (fun H locs w => ?_)
        refine lv_aload_n hx hb dX12_cut_51 rfl (lv_at hl 0 rfl) ?_
        obtain ⟨q15, eq15, h⟩ := x_rf h
        obtain ⟨hLq15, hKq15⟩ := wt_q hG hL0 hK0 eq15
        have hKq15 : gK G q15 = 12 := hKq15
        refine r_getR (k := 8) cx w hL0 hK0 (by decide) rfl wi_X12_cut_X12 (by decide) rfl eq15 (List.mem_of_getElem? (i := 3) rfl) dX12_cut_52 ?_
        refine lv_iload_n hx hb dX12_cut_55 rfl (lv_at hl 2 rfl) ?_
        refine lv_iconst (v := (0 : Int32)) hx hb dX12_cut_56 (by decide) ?_
        obtain ⟨z16, h⟩ := x_ix h
        obtain ⟨M17, eM17, h⟩ := x_wI h
        refine r_iast cx w hLq15 hKq15 z16 dX12_cut_57 eM17 (fun H locs w => ?_)
        refine lv_aload_n hx hb dX12_cut_58 rfl (lv_at hl 0 rfl) ?_
        obtain ⟨q18, eq18, h⟩ := x_rf h
        obtain ⟨hLq18, hKq18⟩ := wt_q hG hL0 hK0 eq18
        have hKq18 : gK G q18 = 12 := hKq18
        refine r_getR (k := 4) cx w hL0 hK0 (by decide) rfl wi_X12_cut_X12 (by decide) rfl eq18 (List.mem_of_getElem? (i := 4) rfl) dX12_cut_59 ?_
        refine lv_iload_n hx hb dX12_cut_62 rfl (lv_at hl 2 rfl) ?_
        refine lv_aload_n hx hb dX12_cut_63 rfl (lv_at hl 0 rfl) ?_
        refine lv_iload_n hx hb dX12_cut_64 rfl (lv_at hl 1 rfl) ?_
        refine lv_iload_n hx hb dX12_cut_65 rfl (lv_at hl 2 rfl) ?_
        obtain ⟨M19, r20, y21, h⟩ := x_cl h
        refine r_callVi (As := [.int v1, .int v2]) (rest := [.int v2, .ref q18]) cx w hkn hl.1 (k_X12_kindAt hG hL0 hK0 y21) (cwV 2 hts gX12_cut_X12_kindAt rfl rfl rfl (by decide +kernel) ⟨Nat.le_of_ble_eq_true rfl, Nat.le_of_ble_eq_true rfl⟩) hL0 hK0 (by decide) rfl rfl rfl (Nat.le_of_ble_eq_true rfl) dX12_cut_66 (fun H locs w => ?_)
        obtain ⟨z22, h⟩ := x_ix h
        obtain ⟨M23, eM23, h⟩ := x_wI h
        refine r_iast cx w hLq18 hKq18 z22 dX12_cut_69 eM23 (fun H locs w => ?_)
        refine lv_iload_n hx hb dX12_cut_70 rfl (lv_at hl 2 rfl) ?_
        refine lv_sipush (v := (400 : Int32)) hx hb dX12_cut_71 (by decide) ?_
        refine lv_icmp_ne (tgt := 98) hx hb dX12_cut_74 (by decide) (fun k24 => ?_) (fun k24 => ?_)
        · have h := x_f h k24
          exact b_X12_cut_98 cx hkn hL0 hK0 (hkb4 := hkb4) M23 v1 v2 H locs ls h w (lv_sub hl [0, 1, 2] rfl)
        · have h := x_t h k24
          refine lv_aload_n hx hb dX12_cut_77 rfl (lv_at hl 0 rfl) ?_
          obtain ⟨q25, eq25, h⟩ := x_rf h
          obtain ⟨hLq25, hKq25⟩ := wt_q hG hL0 hK0 eq25
          have hKq25 : gK G q25 = 12 := hKq25
          refine r_getR (k := 4) cx w hL0 hK0 (by decide) rfl wi_X12_cut_X12 (by decide) rfl eq25 (List.mem_of_getElem? (i := 4) rfl) dX12_cut_78 ?_
          refine lv_iload_n hx hb dX12_cut_81 rfl (lv_at hl 2 rfl) ?_
          obtain ⟨z26, h⟩ := x_ix h
          refine r_iald cx w hLq25 hKq25 z26 dX12_cut_82 ?_
          refine lv_sipush (v := (900 : Int32)) hx hb dX12_cut_83 (by decide) ?_
          refine lv_icmp_eq (tgt := 98) hx hb dX12_cut_86 (by decide) (fun k27 => ?_) (fun k27 => ?_)
          · have h := x_t h k27
            exact b_X12_cut_98 cx hkn hL0 hK0 (hkb4 := hkb4) M23 v1 v2 H locs ls h w (lv_sub hl [0, 1, 2] rfl)
          · have h := x_f h k27
            refine lv_aload_n hx hb dX12_cut_89 rfl (lv_at hl 0 rfl) ?_
            obtain ⟨q28, eq28, h⟩ := x_rf h
            obtain ⟨hLq28, hKq28⟩ := wt_q hG hL0 hK0 eq28
            have hKq28 : gK G q28 = 12 := hKq28
            refine r_getR (k := 4) cx w hL0 hK0 (by decide) rfl wi_X12_cut_X12 (by decide) rfl eq28 (List.mem_of_getElem? (i := 4) rfl) dX12_cut_90 ?_
            refine lv_iload_n hx hb dX12_cut_93 rfl (lv_at hl 2 rfl) ?_
            refine lv_sipush (v := (901 : Int32)) hx hb dX12_cut_94 (by decide) ?_
            obtain ⟨z29, h⟩ := x_ix h
            obtain ⟨M30, eM30, h⟩ := x_wI h
            refine r_iast cx w hLq28 hKq28 z29 dX12_cut_97 eM30 (fun H locs w => ?_)
            exact b_X12_cut_98 cx hkn hL0 hK0 (hkb4 := hkb4) M30 v1 v2 H locs ls h w (lv_sub hl [0, 1, 2] rfl)
      · have h := x_t h k8
        exact b_X12_cut_31 cx hkn hL0 hK0 (hkb4 := hkb4) (hkb11 := ih) M5 v1 v2 H locs ls h w (lv_sub hl [0, 1, 2] rfl)
set_option maxHeartbeats 4000000 in
set_option maxRecDepth 100000 in
theorem b_X12_cut_4 {p : Program} {e : Env} {s : State} {m : MethodId} {args : Array Value} {below : List Frame} {meth : Method} {c : Code} {A : Nat → Prop} {l : Launch} {D : va_G} {cy : cyS} {G : gS} (cx : cX p s m args meth c cX12_cut RX12 3 none wsX12_cut D cy G A) {k0 n0 : Nat} (hkn : k0 ≤ (rmX12_cut).cells ∧ n0 ≤ (rmX12_cut).slots) {M' : mS} {a0 : Nat} (hL0 : a0 ∈ gL G) (hK0 : gK G a0 = 11)  : ∀ (n : Nat), ∀ (M : mS) (v1 : Int32) (v2 : Int32) (H : Heap) (locs : List Loc) (ls : Array Slot), m_X12_cut_4 G a0 n M v1 v2 = some (M', ()) → wd D cy G M A s.heap H locs → lv_has ls 3 [(0, .ref a0), (1, .int v1), (2, .int v2)] → W p l e rmX12_cut s m args below meth c H locs k0 n0 (MQ below (va_Qv (fun (_ : Unit) => True) (fun _ t => wOut D cy G M' t) A) args s k0 n0 A) (F0 m 4 ls []) := by
  obtain ⟨hx, hb, hml, hown, hts, hr, hlocks, hK, hA, hG, hsx⟩ := id cx
  intro n
  induction n with
  | zero =>
    intro M v1 v2 H locs ls h w hl
    have h : none = some _ := h
    cases h
  | succ n ih =>
    intro M v1 v2 H locs ls h w hl
    rw [m_X12_cut_4] at h
    refine lv_iload_n hx hb dX12_cut_4 rfl (lv_at hl 2 rfl) ?_
    refine lv_sipush (v := (400 : Int32)) hx hb dX12_cut_5 (by decide) ?_
    refine lv_icmp_gt (tgt := 126) hx hb dX12_cut_8 (by decide) (fun k1 => ?_) (fun k1 => ?_)
    · have h := x_t h k1
      exact r_vret cx w h dX12_cut_126
    · have h := x_f h k1
      exact b_X12_cut_11 cx hkn hL0 hK0 (hkb4 := ih) fu M v1 v2 H locs ls h w (lv_sub hl [0, 1, 2] rfl)
set_option maxHeartbeats 4000000 in
set_option maxRecDepth 100000 in
theorem k_X12_cut {l : Launch} {D : va_G} {cy : cyS} {G : gS} {M M' : mS} {a0 : Nat} (hG : wt G) (hL0 : a0 ∈ gL G) (hK0 : gK G a0 = 11) (h : m_X12_cut G M a0 = some (M', ())) : ctV l yX12_cut wsX12_cut rmX12_cut D cy G M [.ref a0] M' := by
  unfold m_X12_cut at h
  refine ctV_of (cc := cX12_cut) (nL := 3) (ret := none) (lv := [(0, .ref a0)]) hG (by decide) rfl ⟨rfl, rfl⟩ (Nat.le_of_ble_eq_true rfl) rfl ?_
  intro p e s m args below meth c A ls cx w hl
  obtain ⟨hx, hb, hml, hown, hts, hr, hlocks, hK, hA, -, hsx⟩ := id cx
  have hkn : 0 ≤ (rmX12_cut).cells ∧ 0 ≤ (rmX12_cut).slots := ⟨Nat.zero_le _, Nat.zero_le _⟩
  refine lv_iconst (v := (0 : Int32)) hx hb dX12_cut_0 (by decide) ?_
  refine lv_istore_n (lv' := [(1, .int ((0 : Int32))), (0, .ref a0)]) hx hb dX12_cut_1 rfl hl (by decide) rfl (fun ls hl => ?_)
  refine lv_iconst (v := (0 : Int32)) hx hb dX12_cut_2 (by decide) ?_
  refine lv_istore_n (lv' := [(2, .int ((0 : Int32))), (1, .int ((0 : Int32))), (0, .ref a0)]) hx hb dX12_cut_3 rfl hl (by decide) rfl (fun ls hl => ?_)
  exact b_X12_cut_4 cx hkn hL0 hK0 fu M ((0 : Int32)) ((0 : Int32)) s.heap [] ls h w (lv_sub hl [2, 1, 0] rfl)
-- X12_is
theorem wi_X12_is_X12 : ∀ w ∈ wsX120, w ∈ wsX12_is := by decide +kernel
abbrev rmX12_is : Room := { frames := 0, cells := 0, slots := 0, locals := 0 }
def m_X12_is (G : gS) (M : mS) (a0 : Nat) (c1 : Int32) : Option (mS × Int32) := o_rf (gP G a0 4) (fun q1 => o_ix (mI M a0 9) (gN G q1) ((if (mI M q1 (Int32.toNatClampNeg (mI M a0 9))) = c1 then o_ck ((1 : Int32) = 0 ∨ (1 : Int32) = 1) (some (M, (1 : Int32))) else o_ck ((0 : Int32) = 0 ∨ (0 : Int32) = 1) (some (M, (0 : Int32))))))
set_option maxHeartbeats 4000000 in
set_option maxRecDepth 100000 in
theorem k_X12_is {l : Launch} {D : va_G} {cy : cyS} {G : gS} {M M' : mS} {r : Int32} {a0 : Nat} {c1 : Int32} (hG : wt G) (hL0 : a0 ∈ gL G) (hK0 : gK G a0 = 11) (h : m_X12_is G M a0 c1 = some (M', r)) : ctI l yX12_is wsX12_is rmX12_is D cy G M [.ref a0, .int c1] M' r := by
  unfold m_X12_is at h
  refine ctI_of (cc := cX12_is) (nL := 2) (ret := (some .boolean)) (lv := [(0, .ref a0), (1, .int c1)]) hG (by decide) rfl ⟨rfl, rfl⟩ (Nat.le_of_ble_eq_true rfl) rfl ?_
  intro p e s m args below meth c A ls cx w hl
  obtain ⟨hx, hb, hml, hown, hts, hr, hlocks, hK, hA, -, hsx⟩ := id cx
  have hkn : 0 ≤ (rmX12_is).cells ∧ 0 ≤ (rmX12_is).slots := ⟨Nat.zero_le _, Nat.zero_le _⟩
  refine lv_aload_n hx hb dX12_is_0 rfl (lv_at hl 0 rfl) ?_
  obtain ⟨q1, eq1, h⟩ := x_rf h
  obtain ⟨hLq1, hKq1⟩ := wt_q hG hL0 hK0 eq1
  have hKq1 : gK G q1 = 12 := hKq1
  refine r_getR (k := 4) cx w hL0 hK0 (by decide) rfl wi_X12_is_X12 (by decide) rfl eq1 (List.mem_of_getElem? (i := 1) rfl) dX12_is_1 ?_
  refine lv_aload_n hx hb dX12_is_4 rfl (lv_at hl 0 rfl) ?_
  refine r_getI (k := 9) (v := .int (mI M a0 9)) cx w hL0 hK0 (by decide) rfl wi_X12_is_X12 (by decide) rfl (List.mem_of_getElem? (i := 2) rfl) dX12_is_5 ?_
  obtain ⟨z2, h⟩ := x_ix h
  refine r_iald cx w hLq1 hKq1 z2 dX12_is_8 ?_
  refine lv_iload_n hx hb dX12_is_9 rfl (lv_at hl 1 rfl) ?_
  refine lv_icmp_ne (tgt := 17) hx hb dX12_is_10 (by decide) (fun k3 => ?_) (fun k3 => ?_)
  · have h := x_f h k3
    refine lv_iconst (v := (0 : Int32)) hx hb dX12_is_17 (by decide) ?_
    obtain ⟨z4, h⟩ := x_ck h
    exact r_zret cx w z4 h dX12_is_18
  · have h := x_t h k3
    refine lv_iconst (v := (1 : Int32)) hx hb dX12_is_13 (by decide) ?_
    refine lv_goto (tgt := 18) hx hb dX12_is_14 (by decide) ?_
    obtain ⟨z5, h⟩ := x_ck h
    exact r_zret cx w z5 h dX12_is_18
-- X12_eat
theorem wi_X12_eat_X12 : ∀ w ∈ wsX120, w ∈ wsX12_eat := by decide +kernel
abbrev rmX12_eat : Room := { frames := 1, cells := 0, slots := 0, locals := 21 }
def m_X12_eat (G : gS) (M : mS) (a0 : Nat) (c1 : Int32) : Option (mS × Int32) := o_cl (m_X12_is G M a0 c1) (fun M1 r2 => (if r2 = 0 then o_ck ((0 : Int32) = 0 ∨ (0 : Int32) = 1) (some (M1, (0 : Int32))) else o_wI M1 a0 9 ((mI M1 a0 9) + (1 : Int32)) (fun M5 => o_ck ((1 : Int32) = 0 ∨ (1 : Int32) = 1) (some (M5, (1 : Int32))))))
set_option maxHeartbeats 4000000 in
set_option maxRecDepth 100000 in
theorem k_X12_eat {l : Launch} {D : va_G} {cy : cyS} {G : gS} {M M' : mS} {r : Int32} {a0 : Nat} {c1 : Int32} (hG : wt G) (hL0 : a0 ∈ gL G) (hK0 : gK G a0 = 11) (h : m_X12_eat G M a0 c1 = some (M', r)) : ctI l yX12_eat wsX12_eat rmX12_eat D cy G M [.ref a0, .int c1] M' r := by
  unfold m_X12_eat at h
  refine ctI_of (cc := cX12_eat) (nL := 2) (ret := (some .boolean)) (lv := [(0, .ref a0), (1, .int c1)]) hG (by decide) rfl ⟨rfl, rfl⟩ (Nat.le_of_ble_eq_true rfl) rfl ?_
  intro p e s m args below meth c A ls cx w hl
  obtain ⟨hx, hb, hml, hown, hts, hr, hlocks, hK, hA, -, hsx⟩ := id cx
  have hkn : 0 ≤ (rmX12_eat).cells ∧ 0 ≤ (rmX12_eat).slots := ⟨Nat.zero_le _, Nat.zero_le _⟩
  refine lv_aload_n hx hb dX12_eat_0 rfl (lv_at hl 0 rfl) ?_
  refine lv_iload_n hx hb dX12_eat_1 rfl (lv_at hl 1 rfl) ?_
  obtain ⟨M1, r2, y3, h⟩ := x_cl h
  refine r_callVi (As := [.int c1]) (rest := []) cx w hkn hl.1 (k_X12_is hG hL0 hK0 y3) (cwV 1 hts gX12_eat_X12_is rfl rfl rfl (by decide +kernel) ⟨Nat.le_of_ble_eq_true rfl, Nat.le_of_ble_eq_true rfl⟩) hL0 hK0 (by decide) rfl rfl rfl (Nat.le_of_ble_eq_true rfl) dX12_eat_2 (fun H locs w => ?_)
  refine lv_if_ne (tgt := 10) hx hb dX12_eat_5 (by decide) (fun k4 => ?_) (fun k4 => ?_)
  · have h := x_f h k4
    refine lv_aload_n hx hb dX12_eat_10 rfl (lv_at hl 0 rfl) ?_
    refine lv_dup hx hb dX12_eat_11 rfl ?_
    refine r_getI (k := 9) (v := .int (mI M1 a0 9)) cx w hL0 hK0 (by decide) rfl wi_X12_eat_X12 (by decide) rfl (List.mem_of_getElem? (i := 1) rfl) dX12_eat_12 ?_
    refine lv_iconst (v := (1 : Int32)) hx hb dX12_eat_15 (by decide) ?_
    refine lv_iadd hx hb dX12_eat_16 ?_
    obtain ⟨M5, eM5, h⟩ := x_wI h
    refine r_putI (k := 9) (ty := .int) cx w tyX12 tyX12_ok nmX12 hL0 hK0 (by decide) rfl wi_X12_eat_X12 (by decide) rfl rfl rfl rfl st_11_9 (ln_11 _ _ (by decide)) (List.mem_of_getElem? (i := 1) rfl) dX12_eat_17 eM5 (fun H locs w => ?_)
    refine lv_iconst (v := (1 : Int32)) hx hb dX12_eat_20 (by decide) ?_
    obtain ⟨z6, h⟩ := x_ck h
    exact r_zret cx w z6 h dX12_eat_21
  · have h := x_t h k4
    refine lv_iconst (v := (0 : Int32)) hx hb dX12_eat_8 (by decide) ?_
    obtain ⟨z7, h⟩ := x_ck h
    exact r_zret cx w z7 h dX12_eat_9
-- X12_eatAs
theorem wi_X12_eatAs_X12 : ∀ w ∈ wsX120, w ∈ wsX12_eatAs := by decide +kernel
abbrev rmX12_eatAs : Room := { frames := 2, cells := 0, slots := 0, locals := 42 }
def m_X12_eatAs (G : gS) (M : mS) (a0 : Nat) (c1 : Int32) (c2 : Int32) : Option (mS × Int32) := o_rf (gP G a0 7) (fun q1 => o_ix (mI M a0 9) (gN G q1) (o_wI M q1 (Int32.toNatClampNeg (mI M a0 9)) c2 (fun M3 => o_cl (m_X12_eat G M3 a0 c1) (fun M4 r5 => o_ck (r5 = 0 ∨ r5 = 1) (some (M4, r5))))))
set_option maxHeartbeats 4000000 in
set_option maxRecDepth 100000 in
theorem k_X12_eatAs {l : Launch} {D : va_G} {cy : cyS} {G : gS} {M M' : mS} {r : Int32} {a0 : Nat} {c1 : Int32} {c2 : Int32} (hG : wt G) (hL0 : a0 ∈ gL G) (hK0 : gK G a0 = 11) (h : m_X12_eatAs G M a0 c1 c2 = some (M', r)) : ctI l yX12_eatAs wsX12_eatAs rmX12_eatAs D cy G M [.ref a0, .int c1, .int c2] M' r := by
  unfold m_X12_eatAs at h
  refine ctI_of (cc := cX12_eatAs) (nL := 3) (ret := (some .boolean)) (lv := [(0, .ref a0), (1, .int c1), (2, .int c2)]) hG (by decide) rfl ⟨rfl, rfl⟩ (Nat.le_of_ble_eq_true rfl) rfl ?_
  intro p e s m args below meth c A ls cx w hl
  obtain ⟨hx, hb, hml, hown, hts, hr, hlocks, hK, hA, -, hsx⟩ := id cx
  have hkn : 0 ≤ (rmX12_eatAs).cells ∧ 0 ≤ (rmX12_eatAs).slots := ⟨Nat.zero_le _, Nat.zero_le _⟩
  refine lv_aload_n hx hb dX12_eatAs_0 rfl (lv_at hl 0 rfl) ?_
  obtain ⟨q1, eq1, h⟩ := x_rf h
  obtain ⟨hLq1, hKq1⟩ := wt_q hG hL0 hK0 eq1
  have hKq1 : gK G q1 = 12 := hKq1
  refine r_getR (k := 7) cx w hL0 hK0 (by decide) rfl wi_X12_eatAs_X12 (by decide) rfl eq1 (List.mem_of_getElem? (i := 1) rfl) dX12_eatAs_1 ?_
  refine lv_aload_n hx hb dX12_eatAs_4 rfl (lv_at hl 0 rfl) ?_
  refine r_getI (k := 9) (v := .int (mI M a0 9)) cx w hL0 hK0 (by decide) rfl wi_X12_eatAs_X12 (by decide) rfl (List.mem_of_getElem? (i := 2) rfl) dX12_eatAs_5 ?_
  refine lv_iload_n hx hb dX12_eatAs_8 rfl (lv_at hl 2 rfl) ?_
  obtain ⟨z2, h⟩ := x_ix h
  obtain ⟨M3, eM3, h⟩ := x_wI h
  refine r_iast cx w hLq1 hKq1 z2 dX12_eatAs_9 eM3 (fun H locs w => ?_)
  refine lv_aload_n hx hb dX12_eatAs_10 rfl (lv_at hl 0 rfl) ?_
  refine lv_iload_n hx hb dX12_eatAs_11 rfl (lv_at hl 1 rfl) ?_
  obtain ⟨M4, r5, y6, h⟩ := x_cl h
  refine r_callVi (As := [.int c1]) (rest := []) cx w hkn hl.1 (k_X12_eat hG hL0 hK0 y6) (cwV 1 hts gX12_eatAs_X12_eat rfl rfl rfl (by decide +kernel) ⟨Nat.le_of_ble_eq_true rfl, Nat.le_of_ble_eq_true rfl⟩) hL0 hK0 (by decide) rfl rfl rfl (Nat.le_of_ble_eq_true rfl) dX12_eatAs_12 (fun H locs w => ?_)
  obtain ⟨z7, h⟩ := x_ck h
  exact r_zret cx w z7 h dX12_eatAs_15
-- X12_isWordOf
theorem wi_X12_isWordOf_X12 : ∀ w ∈ wsX120, w ∈ wsX12_isWordOf := by decide +kernel
abbrev rmX12_isWordOf : Room := { frames := 1, cells := 0, slots := 0, locals := 22 }
def m_X12_isWordOf (G : gS) (M : mS) (a0 : Nat) (c1 : Int32) (c2 : Int32) : Option (mS × Int32) := o_rf (gP G a0 4) (fun q1 => o_ix (mI M a0 9) (gN G q1) (o_cl (m_X12_isIn G M (mI M q1 (Int32.toNatClampNeg (mI M a0 9))) c1 c2) (fun M3 r4 => o_ck (r4 = 0 ∨ r4 = 1) (some (M3, r4)))))
set_option maxHeartbeats 4000000 in
set_option maxRecDepth 100000 in
theorem k_X12_isWordOf {l : Launch} {D : va_G} {cy : cyS} {G : gS} {M M' : mS} {r : Int32} {a0 : Nat} {c1 : Int32} {c2 : Int32} (hG : wt G) (hL0 : a0 ∈ gL G) (hK0 : gK G a0 = 11) (h : m_X12_isWordOf G M a0 c1 c2 = some (M', r)) : ctI l yX12_isWordOf wsX12_isWordOf rmX12_isWordOf D cy G M [.ref a0, .int c1, .int c2] M' r := by
  unfold m_X12_isWordOf at h
  refine ctI_of (cc := cX12_isWordOf) (nL := 3) (ret := (some .boolean)) (lv := [(0, .ref a0), (1, .int c1), (2, .int c2)]) hG (by decide) rfl ⟨rfl, rfl⟩ (Nat.le_of_ble_eq_true rfl) rfl ?_
  intro p e s m args below meth c A ls cx w hl
  obtain ⟨hx, hb, hml, hown, hts, hr, hlocks, hK, hA, -, hsx⟩ := id cx
  have hkn : 0 ≤ (rmX12_isWordOf).cells ∧ 0 ≤ (rmX12_isWordOf).slots := ⟨Nat.zero_le _, Nat.zero_le _⟩
  refine lv_aload_n hx hb dX12_isWordOf_0 rfl (lv_at hl 0 rfl) ?_
  obtain ⟨q1, eq1, h⟩ := x_rf h
  obtain ⟨hLq1, hKq1⟩ := wt_q hG hL0 hK0 eq1
  have hKq1 : gK G q1 = 12 := hKq1
  refine r_getR (k := 4) cx w hL0 hK0 (by decide) rfl wi_X12_isWordOf_X12 (by decide) rfl eq1 (List.mem_of_getElem? (i := 1) rfl) dX12_isWordOf_1 ?_
  refine lv_aload_n hx hb dX12_isWordOf_4 rfl (lv_at hl 0 rfl) ?_
  refine r_getI (k := 9) (v := .int (mI M a0 9)) cx w hL0 hK0 (by decide) rfl wi_X12_isWordOf_X12 (by decide) rfl (List.mem_of_getElem? (i := 2) rfl) dX12_isWordOf_5 ?_
  obtain ⟨z2, h⟩ := x_ix h
  refine r_iald cx w hLq1 hKq1 z2 dX12_isWordOf_8 ?_
  refine lv_iload_n hx hb dX12_isWordOf_9 rfl (lv_at hl 1 rfl) ?_
  refine lv_iload_n hx hb dX12_isWordOf_10 rfl (lv_at hl 2 rfl) ?_
  obtain ⟨M3, r4, y5, h⟩ := x_cl h
  refine r_callSi (As := [.int ((mI M q1 (Int32.toNatClampNeg (mI M a0 9)))), .int c1, .int c2]) (rest := []) cx w hkn hl.1 (k_X12_isIn hG y5) (va_cwS 3 hts gX12_isWordOf_X12_isIn rfl rfl rfl (by decide +kernel) ⟨Nat.le_of_ble_eq_true rfl, Nat.le_of_ble_eq_true rfl⟩) rfl rfl (Nat.le_of_ble_eq_true rfl) dX12_isWordOf_11 (fun H locs w => ?_)
  obtain ⟨z6, h⟩ := x_ck h
  exact r_zret cx w z6 h dX12_isWordOf_14
