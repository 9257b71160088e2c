-- X12_eatOne
theorem wi_X12_eatOne_X12 : ∀ w ∈ wsX120, w ∈ wsX12_eatOne := by decide +kernel
abbrev rmX12_eatOne : Room := { frames := 2, cells := 0, slots := 0, locals := 44 }
def m_X12_eatOne (G : gS) (M : mS) (a0 : Nat) (c1 : Int32) (c2 : Int32) (c3 : Int32) : Option (mS × Int32) := o_rf (gP G a0 7) (fun q1 => o_ix (mI M a0 9) (gN G q1) (o_wI M q1 (Int32.toNatClampNeg (mI M a0 9)) c3 (fun M3 => o_cl (m_X12_isWordOf G M3 a0 c1 c2) (fun M4 r5 => (if r5 = 0 then o_ck ((0 : Int32) = 0 ∨ (0 : Int32) = 1) (some (M4, (0 : Int32))) else o_wI M4 a0 9 ((mI M4 a0 9) + (1 : Int32)) (fun M8 => o_ck ((1 : Int32) = 0 ∨ (1 : Int32) = 1) (some (M8, (1 : Int32)))))))))
set_option maxHeartbeats 4000000 in
set_option maxRecDepth 100000 in
theorem k_X12_eatOne {l : Launch} {D : va_G} {cy : cyS} {G : gS} {M M' : mS} {r : Int32} {a0 : Nat} {c1 : Int32} {c2 : Int32} {c3 : Int32} (hG : wt G) (hL0 : a0 ∈ gL G) (hK0 : gK G a0 = 11) (h : m_X12_eatOne G M a0 c1 c2 c3 = some (M', r)) : ctI l yX12_eatOne wsX12_eatOne rmX12_eatOne D cy G M [.ref a0, .int c1, .int c2, .int c3] M' r := by
  unfold m_X12_eatOne at h
  refine ctI_of (cc := cX12_eatOne) (nL := 4) (ret := (some .boolean)) (lv := [(0, .ref a0), (1, .int c1), (2, .int c2), (3, .int c3)]) hG (by decide) rfl ⟨rfl, rfl⟩ (Nat.le_of_ble_eq_true rfl) rfl ?_
  intro p e s m args below meth c A ls cx w hl
  obtain ⟨hx, hb, hml, hown, hts, hr, hlocks, hK, hA, -, hsx⟩ := id cx
  have hkn : 0 ≤ (rmX12_eatOne).cells ∧ 0 ≤ (rmX12_eatOne).slots := ⟨Nat.zero_le _, Nat.zero_le _⟩
  refine lv_aload_n hx hb dX12_eatOne_0 rfl (lv_at hl 0 rfl) ?_
  obtain ⟨q1, eq1, h⟩ := x_rf h
  obtain ⟨hLq1, hKq1⟩ := wt_q hG hL0 hK0 eq1
  have hKq1 : gK G q1 = 12 := hKq1
  refine r_getR (k := 7) cx w hL0 hK0 (by decide) rfl wi_X12_eatOne_X12 (by decide) rfl eq1 (List.mem_of_getElem? (i := 1) rfl) dX12_eatOne_1 ?_
  refine lv_aload_n hx hb dX12_eatOne_4 rfl (lv_at hl 0 rfl) ?_
  refine r_getI (k := 9) (v := .int (mI M a0 9)) cx w hL0 hK0 (by decide) rfl wi_X12_eatOne_X12 (by decide) rfl (List.mem_of_getElem? (i := 2) rfl) dX12_eatOne_5 ?_
  refine lv_iload_n hx hb dX12_eatOne_8 rfl (lv_at hl 3 rfl) ?_
  obtain ⟨z2, h⟩ := x_ix h
  obtain ⟨M3, eM3, h⟩ := x_wI h
  refine r_iast cx w hLq1 hKq1 z2 dX12_eatOne_9 eM3 (fun H locs w => ?_)
  refine lv_aload_n hx hb dX12_eatOne_10 rfl (lv_at hl 0 rfl) ?_
  refine lv_iload_n hx hb dX12_eatOne_11 rfl (lv_at hl 1 rfl) ?_
  refine lv_iload_n hx hb dX12_eatOne_12 rfl (lv_at hl 2 rfl) ?_
  obtain ⟨M4, r5, y6, h⟩ := x_cl h
  refine r_callVi (As := [.int c1, .int c2]) (rest := []) cx w hkn hl.1 (k_X12_isWordOf hG hL0 hK0 y6) (cwV 2 hts gX12_eatOne_X12_isWordOf rfl rfl rfl (by decide +kernel) ⟨Nat.le_of_ble_eq_true rfl, Nat.le_of_ble_eq_true rfl⟩) hL0 hK0 (by decide) rfl rfl rfl (Nat.le_of_ble_eq_true rfl) dX12_eatOne_13 (fun H locs w => ?_)
  refine lv_if_ne (tgt := 21) hx hb dX12_eatOne_16 (by decide) (fun k7 => ?_) (fun k7 => ?_)
  · have h := x_f h k7
    refine lv_aload_n hx hb dX12_eatOne_21 rfl (lv_at hl 0 rfl) ?_
    refine lv_dup hx hb dX12_eatOne_22 rfl ?_
    refine r_getI (k := 9) (v := .int (mI M4 a0 9)) cx w hL0 hK0 (by decide) rfl wi_X12_eatOne_X12 (by decide) rfl (List.mem_of_getElem? (i := 2) rfl) dX12_eatOne_23 ?_
    refine lv_iconst (v := (1 : Int32)) hx hb dX12_eatOne_26 (by decide) ?_
    refine lv_iadd hx hb dX12_eatOne_27 ?_
    obtain ⟨M8, eM8, h⟩ := x_wI h
    refine r_putI (k := 9) (ty := .int) cx w tyX12 tyX12_ok nmX12 hL0 hK0 (by decide) rfl wi_X12_eatOne_X12 (by decide) rfl rfl rfl rfl st_11_9 (ln_11 _ _ (by decide)) (List.mem_of_getElem? (i := 2) rfl) dX12_eatOne_28 eM8 (fun H locs w => ?_)
    refine lv_iconst (v := (1 : Int32)) hx hb dX12_eatOne_31 (by decide) ?_
    obtain ⟨z9, h⟩ := x_ck h
    exact r_zret cx w z9 h dX12_eatOne_32
  · have h := x_t h k7
    refine lv_iconst (v := (0 : Int32)) hx hb dX12_eatOne_19 (by decide) ?_
    obtain ⟨z10, h⟩ := x_ck h
    exact r_zret cx w z10 h dX12_eatOne_20
-- X12_eatSign
abbrev rmX12_eatSign : Room := { frames := 2, cells := 0, slots := 0, locals := 42 }
def m_X12_eatSign (G : gS) (M : mS) (a0 : Nat) (c1 : Int32) : Option (mS × Int32) := o_cl (m_X12_eat G M a0 ((50 : Int32) + c1)) (fun M1 r2 => o_ck (r2 = 0 ∨ r2 = 1) (some (M1, r2)))
set_option maxHeartbeats 4000000 in
set_option maxRecDepth 100000 in
theorem k_X12_eatSign {l : Launch} {D : va_G} {cy : cyS} {G : gS} {M M' : mS} {r : Int32} {a0 : Nat} {c1 : Int32} (hG : wt G) (hL0 : a0 ∈ gL G) (hK0 : gK G a0 = 11) (h : m_X12_eatSign G M a0 c1 = some (M', r)) : ctI l yX12_eatSign wsX12_eatSign rmX12_eatSign D cy G M [.ref a0, .int c1] M' r := by
  unfold m_X12_eatSign at h
  refine ctI_of (cc := cX12_eatSign) (nL := 2) (ret := (some .boolean)) (lv := [(0, .ref a0), (1, .int c1)]) hG (by decide) rfl ⟨rfl, rfl⟩ (Nat.le_of_ble_eq_true rfl) rfl ?_
  intro p e s m args below meth c A ls cx w hl
  obtain ⟨hx, hb, hml, hown, hts, hr, hlocks, hK, hA, -, hsx⟩ := id cx
  have hkn : 0 ≤ (rmX12_eatSign).cells ∧ 0 ≤ (rmX12_eatSign).slots := ⟨Nat.zero_le _, Nat.zero_le _⟩
  refine lv_aload_n hx hb dX12_eatSign_0 rfl (lv_at hl 0 rfl) ?_
  refine lv_bipush (v := (50 : Int32)) hx hb dX12_eatSign_1 (by decide) ?_
  refine lv_iload_n hx hb dX12_eatSign_3 rfl (lv_at hl 1 rfl) ?_
  refine lv_iadd hx hb dX12_eatSign_4 ?_
  obtain ⟨M1, r2, y3, h⟩ := x_cl h
  refine r_callVi (As := [.int (((50 : Int32) + c1))]) (rest := []) cx w hkn hl.1 (k_X12_eat hG hL0 hK0 y3) (cwV 1 hts gX12_eatSign_X12_eat rfl rfl rfl (by decide +kernel) ⟨Nat.le_of_ble_eq_true rfl, Nat.le_of_ble_eq_true rfl⟩) hL0 hK0 (by decide) rfl rfl rfl (Nat.le_of_ble_eq_true rfl) dX12_eatSign_5 (fun H locs w => ?_)
  obtain ⟨z4, h⟩ := x_ck h
  exact r_zret cx w z4 h dX12_eatSign_8
-- X12_errorAt
theorem wi_X12_errorAt_X12 : ∀ w ∈ wsX120, w ∈ wsX12_errorAt := by decide +kernel
abbrev rmX12_errorAt : Room := { frames := 0, cells := 0, slots := 0, locals := 0 }
def m_X12_errorAt (G : gS) (M : mS) (a0 : Nat) : Option (mS × Int32) := o_wI M a0 0 (0 : Int32) (fun M1 => some (M1, (mI M1 a0 3)))
set_option maxHeartbeats 4000000 in
set_option maxRecDepth 100000 in
theorem k_X12_errorAt {l : Launch} {D : va_G} {cy : cyS} {G : gS} {M M' : mS} {r : Int32} {a0 : Nat} (hG : wt G) (hL0 : a0 ∈ gL G) (hK0 : gK G a0 = 11) (h : m_X12_errorAt G M a0 = some (M', r)) : ctI l yX12_errorAt wsX12_errorAt rmX12_errorAt D cy G M [.ref a0] M' r := by
  unfold m_X12_errorAt at h
  refine ctI_of (cc := cX12_errorAt) (nL := 1) (ret := (some .int)) (lv := [(0, .ref a0)]) hG (by decide) rfl ⟨rfl, rfl⟩ (Nat.le_of_ble_eq_true rfl) rfl ?_
  intro p e s m args below meth c A ls cx w hl
  obtain ⟨hx, hb, hml, hown, hts, hr, hlocks, hK, hA, -, hsx⟩ := id cx
  have hkn : 0 ≤ (rmX12_errorAt).cells ∧ 0 ≤ (rmX12_errorAt).slots := ⟨Nat.zero_le _, Nat.zero_le _⟩
  refine lv_aload_n hx hb dX12_errorAt_0 rfl (lv_at hl 0 rfl) ?_
  refine lv_iconst (v := (0 : Int32)) hx hb dX12_errorAt_1 (by decide) ?_
  obtain ⟨M1, eM1, h⟩ := x_wI h
  refine r_putI (k := 0) (ty := .int) cx w tyX12 tyX12_ok nmX12 hL0 hK0 (by decide) rfl wi_X12_errorAt_X12 (by decide) rfl rfl rfl rfl st_11_0 (ln_11 _ _ (by decide)) (List.mem_of_getElem? (i := 1) rfl) dX12_errorAt_2 eM1 (fun H locs w => ?_)
  refine lv_aload_n hx hb dX12_errorAt_5 rfl (lv_at hl 0 rfl) ?_
  refine r_getI (k := 3) (v := .int (mI M1 a0 3)) cx w hL0 hK0 (by decide) rfl wi_X12_errorAt_X12 (by decide) rfl (List.mem_of_getElem? (i := 2) rfl) dX12_errorAt_6 ?_
  exact r_iret cx w h dX12_errorAt_9
-- X12_isSame
theorem wi_X12_isSame_X12 : ∀ w ∈ wsX120, w ∈ wsX12_isSame := by decide +kernel
abbrev rmX12_isSame : Room := { frames := 0, cells := 0, slots := 0, locals := 0 }
def m_X12_isSame_19 (G : gS) (a0 : Nat) (c1 : Int32) (c2 : Int32)  : Nat → mS → Int32 → Option (mS × Int32)
  | 0, _, _ => none
  | n + 1, M, v3 => o_rf (gP G a0 6) (fun q1 => o_ix c1 (gN G q1) ((if (mI M q1 (Int32.toNatClampNeg c1)) ≤ v3 then o_ck ((1 : Int32) = 0 ∨ (1 : Int32) = 1) (some (M, (1 : Int32))) else o_rf (gP G a0 1) (fun q5 => o_rf (gP G a0 5) (fun q6 => o_ix c1 (gN G q6) (o_ix ((mI M q6 (Int32.toNatClampNeg c1)) + v3) (gN G q5) (o_rf (gP G a0 1) (fun q9 => o_rf (gP G a0 5) (fun q10 => o_ix c2 (gN G q10) (o_ix ((mI M q10 (Int32.toNatClampNeg c2)) + v3) (gN G q9) ((if (mI M q5 (Int32.toNatClampNeg ((mI M q6 (Int32.toNatClampNeg c1)) + v3))) = (mI M q9 (Int32.toNatClampNeg ((mI M q10 (Int32.toNatClampNeg c2)) + v3))) then o_bd (v3 + 1 : Int32) (fun x14 => m_X12_isSame_19 G a0 c1 c2 n M x14) else o_ck ((0 : Int32) = 0 ∨ (0 : Int32) = 1) (some (M, (0 : Int32)))))))))))))))
def m_X12_isSame (G : gS) (M : mS) (a0 : Nat) (c1 : Int32) (c2 : Int32) : Option (mS × Int32) := o_rf (gP G a0 6) (fun q1 => o_ix c1 (gN G q1) (o_rf (gP G a0 6) (fun q3 => o_ix c2 (gN G q3) ((if (mI M q1 (Int32.toNatClampNeg c1)) = (mI M q3 (Int32.toNatClampNeg c2)) then m_X12_isSame_19 G a0 c1 c2 fu M ((0 : Int32)) else o_ck ((0 : Int32) = 0 ∨ (0 : Int32) = 1) (some (M, (0 : Int32))))))))
set_option maxHeartbeats 4000000 in
set_option maxRecDepth 100000 in
theorem b_X12_isSame_19 {p : Program} {e : Env} {s : State} {m : MethodId} {args : Array Value} {below : List Frame} {meth : Method} {c : Code} {A : Nat → Prop} {l : Launch} {D : va_G} {cy : cyS} {G : gS} (cx : cX p s m args meth c cX12_isSame RX12 4 (some .boolean) wsX12_isSame D cy G A) {k0 n0 : Nat} (hkn : k0 ≤ (rmX12_isSame).cells ∧ n0 ≤ (rmX12_isSame).slots) {M' : mS} {r : Int32} {a0 : Nat} {c1 : Int32} {c2 : Int32} (hL0 : a0 ∈ gL G) (hK0 : gK G a0 = 11)  : ∀ (n : Nat), ∀ (M : mS) (v3 : Int32) (H : Heap) (locs : List Loc) (ls : Array Slot), m_X12_isSame_19 G a0 c1 c2 n M v3 = some (M', r) → wd D cy G M A s.heap H locs → lv_has ls 4 [(0, .ref a0), (1, .int c1), (2, .int c2), (3, .int v3)] → W p l e rmX12_isSame s m args below meth c H locs k0 n0 (MQ below (va_Qi (fun (r' : Int32) (_ : Unit) => r' = r) (fun _ t => wOut D cy G M' t) A) args s k0 n0 A) (F0 m 19 ls []) := by
  obtain ⟨hx, hb, hml, hown, hts, hr, hlocks, hK, hA, hG, hsx⟩ := id cx
  intro n
  induction n with
  | zero =>
    intro M v3 H locs ls h w hl
    have h : none = some _ := h
    cases h
  | succ n ih =>
    intro M v3 H locs ls h w hl
    rw [m_X12_isSame_19] at h
    refine lv_iload_n hx hb dX12_isSame_19 rfl (lv_at hl 3 rfl) ?_
    refine lv_aload_n hx hb dX12_isSame_20 rfl (lv_at hl 0 rfl) ?_
    obtain ⟨q1, eq1, h⟩ := x_rf h
    obtain ⟨hLq1, hKq1⟩ := wt_q hG hL0 hK0 eq1
    have hKq1 : gK G q1 = 12 := hKq1
    refine r_getR (k := 6) cx w hL0 hK0 (by decide) rfl wi_X12_isSame_X12 (by decide) rfl eq1 (List.mem_of_getElem? (i := 1) rfl) dX12_isSame_21 ?_
    refine lv_iload_n hx hb dX12_isSame_24 rfl (lv_at hl 1 rfl) ?_
    obtain ⟨z2, h⟩ := x_ix h
    refine r_iald cx w hLq1 hKq1 z2 dX12_isSame_25 ?_
    refine lv_icmp_ge (tgt := 66) hx hb dX12_isSame_26 (by decide) (fun k3 => ?_) (fun k3 => ?_)
    · have h := x_t h k3
      refine lv_iconst (v := (1 : Int32)) hx hb dX12_isSame_66 (by decide) ?_
      obtain ⟨z4, h⟩ := x_ck h
      exact r_zret cx w z4 h dX12_isSame_67
    · have h := x_f h k3
      refine lv_aload_n hx hb dX12_isSame_29 rfl (lv_at hl 0 rfl) ?_
      obtain ⟨q5, eq5, h⟩ := x_rf h
      obtain ⟨hLq5, hKq5⟩ := wt_q hG hL0 hK0 eq5
      have hKq5 : gK G q5 = 12 := hKq5
      refine r_getR (k := 1) cx w hL0 hK0 (by decide) rfl wi_X12_isSame_X12 (by decide) rfl eq5 (List.mem_of_getElem? (i := 2) rfl) dX12_isSame_30 ?_
      refine lv_aload_n hx hb dX12_isSame_33 rfl (lv_at hl 0 rfl) ?_
      obtain ⟨q6, eq6, h⟩ := x_rf h
      obtain ⟨hLq6, hKq6⟩ := wt_q hG hL0 hK0 eq6
      have hKq6 : gK G q6 = 12 := hKq6
      refine r_getR (k := 5) cx w hL0 hK0 (by decide) rfl wi_X12_isSame_X12 (by decide) rfl eq6 (List.mem_of_getElem? (i := 3) rfl) dX12_isSame_34 ?_
      refine lv_iload_n hx hb dX12_isSame_37 rfl (lv_at hl 1 rfl) ?_
      obtain ⟨z7, h⟩ := x_ix h
      refine r_iald cx w hLq6 hKq6 z7 dX12_isSame_38 ?_
      refine lv_iload_n hx hb dX12_isSame_39 rfl (lv_at hl 3 rfl) ?_
      refine lv_iadd hx hb dX12_isSame_40 ?_
      obtain ⟨z8, h⟩ := x_ix h
      refine r_iald cx w hLq5 hKq5 z8 dX12_isSame_41 ?_
      refine lv_aload_n hx hb dX12_isSame_42 rfl (lv_at hl 0 rfl) ?_
      obtain ⟨q9, eq9, h⟩ := x_rf h
      obtain ⟨hLq9, hKq9⟩ := wt_q hG hL0 hK0 eq9
      have hKq9 : gK G q9 = 12 := hKq9
      refine r_getR (k := 1) cx w hL0 hK0 (by decide) rfl wi_X12_isSame_X12 (by decide) rfl eq9 (List.mem_of_getElem? (i := 2) rfl) dX12_isSame_43 ?_
      refine lv_aload_n hx hb dX12_isSame_46 rfl (lv_at hl 0 rfl) ?_
      obtain ⟨q10, eq10, h⟩ := x_rf h
      obtain ⟨hLq10, hKq10⟩ := wt_q hG hL0 hK0 eq10
      have hKq10 : gK G q10 = 12 := hKq10
      refine r_getR (k := 5) cx w hL0 hK0 (by decide) rfl wi_X12_isSame_X12 (by decide) rfl eq10 (List.mem_of_getElem? (i := 3) rfl) dX12_isSame_47 ?_
      refine lv_iload_n hx hb dX12_isSame_50 rfl (lv_at hl 2 rfl) ?_
      obtain ⟨z11, h⟩ := x_ix h
      refine r_iald cx w hLq10 hKq10 z11 dX12_isSame_51 ?_
      refine lv_iload_n hx hb dX12_isSame_52 rfl (lv_at hl 3 rfl) ?_
      refine lv_iadd hx hb dX12_isSame_53 ?_
      obtain ⟨z12, h⟩ := x_ix h
      refine r_iald cx w hLq9 hKq9 z12 dX12_isSame_54 ?_
      refine lv_icmp_eq (tgt := 60) hx hb dX12_isSame_55 (by decide) (fun k13 => ?_) (fun k13 => ?_)
      · have h := x_t h k13
        obtain ⟨x14, ex14, h⟩ := x_bd h
        refine lv_iinc (v := x14) (lv' := [(3, .int x14), (0, .ref a0), (1, .int c1), (2, .int c2)]) hx hb dX12_isSame_60 hl (k := 3) rfl (by rw [ex14]; rfl) (by decide) rfl (fun ls hl => ?_)
        refine lv_goto (tgt := 19) hx hb dX12_isSame_63 (by decide) ?_
        exact ih M x14 H locs ls h w (lv_sub hl [1, 2, 3, 0] rfl)
      · have h := x_f h k13
        refine lv_iconst (v := (0 : Int32)) hx hb dX12_isSame_58 (by decide) ?_
        obtain ⟨z15, h⟩ := x_ck h
        exact r_zret cx w z15 h dX12_isSame_59
set_option maxHeartbeats 4000000 in
set_option maxRecDepth 100000 in
theorem k_X12_isSame {l : Launch} {D : va_G} {cy : cyS} {G : gS} {M M' : mS} {r : Int32} {a0 : Nat} {c1 : Int32} {c2 : Int32} (hG : wt G) (hL0 : a0 ∈ gL G) (hK0 : gK G a0 = 11) (h : m_X12_isSame G M a0 c1 c2 = some (M', r)) : ctI l yX12_isSame wsX12_isSame rmX12_isSame D cy G M [.ref a0, .int c1, .int c2] M' r := by
  unfold m_X12_isSame at h
  refine ctI_of (cc := cX12_isSame) (nL := 4) (ret := (some .boolean)) (lv := [(0, .ref a0), (1, .int c1), (2, .int c2)]) hG (by decide) rfl ⟨rfl, rfl⟩ (Nat.le_of_ble_eq_true rfl) rfl ?_
  intro p e s m args below meth c A ls cx w hl
  obtain ⟨hx, hb, hml, hown, hts, hr, hlocks, hK, hA, -, hsx⟩ := id cx
  have hkn : 0 ≤ (rmX12_isSame).cells ∧ 0 ≤ (rmX12_isSame).slots := ⟨Nat.zero_le _, Nat.zero_le _⟩
  refine lv_aload_n hx hb dX12_isSame_0 rfl (lv_at hl 0 rfl) ?_
  obtain ⟨q1, eq1, h⟩ := x_rf h
  obtain ⟨hLq1, hKq1⟩ := wt_q hG hL0 hK0 eq1
  have hKq1 : gK G q1 = 12 := hKq1
  refine r_getR (k := 6) cx w hL0 hK0 (by decide) rfl wi_X12_isSame_X12 (by decide) rfl eq1 (List.mem_of_getElem? (i := 1) rfl) dX12_isSame_1 ?_
  refine lv_iload_n hx hb dX12_isSame_4 rfl (lv_at hl 1 rfl) ?_
  obtain ⟨z2, h⟩ := x_ix h
  refine r_iald cx w hLq1 hKq1 z2 dX12_isSame_5 ?_
  refine lv_aload_n hx hb dX12_isSame_6 rfl (lv_at hl 0 rfl) ?_
  obtain ⟨q3, eq3, h⟩ := x_rf h
  obtain ⟨hLq3, hKq3⟩ := wt_q hG hL0 hK0 eq3
  have hKq3 : gK G q3 = 12 := hKq3
  refine r_getR (k := 6) cx w hL0 hK0 (by decide) rfl wi_X12_isSame_X12 (by decide) rfl eq3 (List.mem_of_getElem? (i := 1) rfl) dX12_isSame_7 ?_
  refine lv_iload_n hx hb dX12_isSame_10 rfl (lv_at hl 2 rfl) ?_
  obtain ⟨z4, h⟩ := x_ix h
  refine r_iald cx w hLq3 hKq3 z4 dX12_isSame_11 ?_
  refine lv_icmp_eq (tgt := 17) hx hb dX12_isSame_12 (by decide) (fun k5 => ?_) (fun k5 => ?_)
  · have h := x_t h k5
    refine lv_iconst (v := (0 : Int32)) hx hb dX12_isSame_17 (by decide) ?_
    refine lv_istore_n (lv' := [(3, .int ((0 : Int32))), (0, .ref a0), (1, .int c1), (2, .int c2)]) hx hb dX12_isSame_18 rfl hl (by decide) rfl (fun ls hl => ?_)
    exact b_X12_isSame_19 cx hkn hL0 hK0 fu M ((0 : Int32)) s.heap [] ls h w (lv_sub hl [1, 2, 3, 0] rfl)
  · have h := x_f h k5
    refine lv_iconst (v := (0 : Int32)) hx hb dX12_isSame_15 (by decide) ?_
    obtain ⟨z6, h⟩ := x_ck h
    exact r_zret cx w z6 h dX12_isSame_16
-- X12_told
theorem wi_X12_told_X12 : ∀ w ∈ wsX120, w ∈ wsX12_told := by decide +kernel
abbrev rmX12_told : Room := { frames := 1, cells := 0, slots := 0, locals := 23 }
def m_X12_told_40 (G : gS) (a0 : Nat) (c1 : Int32) (c2 : Int32) (kb5 : mS → Int32 → Int32 → Option (mS × Int32)) (M : mS) (v3 : Int32) (v4 : Int32) : Option (mS × Int32) := o_bd (v4 + 1 : Int32) (fun x1 => kb5 M v3 x1)
def m_X12_told_5 (G : gS) (a0 : Nat) (c1 : Int32) (c2 : Int32)  : Nat → mS → Int32 → Int32 → Option (mS × Int32)
  | 0, _, _, _ => none
  | n + 1, M, v3, v4 => (if c1 ≤ v4 then some (M, (-1 : Int32)) else o_rf (gP G a0 7) (fun q2 => o_ix v4 (gN G q2) ((if (mI M q2 (Int32.toNatClampNeg v4)) = c2 then o_cl (m_X12_isSame G M a0 v4 c1) (fun M5 r6 => (if r6 = 0 then o_bd (v3 + 1 : Int32) (fun x9 => m_X12_told_40 G a0 c1 c2 (fun M v3 v4 => m_X12_told_5 G a0 c1 c2 n M v3 v4) M5 x9 v4) else some (M5, v3))) else m_X12_told_40 G a0 c1 c2 (fun M v3 v4 => m_X12_told_5 G a0 c1 c2 n M v3 v4) M v3 v4))))
def m_X12_told (G : gS) (M : mS) (a0 : Nat) (c1 : Int32) (c2 : Int32) : Option (mS × Int32) := m_X12_told_5 G a0 c1 c2 fu M ((0 : Int32)) ((0 : Int32))
set_option maxHeartbeats 4000000 in
set_option maxRecDepth 100000 in
theorem b_X12_told_40 {p : Program} {e : Env} {s : State} {m : MethodId} {args : Array Value} {below : List Frame} {meth : Method} {c : Code} {A : Nat → Prop} {l : Launch} {D : va_G} {cy : cyS} {G : gS} (cx : cX p s m args meth c cX12_told RX12 5 (some .int) wsX12_told D cy G A) {k0 n0 : Nat} (hkn : k0 ≤ (rmX12_told).cells ∧ n0 ≤ (rmX12_told).slots) {M' : mS} {r : Int32} {a0 : Nat} {c1 : Int32} {c2 : Int32} (hL0 : a0 ∈ gL G) (hK0 : gK G a0 = 11) {kb5 : mS → Int32 → Int32 → Option (mS × Int32)} (hkb5 : ∀ (M : mS) (v3 : Int32) (v4 : Int32) (H : Heap) (locs : List Loc) (ls : Array Slot), kb5 M v3 v4 = some (M', r) → wd D cy G M A s.heap H locs → lv_has ls 5 [(0, .ref a0), (1, .int c1), (2, .int c2), (3, .int v3), (4, .int v4)] → W p l e rmX12_told s m args below meth c H locs k0 n0 (MQ below (va_Qi (fun (r' : Int32) (_ : Unit) => r' = r) (fun _ t => wOut D cy G M' t) A) args s k0 n0 A) (F0 m 5 ls [])) : ∀ (M : mS) (v3 : Int32) (v4 : Int32) (H : Heap) (locs : List Loc) (ls : Array Slot), m_X12_told_40 G a0 c1 c2 kb5 M v3 v4 = some (M', r) → wd D cy G M A s.heap H locs → lv_has ls 5 [(0, .ref a0), (1, .int c1), (2, .int c2), (3, .int v3), (4, .int v4)] → W p l e rmX12_told s m args below meth c H locs k0 n0 (MQ below (va_Qi (fun (r' : Int32) (_ : Unit) => r' = r) (fun _ t => wOut D cy G M' t) A) args s k0 n0 A) (F0 m 40 ls []) := by
  obtain ⟨hx, hb, hml, hown, hts, hr, hlocks, hK, hA, hG, hsx⟩ := id cx
  intro M v3 v4 H locs ls h w hl
  unfold m_X12_told_40 at h
  obtain ⟨x1, ex1, h⟩ := x_bd h
  refine lv_iinc (v := x1) (lv' := [(4, .int x1), (0, .ref a0), (1, .int c1), (2, .int c2), (3, .int v3)]) hx hb dX12_told_40 hl (k := 4) rfl (by rw [ex1]; rfl) (by decide) rfl (fun ls hl => ?_)
  refine lv_goto (tgt := 5) hx hb dX12_told_43 (by decide) ?_
  exact hkb5 M v3 x1 H locs ls h w (lv_sub hl [1, 2, 3, 4, 0] rfl)
set_option maxHeartbeats 4000000 in
set_option maxRecDepth 100000 in
theorem b_X12_told_5 {p : Program} {e : Env} {s : State} {m : MethodId} {args : Array Value} {below : List Frame} {meth : Method} {c : Code} {A : Nat → Prop} {l : Launch} {D : va_G} {cy : cyS} {G : gS} (cx : cX p s m args meth c cX12_told RX12 5 (some .int) wsX12_told D cy G A) {k0 n0 : Nat} (hkn : k0 ≤ (rmX12_told).cells ∧ n0 ≤ (rmX12_told).slots) {M' : mS} {r : Int32} {a0 : Nat} {c1 : Int32} {c2 : Int32} (hL0 : a0 ∈ gL G) (hK0 : gK G a0 = 11)  : ∀ (n : Nat), ∀ (M : mS) (v3 : Int32) (v4 : Int32) (H : Heap) (locs : List Loc) (ls : Array Slot), m_X12_told_5 G a0 c1 c2 n M v3 v4 = some (M', r) → wd D cy G M A s.heap H locs → lv_has ls 5 [(0, .ref a0), (1, .int c1), (2, .int c2), (3, .int v3), (4, .int v4)] → W p l e rmX12_told s m args below meth c H locs k0 n0 (MQ below (va_Qi (fun (r' : Int32) (_ : Unit) => r' = r) (fun _ t => wOut D cy G M' t) A) args s k0 n0 A) (F0 m 5 ls []) := by
  obtain ⟨hx, hb, hml, hown, hts, hr, hlocks, hK, hA, hG, hsx⟩ := id cx
  intro n
  induction n with
  | zero =>
    intro M v3 v4 H locs ls h w hl
    have h : none = some _ := h
    cases h
  | succ n ih =>
    intro M v3 v4 H locs ls h w hl
    rw [m_X12_told_5] at h
    refine lv_iload hx hb dX12_told_5 (lv_at hl 4 rfl) ?_
    refine lv_iload_n hx hb dX12_told_7 rfl (lv_at hl 1 rfl) ?_
    refine lv_icmp_ge (tgt := 46) hx hb dX12_told_8 (by decide) (fun k1 => ?_) (fun k1 => ?_)
    · have h := x_t h k1
      refine lv_iconst (v := (-1 : Int32)) hx hb dX12_told_46 (by decide) ?_
      exact r_iret cx w h dX12_told_47
    · have h := x_f h k1
      refine lv_aload_n hx hb dX12_told_11 rfl (lv_at hl 0 rfl) ?_
      obtain ⟨q2, eq2, h⟩ := x_rf h
      obtain ⟨hLq2, hKq2⟩ := wt_q hG hL0 hK0 eq2
      have hKq2 : gK G q2 = 12 := hKq2
      refine r_getR (k := 7) cx w hL0 hK0 (by decide) rfl wi_X12_told_X12 (by decide) rfl eq2 (List.mem_of_getElem? (i := 1) rfl) dX12_told_12 ?_
      refine lv_iload hx hb dX12_told_15 (lv_at hl 4 rfl) ?_
      obtain ⟨z3, h⟩ := x_ix h
      refine r_iald cx w hLq2 hKq2 z3 dX12_told_17 ?_
      refine lv_iload_n hx hb dX12_told_18 rfl (lv_at hl 2 rfl) ?_
      refine lv_icmp_eq (tgt := 25) hx hb dX12_told_19 (by decide) (fun k4 => ?_) (fun k4 => ?_)
      · have h := x_t h k4
        refine lv_aload_n hx hb dX12_told_25 rfl (lv_at hl 0 rfl) ?_
        refine lv_iload hx hb dX12_told_26 (lv_at hl 4 rfl) ?_
        refine lv_iload_n hx hb dX12_told_28 rfl (lv_at hl 1 rfl) ?_
        obtain ⟨M5, r6, y7, h⟩ := x_cl h
        refine r_callVi (As := [.int v4, .int c1]) (rest := []) cx w hkn hl.1 (k_X12_isSame hG hL0 hK0 y7) (cwV 2 hts gX12_told_X12_isSame rfl rfl rfl (by decide +kernel) ⟨Nat.le_of_ble_eq_true rfl, Nat.le_of_ble_eq_true rfl⟩) hL0 hK0 (by decide) rfl rfl rfl (Nat.le_of_ble_eq_true rfl) dX12_told_29 (fun H locs w => ?_)
        refine lv_if_eq (tgt := 37) hx hb dX12_told_32 (by decide) (fun k8 => ?_) (fun k8 => ?_)
        · have h := x_t h k8
          obtain ⟨x9, ex9, h⟩ := x_bd h
          refine lv_iinc (v := x9) (lv' := [(3, .int x9), (0, .ref a0), (1, .int c1), (2, .int c2), (4, .int v4)]) hx hb dX12_told_37 hl (k := 3) rfl (by rw [ex9]; rfl) (by decide) rfl (fun ls hl => ?_)
          exact b_X12_told_40 cx hkn hL0 hK0 (hkb5 := ih) M5 x9 v4 H locs ls h w (lv_sub hl [1, 2, 3, 0, 4] rfl)
        · have h := x_f h k8
          refine lv_iload_n hx hb dX12_told_35 rfl (lv_at hl 3 rfl) ?_
          exact r_iret cx w h dX12_told_36
      · have h := x_f h k4
        refine lv_goto (tgt := 40) hx hb dX12_told_22 (by decide) ?_
        exact b_X12_told_40 cx hkn hL0 hK0 (hkb5 := ih) M v3 v4 H locs ls h w (lv_sub hl [0, 1, 2, 3, 4] rfl)
set_option maxHeartbeats 4000000 in
set_option maxRecDepth 100000 in
theorem k_X12_told {l : Launch} {D : va_G} {cy : cyS} {G : gS} {M M' : mS} {r : Int32} {a0 : Nat} {c1 : Int32} {c2 : Int32} (hG : wt G) (hL0 : a0 ∈ gL G) (hK0 : gK G a0 = 11) (h : m_X12_told G M a0 c1 c2 = some (M', r)) : ctI l yX12_told wsX12_told rmX12_told D cy G M [.ref a0, .int c1, .int c2] M' r := by
  unfold m_X12_told at h
  refine ctI_of (cc := cX12_told) (nL := 5) (ret := (some .int)) (lv := [(0, .ref a0), (1, .int c1), (2, .int c2)]) hG (by decide) rfl ⟨rfl, rfl⟩ (Nat.le_of_ble_eq_true rfl) rfl ?_
  intro p e s m args below meth c A ls cx w hl
  obtain ⟨hx, hb, hml, hown, hts, hr, hlocks, hK, hA, -, hsx⟩ := id cx
  have hkn : 0 ≤ (rmX12_told).cells ∧ 0 ≤ (rmX12_told).slots := ⟨Nat.zero_le _, Nat.zero_le _⟩
  refine lv_iconst (v := (0 : Int32)) hx hb dX12_told_0 (by decide) ?_
  refine lv_istore_n (lv' := [(3, .int ((0 : Int32))), (0, .ref a0), (1, .int c1), (2, .int c2)]) hx hb dX12_told_1 rfl hl (by decide) rfl (fun ls hl => ?_)
  refine lv_iconst (v := (0 : Int32)) hx hb dX12_told_2 (by decide) ?_
  refine lv_istore (lv' := [(4, .int ((0 : Int32))), (3, .int ((0 : Int32))), (0, .ref a0), (1, .int c1), (2, .int c2)]) hx hb dX12_told_3 hl (by decide) rfl (fun ls hl => ?_)
  exact b_X12_told_5 cx hkn hL0 hK0 fu M ((0 : Int32)) ((0 : Int32)) s.heap [] ls h w (lv_sub hl [2, 3, 4, 1, 0] rfl)
-- X12_isNew
theorem wi_X12_isNew_X12 : ∀ w ∈ wsX120, w ∈ wsX12_isNew := by decide +kernel
abbrev rmX12_isNew : Room := { frames := 2, cells := 0, slots := 0, locals := 47 }
def m_X12_isNew (G : gS) (M : mS) (a0 : Nat) (c1 : Int32) (c2 : Int32) (c3 : Int32) : Option (mS × Int32) := o_rf (gP G a0 7) (fun q1 => o_ix c1 (gN G q1) (o_cl (m_X12_told G M a0 c1 (mI M q1 (Int32.toNatClampNeg c1))) (fun M3 r4 => (if r4 = (-1 : Int32) then (if c2 = c3 then some (M3, (4 : Int32)) else some (M3, (0 : Int32))) else some (M3, (2 : Int32))))))
set_option maxHeartbeats 4000000 in
set_option maxRecDepth 100000 in
theorem k_X12_isNew {l : Launch} {D : va_G} {cy : cyS} {G : gS} {M M' : mS} {r : Int32} {a0 : Nat} {c1 : Int32} {c2 : Int32} {c3 : Int32} (hG : wt G) (hL0 : a0 ∈ gL G) (hK0 : gK G a0 = 11) (h : m_X12_isNew G M a0 c1 c2 c3 = some (M', r)) : ctI l yX12_isNew wsX12_isNew rmX12_isNew D cy G M [.ref a0, .int c1, .int c2, .int c3] M' r := by
  unfold m_X12_isNew at h
  refine ctI_of (cc := cX12_isNew) (nL := 4) (ret := (some .int)) (lv := [(0, .ref a0), (1, .int c1), (2, .int c2), (3, .int c3)]) hG (by decide) rfl ⟨rfl, rfl⟩ (Nat.le_of_ble_eq_true rfl) rfl ?_
  intro p e s m args below meth c A ls cx w hl
  obtain ⟨hx, hb, hml, hown, hts, hr, hlocks, hK, hA, -, hsx⟩ := id cx
  have hkn : 0 ≤ (rmX12_isNew).cells ∧ 0 ≤ (rmX12_isNew).slots := ⟨Nat.zero_le _, Nat.zero_le _⟩
  refine lv_aload_n hx hb dX12_isNew_0 rfl (lv_at hl 0 rfl) ?_
  refine lv_iload_n hx hb dX12_isNew_1 rfl (lv_at hl 1 rfl) ?_
  refine lv_aload_n hx hb dX12_isNew_2 rfl (lv_at hl 0 rfl) ?_
  obtain ⟨q1, eq1, h⟩ := x_rf h
  obtain ⟨hLq1, hKq1⟩ := wt_q hG hL0 hK0 eq1
  have hKq1 : gK G q1 = 12 := hKq1
  refine r_getR (k := 7) cx w hL0 hK0 (by decide) rfl wi_X12_isNew_X12 (by decide) rfl eq1 (List.mem_of_getElem? (i := 1) rfl) dX12_isNew_3 ?_
  refine lv_iload_n hx hb dX12_isNew_6 rfl (lv_at hl 1 rfl) ?_
  obtain ⟨z2, h⟩ := x_ix h
  refine r_iald cx w hLq1 hKq1 z2 dX12_isNew_7 ?_
  obtain ⟨M3, r4, y5, h⟩ := x_cl h
  refine r_callVi (As := [.int c1, .int ((mI M q1 (Int32.toNatClampNeg c1)))]) (rest := []) cx w hkn hl.1 (k_X12_told hG hL0 hK0 y5) (cwV 2 hts gX12_isNew_X12_told rfl rfl rfl (by decide +kernel) ⟨Nat.le_of_ble_eq_true rfl, Nat.le_of_ble_eq_true rfl⟩) hL0 hK0 (by decide) rfl rfl rfl (Nat.le_of_ble_eq_true rfl) dX12_isNew_8 (fun H locs w => ?_)
  refine lv_iconst (v := (-1 : Int32)) hx hb dX12_isNew_11 (by decide) ?_
  refine lv_icmp_eq (tgt := 19) hx hb dX12_isNew_12 (by decide) (fun k6 => ?_) (fun k6 => ?_)
  · have h := x_t h k6
    refine lv_iload_n hx hb dX12_isNew_19 rfl (lv_at hl 2 rfl) ?_
    refine lv_iload_n hx hb dX12_isNew_20 rfl (lv_at hl 3 rfl) ?_
    refine lv_icmp_ne (tgt := 28) hx hb dX12_isNew_21 (by decide) (fun k7 => ?_) (fun k7 => ?_)
    · have h := x_f h k7
      refine lv_iconst (v := (0 : Int32)) hx hb dX12_isNew_28 (by decide) ?_
      exact r_iret cx w h dX12_isNew_29
    · have h := x_t h k7
      refine lv_iconst (v := (4 : Int32)) hx hb dX12_isNew_24 (by decide) ?_
      refine lv_goto (tgt := 29) hx hb dX12_isNew_25 (by decide) ?_
      exact r_iret cx w h dX12_isNew_29
  · have h := x_f h k6
    refine lv_iconst (v := (2 : Int32)) hx hb dX12_isNew_15 (by decide) ?_
    refine lv_goto (tgt := 29) hx hb dX12_isNew_16 (by decide) ?_
    exact r_iret cx w h dX12_isNew_29
-- X12_newRule
theorem wi_X12_newRule_X10 : ∀ w ∈ wsX100, w ∈ wsX12_newRule := by decide +kernel
theorem wi_X12_newRule_X12 : ∀ w ∈ wsX120, w ∈ wsX12_newRule := by decide +kernel
abbrev rmX12_newRule : Room := { frames := 3, cells := 0, slots := 0, locals := 70 }
def m_X12_newRule_31 (G : gS) (a0 : Nat) (c1 : Int32)  (M : mS) (v2 : Int32) (s0 : Nat) (s1 : Int32) (s2 : Int32) : Option (mS × Int32) := o_wI M s0 0 (s1 + s2) (fun M1 => some (M1, v2))
def m_X12_newRule (G : gS) (M : mS) (a0 : Nat) (c1 : Int32) : Option (mS × Int32) := o_rf (gP G a0 12) (fun q1 => o_cl (m_X12_isNew G M a0 c1 (mI M q1 0) (5 : Int32)) (fun M2 r3 => o_rf (gP G a0 12) (fun q5 => (if r3 = 0 then m_X12_newRule_31 G a0 c1 M2 r3 q5 ((mI M2 q5 0)) ((1 : Int32)) else m_X12_newRule_31 G a0 c1 M2 r3 q5 ((mI M2 q5 0)) ((0 : Int32))))))
set_option maxHeartbeats 4000000 in
set_option maxRecDepth 100000 in
theorem b_X12_newRule_31 {p : Program} {e : Env} {s : State} {m : MethodId} {args : Array Value} {below : List Frame} {meth : Method} {c : Code} {A : Nat → Prop} {l : Launch} {D : va_G} {cy : cyS} {G : gS} (cx : cX p s m args meth c cX12_newRule RX12 3 (some .int) wsX12_newRule D cy G A) {k0 n0 : Nat} (hkn : k0 ≤ (rmX12_newRule).cells ∧ n0 ≤ (rmX12_newRule).slots) {M' : mS} {r : Int32} {a0 : Nat} {c1 : Int32} (hL0 : a0 ∈ gL G) (hK0 : gK G a0 = 11)  : ∀ (M : mS) (v2 : Int32) (s0 : Nat) (s1 : Int32) (s2 : Int32) (H : Heap) (locs : List Loc) (ls : Array Slot), s0 ∈ gL G → gK G s0 = 9 → m_X12_newRule_31 G a0 c1 M v2 s0 s1 s2 = some (M', r) → wd D cy G M A s.heap H locs → lv_has ls 3 [(2, .int v2)] → W p l e rmX12_newRule s m args below meth c H locs k0 n0 (MQ below (va_Qi (fun (r' : Int32) (_ : Unit) => r' = r) (fun _ t => wOut D cy G M' t) A) args s k0 n0 A) (F0 m 31 ls [.int s2, .int s1, .ref s0]) := by
  obtain ⟨hx, hb, hml, hown, hts, hr, hlocks, hK, hA, hG, hsx⟩ := id cx
  intro M v2 s0 s1 s2 H locs ls sL0 sK0 h w hl
  unfold m_X12_newRule_31 at h
  refine lv_iadd hx hb dX12_newRule_31 ?_
  obtain ⟨M1, eM1, h⟩ := x_wI h
  refine r_putIN (k := 0) (ty := .int) cx w tyX10 tyX10_ok nmX10 sL0 sK0 (by decide) rfl wi_X12_newRule_X10 (by decide) rfl rfl rfl rfl st_9_0 (ln_9 _ _ (by decide)) (nwF cx (q := (RX12, 220, "FlagAntsModel$Plan", "rules", "I", "FlagAntsModel")) (List.mem_of_getElem? (i := 8) rfl)) dX12_newRule_32 eM1 (fun H locs w => ?_)
  refine lv_iload_n hx hb dX12_newRule_35 rfl (lv_at hl 0 rfl) ?_
  exact r_iret cx w h dX12_newRule_36
set_option maxHeartbeats 4000000 in
set_option maxRecDepth 100000 in
theorem k_X12_newRule {l : Launch} {D : va_G} {cy : cyS} {G : gS} {M M' : mS} {r : Int32} {a0 : Nat} {c1 : Int32} (hG : wt G) (hL0 : a0 ∈ gL G) (hK0 : gK G a0 = 11) (h : m_X12_newRule G M a0 c1 = some (M', r)) : ctI l yX12_newRule wsX12_newRule rmX12_newRule D cy G M [.ref a0, .int c1] M' r := by
  unfold m_X12_newRule at h
  refine ctI_of (cc := cX12_newRule) (nL := 3) (ret := (some .int)) (lv := [(0, .ref a0), (1, .int c1)]) hG (by decide) rfl ⟨rfl, rfl⟩ (Nat.le_of_ble_eq_true rfl) rfl ?_
  intro p e s m args below meth c A ls cx w hl
  obtain ⟨hx, hb, hml, hown, hts, hr, hlocks, hK, hA, -, hsx⟩ := id cx
  have hkn : 0 ≤ (rmX12_newRule).cells ∧ 0 ≤ (rmX12_newRule).slots := ⟨Nat.zero_le _, Nat.zero_le _⟩
  refine lv_aload_n hx hb dX12_newRule_0 rfl (lv_at hl 0 rfl) ?_
  refine lv_iload_n hx hb dX12_newRule_1 rfl (lv_at hl 1 rfl) ?_
  refine lv_aload_n hx hb dX12_newRule_2 rfl (lv_at hl 0 rfl) ?_
  obtain ⟨q1, eq1, h⟩ := x_rf h
  obtain ⟨hLq1, hKq1⟩ := wt_q hG hL0 hK0 eq1
  have hKq1 : gK G q1 = 9 := hKq1
  refine r_getR (k := 12) cx w hL0 hK0 (by decide) rfl wi_X12_newRule_X12 (by decide) rfl eq1 (List.mem_of_getElem? (i := 1) rfl) dX12_newRule_3 ?_
  refine r_getIN (k := 0) (v := .int (mI M q1 0)) cx w hLq1 hKq1 (by decide) rfl wi_X12_newRule_X10 (by decide) rfl (nwF cx (q := (RX12, 220, "FlagAntsModel$Plan", "rules", "I", "FlagAntsModel")) (List.mem_of_getElem? (i := 8) rfl)) dX12_newRule_6 ?_
  refine lv_iconst (v := (5 : Int32)) hx hb dX12_newRule_9 (by decide) ?_
  obtain ⟨M2, r3, y4, h⟩ := x_cl h
  refine r_callVi (As := [.int c1, .int ((mI M q1 0)), .int ((5 : Int32))]) (rest := []) cx w hkn hl.1 (k_X12_isNew hG hL0 hK0 y4) (cwV 3 hts gX12_newRule_X12_isNew rfl rfl rfl (by decide +kernel) ⟨Nat.le_of_ble_eq_true rfl, Nat.le_of_ble_eq_true rfl⟩) hL0 hK0 (by decide) rfl rfl rfl (Nat.le_of_ble_eq_true rfl) dX12_newRule_10 (fun H locs w => ?_)
  refine lv_istore_n (lv' := [(2, .int r3), (0, .ref a0), (1, .int c1)]) hx hb dX12_newRule_13 rfl hl (by decide) rfl (fun ls hl => ?_)
  refine lv_aload_n hx hb dX12_newRule_14 rfl (lv_at hl 1 rfl) ?_
  obtain ⟨q5, eq5, h⟩ := x_rf h
  obtain ⟨hLq5, hKq5⟩ := wt_q hG hL0 hK0 eq5
  have hKq5 : gK G q5 = 9 := hKq5
  refine r_getR (k := 12) cx w hL0 hK0 (by decide) rfl wi_X12_newRule_X12 (by decide) rfl eq5 (List.mem_of_getElem? (i := 1) rfl) dX12_newRule_15 ?_
  refine lv_dup hx hb dX12_newRule_18 rfl ?_
  refine r_getIN (k := 0) (v := .int (mI M2 q5 0)) cx w hLq5 hKq5 (by decide) rfl wi_X12_newRule_X10 (by decide) rfl (nwF cx (q := (RX12, 220, "FlagAntsModel$Plan", "rules", "I", "FlagAntsModel")) (List.mem_of_getElem? (i := 8) rfl)) dX12_newRule_19 ?_
  refine lv_iload_n hx hb dX12_newRule_22 rfl (lv_at hl 0 rfl) ?_
  refine lv_if_ne (tgt := 30) hx hb dX12_newRule_23 (by decide) (fun k6 => ?_) (fun k6 => ?_)
  · have h := x_f h k6
    refine lv_iconst (v := (0 : Int32)) hx hb dX12_newRule_30 (by decide) ?_
    exact b_X12_newRule_31 cx hkn hL0 hK0 M2 r3 q5 ((mI M2 q5 0)) ((0 : Int32)) H locs ls hLq5 hKq5 h w (lv_sub hl [0] rfl)
  · have h := x_t h k6
    refine lv_iconst (v := (1 : Int32)) hx hb dX12_newRule_26 (by decide) ?_
    refine lv_goto (tgt := 31) hx hb dX12_newRule_27 (by decide) ?_
    exact b_X12_newRule_31 cx hkn hL0 hK0 M2 r3 q5 ((mI M2 q5 0)) ((1 : Int32)) H locs ls hLq5 hKq5 h w (lv_sub hl [0] rfl)
-- X12_newTurn
theorem wi_X12_newTurn_X10 : ∀ w ∈ wsX100, w ∈ wsX12_newTurn := by decide +kernel
theorem wi_X12_newTurn_X12 : ∀ w ∈ wsX120, w ∈ wsX12_newTurn := by decide +kernel
abbrev rmX12_newTurn : Room := { frames := 0, cells := 0, slots := 0, locals := 0 }
def m_X12_newTurn (G : gS) (M : mS) (a0 : Nat) (c1 : Int32) : Option (mS × Int32) := o_rf (gP G a0 12) (fun q1 => o_bd (((mI M q1 0) - (1 : Int32))) (fun x2 => o_rf (gP G a0 12) (fun q3 => o_rf (gP G q3 1) (fun q4 => o_ix x2 (gN G q4) ((if (mI M q4 (Int32.toNatClampNeg x2)) = (6 : Int32) then some (M, (4 : Int32)) else o_rf (gP G a0 12) (fun q7 => o_rf (gP G q7 2) (fun q8 => o_rf (gP G a0 12) (fun q9 => o_rf (gP G q9 1) (fun q10 => o_ix x2 (gN G q10) (o_rf (gP G a0 4) (fun q12 => o_ix c1 (gN G q12) (o_ix (((6 : Int32) * x2) + (mI M q10 (Int32.toNatClampNeg x2))) (gN G q8) (o_wI M q8 (Int32.toNatClampNeg (((6 : Int32) * x2) + (mI M q10 (Int32.toNatClampNeg x2)))) ((mI M q12 (Int32.toNatClampNeg c1)) - (1 : Int32)) (fun M15 => o_rf (gP G a0 12) (fun q16 => o_rf (gP G q16 1) (fun q17 => o_ix x2 (gN G q17) (o_ix x2 (gN G q17) (o_wI M15 q17 (Int32.toNatClampNeg x2) ((mI M15 q17 (Int32.toNatClampNeg x2)) + (1 : Int32)) (fun M20 => some (M20, (0 : Int32))))))))))))))))))))))
set_option maxHeartbeats 4000000 in
set_option maxRecDepth 100000 in
theorem k_X12_newTurn {l : Launch} {D : va_G} {cy : cyS} {G : gS} {M M' : mS} {r : Int32} {a0 : Nat} {c1 : Int32} (hG : wt G) (hL0 : a0 ∈ gL G) (hK0 : gK G a0 = 11) (h : m_X12_newTurn G M a0 c1 = some (M', r)) : ctI l yX12_newTurn wsX12_newTurn rmX12_newTurn D cy G M [.ref a0, .int c1] M' r := by
  unfold m_X12_newTurn at h
  refine ctI_of (cc := cX12_newTurn) (nL := 3) (ret := (some .int)) (lv := [(0, .ref a0), (1, .int c1)]) hG (by decide) rfl ⟨rfl, rfl⟩ (Nat.le_of_ble_eq_true rfl) rfl ?_
  intro p e s m args below meth c A ls cx w hl
  obtain ⟨hx, hb, hml, hown, hts, hr, hlocks, hK, hA, -, hsx⟩ := id cx
  have hkn : 0 ≤ (rmX12_newTurn).cells ∧ 0 ≤ (rmX12_newTurn).slots := ⟨Nat.zero_le _, Nat.zero_le _⟩
  refine lv_aload_n hx hb dX12_newTurn_0 rfl (lv_at hl 0 rfl) ?_
  obtain ⟨q1, eq1, h⟩ := x_rf h
  obtain ⟨hLq1, hKq1⟩ := wt_q hG hL0 hK0 eq1
  have hKq1 : gK G q1 = 9 := hKq1
  refine r_getR (k := 12) cx w hL0 hK0 (by decide) rfl wi_X12_newTurn_X12 (by decide) rfl eq1 (List.mem_of_getElem? (i := 1) rfl) dX12_newTurn_1 ?_
  refine r_getIN (k := 0) (v := .int (mI M q1 0)) cx w hLq1 hKq1 (by decide) rfl wi_X12_newTurn_X10 (by decide) rfl (nwF cx (q := (RX12, 220, "FlagAntsModel$Plan", "rules", "I", "FlagAntsModel")) (List.mem_of_getElem? (i := 8) rfl)) dX12_newTurn_4 ?_
  refine lv_iconst (v := (1 : Int32)) hx hb dX12_newTurn_7 (by decide) ?_
  refine lv_isub hx hb dX12_newTurn_8 ?_
  obtain ⟨x2, ex2, h⟩ := x_bd h
  refine r_topI ex2 ?_
  refine lv_istore_n (lv' := [(2, .int x2), (0, .ref a0), (1, .int c1)]) hx hb dX12_newTurn_9 rfl hl (by decide) rfl (fun ls hl => ?_)
  refine lv_aload_n hx hb dX12_newTurn_10 rfl (lv_at hl 1 rfl) ?_
  obtain ⟨q3, eq3, h⟩ := x_rf h
  obtain ⟨hLq3, hKq3⟩ := wt_q hG hL0 hK0 eq3
  have hKq3 : gK G q3 = 9 := hKq3
  refine r_getR (k := 12) cx w hL0 hK0 (by decide) rfl wi_X12_newTurn_X12 (by decide) rfl eq3 (List.mem_of_getElem? (i := 1) rfl) dX12_newTurn_11 ?_
  obtain ⟨q4, eq4, h⟩ := x_rf h
  obtain ⟨hLq4, hKq4⟩ := wt_q hG hLq3 hKq3 eq4
  have hKq4 : gK G q4 = 12 := hKq4
  refine r_getRN (k := 1) cx w hLq3 hKq3 (by decide) rfl wi_X12_newTurn_X10 (by decide) rfl eq4 (nwF cx (q := (RX12, 227, "FlagAntsModel$Plan", "turns", "[I", "FlagAntsModel")) (List.mem_of_getElem? (i := 9) rfl)) dX12_newTurn_14 ?_
  refine lv_iload_n hx hb dX12_newTurn_17 rfl (lv_at hl 0 rfl) ?_
  obtain ⟨z5, h⟩ := x_ix h
  refine r_iald cx w hLq4 hKq4 z5 dX12_newTurn_18 ?_
  refine lv_bipush (v := (6 : Int32)) hx hb dX12_newTurn_19 (by decide) ?_
  refine lv_icmp_ne (tgt := 26) hx hb dX12_newTurn_21 (by decide) (fun k6 => ?_) (fun k6 => ?_)
  · have h := x_f h k6
    refine lv_aload_n hx hb dX12_newTurn_26 rfl (lv_at hl 1 rfl) ?_
    obtain ⟨q7, eq7, h⟩ := x_rf h
    obtain ⟨hLq7, hKq7⟩ := wt_q hG hL0 hK0 eq7
    have hKq7 : gK G q7 = 9 := hKq7
    refine r_getR (k := 12) cx w hL0 hK0 (by decide) rfl wi_X12_newTurn_X12 (by decide) rfl eq7 (List.mem_of_getElem? (i := 1) rfl) dX12_newTurn_27 ?_
    obtain ⟨q8, eq8, h⟩ := x_rf h
    obtain ⟨hLq8, hKq8⟩ := wt_q hG hLq7 hKq7 eq8
    have hKq8 : gK G q8 = 12 := hKq8
    refine r_getRN (k := 2) cx w hLq7 hKq7 (by decide) rfl wi_X12_newTurn_X10 (by decide) rfl eq8 (nwF cx (q := (RX12, 230, "FlagAntsModel$Plan", "turn", "[I", "FlagAntsModel")) (List.mem_of_getElem? (i := 10) rfl)) dX12_newTurn_30 ?_
    refine lv_bipush (v := (6 : Int32)) hx hb dX12_newTurn_33 (by decide) ?_
    refine lv_iload_n hx hb dX12_newTurn_35 rfl (lv_at hl 0 rfl) ?_
    refine lv_imul hx hb dX12_newTurn_36 ?_
    refine lv_aload_n hx hb dX12_newTurn_37 rfl (lv_at hl 1 rfl) ?_
    obtain ⟨q9, eq9, h⟩ := x_rf h
    obtain ⟨hLq9, hKq9⟩ := wt_q hG hL0 hK0 eq9
    have hKq9 : gK G q9 = 9 := hKq9
    refine r_getR (k := 12) cx w hL0 hK0 (by decide) rfl wi_X12_newTurn_X12 (by decide) rfl eq9 (List.mem_of_getElem? (i := 1) rfl) dX12_newTurn_38 ?_
    obtain ⟨q10, eq10, h⟩ := x_rf h
    obtain ⟨hLq10, hKq10⟩ := wt_q hG hLq9 hKq9 eq10
    have hKq10 : gK G q10 = 12 := hKq10
    refine r_getRN (k := 1) cx w hLq9 hKq9 (by decide) rfl wi_X12_newTurn_X10 (by decide) rfl eq10 (nwF cx (q := (RX12, 227, "FlagAntsModel$Plan", "turns", "[I", "FlagAntsModel")) (List.mem_of_getElem? (i := 9) rfl)) dX12_newTurn_41 ?_
    refine lv_iload_n hx hb dX12_newTurn_44 rfl (lv_at hl 0 rfl) ?_
    obtain ⟨z11, h⟩ := x_ix h
    refine r_iald cx w hLq10 hKq10 z11 dX12_newTurn_45 ?_
    refine lv_iadd hx hb dX12_newTurn_46 ?_
    refine lv_aload_n hx hb dX12_newTurn_47 rfl (lv_at hl 1 rfl) ?_
    obtain ⟨q12, eq12, h⟩ := x_rf h
    obtain ⟨hLq12, hKq12⟩ := wt_q hG hL0 hK0 eq12
    have hKq12 : gK G q12 = 12 := hKq12
    refine r_getR (k := 4) cx w hL0 hK0 (by decide) rfl wi_X12_newTurn_X12 (by decide) rfl eq12 (List.mem_of_getElem? (i := 2) rfl) dX12_newTurn_48 ?_
    refine lv_iload_n hx hb dX12_newTurn_51 rfl (lv_at hl 2 rfl) ?_
    obtain ⟨z13, h⟩ := x_ix h
    refine r_iald cx w hLq12 hKq12 z13 dX12_newTurn_52 ?_
    refine lv_iconst (v := (1 : Int32)) hx hb dX12_newTurn_53 (by decide) ?_
    refine lv_isub hx hb dX12_newTurn_54 ?_
    obtain ⟨z14, h⟩ := x_ix h
    obtain ⟨M15, eM15, h⟩ := x_wI h
    refine r_iast cx w hLq8 hKq8 z14 dX12_newTurn_55 eM15 (fun H locs w => ?_)
    refine lv_aload_n hx hb dX12_newTurn_56 rfl (lv_at hl 1 rfl) ?_
    obtain ⟨q16, eq16, h⟩ := x_rf h
    obtain ⟨hLq16, hKq16⟩ := wt_q hG hL0 hK0 eq16
    have hKq16 : gK G q16 = 9 := hKq16
    refine r_getR (k := 12) cx w hL0 hK0 (by decide) rfl wi_X12_newTurn_X12 (by decide) rfl eq16 (List.mem_of_getElem? (i := 1) rfl) dX12_newTurn_57 ?_
    obtain ⟨q17, eq17, h⟩ := x_rf h
    obtain ⟨hLq17, hKq17⟩ := wt_q hG hLq16 hKq16 eq17
    have hKq17 : gK G q17 = 12 := hKq17
    refine r_getRN (k := 1) cx w hLq16 hKq16 (by decide) rfl wi_X12_newTurn_X10 (by decide) rfl eq17 (nwF cx (q := (RX12, 227, "FlagAntsModel$Plan", "turns", "[I", "FlagAntsModel")) (List.mem_of_getElem? (i := 9) rfl)) dX12_newTurn_60 ?_
    refine lv_iload_n hx hb dX12_newTurn_63 rfl (lv_at hl 0 rfl) ?_
    refine lv_dup2_11 hx hb dX12_newTurn_64 rfl rfl ?_
    obtain ⟨z18, h⟩ := x_ix h
    refine r_iald cx w hLq17 hKq17 z18 dX12_newTurn_65 ?_
    refine lv_iconst (v := (1 : Int32)) hx hb dX12_newTurn_66 (by decide) ?_
    refine lv_iadd hx hb dX12_newTurn_67 ?_
    obtain ⟨z19, h⟩ := x_ix h
    obtain ⟨M20, eM20, h⟩ := x_wI h
    refine r_iast cx w hLq17 hKq17 z19 dX12_newTurn_68 eM20 (fun H locs w => ?_)
    refine lv_iconst (v := (0 : Int32)) hx hb dX12_newTurn_69 (by decide) ?_
    exact r_iret cx w h dX12_newTurn_70
  · have h := x_t h k6
    refine lv_iconst (v := (4 : Int32)) hx hb dX12_newTurn_24 (by decide) ?_
    exact r_iret cx w h dX12_newTurn_25
-- X12_newAnt
theorem wi_X12_newAnt_X10 : ∀ w ∈ wsX100, w ∈ wsX12_newAnt := by decide +kernel
theorem wi_X12_newAnt_X12 : ∀ w ∈ wsX120, w ∈ wsX12_newAnt := by decide +kernel
abbrev rmX12_newAnt : Room := { frames := 3, cells := 0, slots := 0, locals := 70 }
def m_X12_newAnt_32 (G : gS) (a0 : Nat) (c1 : Int32)  (M : mS) (v2 : Int32) (s0 : Nat) (s1 : Int32) (s2 : Int32) : Option (mS × Int32) := o_wI M s0 3 (s1 + s2) (fun M1 => o_rf (gP G a0 12) (fun q2 => o_wI M1 q2 4 (0 : Int32) (fun M3 => some (M3, v2))))
def m_X12_newAnt (G : gS) (M : mS) (a0 : Nat) (c1 : Int32) : Option (mS × Int32) := o_rf (gP G a0 12) (fun q1 => o_cl (m_X12_isNew G M a0 c1 (mI M q1 3) (6 : Int32)) (fun M2 r3 => o_rf (gP G a0 12) (fun q5 => (if r3 = 0 then m_X12_newAnt_32 G a0 c1 M2 r3 q5 ((mI M2 q5 3)) ((1 : Int32)) else m_X12_newAnt_32 G a0 c1 M2 r3 q5 ((mI M2 q5 3)) ((0 : Int32))))))
set_option maxHeartbeats 4000000 in
set_option maxRecDepth 100000 in
theorem b_X12_newAnt_32 {p : Program} {e : Env} {s : State} {m : MethodId} {args : Array Value} {below : List Frame} {meth : Method} {c : Code} {A : Nat → Prop} {l : Launch} {D : va_G} {cy : cyS} {G : gS} (cx : cX p s m args meth c cX12_newAnt RX12 3 (some .int) wsX12_newAnt D cy G A) {k0 n0 : Nat} (hkn : k0 ≤ (rmX12_newAnt).cells ∧ n0 ≤ (rmX12_newAnt).slots) {M' : mS} {r : Int32} {a0 : Nat} {c1 : Int32} (hL0 : a0 ∈ gL G) (hK0 : gK G a0 = 11)  : ∀ (M : mS) (v2 : Int32) (s0 : Nat) (s1 : Int32) (s2 : Int32) (H : Heap) (locs : List Loc) (ls : Array Slot), s0 ∈ gL G → gK G s0 = 9 → m_X12_newAnt_32 G a0 c1 M v2 s0 s1 s2 = some (M', r) → wd D cy G M A s.heap H locs → lv_has ls 3 [(0, .ref a0), (2, .int v2)] → W p l e rmX12_newAnt s m args below meth c H locs k0 n0 (MQ below (va_Qi (fun (r' : Int32) (_ : Unit) => r' = r) (fun _ t => wOut D cy G M' t) A) args s k0 n0 A) (F0 m 32 ls [.int s2, .int s1, .ref s0]) := by
  obtain ⟨hx, hb, hml, hown, hts, hr, hlocks, hK, hA, hG, hsx⟩ := id cx
  intro M v2 s0 s1 s2 H locs ls sL0 sK0 h w hl
  unfold m_X12_newAnt_32 at h
  refine lv_iadd hx hb dX12_newAnt_32 ?_
  obtain ⟨M1, eM1, h⟩ := x_wI h
  refine r_putIN (k := 3) (ty := .int) cx w tyX10 tyX10_ok nmX10 sL0 sK0 (by decide) rfl wi_X12_newAnt_X10 (by decide) rfl rfl rfl rfl st_9_3 (ln_9 _ _ (by decide)) (nwF cx (q := (RX12, 64, "FlagAntsModel$Plan", "ants", "I", "FlagAntsModel")) (List.mem_of_getElem? (i := 0) rfl)) dX12_newAnt_33 eM1 (fun H locs w => ?_)
  refine lv_aload_n hx hb dX12_newAnt_36 rfl (lv_at hl 0 rfl) ?_
  obtain ⟨q2, eq2, h⟩ := x_rf h
  obtain ⟨hLq2, hKq2⟩ := wt_q hG hL0 hK0 eq2
  have hKq2 : gK G q2 = 9 := hKq2
  refine r_getR (k := 12) cx w hL0 hK0 (by decide) rfl wi_X12_newAnt_X12 (by decide) rfl eq2 (List.mem_of_getElem? (i := 1) rfl) dX12_newAnt_37 ?_
  refine lv_iconst (v := (0 : Int32)) hx hb dX12_newAnt_40 (by decide) ?_
  obtain ⟨M3, eM3, h⟩ := x_wI h
  refine r_putIN (k := 4) (ty := .int) cx w tyX10 tyX10_ok nmX10 hLq2 hKq2 (by decide) rfl wi_X12_newAnt_X10 (by decide) rfl rfl rfl rfl st_9_4 (ln_9 _ _ (by decide)) (nwF cx (q := (RX12, 233, "FlagAntsModel$Plan", "told", "I", "FlagAntsModel")) (List.mem_of_getElem? (i := 11) rfl)) dX12_newAnt_41 eM3 (fun H locs w => ?_)
  refine lv_iload_n hx hb dX12_newAnt_44 rfl (lv_at hl 1 rfl) ?_
  exact r_iret cx w h dX12_newAnt_45
set_option maxHeartbeats 4000000 in
set_option maxRecDepth 100000 in
theorem k_X12_newAnt {l : Launch} {D : va_G} {cy : cyS} {G : gS} {M M' : mS} {r : Int32} {a0 : Nat} {c1 : Int32} (hG : wt G) (hL0 : a0 ∈ gL G) (hK0 : gK G a0 = 11) (h : m_X12_newAnt G M a0 c1 = some (M', r)) : ctI l yX12_newAnt wsX12_newAnt rmX12_newAnt D cy G M [.ref a0, .int c1] M' r := by
  unfold m_X12_newAnt at h
  refine ctI_of (cc := cX12_newAnt) (nL := 3) (ret := (some .int)) (lv := [(0, .ref a0), (1, .int c1)]) hG (by decide) rfl ⟨rfl, rfl⟩ (Nat.le_of_ble_eq_true rfl) rfl ?_
  intro p e s m args below meth c A ls cx w hl
  obtain ⟨hx, hb, hml, hown, hts, hr, hlocks, hK, hA, -, hsx⟩ := id cx
  have hkn : 0 ≤ (rmX12_newAnt).cells ∧ 0 ≤ (rmX12_newAnt).slots := ⟨Nat.zero_le _, Nat.zero_le _⟩
  refine lv_aload_n hx hb dX12_newAnt_0 rfl (lv_at hl 0 rfl) ?_
  refine lv_iload_n hx hb dX12_newAnt_1 rfl (lv_at hl 1 rfl) ?_
  refine lv_aload_n hx hb dX12_newAnt_2 rfl (lv_at hl 0 rfl) ?_
  obtain ⟨q1, eq1, h⟩ := x_rf h
  obtain ⟨hLq1, hKq1⟩ := wt_q hG hL0 hK0 eq1
  have hKq1 : gK G q1 = 9 := hKq1
  refine r_getR (k := 12) cx w hL0 hK0 (by decide) rfl wi_X12_newAnt_X12 (by decide) rfl eq1 (List.mem_of_getElem? (i := 1) rfl) dX12_newAnt_3 ?_
  refine r_getIN (k := 3) (v := .int (mI M q1 3)) cx w hLq1 hKq1 (by decide) rfl wi_X12_newAnt_X10 (by decide) rfl (nwF cx (q := (RX12, 64, "FlagAntsModel$Plan", "ants", "I", "FlagAntsModel")) (List.mem_of_getElem? (i := 0) rfl)) dX12_newAnt_6 ?_
  refine lv_bipush (v := (6 : Int32)) hx hb dX12_newAnt_9 (by decide) ?_
  obtain ⟨M2, r3, y4, h⟩ := x_cl h
  refine r_callVi (As := [.int c1, .int ((mI M q1 3)), .int ((6 : Int32))]) (rest := []) cx w hkn hl.1 (k_X12_isNew hG hL0 hK0 y4) (cwV 3 hts gX12_newAnt_X12_isNew rfl rfl rfl (by decide +kernel) ⟨Nat.le_of_ble_eq_true rfl, Nat.le_of_ble_eq_true rfl⟩) hL0 hK0 (by decide) rfl rfl rfl (Nat.le_of_ble_eq_true rfl) dX12_newAnt_11 (fun H locs w => ?_)
  refine lv_istore_n (lv' := [(2, .int r3), (0, .ref a0), (1, .int c1)]) hx hb dX12_newAnt_14 rfl hl (by decide) rfl (fun ls hl => ?_)
  refine lv_aload_n hx hb dX12_newAnt_15 rfl (lv_at hl 1 rfl) ?_
  obtain ⟨q5, eq5, h⟩ := x_rf h
  obtain ⟨hLq5, hKq5⟩ := wt_q hG hL0 hK0 eq5
  have hKq5 : gK G q5 = 9 := hKq5
  refine r_getR (k := 12) cx w hL0 hK0 (by decide) rfl wi_X12_newAnt_X12 (by decide) rfl eq5 (List.mem_of_getElem? (i := 1) rfl) dX12_newAnt_16 ?_
  refine lv_dup hx hb dX12_newAnt_19 rfl ?_
  refine r_getIN (k := 3) (v := .int (mI M2 q5 3)) cx w hLq5 hKq5 (by decide) rfl wi_X12_newAnt_X10 (by decide) rfl (nwF cx (q := (RX12, 64, "FlagAntsModel$Plan", "ants", "I", "FlagAntsModel")) (List.mem_of_getElem? (i := 0) rfl)) dX12_newAnt_20 ?_
  refine lv_iload_n hx hb dX12_newAnt_23 rfl (lv_at hl 0 rfl) ?_
  refine lv_if_ne (tgt := 31) hx hb dX12_newAnt_24 (by decide) (fun k6 => ?_) (fun k6 => ?_)
  · have h := x_f h k6
    refine lv_iconst (v := (0 : Int32)) hx hb dX12_newAnt_31 (by decide) ?_
    exact b_X12_newAnt_32 cx hkn hL0 hK0 M2 r3 q5 ((mI M2 q5 3)) ((0 : Int32)) H locs ls hLq5 hKq5 h w (lv_sub hl [1, 0] rfl)
  · have h := x_t h k6
    refine lv_iconst (v := (1 : Int32)) hx hb dX12_newAnt_27 (by decide) ?_
    refine lv_goto (tgt := 32) hx hb dX12_newAnt_28 (by decide) ?_
    exact b_X12_newAnt_32 cx hkn hL0 hK0 M2 r3 q5 ((mI M2 q5 3)) ((1 : Int32)) H locs ls hLq5 hKq5 h w (lv_sub hl [1, 0] rfl)
-- X12_look
theorem wi_X12_look_X12 : ∀ w ∈ wsX120, w ∈ wsX12_look := by decide +kernel
abbrev rmX12_look : Room := { frames := 2, cells := 0, slots := 0, locals := 47 }
def m_X12_look (G : gS) (M : mS) (a0 : Nat) (c1 : Int32) (c2 : Int32) : Option (mS × Int32) := o_rf (gP G a0 8) (fun q1 => o_cl (m_X12_told G M a0 c1 c2) (fun M2 r3 => o_ix c1 (gN G q1) (o_wI M2 q1 (Int32.toNatClampNeg c1) r3 (fun M6 => o_rf (gP G a0 8) (fun q7 => o_ix c1 (gN G q7) ((if (mI M6 q7 (Int32.toNatClampNeg c1)) = (-1 : Int32) then some (M6, (3 : Int32)) else some (M6, (0 : Int32)))))))))
set_option maxHeartbeats 4000000 in
set_option maxRecDepth 100000 in
theorem k_X12_look {l : Launch} {D : va_G} {cy : cyS} {G : gS} {M M' : mS} {r : Int32} {a0 : Nat} {c1 : Int32} {c2 : Int32} (hG : wt G) (hL0 : a0 ∈ gL G) (hK0 : gK G a0 = 11) (h : m_X12_look G M a0 c1 c2 = some (M', r)) : ctI l yX12_look wsX12_look rmX12_look D cy G M [.ref a0, .int c1, .int c2] M' r := by
  unfold m_X12_look at h
  refine ctI_of (cc := cX12_look) (nL := 3) (ret := (some .int)) (lv := [(0, .ref a0), (1, .int c1), (2, .int c2)]) hG (by decide) rfl ⟨rfl, rfl⟩ (Nat.le_of_ble_eq_true rfl) rfl ?_
  intro p e s m args below meth c A ls cx w hl
  obtain ⟨hx, hb, hml, hown, hts, hr, hlocks, hK, hA, -, hsx⟩ := id cx
  have hkn : 0 ≤ (rmX12_look).cells ∧ 0 ≤ (rmX12_look).slots := ⟨Nat.zero_le _, Nat.zero_le _⟩
  refine lv_aload_n hx hb dX12_look_0 rfl (lv_at hl 0 rfl) ?_
  obtain ⟨q1, eq1, h⟩ := x_rf h
  obtain ⟨hLq1, hKq1⟩ := wt_q hG hL0 hK0 eq1
  have hKq1 : gK G q1 = 12 := hKq1
  refine r_getR (k := 8) cx w hL0 hK0 (by decide) rfl wi_X12_look_X12 (by decide) rfl eq1 (List.mem_of_getElem? (i := 1) rfl) dX12_look_1 ?_
  refine lv_iload_n hx hb dX12_look_4 rfl (lv_at hl 1 rfl) ?_
  refine lv_aload_n hx hb dX12_look_5 rfl (lv_at hl 0 rfl) ?_
  refine lv_iload_n hx hb dX12_look_6 rfl (lv_at hl 1 rfl) ?_
  refine lv_iload_n hx hb dX12_look_7 rfl (lv_at hl 2 rfl) ?_
  obtain ⟨M2, r3, y4, h⟩ := x_cl h
  refine r_callVi (As := [.int c1, .int c2]) (rest := [.int c1, .ref q1]) cx w hkn hl.1 (k_X12_told hG hL0 hK0 y4) (cwV 2 hts gX12_look_X12_told rfl rfl rfl (by decide +kernel) ⟨Nat.le_of_ble_eq_true rfl, Nat.le_of_ble_eq_true rfl⟩) hL0 hK0 (by decide) rfl rfl rfl (Nat.le_of_ble_eq_true rfl) dX12_look_8 (fun H locs w => ?_)
  obtain ⟨z5, h⟩ := x_ix h
  obtain ⟨M6, eM6, h⟩ := x_wI h
  refine r_iast cx w hLq1 hKq1 z5 dX12_look_11 eM6 (fun H locs w => ?_)
  refine lv_aload_n hx hb dX12_look_12 rfl (lv_at hl 0 rfl) ?_
  obtain ⟨q7, eq7, h⟩ := x_rf h
  obtain ⟨hLq7, hKq7⟩ := wt_q hG hL0 hK0 eq7
  have hKq7 : gK G q7 = 12 := hKq7
  refine r_getR (k := 8) cx w hL0 hK0 (by decide) rfl wi_X12_look_X12 (by decide) rfl eq7 (List.mem_of_getElem? (i := 1) rfl) dX12_look_13 ?_
  refine lv_iload_n hx hb dX12_look_16 rfl (lv_at hl 1 rfl) ?_
  obtain ⟨z8, h⟩ := x_ix h
  refine r_iald cx w hLq7 hKq7 z8 dX12_look_17 ?_
  refine lv_iconst (v := (-1 : Int32)) hx hb dX12_look_18 (by decide) ?_
  refine lv_icmp_ne (tgt := 26) hx hb dX12_look_19 (by decide) (fun k9 => ?_) (fun k9 => ?_)
  · have h := x_f h k9
    refine lv_iconst (v := (0 : Int32)) hx hb dX12_look_26 (by decide) ?_
    exact r_iret cx w h dX12_look_27
  · have h := x_t h k9
    refine lv_iconst (v := (3 : Int32)) hx hb dX12_look_22 (by decide) ?_
    refine lv_goto (tgt := 27) hx hb dX12_look_23 (by decide) ?_
    exact r_iret cx w h dX12_look_27
-- X12_named
theorem wi_X12_named_X12 : ∀ w ∈ wsX120, w ∈ wsX12_named := by decide +kernel
abbrev rmX12_named : Room := { frames := 3, cells := 0, slots := 0, locals := 69 }
def m_X12_named (G : gS) (M : mS) (a0 : Nat) (c1 : Int32) (a2 : Nat) (c3 : Int32) (c4 : Int32) : Option (mS × Int32) := o_cl (m_X12_look G M a0 c1 c4) (fun M1 r2 => o_rf (gP G a0 8) (fun q4 => o_ix c1 (gN G q4) (o_ix c3 (gN G a2) (o_wI M1 a2 (Int32.toNatClampNeg c3) (mI M1 q4 (Int32.toNatClampNeg c1)) (fun M7 => some (M7, r2))))))
set_option maxHeartbeats 4000000 in
set_option maxRecDepth 100000 in
theorem k_X12_named {l : Launch} {D : va_G} {cy : cyS} {G : gS} {M M' : mS} {r : Int32} {a0 : Nat} {c1 : Int32} {a2 : Nat} {c3 : Int32} {c4 : Int32} (hG : wt G) (hL0 : a0 ∈ gL G) (hK0 : gK G a0 = 11) (hL2 : a2 ∈ gL G) (hK2 : gK G a2 = 12) (h : m_X12_named G M a0 c1 a2 c3 c4 = some (M', r)) : ctI l yX12_named wsX12_named rmX12_named D cy G M [.ref a0, .int c1, .ref a2, .int c3, .int c4] M' r := by
  unfold m_X12_named at h
  refine ctI_of (cc := cX12_named) (nL := 6) (ret := (some .int)) (lv := [(0, .ref a0), (1, .int c1), (2, .ref a2), (3, .int c3), (4, .int c4)]) hG (by decide) rfl ⟨rfl, rfl⟩ (Nat.le_of_ble_eq_true rfl) rfl ?_
  intro p e s m args below meth c A ls cx w hl
  obtain ⟨hx, hb, hml, hown, hts, hr, hlocks, hK, hA, -, hsx⟩ := id cx
  have hkn : 0 ≤ (rmX12_named).cells ∧ 0 ≤ (rmX12_named).slots := ⟨Nat.zero_le _, Nat.zero_le _⟩
  refine lv_aload_n hx hb dX12_named_0 rfl (lv_at hl 0 rfl) ?_
  refine lv_iload_n hx hb dX12_named_1 rfl (lv_at hl 1 rfl) ?_
  refine lv_iload hx hb dX12_named_2 (lv_at hl 4 rfl) ?_
  obtain ⟨M1, r2, y3, h⟩ := x_cl h
  refine r_callVi (As := [.int c1, .int c4]) (rest := []) cx w hkn hl.1 (k_X12_look hG hL0 hK0 y3) (cwV 2 hts gX12_named_X12_look rfl rfl rfl (by decide +kernel) ⟨Nat.le_of_ble_eq_true rfl, Nat.le_of_ble_eq_true rfl⟩) hL0 hK0 (by decide) rfl rfl rfl (Nat.le_of_ble_eq_true rfl) dX12_named_4 (fun H locs w => ?_)
  refine lv_istore (lv' := [(5, .int r2), (0, .ref a0), (1, .int c1), (2, .ref a2), (3, .int c3), (4, .int c4)]) hx hb dX12_named_7 hl (by decide) rfl (fun ls hl => ?_)
  refine lv_aload_n hx hb dX12_named_9 rfl (lv_at hl 3 rfl) ?_
  refine lv_iload_n hx hb dX12_named_10 rfl (lv_at hl 4 rfl) ?_
  refine lv_aload_n hx hb dX12_named_11 rfl (lv_at hl 1 rfl) ?_
  obtain ⟨q4, eq4, h⟩ := x_rf h
  obtain ⟨hLq4, hKq4⟩ := wt_q hG hL0 hK0 eq4
  have hKq4 : gK G q4 = 12 := hKq4
  refine r_getR (k := 8) cx w hL0 hK0 (by decide) rfl wi_X12_named_X12 (by decide) rfl eq4 (List.mem_of_getElem? (i := 1) rfl) dX12_named_12 ?_
  refine lv_iload_n hx hb dX12_named_15 rfl (lv_at hl 2 rfl) ?_
  obtain ⟨z5, h⟩ := x_ix h
  refine r_iald cx w hLq4 hKq4 z5 dX12_named_16 ?_
  obtain ⟨z6, h⟩ := x_ix h
  obtain ⟨M7, eM7, h⟩ := x_wI h
  refine r_iast cx w hL2 hK2 z6 dX12_named_17 eM7 (fun H locs w => ?_)
  refine lv_iload hx hb dX12_named_18 (lv_at hl 0 rfl) ?_
  exact r_iret cx w h dX12_named_20
-- X12_painted
theorem wi_X12_painted_X10 : ∀ w ∈ wsX100, w ∈ wsX12_painted := by decide +kernel
theorem wi_X12_painted_X12 : ∀ w ∈ wsX120, w ∈ wsX12_painted := by decide +kernel
abbrev rmX12_painted : Room := { frames := 2, cells := 0, slots := 0, locals := 46 }
def m_X12_painted_55 (G : gS) (a0 : Nat) (c1 : Int32)  (M : mS) (v2 : Int32) : Option (mS × Int32) := some (M, v2)
def m_X12_painted (G : gS) (M : mS) (a0 : Nat) (c1 : Int32) : Option (mS × Int32) := o_cl (m_X12_inRange G M a0 c1 (0 : Int32) (5 : Int32)) (fun M1 r2 => o_rf (gP G a0 12) (fun q4 => o_wI M1 q4 4 (0 : Int32) (fun M5 => (if r2 = 0 then o_rf (gP G a0 12) (fun q7 => o_rf (gP G q7 10) (fun q8 => o_rf (gP G a0 12) (fun q9 => o_rf (gP G q9 5) (fun q10 => o_ix (1 : Int32) (gN G q10) (o_rf (gP G a0 12) (fun q12 => o_rf (gP G q12 5) (fun q13 => o_ix (0 : Int32) (gN G q13) (o_cl (m_X12_numberAt G M5 a0 c1) (fun M15 r16 => o_ix (((64 : Int32) * (mI M5 q10 (Int32.toNatClampNeg (1 : Int32)))) + (mI M5 q13 (Int32.toNatClampNeg (0 : Int32)))) (gN G q8) (o_wI M15 q8 (Int32.toNatClampNeg (((64 : Int32) * (mI M5 q10 (Int32.toNatClampNeg (1 : Int32)))) + (mI M5 q13 (Int32.toNatClampNeg (0 : Int32))))) r16 (fun M19 => m_X12_painted_55 G a0 c1 M19 r2))))))))))) else m_X12_painted_55 G a0 c1 M5 r2))))
set_option maxHeartbeats 4000000 in
set_option maxRecDepth 100000 in
theorem b_X12_painted_55 {p : Program} {e : Env} {s : State} {m : MethodId} {args : Array Value} {below : List Frame} {meth : Method} {c : Code} {A : Nat → Prop} {l : Launch} {D : va_G} {cy : cyS} {G : gS} (cx : cX p s m args meth c cX12_painted RX12 3 (some .int) wsX12_painted D cy G A) {k0 n0 : Nat} (hkn : k0 ≤ (rmX12_painted).cells ∧ n0 ≤ (rmX12_painted).slots) {M' : mS} {r : Int32} {a0 : Nat} {c1 : Int32} (hL0 : a0 ∈ gL G) (hK0 : gK G a0 = 11)  : ∀ (M : mS) (v2 : Int32) (H : Heap) (locs : List Loc) (ls : Array Slot), m_X12_painted_55 G a0 c1 M v2 = some (M', r) → wd D cy G M A s.heap H locs → lv_has ls 3 [(2, .int v2)] → W p l e rmX12_painted s m args below meth c H locs k0 n0 (MQ below (va_Qi (fun (r' : Int32) (_ : Unit) => r' = r) (fun _ t => wOut D cy G M' t) A) args s k0 n0 A) (F0 m 55 ls []) := by
  obtain ⟨hx, hb, hml, hown, hts, hr, hlocks, hK, hA, hG, hsx⟩ := id cx
  intro M v2 H locs ls h w hl
  unfold m_X12_painted_55 at h
  refine lv_iload_n hx hb dX12_painted_55 rfl (lv_at hl 0 rfl) ?_
  exact r_iret cx w h dX12_painted_56
set_option maxHeartbeats 4000000 in
set_option maxRecDepth 100000 in
theorem k_X12_painted {l : Launch} {D : va_G} {cy : cyS} {G : gS} {M M' : mS} {r : Int32} {a0 : Nat} {c1 : Int32} (hG : wt G) (hL0 : a0 ∈ gL G) (hK0 : gK G a0 = 11) (h : m_X12_painted G M a0 c1 = some (M', r)) : ctI l yX12_painted wsX12_painted rmX12_painted D cy G M [.ref a0, .int c1] M' r := by
  unfold m_X12_painted at h
  refine ctI_of (cc := cX12_painted) (nL := 3) (ret := (some .int)) (lv := [(0, .ref a0), (1, .int c1)]) hG (by decide) rfl ⟨rfl, rfl⟩ (Nat.le_of_ble_eq_true rfl) rfl ?_
  intro p e s m args below meth c A ls cx w hl
  obtain ⟨hx, hb, hml, hown, hts, hr, hlocks, hK, hA, -, hsx⟩ := id cx
  have hkn : 0 ≤ (rmX12_painted).cells ∧ 0 ≤ (rmX12_painted).slots := ⟨Nat.zero_le _, Nat.zero_le _⟩
  refine lv_aload_n hx hb dX12_painted_0 rfl (lv_at hl 0 rfl) ?_
  refine lv_iload_n hx hb dX12_painted_1 rfl (lv_at hl 1 rfl) ?_
  refine lv_iconst (v := (0 : Int32)) hx hb dX12_painted_2 (by decide) ?_
  refine lv_iconst (v := (5 : Int32)) hx hb dX12_painted_3 (by decide) ?_
  obtain ⟨M1, r2, y3, h⟩ := x_cl h
  refine r_callVi (As := [.int c1, .int ((0 : Int32)), .int ((5 : Int32))]) (rest := []) cx w hkn hl.1 (k_X12_inRange hG hL0 hK0 y3) (cwV 3 hts gX12_painted_X12_inRange rfl rfl rfl (by decide +kernel) ⟨Nat.le_of_ble_eq_true rfl, Nat.le_of_ble_eq_true rfl⟩) hL0 hK0 (by decide) rfl rfl rfl (Nat.le_of_ble_eq_true rfl) dX12_painted_4 (fun H locs w => ?_)
  refine lv_istore_n (lv' := [(2, .int r2), (0, .ref a0), (1, .int c1)]) hx hb dX12_painted_7 rfl hl (by decide) rfl (fun ls hl => ?_)
  refine lv_aload_n hx hb dX12_painted_8 rfl (lv_at hl 1 rfl) ?_
  obtain ⟨q4, eq4, h⟩ := x_rf h
  obtain ⟨hLq4, hKq4⟩ := wt_q hG hL0 hK0 eq4
  have hKq4 : gK G q4 = 9 := hKq4
  refine r_getR (k := 12) cx w hL0 hK0 (by decide) rfl wi_X12_painted_X12 (by decide) rfl eq4 (List.mem_of_getElem? (i := 1) rfl) dX12_painted_9 ?_
  refine lv_iconst (v := (0 : Int32)) hx hb dX12_painted_12 (by decide) ?_
  obtain ⟨M5, eM5, h⟩ := x_wI h
  refine r_putIN (k := 4) (ty := .int) cx w tyX10 tyX10_ok nmX10 hLq4 hKq4 (by decide) rfl wi_X12_painted_X10 (by decide) rfl rfl rfl rfl st_9_4 (ln_9 _ _ (by decide)) (nwF cx (q := (RX12, 233, "FlagAntsModel$Plan", "told", "I", "FlagAntsModel")) (List.mem_of_getElem? (i := 11) rfl)) dX12_painted_13 eM5 (fun H locs w => ?_)
  refine lv_iload_n hx hb dX12_painted_16 rfl (lv_at hl 0 rfl) ?_
  refine lv_if_ne (tgt := 55) hx hb dX12_painted_17 (by decide) (fun k6 => ?_) (fun k6 => ?_)
  · have h := x_f h k6
    exact b_X12_painted_55 cx hkn hL0 hK0 M5 r2 H locs ls h w (lv_sub hl [0] rfl)
  · have h := x_t h k6
    refine lv_aload_n hx hb dX12_painted_20 rfl (lv_at hl 1 rfl) ?_
    obtain ⟨q7, eq7, h⟩ := x_rf h
    obtain ⟨hLq7, hKq7⟩ := wt_q hG hL0 hK0 eq7
    have hKq7 : gK G q7 = 9 := hKq7
    refine r_getR (k := 12) cx w hL0 hK0 (by decide) rfl wi_X12_painted_X12 (by decide) rfl eq7 (List.mem_of_getElem? (i := 1) rfl) dX12_painted_21 ?_
    obtain ⟨q8, eq8, h⟩ := x_rf h
    obtain ⟨hLq8, hKq8⟩ := wt_q hG hLq7 hKq7 eq8
    have hKq8 : gK G q8 = 12 := hKq8
    refine r_getRN (k := 10) cx w hLq7 hKq7 (by decide) rfl wi_X12_painted_X10 (by decide) rfl eq8 (nwF cx (q := (RX12, 256, "FlagAntsModel$Plan", "colours", "[I", "FlagAntsModel")) (List.mem_of_getElem? (i := 17) rfl)) dX12_painted_24 ?_
    refine lv_bipush (v := (64 : Int32)) hx hb dX12_painted_27 (by decide) ?_
    refine lv_aload_n hx hb dX12_painted_29 rfl (lv_at hl 1 rfl) ?_
    obtain ⟨q9, eq9, h⟩ := x_rf h
    obtain ⟨hLq9, hKq9⟩ := wt_q hG hL0 hK0 eq9
    have hKq9 : gK G q9 = 9 := hKq9
    refine r_getR (k := 12) cx w hL0 hK0 (by decide) rfl wi_X12_painted_X12 (by decide) rfl eq9 (List.mem_of_getElem? (i := 1) rfl) dX12_painted_30 ?_
    obtain ⟨q10, eq10, h⟩ := x_rf h
    obtain ⟨hLq10, hKq10⟩ := wt_q hG hLq9 hKq9 eq10
    have hKq10 : gK G q10 = 12 := hKq10
    refine r_getRN (k := 5) cx w hLq9 hKq9 (by decide) rfl wi_X12_painted_X10 (by decide) rfl eq10 (nwF cx (q := (RX12, 241, "FlagAntsModel$Plan", "line", "[I", "FlagAntsModel")) (List.mem_of_getElem? (i := 14) rfl)) dX12_painted_33 ?_
    refine lv_iconst (v := (1 : Int32)) hx hb dX12_painted_36 (by decide) ?_
    obtain ⟨z11, h⟩ := x_ix h
    refine r_iald cx w hLq10 hKq10 z11 dX12_painted_37 ?_
    refine lv_imul hx hb dX12_painted_38 ?_
    refine lv_aload_n hx hb dX12_painted_39 rfl (lv_at hl 1 rfl) ?_
    obtain ⟨q12, eq12, h⟩ := x_rf h
    obtain ⟨hLq12, hKq12⟩ := wt_q hG hL0 hK0 eq12
    have hKq12 : gK G q12 = 9 := hKq12
    refine r_getR (k := 12) cx w hL0 hK0 (by decide) rfl wi_X12_painted_X12 (by decide) rfl eq12 (List.mem_of_getElem? (i := 1) rfl) dX12_painted_40 ?_
    obtain ⟨q13, eq13, h⟩ := x_rf h
    obtain ⟨hLq13, hKq13⟩ := wt_q hG hLq12 hKq12 eq13
    have hKq13 : gK G q13 = 12 := hKq13
    refine r_getRN (k := 5) cx w hLq12 hKq12 (by decide) rfl wi_X12_painted_X10 (by decide) rfl eq13 (nwF cx (q := (RX12, 241, "FlagAntsModel$Plan", "line", "[I", "FlagAntsModel")) (List.mem_of_getElem? (i := 14) rfl)) dX12_painted_43 ?_
    refine lv_iconst (v := (0 : Int32)) hx hb dX12_painted_46 (by decide) ?_
    obtain ⟨z14, h⟩ := x_ix h
    refine r_iald cx w hLq13 hKq13 z14 dX12_painted_47 ?_
    refine lv_iadd hx hb dX12_painted_48 ?_
    refine lv_aload_n hx hb dX12_painted_49 rfl (lv_at hl 1 rfl) ?_
    refine lv_iload_n hx hb dX12_painted_50 rfl (lv_at hl 2 rfl) ?_
    obtain ⟨M15, r16, y17, h⟩ := x_cl h
    refine r_callVi (As := [.int c1]) (rest := [.int ((((64 : Int32) * (mI M5 q10 (Int32.toNatClampNeg (1 : Int32)))) + (mI M5 q13 (Int32.toNatClampNeg (0 : Int32))))), .ref q8]) cx w hkn hl.1 (k_X12_numberAt hG hL0 hK0 y17) (cwV 1 hts gX12_painted_X12_numberAt rfl rfl rfl (by decide +kernel) ⟨Nat.le_of_ble_eq_true rfl, Nat.le_of_ble_eq_true rfl⟩) hL0 hK0 (by decide) rfl rfl rfl (Nat.le_of_ble_eq_true rfl) dX12_painted_51 (fun H locs w => ?_)
    obtain ⟨z18, h⟩ := x_ix h
    obtain ⟨M19, eM19, h⟩ := x_wI h
    refine r_iast cx w hLq8 hKq8 z18 dX12_painted_54 eM19 (fun H locs w => ?_)
    exact b_X12_painted_55 cx hkn hL0 hK0 M19 r2 H locs ls h w (lv_sub hl [0] rfl)
-- X12_order
theorem wi_X12_order_X10 : ∀ w ∈ wsX100, w ∈ wsX12_order := by decide +kernel
theorem wi_X12_order_X12 : ∀ w ∈ wsX120, w ∈ wsX12_order := by decide +kernel
abbrev rmX12_order : Room := { frames := 0, cells := 0, slots := 0, locals := 0 }
def m_X12_order (G : gS) (M : mS) (a0 : Nat) (c1 : Int32) : Option (mS × Int32) := o_rf (gP G a0 12) (fun q1 => (if (mI M q1 11) = (20 : Int32) then some (M, (4 : Int32)) else o_rf (gP G a0 12) (fun q3 => o_rf (gP G q3 13) (fun q4 => o_rf (gP G a0 12) (fun q5 => o_rf (gP G a0 4) (fun q6 => o_ix c1 (gN G q6) (o_ix (mI M q5 11) (gN G q4) (o_wI M q4 (Int32.toNatClampNeg (mI M q5 11)) (mI M q6 (Int32.toNatClampNeg c1)) (fun M9 => o_rf (gP G a0 12) (fun q10 => o_wI M9 q10 11 ((mI M9 q10 11) + (1 : Int32)) (fun M11 => some (M11, (0 : Int32)))))))))))))
set_option maxHeartbeats 4000000 in
set_option maxRecDepth 100000 in
theorem k_X12_order {l : Launch} {D : va_G} {cy : cyS} {G : gS} {M M' : mS} {r : Int32} {a0 : Nat} {c1 : Int32} (hG : wt G) (hL0 : a0 ∈ gL G) (hK0 : gK G a0 = 11) (h : m_X12_order G M a0 c1 = some (M', r)) : ctI l yX12_order wsX12_order rmX12_order D cy G M [.ref a0, .int c1] M' r := by
  unfold m_X12_order at h
  refine ctI_of (cc := cX12_order) (nL := 2) (ret := (some .int)) (lv := [(0, .ref a0), (1, .int c1)]) hG (by decide) rfl ⟨rfl, rfl⟩ (Nat.le_of_ble_eq_true rfl) rfl ?_
  intro p e s m args below meth c A ls cx w hl
  obtain ⟨hx, hb, hml, hown, hts, hr, hlocks, hK, hA, -, hsx⟩ := id cx
  have hkn : 0 ≤ (rmX12_order).cells ∧ 0 ≤ (rmX12_order).slots := ⟨Nat.zero_le _, Nat.zero_le _⟩
  refine lv_aload_n hx hb dX12_order_0 rfl (lv_at hl 0 rfl) ?_
  obtain ⟨q1, eq1, h⟩ := x_rf h
  obtain ⟨hLq1, hKq1⟩ := wt_q hG hL0 hK0 eq1
  have hKq1 : gK G q1 = 9 := hKq1
  refine r_getR (k := 12) cx w hL0 hK0 (by decide) rfl wi_X12_order_X12 (by decide) rfl eq1 (List.mem_of_getElem? (i := 1) rfl) dX12_order_1 ?_
  refine r_getIN (k := 11) (v := .int (mI M q1 11)) cx w hLq1 hKq1 (by decide) rfl wi_X12_order_X10 (by decide) rfl (nwF cx (q := (RX12, 235, "FlagAntsModel$Plan", "orders", "I", "FlagAntsModel")) (List.mem_of_getElem? (i := 12) rfl)) dX12_order_4 ?_
  refine lv_bipush (v := (20 : Int32)) hx hb dX12_order_7 (by decide) ?_
  refine lv_icmp_ne (tgt := 14) hx hb dX12_order_9 (by decide) (fun k2 => ?_) (fun k2 => ?_)
  · have h := x_f h k2
    refine lv_aload_n hx hb dX12_order_14 rfl (lv_at hl 0 rfl) ?_
    obtain ⟨q3, eq3, h⟩ := x_rf h
    obtain ⟨hLq3, hKq3⟩ := wt_q hG hL0 hK0 eq3
    have hKq3 : gK G q3 = 9 := hKq3
    refine r_getR (k := 12) cx w hL0 hK0 (by decide) rfl wi_X12_order_X12 (by decide) rfl eq3 (List.mem_of_getElem? (i := 1) rfl) dX12_order_15 ?_
    obtain ⟨q4, eq4, h⟩ := x_rf h
    obtain ⟨hLq4, hKq4⟩ := wt_q hG hLq3 hKq3 eq4
    have hKq4 : gK G q4 = 12 := hKq4
    refine r_getRN (k := 13) cx w hLq3 hKq3 (by decide) rfl wi_X12_order_X10 (by decide) rfl eq4 (nwF cx (q := (RX12, 238, "FlagAntsModel$Plan", "does", "[I", "FlagAntsModel")) (List.mem_of_getElem? (i := 13) rfl)) dX12_order_18 ?_
    refine lv_aload_n hx hb dX12_order_21 rfl (lv_at hl 0 rfl) ?_
    obtain ⟨q5, eq5, h⟩ := x_rf h
    obtain ⟨hLq5, hKq5⟩ := wt_q hG hL0 hK0 eq5
    have hKq5 : gK G q5 = 9 := hKq5
    refine r_getR (k := 12) cx w hL0 hK0 (by decide) rfl wi_X12_order_X12 (by decide) rfl eq5 (List.mem_of_getElem? (i := 1) rfl) dX12_order_22 ?_
    refine r_getIN (k := 11) (v := .int (mI M q5 11)) cx w hLq5 hKq5 (by decide) rfl wi_X12_order_X10 (by decide) rfl (nwF cx (q := (RX12, 235, "FlagAntsModel$Plan", "orders", "I", "FlagAntsModel")) (List.mem_of_getElem? (i := 12) rfl)) dX12_order_25 ?_
    refine lv_aload_n hx hb dX12_order_28 rfl (lv_at hl 0 rfl) ?_
    obtain ⟨q6, eq6, h⟩ := x_rf h
    obtain ⟨hLq6, hKq6⟩ := wt_q hG hL0 hK0 eq6
    have hKq6 : gK G q6 = 12 := hKq6
    refine r_getR (k := 4) cx w hL0 hK0 (by decide) rfl wi_X12_order_X12 (by decide) rfl eq6 (List.mem_of_getElem? (i := 2) rfl) dX12_order_29 ?_
    refine lv_iload_n hx hb dX12_order_32 rfl (lv_at hl 1 rfl) ?_
    obtain ⟨z7, h⟩ := x_ix h
    refine r_iald cx w hLq6 hKq6 z7 dX12_order_33 ?_
    obtain ⟨z8, h⟩ := x_ix h
    obtain ⟨M9, eM9, h⟩ := x_wI h
    refine r_iast cx w hLq4 hKq4 z8 dX12_order_34 eM9 (fun H locs w => ?_)
    refine lv_aload_n hx hb dX12_order_35 rfl (lv_at hl 0 rfl) ?_
    obtain ⟨q10, eq10, h⟩ := x_rf h
    obtain ⟨hLq10, hKq10⟩ := wt_q hG hL0 hK0 eq10
    have hKq10 : gK G q10 = 9 := hKq10
    refine r_getR (k := 12) cx w hL0 hK0 (by decide) rfl wi_X12_order_X12 (by decide) rfl eq10 (List.mem_of_getElem? (i := 1) rfl) dX12_order_36 ?_
    refine lv_dup hx hb dX12_order_39 rfl ?_
    refine r_getIN (k := 11) (v := .int (mI M9 q10 11)) cx w hLq10 hKq10 (by decide) rfl wi_X12_order_X10 (by decide) rfl (nwF cx (q := (RX12, 235, "FlagAntsModel$Plan", "orders", "I", "FlagAntsModel")) (List.mem_of_getElem? (i := 12) rfl)) dX12_order_40 ?_
    refine lv_iconst (v := (1 : Int32)) hx hb dX12_order_43 (by decide) ?_
    refine lv_iadd hx hb dX12_order_44 ?_
    obtain ⟨M11, eM11, h⟩ := x_wI h
    refine r_putIN (k := 11) (ty := .int) cx w tyX10 tyX10_ok nmX10 hLq10 hKq10 (by decide) rfl wi_X12_order_X10 (by decide) rfl rfl rfl rfl st_9_11 (ln_9 _ _ (by decide)) (nwF cx (q := (RX12, 235, "FlagAntsModel$Plan", "orders", "I", "FlagAntsModel")) (List.mem_of_getElem? (i := 12) rfl)) dX12_order_45 eM11 (fun H locs w => ?_)
    refine lv_iconst (v := (0 : Int32)) hx hb dX12_order_48 (by decide) ?_
    exact r_iret cx w h dX12_order_49
  · have h := x_t h k2
    refine lv_iconst (v := (4 : Int32)) hx hb dX12_order_12 (by decide) ?_
    exact r_iret cx w h dX12_order_13
-- X12_errorOf
theorem wi_X12_errorOf_X10 : ∀ w ∈ wsX100, w ∈ wsX12_errorOf := by decide +kernel
theorem wi_X12_errorOf_X12 : ∀ w ∈ wsX120, w ∈ wsX12_errorOf := by decide +kernel
abbrev rmX12_errorOf : Room := { frames := 4, cells := 0, slots := 0, locals := 94 }
def m_X12_errorOf (G : gS) (M : mS) (a0 : Nat) (c1 : Int32) : Option (mS × Int32) := o_rf (gP G a0 12) (fun q1 => o_rf (gP G a0 7) (fun q2 => o_ix c1 (gN G q2) ((if (mI M q2 (Int32.toNatClampNeg c1)) = 1 then o_cl (m_X12_newRule G M a0 c1) (fun M5 r6 => some (M5, r6)) else if (mI M q2 (Int32.toNatClampNeg c1)) = 2 then o_cl (m_X12_newAnt G M a0 c1) (fun M9 r10 => some (M9, r10)) else if (mI M q2 (Int32.toNatClampNeg c1)) = 3 then o_cl (m_X12_newTurn G M a0 c1) (fun M13 r14 => some (M13, r14)) else if (mI M q2 (Int32.toNatClampNeg c1)) = 4 then o_rf (gP G q1 6) (fun q17 => o_cl (m_X12_named G M a0 c1 q17 ((mI M q1 3) - (1 : Int32)) (1 : Int32)) (fun M18 r19 => some (M18, r19))) else if (mI M q2 (Int32.toNatClampNeg c1)) = 5 then o_cl (m_X12_antPlace G M a0 c1) (fun M22 r23 => some (M22, r23)) else if (mI M q2 (Int32.toNatClampNeg c1)) = 6 then o_rf (gP G q1 9) (fun q26 => o_rf (gP G a0 4) (fun q27 => o_ix c1 (gN G q27) (o_ix ((mI M q1 3) - (1 : Int32)) (gN G q26) (o_wI M q26 (Int32.toNatClampNeg ((mI M q1 3) - (1 : Int32))) ((mI M q27 (Int32.toNatClampNeg c1)) - (9 : Int32)) (fun M30 => o_wI M30 q1 4 (0 : Int32) (fun M31 => some (M31, (0 : Int32)))))))) else if (mI M q2 (Int32.toNatClampNeg c1)) = 7 then o_cl (m_X12_place G M a0 c1) (fun M33 r34 => some (M33, r34)) else if (mI M q2 (Int32.toNatClampNeg c1)) = 8 then o_cl (m_X12_painted G M a0 c1) (fun M37 r38 => some (M37, r38)) else if (mI M q2 (Int32.toNatClampNeg c1)) = 9 then o_cl (m_X12_order G M a0 c1) (fun M41 r42 => some (M41, r42)) else if (mI M q2 (Int32.toNatClampNeg c1)) = 10 then o_rf (gP G q1 14) (fun q45 => o_cl (m_X12_numberAt G M a0 c1) (fun M46 r47 => o_ix ((mI M q1 11) - (1 : Int32)) (gN G q45) (o_wI M46 q45 (Int32.toNatClampNeg ((mI M q1 11) - (1 : Int32))) r47 (fun M50 => o_cl (m_X12_inRange G M50 a0 c1 (0 : Int32) (63 : Int32)) (fun M51 r52 => some (M51, r52)))))) else if (mI M q2 (Int32.toNatClampNeg c1)) = 11 then o_rf (gP G q1 15) (fun q55 => o_cl (m_X12_numberAt G M a0 c1) (fun M56 r57 => o_ix ((mI M q1 11) - (1 : Int32)) (gN G q55) (o_wI M56 q55 (Int32.toNatClampNeg ((mI M q1 11) - (1 : Int32))) r57 (fun M60 => o_rf (gP G q1 14) (fun q61 => o_ix ((mI M60 q1 11) - (1 : Int32)) (gN G q61) (o_cl (m_X12_inRange G M60 a0 c1 (mI M60 q61 (Int32.toNatClampNeg ((mI M60 q1 11) - (1 : Int32)))) (63 : Int32)) (fun M63 r64 => some (M63, r64)))))))) else if (mI M q2 (Int32.toNatClampNeg c1)) = 12 then o_rf (gP G q1 14) (fun q67 => o_cl (m_X12_named G M a0 c1 q67 ((mI M q1 11) - (1 : Int32)) (2 : Int32)) (fun M68 r69 => some (M68, r69))) else if (mI M q2 (Int32.toNatClampNeg c1)) = 13 then o_rf (gP G q1 15) (fun q72 => o_rf (gP G a0 4) (fun q73 => o_ix c1 (gN G q73) (o_ix ((mI M q1 11) - (1 : Int32)) (gN G q72) (o_wI M q72 (Int32.toNatClampNeg ((mI M q1 11) - (1 : Int32))) ((mI M q73 (Int32.toNatClampNeg c1)) - (9 : Int32)) (fun M76 => some (M76, (0 : Int32))))))) else if (mI M q2 (Int32.toNatClampNeg c1)) = 14 then o_cl (m_X12_look G M a0 c1 (2 : Int32)) (fun M78 r79 => some (M78, r79)) else some (M, (0 : Int32))))))
set_option maxHeartbeats 4000000 in
set_option maxRecDepth 100000 in
theorem k_X12_errorOf {l : Launch} {D : va_G} {cy : cyS} {G : gS} {M M' : mS} {r : Int32} {a0 : Nat} {c1 : Int32} (hG : wt G) (hL0 : a0 ∈ gL G) (hK0 : gK G a0 = 11) (h : m_X12_errorOf G M a0 c1 = some (M', r)) : ctI l yX12_errorOf wsX12_errorOf rmX12_errorOf D cy G M [.ref a0, .int c1] M' r := by
  unfold m_X12_errorOf at h
  refine ctI_of (cc := cX12_errorOf) (nL := 3) (ret := (some .int)) (lv := [(0, .ref a0), (1, .int c1)]) hG (by decide) rfl ⟨rfl, rfl⟩ (Nat.le_of_ble_eq_true rfl) rfl ?_
  intro p e s m args below meth c A ls cx w hl
  obtain ⟨hx, hb, hml, hown, hts, hr, hlocks, hK, hA, -, hsx⟩ := id cx
  have hkn : 0 ≤ (rmX12_errorOf).cells ∧ 0 ≤ (rmX12_errorOf).slots := ⟨Nat.zero_le _, Nat.zero_le _⟩
  refine lv_aload_n hx hb dX12_errorOf_0 rfl (lv_at hl 0 rfl) ?_
  obtain ⟨q1, eq1, h⟩ := x_rf h
  obtain ⟨hLq1, hKq1⟩ := wt_q hG hL0 hK0 eq1
  have hKq1 : gK G q1 = 9 := hKq1
  refine r_getR (k := 12) cx w hL0 hK0 (by decide) rfl wi_X12_errorOf_X12 (by decide) rfl eq1 (List.mem_of_getElem? (i := 1) rfl) dX12_errorOf_1 ?_
  refine lv_astore_n (lv' := [(2, .ref q1), (0, .ref a0), (1, .int c1)]) hx hb dX12_errorOf_4 rfl hl (by decide) rfl (fun ls hl => ?_)
  refine lv_aload_n hx hb dX12_errorOf_5 rfl (lv_at hl 1 rfl) ?_
  obtain ⟨q2, eq2, h⟩ := x_rf h
  obtain ⟨hLq2, hKq2⟩ := wt_q hG hL0 hK0 eq2
  have hKq2 : gK G q2 = 12 := hKq2
  refine r_getR (k := 7) cx w hL0 hK0 (by decide) rfl wi_X12_errorOf_X12 (by decide) rfl eq2 (List.mem_of_getElem? (i := 2) rfl) dX12_errorOf_6 ?_
  refine lv_iload_n hx hb dX12_errorOf_9 rfl (lv_at hl 2 rfl) ?_
  obtain ⟨z3, h⟩ := x_ix h
  refine r_iald cx w hLq2 hKq2 z3 dX12_errorOf_10 ?_
  rcases Decidable.em ((mI M q2 (Int32.toNatClampNeg c1)) = 1) with k4 | k4
  · have h := x_t h k4
    rw [k4]
    refine lv_tableIn (tgt := 80) hx hb dX12_errorOf_11 (by decide) (by decide) rfl (by decide) ?_
    refine lv_aload_n hx hb dX12_errorOf_80 rfl (lv_at hl 1 rfl) ?_
    refine lv_iload_n hx hb dX12_errorOf_81 rfl (lv_at hl 2 rfl) ?_
    obtain ⟨M5, r6, y7, h⟩ := x_cl h
    refine r_callVi (As := [.int c1]) (rest := []) cx w hkn hl.1 (k_X12_newRule hG hL0 hK0 y7) (cwV 1 hts gX12_errorOf_X12_newRule rfl rfl rfl (by decide +kernel) ⟨Nat.le_of_ble_eq_true rfl, Nat.le_of_ble_eq_true rfl⟩) hL0 hK0 (by decide) rfl rfl rfl (Nat.le_of_ble_eq_true rfl) dX12_errorOf_82 (fun H locs w => ?_)
    exact r_iret cx w h dX12_errorOf_85
  · have h := x_f h k4
    rcases Decidable.em ((mI M q2 (Int32.toNatClampNeg c1)) = 2) with k8 | k8
    · have h := x_t h k8
      rw [k8]
      refine lv_tableIn (tgt := 92) hx hb dX12_errorOf_11 (by decide) (by decide) rfl (by decide) ?_
      refine lv_aload_n hx hb dX12_errorOf_92 rfl (lv_at hl 1 rfl) ?_
      refine lv_iload_n hx hb dX12_errorOf_93 rfl (lv_at hl 2 rfl) ?_
      obtain ⟨M9, r10, y11, h⟩ := x_cl h
      refine r_callVi (As := [.int c1]) (rest := []) cx w hkn hl.1 (k_X12_newAnt hG hL0 hK0 y11) (cwV 1 hts gX12_errorOf_X12_newAnt rfl rfl rfl (by decide +kernel) ⟨Nat.le_of_ble_eq_true rfl, Nat.le_of_ble_eq_true rfl⟩) hL0 hK0 (by decide) rfl rfl rfl (Nat.le_of_ble_eq_true rfl) dX12_errorOf_94 (fun H locs w => ?_)
      exact r_iret cx w h dX12_errorOf_97
    · have h := x_f h k8
      rcases Decidable.em ((mI M q2 (Int32.toNatClampNeg c1)) = 3) with k12 | k12
      · have h := x_t h k12
        rw [k12]
        refine lv_tableIn (tgt := 86) hx hb dX12_errorOf_11 (by decide) (by decide) rfl (by decide) ?_
        refine lv_aload_n hx hb dX12_errorOf_86 rfl (lv_at hl 1 rfl) ?_
        refine lv_iload_n hx hb dX12_errorOf_87 rfl (lv_at hl 2 rfl) ?_
        obtain ⟨M13, r14, y15, h⟩ := x_cl h
        refine r_callVi (As := [.int c1]) (rest := []) cx w hkn hl.1 (k_X12_newTurn hG hL0 hK0 y15) (cwV 1 hts gX12_errorOf_X12_newTurn rfl rfl rfl (by decide +kernel) ⟨Nat.le_of_ble_eq_true rfl, Nat.le_of_ble_eq_true rfl⟩) hL0 hK0 (by decide) rfl rfl rfl (Nat.le_of_ble_eq_true rfl) dX12_errorOf_88 (fun H locs w => ?_)
        exact r_iret cx w h dX12_errorOf_91
      · have h := x_f h k12
        rcases Decidable.em ((mI M q2 (Int32.toNatClampNeg c1)) = 4) with k16 | k16
        · have h := x_t h k16
          rw [k16]
          refine lv_tableIn (tgt := 98) hx hb dX12_errorOf_11 (by decide) (by decide) rfl (by decide) ?_
          refine lv_aload_n hx hb dX12_errorOf_98 rfl (lv_at hl 1 rfl) ?_
          refine lv_iload_n hx hb dX12_errorOf_99 rfl (lv_at hl 2 rfl) ?_
          refine lv_aload_n hx hb dX12_errorOf_100 rfl (lv_at hl 0 rfl) ?_
          obtain ⟨q17, eq17, h⟩ := x_rf h
          obtain ⟨hLq17, hKq17⟩ := wt_q hG hLq1 hKq1 eq17
          have hKq17 : gK G q17 = 12 := hKq17
          refine r_getRN (k := 6) cx w hLq1 hKq1 (by decide) rfl wi_X12_errorOf_X10 (by decide) rfl eq17 (nwF cx (q := (RX12, 271, "FlagAntsModel$Plan", "rule", "[I", "FlagAntsModel")) (List.mem_of_getElem? (i := 18) rfl)) dX12_errorOf_101 ?_
          refine lv_aload_n hx hb dX12_errorOf_104 rfl (lv_at hl 0 rfl) ?_
          refine r_getIN (k := 3) (v := .int (mI M q1 3)) cx w hLq1 hKq1 (by decide) rfl wi_X12_errorOf_X10 (by decide) rfl (nwF cx (q := (RX12, 64, "FlagAntsModel$Plan", "ants", "I", "FlagAntsModel")) (List.mem_of_getElem? (i := 0) rfl)) dX12_errorOf_105 ?_
          refine lv_iconst (v := (1 : Int32)) hx hb dX12_errorOf_108 (by decide) ?_
          refine lv_isub hx hb dX12_errorOf_109 ?_
          refine lv_iconst (v := (1 : Int32)) hx hb dX12_errorOf_110 (by decide) ?_
          obtain ⟨M18, r19, y20, h⟩ := x_cl h
          refine r_callVi (As := [.int c1, .ref q17, .int (((mI M q1 3) - (1 : Int32))), .int ((1 : Int32))]) (rest := []) cx w hkn hl.1 (k_X12_named hG hL0 hK0 hLq17 hKq17 y20) (cwV 4 hts gX12_errorOf_X12_named rfl rfl rfl (by decide +kernel) ⟨Nat.le_of_ble_eq_true rfl, Nat.le_of_ble_eq_true rfl⟩) hL0 hK0 (by decide) rfl rfl rfl (Nat.le_of_ble_eq_true rfl) dX12_errorOf_111 (fun H locs w => ?_)
          exact r_iret cx w h dX12_errorOf_114
        · have h := x_f h k16
          rcases Decidable.em ((mI M q2 (Int32.toNatClampNeg c1)) = 5) with k21 | k21
          · have h := x_t h k21
            rw [k21]
            refine lv_tableIn (tgt := 115) hx hb dX12_errorOf_11 (by decide) (by decide) rfl (by decide) ?_
            refine lv_aload_n hx hb dX12_errorOf_115 rfl (lv_at hl 1 rfl) ?_
            refine lv_iload_n hx hb dX12_errorOf_116 rfl (lv_at hl 2 rfl) ?_
            obtain ⟨M22, r23, y24, h⟩ := x_cl h
            refine r_callVi (As := [.int c1]) (rest := []) cx w hkn hl.1 (k_X12_antPlace hG hL0 hK0 y24) (cwV 1 hts gX12_errorOf_X12_antPlace rfl rfl rfl (by decide +kernel) ⟨Nat.le_of_ble_eq_true rfl, Nat.le_of_ble_eq_true rfl⟩) hL0 hK0 (by decide) rfl rfl rfl (Nat.le_of_ble_eq_true rfl) dX12_errorOf_117 (fun H locs w => ?_)
            exact r_iret cx w h dX12_errorOf_120
          · have h := x_f h k21
            rcases Decidable.em ((mI M q2 (Int32.toNatClampNeg c1)) = 6) with k25 | k25
            · have h := x_t h k25
              rw [k25]
              refine lv_tableIn (tgt := 121) hx hb dX12_errorOf_11 (by decide) (by decide) rfl (by decide) ?_
              refine lv_aload_n hx hb dX12_errorOf_121 rfl (lv_at hl 0 rfl) ?_
              obtain ⟨q26, eq26, h⟩ := x_rf h
              obtain ⟨hLq26, hKq26⟩ := wt_q hG hLq1 hKq1 eq26
              have hKq26 : gK G q26 = 12 := hKq26
              refine r_getRN (k := 9) cx w hLq1 hKq1 (by decide) rfl wi_X12_errorOf_X10 (by decide) rfl eq26 (nwF cx (q := (RX12, 281, "FlagAntsModel$Plan", "side", "[I", "FlagAntsModel")) (List.mem_of_getElem? (i := 19) rfl)) dX12_errorOf_122 ?_
              refine lv_aload_n hx hb dX12_errorOf_125 rfl (lv_at hl 0 rfl) ?_
              refine r_getIN (k := 3) (v := .int (mI M q1 3)) cx w hLq1 hKq1 (by decide) rfl wi_X12_errorOf_X10 (by decide) rfl (nwF cx (q := (RX12, 64, "FlagAntsModel$Plan", "ants", "I", "FlagAntsModel")) (List.mem_of_getElem? (i := 0) rfl)) dX12_errorOf_126 ?_
              refine lv_iconst (v := (1 : Int32)) hx hb dX12_errorOf_129 (by decide) ?_
              refine lv_isub hx hb dX12_errorOf_130 ?_
              refine lv_aload_n hx hb dX12_errorOf_131 rfl (lv_at hl 1 rfl) ?_
              obtain ⟨q27, eq27, h⟩ := x_rf h
              obtain ⟨hLq27, hKq27⟩ := wt_q hG hL0 hK0 eq27
              have hKq27 : gK G q27 = 12 := hKq27
              refine r_getR (k := 4) cx w hL0 hK0 (by decide) rfl wi_X12_errorOf_X12 (by decide) rfl eq27 (List.mem_of_getElem? (i := 3) rfl) dX12_errorOf_132 ?_
              refine lv_iload_n hx hb dX12_errorOf_135 rfl (lv_at hl 2 rfl) ?_
              obtain ⟨z28, h⟩ := x_ix h
              refine r_iald cx w hLq27 hKq27 z28 dX12_errorOf_136 ?_
              refine lv_bipush (v := (9 : Int32)) hx hb dX12_errorOf_137 (by decide) ?_
              refine lv_isub hx hb dX12_errorOf_139 ?_
              obtain ⟨z29, h⟩ := x_ix h
              obtain ⟨M30, eM30, h⟩ := x_wI h
              refine r_iast cx w hLq26 hKq26 z29 dX12_errorOf_140 eM30 (fun H locs w => ?_)
              refine lv_aload_n hx hb dX12_errorOf_141 rfl (lv_at hl 0 rfl) ?_
              refine lv_iconst (v := (0 : Int32)) hx hb dX12_errorOf_142 (by decide) ?_
              obtain ⟨M31, eM31, h⟩ := x_wI h
              refine r_putIN (k := 4) (ty := .int) cx w tyX10 tyX10_ok nmX10 hLq1 hKq1 (by decide) rfl wi_X12_errorOf_X10 (by decide) rfl rfl rfl rfl st_9_4 (ln_9 _ _ (by decide)) (nwF cx (q := (RX12, 233, "FlagAntsModel$Plan", "told", "I", "FlagAntsModel")) (List.mem_of_getElem? (i := 11) rfl)) dX12_errorOf_143 eM31 (fun H locs w => ?_)
              refine lv_iconst (v := (0 : Int32)) hx hb dX12_errorOf_146 (by decide) ?_
              exact r_iret cx w h dX12_errorOf_147
            · have h := x_f h k25
              rcases Decidable.em ((mI M q2 (Int32.toNatClampNeg c1)) = 7) with k32 | k32
              · have h := x_t h k32
                rw [k32]
                refine lv_tableIn (tgt := 148) hx hb dX12_errorOf_11 (by decide) (by decide) rfl (by decide) ?_
                refine lv_aload_n hx hb dX12_errorOf_148 rfl (lv_at hl 1 rfl) ?_
                refine lv_iload_n hx hb dX12_errorOf_149 rfl (lv_at hl 2 rfl) ?_
                obtain ⟨M33, r34, y35, h⟩ := x_cl h
                refine r_callVi (As := [.int c1]) (rest := []) cx w hkn hl.1 (k_X12_place hG hL0 hK0 y35) (cwV 1 hts gX12_errorOf_X12_place rfl rfl rfl (by decide +kernel) ⟨Nat.le_of_ble_eq_true rfl, Nat.le_of_ble_eq_true rfl⟩) hL0 hK0 (by decide) rfl rfl rfl (Nat.le_of_ble_eq_true rfl) dX12_errorOf_150 (fun H locs w => ?_)
                exact r_iret cx w h dX12_errorOf_153
              · have h := x_f h k32
                rcases Decidable.em ((mI M q2 (Int32.toNatClampNeg c1)) = 8) with k36 | k36
                · have h := x_t h k36
                  rw [k36]
                  refine lv_tableIn (tgt := 154) hx hb dX12_errorOf_11 (by decide) (by decide) rfl (by decide) ?_
                  refine lv_aload_n hx hb dX12_errorOf_154 rfl (lv_at hl 1 rfl) ?_
                  refine lv_iload_n hx hb dX12_errorOf_155 rfl (lv_at hl 2 rfl) ?_
                  obtain ⟨M37, r38, y39, h⟩ := x_cl h
                  refine r_callVi (As := [.int c1]) (rest := []) cx w hkn hl.1 (k_X12_painted hG hL0 hK0 y39) (cwV 1 hts gX12_errorOf_X12_painted rfl rfl rfl (by decide +kernel) ⟨Nat.le_of_ble_eq_true rfl, Nat.le_of_ble_eq_true rfl⟩) hL0 hK0 (by decide) rfl rfl rfl (Nat.le_of_ble_eq_true rfl) dX12_errorOf_156 (fun H locs w => ?_)
                  exact r_iret cx w h dX12_errorOf_159
                · have h := x_f h k36
                  rcases Decidable.em ((mI M q2 (Int32.toNatClampNeg c1)) = 9) with k40 | k40
                  · have h := x_t h k40
                    rw [k40]
                    refine lv_tableIn (tgt := 160) hx hb dX12_errorOf_11 (by decide) (by decide) rfl (by decide) ?_
                    refine lv_aload_n hx hb dX12_errorOf_160 rfl (lv_at hl 1 rfl) ?_
                    refine lv_iload_n hx hb dX12_errorOf_161 rfl (lv_at hl 2 rfl) ?_
                    obtain ⟨M41, r42, y43, h⟩ := x_cl h
                    refine r_callVi (As := [.int c1]) (rest := []) cx w hkn hl.1 (k_X12_order hG hL0 hK0 y43) (cwV 1 hts gX12_errorOf_X12_order rfl rfl rfl (by decide +kernel) ⟨Nat.le_of_ble_eq_true rfl, Nat.le_of_ble_eq_true rfl⟩) hL0 hK0 (by decide) rfl rfl rfl (Nat.le_of_ble_eq_true rfl) dX12_errorOf_162 (fun H locs w => ?_)
                    exact r_iret cx w h dX12_errorOf_165
                  · have h := x_f h k40
                    rcases Decidable.em ((mI M q2 (Int32.toNatClampNeg c1)) = 10) with k44 | k44
                    · have h := x_t h k44
                      rw [k44]
                      refine lv_tableIn (tgt := 166) hx hb dX12_errorOf_11 (by decide) (by decide) rfl (by decide) ?_
                      refine lv_aload_n hx hb dX12_errorOf_166 rfl (lv_at hl 0 rfl) ?_
                      obtain ⟨q45, eq45, h⟩ := x_rf h
                      obtain ⟨hLq45, hKq45⟩ := wt_q hG hLq1 hKq1 eq45
                      have hKq45 : gK G q45 = 12 := hKq45
                      refine r_getRN (k := 14) cx w hLq1 hKq1 (by decide) rfl wi_X12_errorOf_X10 (by decide) rfl eq45 (nwF cx (q := (RX12, 290, "FlagAntsModel$Plan", "one", "[I", "FlagAntsModel")) (List.mem_of_getElem? (i := 20) rfl)) dX12_errorOf_167 ?_
                      refine lv_aload_n hx hb dX12_errorOf_170 rfl (lv_at hl 0 rfl) ?_
                      refine r_getIN (k := 11) (v := .int (mI M q1 11)) cx w hLq1 hKq1 (by decide) rfl wi_X12_errorOf_X10 (by decide) rfl (nwF cx (q := (RX12, 235, "FlagAntsModel$Plan", "orders", "I", "FlagAntsModel")) (List.mem_of_getElem? (i := 12) rfl)) dX12_errorOf_171 ?_
                      refine lv_iconst (v := (1 : Int32)) hx hb dX12_errorOf_174 (by decide) ?_
                      refine lv_isub hx hb dX12_errorOf_175 ?_
                      refine lv_aload_n hx hb dX12_errorOf_176 rfl (lv_at hl 1 rfl) ?_
                      refine lv_iload_n hx hb dX12_errorOf_177 rfl (lv_at hl 2 rfl) ?_
                      obtain ⟨M46, r47, y48, h⟩ := x_cl h
                      refine r_callVi (As := [.int c1]) (rest := [.int (((mI M q1 11) - (1 : Int32))), .ref q45]) cx w hkn hl.1 (k_X12_numberAt hG hL0 hK0 y48) (cwV 1 hts gX12_errorOf_X12_numberAt rfl rfl rfl (by decide +kernel) ⟨Nat.le_of_ble_eq_true rfl, Nat.le_of_ble_eq_true rfl⟩) hL0 hK0 (by decide) rfl rfl rfl (Nat.le_of_ble_eq_true rfl) dX12_errorOf_178 (fun H locs w => ?_)
                      obtain ⟨z49, h⟩ := x_ix h
                      obtain ⟨M50, eM50, h⟩ := x_wI h
                      refine r_iast cx w hLq45 hKq45 z49 dX12_errorOf_181 eM50 (fun H locs w => ?_)
                      refine lv_aload_n hx hb dX12_errorOf_182 rfl (lv_at hl 1 rfl) ?_
                      refine lv_iload_n hx hb dX12_errorOf_183 rfl (lv_at hl 2 rfl) ?_
                      refine lv_iconst (v := (0 : Int32)) hx hb dX12_errorOf_184 (by decide) ?_
                      refine lv_bipush (v := (63 : Int32)) hx hb dX12_errorOf_185 (by decide) ?_
                      obtain ⟨M51, r52, y53, h⟩ := x_cl h
                      refine r_callVi (As := [.int c1, .int ((0 : Int32)), .int ((63 : Int32))]) (rest := []) cx w hkn hl.1 (k_X12_inRange hG hL0 hK0 y53) (cwV 3 hts gX12_errorOf_X12_inRange rfl rfl rfl (by decide +kernel) ⟨Nat.le_of_ble_eq_true rfl, Nat.le_of_ble_eq_true rfl⟩) hL0 hK0 (by decide) rfl rfl rfl (Nat.le_of_ble_eq_true rfl) dX12_errorOf_187 (fun H locs w => ?_)
                      exact r_iret cx w h dX12_errorOf_190
                    · have h := x_f h k44
                      rcases Decidable.em ((mI M q2 (Int32.toNatClampNeg c1)) = 11) with k54 | k54
                      · have h := x_t h k54
                        rw [k54]
                        refine lv_tableIn (tgt := 191) hx hb dX12_errorOf_11 (by decide) (by decide) rfl (by decide) ?_
                        refine lv_aload_n hx hb dX12_errorOf_191 rfl (lv_at hl 0 rfl) ?_
                        obtain ⟨q55, eq55, h⟩ := x_rf h
                        obtain ⟨hLq55, hKq55⟩ := wt_q hG hLq1 hKq1 eq55
                        have hKq55 : gK G q55 = 12 := hKq55
                        refine r_getRN (k := 15) cx w hLq1 hKq1 (by decide) rfl wi_X12_errorOf_X10 (by decide) rfl eq55 (nwF cx (q := (RX12, 293, "FlagAntsModel$Plan", "other", "[I", "FlagAntsModel")) (List.mem_of_getElem? (i := 21) rfl)) dX12_errorOf_192 ?_
                        refine lv_aload_n hx hb dX12_errorOf_195 rfl (lv_at hl 0 rfl) ?_
                        refine r_getIN (k := 11) (v := .int (mI M q1 11)) cx w hLq1 hKq1 (by decide) rfl wi_X12_errorOf_X10 (by decide) rfl (nwF cx (q := (RX12, 235, "FlagAntsModel$Plan", "orders", "I", "FlagAntsModel")) (List.mem_of_getElem? (i := 12) rfl)) dX12_errorOf_196 ?_
                        refine lv_iconst (v := (1 : Int32)) hx hb dX12_errorOf_199 (by decide) ?_
                        refine lv_isub hx hb dX12_errorOf_200 ?_
                        refine lv_aload_n hx hb dX12_errorOf_201 rfl (lv_at hl 1 rfl) ?_
                        refine lv_iload_n hx hb dX12_errorOf_202 rfl (lv_at hl 2 rfl) ?_
                        obtain ⟨M56, r57, y58, h⟩ := x_cl h
                        refine r_callVi (As := [.int c1]) (rest := [.int (((mI M q1 11) - (1 : Int32))), .ref q55]) cx w hkn hl.1 (k_X12_numberAt hG hL0 hK0 y58) (cwV 1 hts gX12_errorOf_X12_numberAt rfl rfl rfl (by decide +kernel) ⟨Nat.le_of_ble_eq_true rfl, Nat.le_of_ble_eq_true rfl⟩) hL0 hK0 (by decide) rfl rfl rfl (Nat.le_of_ble_eq_true rfl) dX12_errorOf_203 (fun H locs w => ?_)
                        obtain ⟨z59, h⟩ := x_ix h
                        obtain ⟨M60, eM60, h⟩ := x_wI h
                        refine r_iast cx w hLq55 hKq55 z59 dX12_errorOf_206 eM60 (fun H locs w => ?_)
                        refine lv_aload_n hx hb dX12_errorOf_207 rfl (lv_at hl 1 rfl) ?_
                        refine lv_iload_n hx hb dX12_errorOf_208 rfl (lv_at hl 2 rfl) ?_
                        refine lv_aload_n hx hb dX12_errorOf_209 rfl (lv_at hl 0 rfl) ?_
                        obtain ⟨q61, eq61, h⟩ := x_rf h
                        obtain ⟨hLq61, hKq61⟩ := wt_q hG hLq1 hKq1 eq61
                        have hKq61 : gK G q61 = 12 := hKq61
                        refine r_getRN (k := 14) cx w hLq1 hKq1 (by decide) rfl wi_X12_errorOf_X10 (by decide) rfl eq61 (nwF cx (q := (RX12, 290, "FlagAntsModel$Plan", "one", "[I", "FlagAntsModel")) (List.mem_of_getElem? (i := 20) rfl)) dX12_errorOf_210 ?_
                        refine lv_aload_n hx hb dX12_errorOf_213 rfl (lv_at hl 0 rfl) ?_
                        refine r_getIN (k := 11) (v := .int (mI M60 q1 11)) cx w hLq1 hKq1 (by decide) rfl wi_X12_errorOf_X10 (by decide) rfl (nwF cx (q := (RX12, 235, "FlagAntsModel$Plan", "orders", "I", "FlagAntsModel")) (List.mem_of_getElem? (i := 12) rfl)) dX12_errorOf_214 ?_
                        refine lv_iconst (v := (1 : Int32)) hx hb dX12_errorOf_217 (by decide) ?_
                        refine lv_isub hx hb dX12_errorOf_218 ?_
                        obtain ⟨z62, h⟩ := x_ix h
                        refine r_iald cx w hLq61 hKq61 z62 dX12_errorOf_219 ?_
                        refine lv_bipush (v := (63 : Int32)) hx hb dX12_errorOf_220 (by decide) ?_
                        obtain ⟨M63, r64, y65, h⟩ := x_cl h
                        refine r_callVi (As := [.int c1, .int ((mI M60 q61 (Int32.toNatClampNeg ((mI M60 q1 11) - (1 : Int32))))), .int ((63 : Int32))]) (rest := []) cx w hkn hl.1 (k_X12_inRange hG hL0 hK0 y65) (cwV 3 hts gX12_errorOf_X12_inRange rfl rfl rfl (by decide +kernel) ⟨Nat.le_of_ble_eq_true rfl, Nat.le_of_ble_eq_true rfl⟩) hL0 hK0 (by decide) rfl rfl rfl (Nat.le_of_ble_eq_true rfl) dX12_errorOf_222 (fun H locs w => ?_)
                        exact r_iret cx w h dX12_errorOf_225
                      · have h := x_f h k54
                        rcases Decidable.em ((mI M q2 (Int32.toNatClampNeg c1)) = 12) with k66 | k66
                        · have h := x_t h k66
                          rw [k66]
                          refine lv_tableIn (tgt := 226) hx hb dX12_errorOf_11 (by decide) (by decide) rfl (by decide) ?_
                          refine lv_aload_n hx hb dX12_errorOf_226 rfl (lv_at hl 1 rfl) ?_
                          refine lv_iload_n hx hb dX12_errorOf_227 rfl (lv_at hl 2 rfl) ?_
                          refine lv_aload_n hx hb dX12_errorOf_228 rfl (lv_at hl 0 rfl) ?_
                          obtain ⟨q67, eq67, h⟩ := x_rf h
                          obtain ⟨hLq67, hKq67⟩ := wt_q hG hLq1 hKq1 eq67
                          have hKq67 : gK G q67 = 12 := hKq67
                          refine r_getRN (k := 14) cx w hLq1 hKq1 (by decide) rfl wi_X12_errorOf_X10 (by decide) rfl eq67 (nwF cx (q := (RX12, 290, "FlagAntsModel$Plan", "one", "[I", "FlagAntsModel")) (List.mem_of_getElem? (i := 20) rfl)) dX12_errorOf_229 ?_
                          refine lv_aload_n hx hb dX12_errorOf_232 rfl (lv_at hl 0 rfl) ?_
                          refine r_getIN (k := 11) (v := .int (mI M q1 11)) cx w hLq1 hKq1 (by decide) rfl wi_X12_errorOf_X10 (by decide) rfl (nwF cx (q := (RX12, 235, "FlagAntsModel$Plan", "orders", "I", "FlagAntsModel")) (List.mem_of_getElem? (i := 12) rfl)) dX12_errorOf_233 ?_
                          refine lv_iconst (v := (1 : Int32)) hx hb dX12_errorOf_236 (by decide) ?_
                          refine lv_isub hx hb dX12_errorOf_237 ?_
                          refine lv_iconst (v := (2 : Int32)) hx hb dX12_errorOf_238 (by decide) ?_
                          obtain ⟨M68, r69, y70, h⟩ := x_cl h
                          refine r_callVi (As := [.int c1, .ref q67, .int (((mI M q1 11) - (1 : Int32))), .int ((2 : Int32))]) (rest := []) cx w hkn hl.1 (k_X12_named hG hL0 hK0 hLq67 hKq67 y70) (cwV 4 hts gX12_errorOf_X12_named rfl rfl rfl (by decide +kernel) ⟨Nat.le_of_ble_eq_true rfl, Nat.le_of_ble_eq_true rfl⟩) hL0 hK0 (by decide) rfl rfl rfl (Nat.le_of_ble_eq_true rfl) dX12_errorOf_239 (fun H locs w => ?_)
                          exact r_iret cx w h dX12_errorOf_242
                        · have h := x_f h k66
                          rcases Decidable.em ((mI M q2 (Int32.toNatClampNeg c1)) = 13) with k71 | k71
                          · have h := x_t h k71
                            rw [k71]
                            refine lv_tableIn (tgt := 243) hx hb dX12_errorOf_11 (by decide) (by decide) rfl (by decide) ?_
                            refine lv_aload_n hx hb dX12_errorOf_243 rfl (lv_at hl 0 rfl) ?_
                            obtain ⟨q72, eq72, h⟩ := x_rf h
                            obtain ⟨hLq72, hKq72⟩ := wt_q hG hLq1 hKq1 eq72
                            have hKq72 : gK G q72 = 12 := hKq72
                            refine r_getRN (k := 15) cx w hLq1 hKq1 (by decide) rfl wi_X12_errorOf_X10 (by decide) rfl eq72 (nwF cx (q := (RX12, 293, "FlagAntsModel$Plan", "other", "[I", "FlagAntsModel")) (List.mem_of_getElem? (i := 21) rfl)) dX12_errorOf_244 ?_
                            refine lv_aload_n hx hb dX12_errorOf_247 rfl (lv_at hl 0 rfl) ?_
                            refine r_getIN (k := 11) (v := .int (mI M q1 11)) cx w hLq1 hKq1 (by decide) rfl wi_X12_errorOf_X10 (by decide) rfl (nwF cx (q := (RX12, 235, "FlagAntsModel$Plan", "orders", "I", "FlagAntsModel")) (List.mem_of_getElem? (i := 12) rfl)) dX12_errorOf_248 ?_
                            refine lv_iconst (v := (1 : Int32)) hx hb dX12_errorOf_251 (by decide) ?_
                            refine lv_isub hx hb dX12_errorOf_252 ?_
                            refine lv_aload_n hx hb dX12_errorOf_253 rfl (lv_at hl 1 rfl) ?_
                            obtain ⟨q73, eq73, h⟩ := x_rf h
                            obtain ⟨hLq73, hKq73⟩ := wt_q hG hL0 hK0 eq73
                            have hKq73 : gK G q73 = 12 := hKq73
                            refine r_getR (k := 4) cx w hL0 hK0 (by decide) rfl wi_X12_errorOf_X12 (by decide) rfl eq73 (List.mem_of_getElem? (i := 3) rfl) dX12_errorOf_254 ?_
                            refine lv_iload_n hx hb dX12_errorOf_257 rfl (lv_at hl 2 rfl) ?_
                            obtain ⟨z74, h⟩ := x_ix h
                            refine r_iald cx w hLq73 hKq73 z74 dX12_errorOf_258 ?_
                            refine lv_bipush (v := (9 : Int32)) hx hb dX12_errorOf_259 (by decide) ?_
                            refine lv_isub hx hb dX12_errorOf_261 ?_
                            obtain ⟨z75, h⟩ := x_ix h
                            obtain ⟨M76, eM76, h⟩ := x_wI h
                            refine r_iast cx w hLq72 hKq72 z75 dX12_errorOf_262 eM76 (fun H locs w => ?_)
                            refine lv_iconst (v := (0 : Int32)) hx hb dX12_errorOf_263 (by decide) ?_
                            exact r_iret cx w h dX12_errorOf_264
                          · have h := x_f h k71
                            rcases Decidable.em ((mI M q2 (Int32.toNatClampNeg c1)) = 14) with k77 | k77
                            · have h := x_t h k77
                              rw [k77]
                              refine lv_tableIn (tgt := 265) hx hb dX12_errorOf_11 (by decide) (by decide) rfl (by decide) ?_
                              refine lv_aload_n hx hb dX12_errorOf_265 rfl (lv_at hl 1 rfl) ?_
                              refine lv_iload_n hx hb dX12_errorOf_266 rfl (lv_at hl 2 rfl) ?_
                              refine lv_iconst (v := (2 : Int32)) hx hb dX12_errorOf_267 (by decide) ?_
                              obtain ⟨M78, r79, y80, h⟩ := x_cl h
                              refine r_callVi (As := [.int c1, .int ((2 : Int32))]) (rest := []) cx w hkn hl.1 (k_X12_look hG hL0 hK0 y80) (cwV 2 hts gX12_errorOf_X12_look rfl rfl rfl (by decide +kernel) ⟨Nat.le_of_ble_eq_true rfl, Nat.le_of_ble_eq_true rfl⟩) hL0 hK0 (by decide) rfl rfl rfl (Nat.le_of_ble_eq_true rfl) dX12_errorOf_268 (fun H locs w => ?_)
                              exact r_iret cx w h dX12_errorOf_271
                            · have h := x_f h k77
                              refine lv_tableOut (tgt := 272) hx hb dX12_errorOf_11 (by have nk4 : Int32.toInt (mI M q2 (Int32.toNatClampNeg c1)) ≠ 1 := fun hh => k4 (Int32.toInt_inj.mp hh); have nk8 : Int32.toInt (mI M q2 (Int32.toNatClampNeg c1)) ≠ 2 := fun hh => k8 (Int32.toInt_inj.mp hh); have nk12 : Int32.toInt (mI M q2 (Int32.toNatClampNeg c1)) ≠ 3 := fun hh => k12 (Int32.toInt_inj.mp hh); have nk16 : Int32.toInt (mI M q2 (Int32.toNatClampNeg c1)) ≠ 4 := fun hh => k16 (Int32.toInt_inj.mp hh); have nk21 : Int32.toInt (mI M q2 (Int32.toNatClampNeg c1)) ≠ 5 := fun hh => k21 (Int32.toInt_inj.mp hh); have nk25 : Int32.toInt (mI M q2 (Int32.toNatClampNeg c1)) ≠ 6 := fun hh => k25 (Int32.toInt_inj.mp hh); have nk32 : Int32.toInt (mI M q2 (Int32.toNatClampNeg c1)) ≠ 7 := fun hh => k32 (Int32.toInt_inj.mp hh); have nk36 : Int32.toInt (mI M q2 (Int32.toNatClampNeg c1)) ≠ 8 := fun hh => k36 (Int32.toInt_inj.mp hh); have nk40 : Int32.toInt (mI M q2 (Int32.toNatClampNeg c1)) ≠ 9 := fun hh => k40 (Int32.toInt_inj.mp hh); have nk44 : Int32.toInt (mI M q2 (Int32.toNatClampNeg c1)) ≠ 10 := fun hh => k44 (Int32.toInt_inj.mp hh); have nk54 : Int32.toInt (mI M q2 (Int32.toNatClampNeg c1)) ≠ 11 := fun hh => k54 (Int32.toInt_inj.mp hh); have nk66 : Int32.toInt (mI M q2 (Int32.toNatClampNeg c1)) ≠ 12 := fun hh => k66 (Int32.toInt_inj.mp hh); have nk71 : Int32.toInt (mI M q2 (Int32.toNatClampNeg c1)) ≠ 13 := fun hh => k71 (Int32.toInt_inj.mp hh); have nk77 : Int32.toInt (mI M q2 (Int32.toNatClampNeg c1)) ≠ 14 := fun hh => k77 (Int32.toInt_inj.mp hh); omega) (by decide) ?_
                              refine lv_iconst (v := (0 : Int32)) hx hb dX12_errorOf_272 (by decide) ?_
                              exact r_iret cx w h dX12_errorOf_273
-- X12_face
theorem wi_X12_face_X11 : ∀ w ∈ wsX110, w ∈ wsX12_face := by decide +kernel
theorem wi_X12_face_X12 : ∀ w ∈ wsX120, w ∈ wsX12_face := by decide +kernel
abbrev rmX12_face : Room := { frames := 2, cells := 0, slots := 0, locals := 43 }
def m_X12_face_22 (G : gS) (a0 : Nat) (c1 : Int32) (c2 : Int32)  (M : mS)  : Option (mS × Int32) := o_cl (m_X12_no G M a0 (1 : Int32)) (fun M1 r2 => some (M1, r2))
def m_X12_face (G : gS) (M : mS) (a0 : Nat) (c1 : Int32) (c2 : Int32) : Option (mS × Int32) := o_wI M a0 0 (0 : Int32) (fun M1 => o_cl (m_X12_isAnt G M1 a0 c1) (fun M2 r3 => (if r3 = 0 then m_X12_face_22 G a0 c1 c2 M2 else o_cl (m_X12_isIn G M2 c2 (0 : Int32) (3 : Int32)) (fun M6 r7 => (if r7 = 0 then m_X12_face_22 G a0 c1 c2 M6 else o_rf (gP G a0 13) (fun q10 => o_rf (gP G q10 8) (fun q11 => o_ix c1 (gN G q11) (o_bd ((mI M6 q11 (Int32.toNatClampNeg c1))) (fun x13 => o_rf (gP G a0 13) (fun q14 => o_rf (gP G q14 8) (fun q15 => o_ix c1 (gN G q15) (o_wI M6 q15 (Int32.toNatClampNeg c1) c2 (fun M17 => o_rf (gP G a0 13) (fun q18 => o_cl (m_X11_forget G M17 q18 c1) (fun M19 r20 => some (M19, x13))))))))))))))))
set_option maxHeartbeats 4000000 in
set_option maxRecDepth 100000 in
theorem b_X12_face_22 {p : Program} {e : Env} {s : State} {m : MethodId} {args : Array Value} {below : List Frame} {meth : Method} {c : Code} {A : Nat → Prop} {l : Launch} {D : va_G} {cy : cyS} {G : gS} (cx : cX p s m args meth c cX12_face RX12 4 (some .int) wsX12_face D cy G A) {k0 n0 : Nat} (hkn : k0 ≤ (rmX12_face).cells ∧ n0 ≤ (rmX12_face).slots) {M' : mS} {r : Int32} {a0 : Nat} {c1 : Int32} {c2 : Int32} (hL0 : a0 ∈ gL G) (hK0 : gK G a0 = 11)  : ∀ (M : mS) (H : Heap) (locs : List Loc) (ls : Array Slot), m_X12_face_22 G a0 c1 c2 M = some (M', r) → wd D cy G M A s.heap H locs → lv_has ls 4 [(0, .ref a0)] → W p l e rmX12_face s m args below meth c H locs k0 n0 (MQ below (va_Qi (fun (r' : Int32) (_ : Unit) => r' = r) (fun _ t => wOut D cy G M' t) A) args s k0 n0 A) (F0 m 22 ls []) := by
  obtain ⟨hx, hb, hml, hown, hts, hr, hlocks, hK, hA, hG, hsx⟩ := id cx
  intro M H locs ls h w hl
  unfold m_X12_face_22 at h
  refine lv_aload_n hx hb dX12_face_22 rfl (lv_at hl 0 rfl) ?_
  refine lv_iconst (v := (1 : Int32)) hx hb dX12_face_23 (by decide) ?_
  obtain ⟨M1, r2, y3, h⟩ := x_cl h
  refine r_callVi (As := [.int ((1 : Int32))]) (rest := []) cx w hkn hl.1 (k_X12_no hG hL0 hK0 y3) (cwV 1 hts gX12_face_X12_no rfl rfl rfl (by decide +kernel) ⟨Nat.le_of_ble_eq_true rfl, Nat.le_of_ble_eq_true rfl⟩) hL0 hK0 (by decide) rfl rfl rfl (Nat.le_of_ble_eq_true rfl) dX12_face_24 (fun H locs w => ?_)
  exact r_iret cx w h dX12_face_27
set_option maxHeartbeats 4000000 in
set_option maxRecDepth 100000 in
theorem k_X12_face {l : Launch} {D : va_G} {cy : cyS} {G : gS} {M M' : mS} {r : Int32} {a0 : Nat} {c1 : Int32} {c2 : Int32} (hG : wt G) (hL0 : a0 ∈ gL G) (hK0 : gK G a0 = 11) (h : m_X12_face G M a0 c1 c2 = some (M', r)) : ctI l yX12_face wsX12_face rmX12_face D cy G M [.ref a0, .int c1, .int c2] M' r := by
  unfold m_X12_face at h
  refine ctI_of (cc := cX12_face) (nL := 4) (ret := (some .int)) (lv := [(0, .ref a0), (1, .int c1), (2, .int c2)]) hG (by decide) rfl ⟨rfl, rfl⟩ (Nat.le_of_ble_eq_true rfl) rfl ?_
  intro p e s m args below meth c A ls cx w hl
  obtain ⟨hx, hb, hml, hown, hts, hr, hlocks, hK, hA, -, hsx⟩ := id cx
  have hkn : 0 ≤ (rmX12_face).cells ∧ 0 ≤ (rmX12_face).slots := ⟨Nat.zero_le _, Nat.zero_le _⟩
  refine lv_aload_n hx hb dX12_face_0 rfl (lv_at hl 0 rfl) ?_
  refine lv_iconst (v := (0 : Int32)) hx hb dX12_face_1 (by decide) ?_
  obtain ⟨M1, eM1, h⟩ := x_wI h
  refine r_putI (k := 0) (ty := .int) cx w tyX12 tyX12_ok nmX12 hL0 hK0 (by decide) rfl wi_X12_face_X12 (by decide) rfl rfl rfl rfl st_11_0 (ln_11 _ _ (by decide)) (List.mem_of_getElem? (i := 1) rfl) dX12_face_2 eM1 (fun H locs w => ?_)
  refine lv_aload_n hx hb dX12_face_5 rfl (lv_at hl 0 rfl) ?_
  refine lv_iload_n hx hb dX12_face_6 rfl (lv_at hl 1 rfl) ?_
  obtain ⟨M2, r3, y4, h⟩ := x_cl h
  refine r_callVi (As := [.int c1]) (rest := []) cx w hkn hl.1 (k_X12_isAnt hG hL0 hK0 y4) (cwV 1 hts gX12_face_X12_isAnt rfl rfl rfl (by decide +kernel) ⟨Nat.le_of_ble_eq_true rfl, Nat.le_of_ble_eq_true rfl⟩) hL0 hK0 (by decide) rfl rfl rfl (Nat.le_of_ble_eq_true rfl) dX12_face_7 (fun H locs w => ?_)
  refine lv_if_eq (tgt := 22) hx hb dX12_face_10 (by decide) (fun k5 => ?_) (fun k5 => ?_)
  · have h := x_t h k5
    exact b_X12_face_22 cx hkn hL0 hK0 M2 H locs ls h w (lv_sub hl [0] rfl)
  · have h := x_f h k5
    refine lv_iload_n hx hb dX12_face_13 rfl (lv_at hl 2 rfl) ?_
    refine lv_iconst (v := (0 : Int32)) hx hb dX12_face_14 (by decide) ?_
    refine lv_iconst (v := (3 : Int32)) hx hb dX12_face_15 (by decide) ?_
    obtain ⟨M6, r7, y8, h⟩ := x_cl h
    refine r_callSi (As := [.int c2, .int ((0 : Int32)), .int ((3 : Int32))]) (rest := []) cx w hkn hl.1 (k_X12_isIn hG y8) (va_cwS 3 hts gX12_face_X12_isIn rfl rfl rfl (by decide +kernel) ⟨Nat.le_of_ble_eq_true rfl, Nat.le_of_ble_eq_true rfl⟩) rfl rfl (Nat.le_of_ble_eq_true rfl) dX12_face_16 (fun H locs w => ?_)
    refine lv_if_ne (tgt := 28) hx hb dX12_face_19 (by decide) (fun k9 => ?_) (fun k9 => ?_)
    · have h := x_f h k9
      refine lv_aload_n hx hb dX12_face_28 rfl (lv_at hl 0 rfl) ?_
      obtain ⟨q10, eq10, h⟩ := x_rf h
      obtain ⟨hLq10, hKq10⟩ := wt_q hG hL0 hK0 eq10
      have hKq10 : gK G q10 = 10 := hKq10
      refine r_getR (k := 13) cx w hL0 hK0 (by decide) rfl wi_X12_face_X12 (by decide) rfl eq10 (List.mem_of_getElem? (i := 2) rfl) dX12_face_29 ?_
      obtain ⟨q11, eq11, h⟩ := x_rf h
      obtain ⟨hLq11, hKq11⟩ := wt_q hG hLq10 hKq10 eq11
      have hKq11 : gK G q11 = 12 := hKq11
      refine r_getRN (k := 8) cx w hLq10 hKq10 (by decide) rfl wi_X12_face_X11 (by decide) rfl eq11 (nwF cx (q := (RX12, 330, "FlagAntsModel$State", "side", "[I", "FlagAntsModel")) (List.mem_of_getElem? (i := 27) rfl)) dX12_face_32 ?_
      refine lv_iload_n hx hb dX12_face_35 rfl (lv_at hl 1 rfl) ?_
      obtain ⟨z12, h⟩ := x_ix h
      refine r_iald cx w hLq11 hKq11 z12 dX12_face_36 ?_
      obtain ⟨x13, ex13, h⟩ := x_bd h
      refine r_topI ex13 ?_
      refine lv_istore_n (lv' := [(3, .int x13), (0, .ref a0), (1, .int c1), (2, .int c2)]) hx hb dX12_face_37 rfl hl (by decide) rfl (fun ls hl => ?_)
      refine lv_aload_n hx hb dX12_face_38 rfl (lv_at hl 1 rfl) ?_
      obtain ⟨q14, eq14, h⟩ := x_rf h
      obtain ⟨hLq14, hKq14⟩ := wt_q hG hL0 hK0 eq14
      have hKq14 : gK G q14 = 10 := hKq14
      refine r_getR (k := 13) cx w hL0 hK0 (by decide) rfl wi_X12_face_X12 (by decide) rfl eq14 (List.mem_of_getElem? (i := 2) rfl) dX12_face_39 ?_
      obtain ⟨q15, eq15, h⟩ := x_rf h
      obtain ⟨hLq15, hKq15⟩ := wt_q hG hLq14 hKq14 eq15
      have hKq15 : gK G q15 = 12 := hKq15
      refine r_getRN (k := 8) cx w hLq14 hKq14 (by decide) rfl wi_X12_face_X11 (by decide) rfl eq15 (nwF cx (q := (RX12, 330, "FlagAntsModel$State", "side", "[I", "FlagAntsModel")) (List.mem_of_getElem? (i := 27) rfl)) dX12_face_42 ?_
      refine lv_iload_n hx hb dX12_face_45 rfl (lv_at hl 2 rfl) ?_
      refine lv_iload_n hx hb dX12_face_46 rfl (lv_at hl 3 rfl) ?_
      obtain ⟨z16, h⟩ := x_ix h
      obtain ⟨M17, eM17, h⟩ := x_wI h
      refine r_iast cx w hLq15 hKq15 z16 dX12_face_47 eM17 (fun H locs w => ?_)
      refine lv_aload_n hx hb dX12_face_48 rfl (lv_at hl 1 rfl) ?_
      obtain ⟨q18, eq18, h⟩ := x_rf h
      obtain ⟨hLq18, hKq18⟩ := wt_q hG hL0 hK0 eq18
      have hKq18 : gK G q18 = 10 := hKq18
      refine r_getR (k := 13) cx w hL0 hK0 (by decide) rfl wi_X12_face_X12 (by decide) rfl eq18 (List.mem_of_getElem? (i := 2) rfl) dX12_face_49 ?_
      refine lv_iload_n hx hb dX12_face_52 rfl (lv_at hl 2 rfl) ?_
      obtain ⟨M19, r20, y21, h⟩ := x_cl h
      refine r_callVv (As := [.int c1]) (rest := []) cx w hkn hl.1 (k_X11_forget hG hLq18 hKq18 y21) (cwV 1 hts gX12_face_X11_forget rfl rfl rfl (by decide +kernel) ⟨Nat.le_of_ble_eq_true rfl, Nat.le_of_ble_eq_true rfl⟩) hLq18 hKq18 (by decide) rfl rfl rfl (Nat.le_of_ble_eq_true rfl) dX12_face_53 (fun H locs w => ?_)
      refine lv_iload_n hx hb dX12_face_56 rfl (lv_at hl 0 rfl) ?_
      exact r_iret cx w h dX12_face_57
    · have h := x_t h k9
      exact b_X12_face_22 cx hkn hL0 hK0 M6 H locs ls h w (lv_sub hl [0] rfl)
-- X12_foresee
theorem wi_X12_foresee_X12 : ∀ w ∈ wsX120, w ∈ wsX12_foresee := by decide +kernel
abbrev rmX12_foresee : Room := { frames := 6, cells := 0, slots := 0, locals := 151 }
def m_X12_foresee (G : gS) (M : mS) (a0 : Nat) (c1 : Int32) (c2 : Int32) : Option (mS × Int32) := o_wI M a0 0 (0 : Int32) (fun M1 => o_cl (m_X12_isIn G M1 c1 (1 : Int32) (1000 : Int32)) (fun M2 r3 => (if r3 = 0 then o_cl (m_X12_no G M2 a0 (1 : Int32)) (fun M26 r27 => some (M26, r27)) else o_cl (m_X12_isIn G M2 c2 (4 : Int32) (9 : Int32)) (fun M6 r7 => (if r7 = 0 then o_cl (m_X12_no G M6 a0 (2 : Int32)) (fun M10 r11 => some (M10, r11)) else o_rf (gP G a0 14) (fun q13 => o_rf (gP G a0 13) (fun q14 => o_cl (m_X11_become G M6 q13 q14) (fun M15 r16 => o_ck (r16 ∈ gL G ∧ gK G r16 = 10) (o_cl (m_X11_pass_ G M15 r16 c1) (fun M19 r20 => o_ck (r20 ∈ gL G ∧ gK G r20 = 10) (o_cl (m_X11_counted G M19 r20 c2) (fun M23 r24 => some (M23, r24)))))))))))))
set_option maxHeartbeats 4000000 in
set_option maxRecDepth 100000 in
theorem k_X12_foresee {l : Launch} {D : va_G} {cy : cyS} {G : gS} {M M' : mS} {r : Int32} {a0 : Nat} {c1 : Int32} {c2 : Int32} (hG : wt G) (hL0 : a0 ∈ gL G) (hK0 : gK G a0 = 11) (h : m_X12_foresee G M a0 c1 c2 = some (M', r)) : ctI l yX12_foresee wsX12_foresee rmX12_foresee D cy G M [.ref a0, .int c1, .int c2] M' r := by
  unfold m_X12_foresee at h
  refine ctI_of (cc := cX12_foresee) (nL := 3) (ret := (some .int)) (lv := [(0, .ref a0), (1, .int c1), (2, .int c2)]) hG (by decide) rfl ⟨rfl, rfl⟩ (Nat.le_of_ble_eq_true rfl) rfl ?_
  intro p e s m args below meth c A ls cx w hl
  obtain ⟨hx, hb, hml, hown, hts, hr, hlocks, hK, hA, -, hsx⟩ := id cx
  have hkn : 0 ≤ (rmX12_foresee).cells ∧ 0 ≤ (rmX12_foresee).slots := ⟨Nat.zero_le _, Nat.zero_le _⟩
  refine lv_aload_n hx hb dX12_foresee_0 rfl (lv_at hl 0 rfl) ?_
  refine lv_iconst (v := (0 : Int32)) hx hb dX12_foresee_1 (by decide) ?_
  obtain ⟨M1, eM1, h⟩ := x_wI h
  refine r_putI (k := 0) (ty := .int) cx w tyX12 tyX12_ok nmX12 hL0 hK0 (by decide) rfl wi_X12_foresee_X12 (by decide) rfl rfl rfl rfl st_11_0 (ln_11 _ _ (by decide)) (List.mem_of_getElem? (i := 1) rfl) dX12_foresee_2 eM1 (fun H locs w => ?_)
  refine lv_iload_n hx hb dX12_foresee_5 rfl (lv_at hl 1 rfl) ?_
  refine lv_iconst (v := (1 : Int32)) hx hb dX12_foresee_6 (by decide) ?_
  refine lv_sipush (v := (1000 : Int32)) hx hb dX12_foresee_7 (by decide) ?_
  obtain ⟨M2, r3, y4, h⟩ := x_cl h
  refine r_callSi (As := [.int c1, .int ((1 : Int32)), .int ((1000 : Int32))]) (rest := []) cx w hkn hl.1 (k_X12_isIn hG y4) (va_cwS 3 hts gX12_foresee_X12_isIn rfl rfl rfl (by decide +kernel) ⟨Nat.le_of_ble_eq_true rfl, Nat.le_of_ble_eq_true rfl⟩) rfl rfl (Nat.le_of_ble_eq_true rfl) dX12_foresee_10 (fun H locs w => ?_)
  refine lv_if_ne (tgt := 22) hx hb dX12_foresee_13 (by decide) (fun k5 => ?_) (fun k5 => ?_)
  · have h := x_f h k5
    refine lv_iload_n hx hb dX12_foresee_22 rfl (lv_at hl 2 rfl) ?_
    refine lv_iconst (v := (4 : Int32)) hx hb dX12_foresee_23 (by decide) ?_
    refine lv_bipush (v := (9 : Int32)) hx hb dX12_foresee_24 (by decide) ?_
    obtain ⟨M6, r7, y8, h⟩ := x_cl h
    refine r_callSi (As := [.int c2, .int ((4 : Int32)), .int ((9 : Int32))]) (rest := []) cx w hkn hl.1 (k_X12_isIn hG y8) (va_cwS 3 hts gX12_foresee_X12_isIn rfl rfl rfl (by decide +kernel) ⟨Nat.le_of_ble_eq_true rfl, Nat.le_of_ble_eq_true rfl⟩) rfl rfl (Nat.le_of_ble_eq_true rfl) dX12_foresee_26 (fun H locs w => ?_)
    refine lv_if_eq (tgt := 54) hx hb dX12_foresee_29 (by decide) (fun k9 => ?_) (fun k9 => ?_)
    · have h := x_t h k9
      refine lv_aload_n hx hb dX12_foresee_54 rfl (lv_at hl 0 rfl) ?_
      refine lv_iconst (v := (2 : Int32)) hx hb dX12_foresee_55 (by decide) ?_
      obtain ⟨M10, r11, y12, h⟩ := x_cl h
      refine r_callVi (As := [.int ((2 : Int32))]) (rest := []) cx w hkn hl.1 (k_X12_no hG hL0 hK0 y12) (cwV 1 hts gX12_foresee_X12_no rfl rfl rfl (by decide +kernel) ⟨Nat.le_of_ble_eq_true rfl, Nat.le_of_ble_eq_true rfl⟩) hL0 hK0 (by decide) rfl rfl rfl (Nat.le_of_ble_eq_true rfl) dX12_foresee_56 (fun H locs w => ?_)
      exact r_iret cx w h dX12_foresee_59
    · have h := x_f h k9
      refine lv_aload_n hx hb dX12_foresee_32 rfl (lv_at hl 0 rfl) ?_
      obtain ⟨q13, eq13, h⟩ := x_rf h
      obtain ⟨hLq13, hKq13⟩ := wt_q hG hL0 hK0 eq13
      have hKq13 : gK G q13 = 10 := hKq13
      refine r_getR (k := 14) cx w hL0 hK0 (by decide) rfl wi_X12_foresee_X12 (by decide) rfl eq13 (List.mem_of_getElem? (i := 2) rfl) dX12_foresee_33 ?_
      refine lv_aload_n hx hb dX12_foresee_36 rfl (lv_at hl 0 rfl) ?_
      obtain ⟨q14, eq14, h⟩ := x_rf h
      obtain ⟨hLq14, hKq14⟩ := wt_q hG hL0 hK0 eq14
      have hKq14 : gK G q14 = 10 := hKq14
      refine r_getR (k := 13) cx w hL0 hK0 (by decide) rfl wi_X12_foresee_X12 (by decide) rfl eq14 (List.mem_of_getElem? (i := 3) rfl) dX12_foresee_37 ?_
      obtain ⟨M15, r16, y17, h⟩ := x_cl h
      refine r_callVr (As := [.ref q14]) (rest := []) cx w hkn hl.1 (k_X11_become hG hLq13 hKq13 hLq14 hKq14 y17) (cwV 1 hts gX12_foresee_X11_become rfl rfl rfl (by decide +kernel) ⟨Nat.le_of_ble_eq_true rfl, Nat.le_of_ble_eq_true rfl⟩) hLq13 hKq13 (by decide) rfl rfl rfl (Nat.le_of_ble_eq_true rfl) dX12_foresee_40 (fun H locs w => ?_)
      obtain ⟨⟨hLr16, hKr16⟩, h⟩ := x_ck h
      refine lv_iload_n hx hb dX12_foresee_43 rfl (lv_at hl 1 rfl) ?_
      obtain ⟨M19, r20, y21, h⟩ := x_cl h
      refine r_callVr (As := [.int c1]) (rest := []) cx w hkn hl.1 (k_X11_pass_ hG hLr16 hKr16 y21) (cwV 1 hts gX12_foresee_X11_pass_ rfl rfl rfl (by decide +kernel) ⟨Nat.le_of_ble_eq_true rfl, Nat.le_of_ble_eq_true rfl⟩) hLr16 hKr16 (by decide) rfl rfl rfl (Nat.le_of_ble_eq_true rfl) dX12_foresee_44 (fun H locs w => ?_)
      obtain ⟨⟨hLr20, hKr20⟩, h⟩ := x_ck h
      refine lv_iload_n hx hb dX12_foresee_47 rfl (lv_at hl 2 rfl) ?_
      obtain ⟨M23, r24, y25, h⟩ := x_cl h
      refine r_callVi (As := [.int c2]) (rest := []) cx w hkn hl.1 (k_X11_counted hG hLr20 hKr20 y25) (cwV 1 hts gX12_foresee_X11_counted rfl rfl rfl (by decide +kernel) ⟨Nat.le_of_ble_eq_true rfl, Nat.le_of_ble_eq_true rfl⟩) hLr20 hKr20 (by decide) rfl rfl rfl (Nat.le_of_ble_eq_true rfl) dX12_foresee_48 (fun H locs w => ?_)
      refine lv_goto (tgt := 59) hx hb dX12_foresee_51 (by decide) ?_
      exact r_iret cx w h dX12_foresee_59
  · have h := x_t h k5
    refine lv_aload_n hx hb dX12_foresee_16 rfl (lv_at hl 0 rfl) ?_
    refine lv_iconst (v := (1 : Int32)) hx hb dX12_foresee_17 (by decide) ?_
    obtain ⟨M26, r27, y28, h⟩ := x_cl h
    refine r_callVi (As := [.int ((1 : Int32))]) (rest := []) cx w hkn hl.1 (k_X12_no hG hL0 hK0 y28) (cwV 1 hts gX12_foresee_X12_no rfl rfl rfl (by decide +kernel) ⟨Nat.le_of_ble_eq_true rfl, Nat.le_of_ble_eq_true rfl⟩) hL0 hK0 (by decide) rfl rfl rfl (Nat.le_of_ble_eq_true rfl) dX12_foresee_18 (fun H locs w => ?_)
    exact r_iret cx w h dX12_foresee_21
-- X12_found
theorem wi_X12_found_X12 : ∀ w ∈ wsX120, w ∈ wsX12_found := by decide +kernel
abbrev rmX12_found : Room := { frames := 5, cells := 0, slots := 0, locals := 129 }
def m_X12_found_19 (G : gS) (a0 : Nat)  : Nat → mS → Int32 → Option (mS × Int32)
  | 0, _, _ => none
  | n + 1, M, v1 => (if (2000 : Int32) < v1 then some (M, (-1 : Int32)) else o_rf (gP G a0 14) (fun q2 => o_cl (m_X11_isAnyOnHighway G M q2) (fun M3 r4 => (if r4 = 0 then o_rf (gP G a0 14) (fun q7 => o_cl (m_X11_pass G M3 q7) (fun M8 r9 => o_bd (v1 + 1 : Int32) (fun x11 => m_X12_found_19 G a0 n M8 x11))) else some (M3, v1)))))
def m_X12_found (G : gS) (M : mS) (a0 : Nat) : Option (mS × Int32) := o_wI M a0 0 (0 : Int32) (fun M1 => o_rf (gP G a0 14) (fun q2 => o_rf (gP G a0 13) (fun q3 => o_cl (m_X11_become G M1 q2 q3) (fun M4 r5 => o_ck (r5 ∈ gL G ∧ gK G r5 = 10) (m_X12_found_19 G a0 fu M4 ((0 : Int32)))))))
set_option maxHeartbeats 4000000 in
set_option maxRecDepth 100000 in
theorem b_X12_found_19 {p : Program} {e : Env} {s : State} {m : MethodId} {args : Array Value} {below : List Frame} {meth : Method} {c : Code} {A : Nat → Prop} {l : Launch} {D : va_G} {cy : cyS} {G : gS} (cx : cX p s m args meth c cX12_found RX12 2 (some .int) wsX12_found D cy G A) {k0 n0 : Nat} (hkn : k0 ≤ (rmX12_found).cells ∧ n0 ≤ (rmX12_found).slots) {M' : mS} {r : Int32} {a0 : Nat} (hL0 : a0 ∈ gL G) (hK0 : gK G a0 = 11)  : ∀ (n : Nat), ∀ (M : mS) (v1 : Int32) (H : Heap) (locs : List Loc) (ls : Array Slot), m_X12_found_19 G a0 n M v1 = some (M', r) → wd D cy G M A s.heap H locs → lv_has ls 2 [(0, .ref a0), (1, .int v1)] → W p l e rmX12_found s m args below meth c H locs k0 n0 (MQ below (va_Qi (fun (r' : Int32) (_ : Unit) => r' = r) (fun _ t => wOut D cy G M' t) A) args s k0 n0 A) (F0 m 19 ls []) := by
  obtain ⟨hx, hb, hml, hown, hts, hr, hlocks, hK, hA, hG, hsx⟩ := id cx
  intro n
  induction n with
  | zero =>
    intro M v1 H locs ls h w hl
    have h : none = some _ := h
    cases h
  | succ n ih =>
    intro M v1 H locs ls h w hl
    rw [m_X12_found_19] at h
    refine lv_iload_n hx hb dX12_found_19 rfl (lv_at hl 1 rfl) ?_
    refine lv_sipush (v := (2000 : Int32)) hx hb dX12_found_20 (by decide) ?_
    refine lv_icmp_gt (tgt := 51) hx hb dX12_found_23 (by decide) (fun k1 => ?_) (fun k1 => ?_)
    · have h := x_t h k1
      refine lv_iconst (v := (-1 : Int32)) hx hb dX12_found_51 (by decide) ?_
      exact r_iret cx w h dX12_found_52
    · have h := x_f h k1
      refine lv_aload_n hx hb dX12_found_26 rfl (lv_at hl 0 rfl) ?_
      obtain ⟨q2, eq2, h⟩ := x_rf h
      obtain ⟨hLq2, hKq2⟩ := wt_q hG hL0 hK0 eq2
      have hKq2 : gK G q2 = 10 := hKq2
      refine r_getR (k := 14) cx w hL0 hK0 (by decide) rfl wi_X12_found_X12 (by decide) rfl eq2 (List.mem_of_getElem? (i := 2) rfl) dX12_found_27 ?_
      obtain ⟨M3, r4, y5, h⟩ := x_cl h
      refine r_callVi (As := []) (rest := []) cx w hkn hl.1 (k_X11_isAnyOnHighway hG hLq2 hKq2 y5) (cwV 0 hts gX12_found_X11_isAnyOnHighway rfl rfl rfl (by decide +kernel) ⟨Nat.le_of_ble_eq_true rfl, Nat.le_of_ble_eq_true rfl⟩) hLq2 hKq2 (by decide) rfl rfl rfl (Nat.le_of_ble_eq_true rfl) dX12_found_30 (fun H locs w => ?_)
      refine lv_if_eq (tgt := 38) hx hb dX12_found_33 (by decide) (fun k6 => ?_) (fun k6 => ?_)
      · have h := x_t h k6
        refine lv_aload_n hx hb dX12_found_38 rfl (lv_at hl 0 rfl) ?_
        obtain ⟨q7, eq7, h⟩ := x_rf h
        obtain ⟨hLq7, hKq7⟩ := wt_q hG hL0 hK0 eq7
        have hKq7 : gK G q7 = 10 := hKq7
        refine r_getR (k := 14) cx w hL0 hK0 (by decide) rfl wi_X12_found_X12 (by decide) rfl eq7 (List.mem_of_getElem? (i := 2) rfl) dX12_found_39 ?_
        obtain ⟨M8, r9, y10, h⟩ := x_cl h
        refine r_callVv (As := []) (rest := []) cx w hkn hl.1 (k_X11_pass hG hLq7 hKq7 y10) (cwV 0 hts gX12_found_X11_pass rfl rfl rfl (by decide +kernel) ⟨Nat.le_of_ble_eq_true rfl, Nat.le_of_ble_eq_true rfl⟩) hLq7 hKq7 (by decide) rfl rfl rfl (Nat.le_of_ble_eq_true rfl) dX12_found_42 (fun H locs w => ?_)
        obtain ⟨x11, ex11, h⟩ := x_bd h
        refine lv_iinc (v := x11) (lv' := [(1, .int x11), (0, .ref a0)]) hx hb dX12_found_45 hl (k := 1) rfl (by rw [ex11]; rfl) (by decide) rfl (fun ls hl => ?_)
        refine lv_goto (tgt := 19) hx hb dX12_found_48 (by decide) ?_
        exact ih M8 x11 H locs ls h w (lv_sub hl [1, 0] rfl)
      · have h := x_f h k6
        refine lv_iload_n hx hb dX12_found_36 rfl (lv_at hl 1 rfl) ?_
        exact r_iret cx w h dX12_found_37
set_option maxHeartbeats 4000000 in
set_option maxRecDepth 100000 in
theorem k_X12_found {l : Launch} {D : va_G} {cy : cyS} {G : gS} {M M' : mS} {r : Int32} {a0 : Nat} (hG : wt G) (hL0 : a0 ∈ gL G) (hK0 : gK G a0 = 11) (h : m_X12_found G M a0 = some (M', r)) : ctI l yX12_found wsX12_found rmX12_found D cy G M [.ref a0] M' r := by
  unfold m_X12_found at h
  refine ctI_of (cc := cX12_found) (nL := 2) (ret := (some .int)) (lv := [(0, .ref a0)]) hG (by decide) rfl ⟨rfl, rfl⟩ (Nat.le_of_ble_eq_true rfl) rfl ?_
  intro p e s m args below meth c A ls cx w hl
  obtain ⟨hx, hb, hml, hown, hts, hr, hlocks, hK, hA, -, hsx⟩ := id cx
  have hkn : 0 ≤ (rmX12_found).cells ∧ 0 ≤ (rmX12_found).slots := ⟨Nat.zero_le _, Nat.zero_le _⟩
  refine lv_aload_n hx hb dX12_found_0 rfl (lv_at hl 0 rfl) ?_
  refine lv_iconst (v := (0 : Int32)) hx hb dX12_found_1 (by decide) ?_
  obtain ⟨M1, eM1, h⟩ := x_wI h
  refine r_putI (k := 0) (ty := .int) cx w tyX12 tyX12_ok nmX12 hL0 hK0 (by decide) rfl wi_X12_found_X12 (by decide) rfl rfl rfl rfl st_11_0 (ln_11 _ _ (by decide)) (List.mem_of_getElem? (i := 1) rfl) dX12_found_2 eM1 (fun H locs w => ?_)
  refine lv_aload_n hx hb dX12_found_5 rfl (lv_at hl 0 rfl) ?_
  obtain ⟨q2, eq2, h⟩ := x_rf h
  obtain ⟨hLq2, hKq2⟩ := wt_q hG hL0 hK0 eq2
  have hKq2 : gK G q2 = 10 := hKq2
  refine r_getR (k := 14) cx w hL0 hK0 (by decide) rfl wi_X12_found_X12 (by decide) rfl eq2 (List.mem_of_getElem? (i := 2) rfl) dX12_found_6 ?_
  refine lv_aload_n hx hb dX12_found_9 rfl (lv_at hl 0 rfl) ?_
  obtain ⟨q3, eq3, h⟩ := x_rf h
  obtain ⟨hLq3, hKq3⟩ := wt_q hG hL0 hK0 eq3
  have hKq3 : gK G q3 = 10 := hKq3
  refine r_getR (k := 13) cx w hL0 hK0 (by decide) rfl wi_X12_found_X12 (by decide) rfl eq3 (List.mem_of_getElem? (i := 3) rfl) dX12_found_10 ?_
  obtain ⟨M4, r5, y6, h⟩ := x_cl h
  refine r_callVr (As := [.ref q3]) (rest := []) cx w hkn hl.1 (k_X11_become hG hLq2 hKq2 hLq3 hKq3 y6) (cwV 1 hts gX12_found_X11_become rfl rfl rfl (by decide +kernel) ⟨Nat.le_of_ble_eq_true rfl, Nat.le_of_ble_eq_true rfl⟩) hLq2 hKq2 (by decide) rfl rfl rfl (Nat.le_of_ble_eq_true rfl) dX12_found_13 (fun H locs w => ?_)
  obtain ⟨⟨hLr5, hKr5⟩, h⟩ := x_ck h
  refine lv_pop hx hb dX12_found_16 rfl ?_
  refine lv_iconst (v := (0 : Int32)) hx hb dX12_found_17 (by decide) ?_
  refine lv_istore_n (lv' := [(1, .int ((0 : Int32))), (0, .ref a0)]) hx hb dX12_found_18 rfl hl (by decide) rfl (fun ls hl => ?_)
  exact b_X12_found_19 cx hkn hL0 hK0 fu M4 ((0 : Int32)) H locs ls h w (lv_sub hl [1, 0] rfl)
-- X12_halt
theorem wi_X12_halt_X11 : ∀ w ∈ wsX110, w ∈ wsX12_halt := by decide +kernel
theorem wi_X12_halt_X12 : ∀ w ∈ wsX120, w ∈ wsX12_halt := by decide +kernel
abbrev rmX12_halt : Room := { frames := 2, cells := 0, slots := 0, locals := 43 }
def m_X12_halt_14 (G : gS) (a0 : Nat) (c1 : Int32)  (M : mS) (s1 : Int32) : Option (mS × Int32) := o_wI M a0 0 s1 (fun M1 => (if (mI M1 a0 0) = 0 then o_rf (gP G a0 13) (fun q3 => o_rf (gP G q3 9) (fun q4 => o_rf (gP G a0 13) (fun q5 => o_rf (gP G q5 9) (fun q6 => o_ix c1 (gN G q6) (o_ix c1 (gN G q4) (o_wI M1 q4 (Int32.toNatClampNeg c1) ((1 : Int32) - (mI M1 q6 (Int32.toNatClampNeg c1))) (fun M9 => o_rf (gP G a0 13) (fun q10 => o_rf (gP G q10 9) (fun q11 => o_ix c1 (gN G q11) ((if (mI M9 q11 (Int32.toNatClampNeg c1)) = 0 then o_ck ((1 : Int32) = 0 ∨ (1 : Int32) = 1) (some (M9, (1 : Int32))) else o_ck ((0 : Int32) = 0 ∨ (0 : Int32) = 1) (some (M9, (0 : Int32)))))))))))))) else o_ck ((0 : Int32) = 0 ∨ (0 : Int32) = 1) (some (M1, (0 : Int32)))))
def m_X12_halt (G : gS) (M : mS) (a0 : Nat) (c1 : Int32) : Option (mS × Int32) := o_cl (m_X12_isAnt G M a0 c1) (fun M1 r2 => (if r2 = 0 then m_X12_halt_14 G a0 c1 M1 ((1 : Int32)) else m_X12_halt_14 G a0 c1 M1 ((0 : Int32))))
set_option maxHeartbeats 4000000 in
set_option maxRecDepth 100000 in
theorem b_X12_halt_14 {p : Program} {e : Env} {s : State} {m : MethodId} {args : Array Value} {below : List Frame} {meth : Method} {c : Code} {A : Nat → Prop} {l : Launch} {D : va_G} {cy : cyS} {G : gS} (cx : cX p s m args meth c cX12_halt RX12 2 (some .boolean) wsX12_halt D cy G A) {k0 n0 : Nat} (hkn : k0 ≤ (rmX12_halt).cells ∧ n0 ≤ (rmX12_halt).slots) {M' : mS} {r : Int32} {a0 : Nat} {c1 : Int32} (hL0 : a0 ∈ gL G) (hK0 : gK G a0 = 11)  : ∀ (M : mS) (s1 : Int32) (H : Heap) (locs : List Loc) (ls : Array Slot), m_X12_halt_14 G a0 c1 M s1 = some (M', r) → wd D cy G M A s.heap H locs → lv_has ls 2 [(0, .ref a0), (1, .int c1)] → W p l e rmX12_halt s m args below meth c H locs k0 n0 (MQ below (va_Qi (fun (r' : Int32) (_ : Unit) => r' = r) (fun _ t => wOut D cy G M' t) A) args s k0 n0 A) (F0 m 14 ls [.int s1, .ref a0]) := by
  obtain ⟨hx, hb, hml, hown, hts, hr, hlocks, hK, hA, hG, hsx⟩ := id cx
  intro M s1 H locs ls h w hl
  unfold m_X12_halt_14 at h
  obtain ⟨M1, eM1, h⟩ := x_wI h
  refine r_putI (k := 0) (ty := .int) cx w tyX12 tyX12_ok nmX12 hL0 hK0 (by decide) rfl wi_X12_halt_X12 (by decide) rfl rfl rfl rfl st_11_0 (ln_11 _ _ (by decide)) (List.mem_of_getElem? (i := 1) rfl) dX12_halt_14 eM1 (fun H locs w => ?_)
  refine lv_aload_n hx hb dX12_halt_17 rfl (lv_at hl 0 rfl) ?_
  refine r_getI (k := 0) (v := .int (mI M1 a0 0)) cx w hL0 hK0 (by decide) rfl wi_X12_halt_X12 (by decide) rfl (List.mem_of_getElem? (i := 1) rfl) dX12_halt_18 ?_
  refine lv_if_eq (tgt := 26) hx hb dX12_halt_21 (by decide) (fun k2 => ?_) (fun k2 => ?_)
  · have h := x_t h k2
    refine lv_aload_n hx hb dX12_halt_26 rfl (lv_at hl 0 rfl) ?_
    obtain ⟨q3, eq3, h⟩ := x_rf h
    obtain ⟨hLq3, hKq3⟩ := wt_q hG hL0 hK0 eq3
    have hKq3 : gK G q3 = 10 := hKq3
    refine r_getR (k := 13) cx w hL0 hK0 (by decide) rfl wi_X12_halt_X12 (by decide) rfl eq3 (List.mem_of_getElem? (i := 2) rfl) dX12_halt_27 ?_
    obtain ⟨q4, eq4, h⟩ := x_rf h
    obtain ⟨hLq4, hKq4⟩ := wt_q hG hLq3 hKq3 eq4
    have hKq4 : gK G q4 = 12 := hKq4
    refine r_getRN (k := 9) cx w hLq3 hKq3 (by decide) rfl wi_X12_halt_X11 (by decide) rfl eq4 (nwF cx (q := (RX12, 331, "FlagAntsModel$State", "rests", "[I", "FlagAntsModel")) (List.mem_of_getElem? (i := 28) rfl)) dX12_halt_30 ?_
    refine lv_iload_n hx hb dX12_halt_33 rfl (lv_at hl 1 rfl) ?_
    refine lv_iconst (v := (1 : Int32)) hx hb dX12_halt_34 (by decide) ?_
    refine lv_aload_n hx hb dX12_halt_35 rfl (lv_at hl 0 rfl) ?_
    obtain ⟨q5, eq5, h⟩ := x_rf h
    obtain ⟨hLq5, hKq5⟩ := wt_q hG hL0 hK0 eq5
    have hKq5 : gK G q5 = 10 := hKq5
    refine r_getR (k := 13) cx w hL0 hK0 (by decide) rfl wi_X12_halt_X12 (by decide) rfl eq5 (List.mem_of_getElem? (i := 2) rfl) dX12_halt_36 ?_
    obtain ⟨q6, eq6, h⟩ := x_rf h
    obtain ⟨hLq6, hKq6⟩ := wt_q hG hLq5 hKq5 eq6
    have hKq6 : gK G q6 = 12 := hKq6
    refine r_getRN (k := 9) cx w hLq5 hKq5 (by decide) rfl wi_X12_halt_X11 (by decide) rfl eq6 (nwF cx (q := (RX12, 331, "FlagAntsModel$State", "rests", "[I", "FlagAntsModel")) (List.mem_of_getElem? (i := 28) rfl)) dX12_halt_39 ?_
    refine lv_iload_n hx hb dX12_halt_42 rfl (lv_at hl 1 rfl) ?_
    obtain ⟨z7, h⟩ := x_ix h
    refine r_iald cx w hLq6 hKq6 z7 dX12_halt_43 ?_
    refine lv_isub hx hb dX12_halt_44 ?_
    obtain ⟨z8, h⟩ := x_ix h
    obtain ⟨M9, eM9, h⟩ := x_wI h
    refine r_iast cx w hLq4 hKq4 z8 dX12_halt_45 eM9 (fun H locs w => ?_)
    refine lv_aload_n hx hb dX12_halt_46 rfl (lv_at hl 0 rfl) ?_
    obtain ⟨q10, eq10, h⟩ := x_rf h
    obtain ⟨hLq10, hKq10⟩ := wt_q hG hL0 hK0 eq10
    have hKq10 : gK G q10 = 10 := hKq10
    refine r_getR (k := 13) cx w hL0 hK0 (by decide) rfl wi_X12_halt_X12 (by decide) rfl eq10 (List.mem_of_getElem? (i := 2) rfl) dX12_halt_47 ?_
    obtain ⟨q11, eq11, h⟩ := x_rf h
    obtain ⟨hLq11, hKq11⟩ := wt_q hG hLq10 hKq10 eq11
    have hKq11 : gK G q11 = 12 := hKq11
    refine r_getRN (k := 9) cx w hLq10 hKq10 (by decide) rfl wi_X12_halt_X11 (by decide) rfl eq11 (nwF cx (q := (RX12, 331, "FlagAntsModel$State", "rests", "[I", "FlagAntsModel")) (List.mem_of_getElem? (i := 28) rfl)) dX12_halt_50 ?_
    refine lv_iload_n hx hb dX12_halt_53 rfl (lv_at hl 1 rfl) ?_
    obtain ⟨z12, h⟩ := x_ix h
    refine r_iald cx w hLq11 hKq11 z12 dX12_halt_54 ?_
    refine lv_if_ne (tgt := 62) hx hb dX12_halt_55 (by decide) (fun k13 => ?_) (fun k13 => ?_)
    · have h := x_f h k13
      refine lv_iconst (v := (0 : Int32)) hx hb dX12_halt_62 (by decide) ?_
      obtain ⟨z14, h⟩ := x_ck h
      exact r_zret cx w z14 h dX12_halt_63
    · have h := x_t h k13
      refine lv_iconst (v := (1 : Int32)) hx hb dX12_halt_58 (by decide) ?_
      refine lv_goto (tgt := 63) hx hb dX12_halt_59 (by decide) ?_
      obtain ⟨z15, h⟩ := x_ck h
      exact r_zret cx w z15 h dX12_halt_63
  · have h := x_f h k2
    refine lv_iconst (v := (0 : Int32)) hx hb dX12_halt_24 (by decide) ?_
    obtain ⟨z16, h⟩ := x_ck h
    exact r_zret cx w z16 h dX12_halt_25
set_option maxHeartbeats 4000000 in
set_option maxRecDepth 100000 in
theorem k_X12_halt {l : Launch} {D : va_G} {cy : cyS} {G : gS} {M M' : mS} {r : Int32} {a0 : Nat} {c1 : Int32} (hG : wt G) (hL0 : a0 ∈ gL G) (hK0 : gK G a0 = 11) (h : m_X12_halt G M a0 c1 = some (M', r)) : ctI l yX12_halt wsX12_halt rmX12_halt D cy G M [.ref a0, .int c1] M' r := by
  unfold m_X12_halt at h
  refine ctI_of (cc := cX12_halt) (nL := 2) (ret := (some .boolean)) (lv := [(0, .ref a0), (1, .int c1)]) hG (by decide) rfl ⟨rfl, rfl⟩ (Nat.le_of_ble_eq_true rfl) rfl ?_
  intro p e s m args below meth c A ls cx w hl
  obtain ⟨hx, hb, hml, hown, hts, hr, hlocks, hK, hA, -, hsx⟩ := id cx
  have hkn : 0 ≤ (rmX12_halt).cells ∧ 0 ≤ (rmX12_halt).slots := ⟨Nat.zero_le _, Nat.zero_le _⟩
  refine lv_aload_n hx hb dX12_halt_0 rfl (lv_at hl 0 rfl) ?_
  refine lv_aload_n hx hb dX12_halt_1 rfl (lv_at hl 0 rfl) ?_
  refine lv_iload_n hx hb dX12_halt_2 rfl (lv_at hl 1 rfl) ?_
  obtain ⟨M1, r2, y3, h⟩ := x_cl h
  refine r_callVi (As := [.int c1]) (rest := [.ref a0]) cx w hkn hl.1 (k_X12_isAnt hG hL0 hK0 y3) (cwV 1 hts gX12_halt_X12_isAnt rfl rfl rfl (by decide +kernel) ⟨Nat.le_of_ble_eq_true rfl, Nat.le_of_ble_eq_true rfl⟩) hL0 hK0 (by decide) rfl rfl rfl (Nat.le_of_ble_eq_true rfl) dX12_halt_3 (fun H locs w => ?_)
  refine lv_if_eq (tgt := 13) hx hb dX12_halt_6 (by decide) (fun k4 => ?_) (fun k4 => ?_)
  · have h := x_t h k4
    refine lv_iconst (v := (1 : Int32)) hx hb dX12_halt_13 (by decide) ?_
    exact b_X12_halt_14 cx hkn hL0 hK0 M1 ((1 : Int32)) H locs ls h w (lv_sub hl [0, 1] rfl)
  · have h := x_f h k4
    refine lv_iconst (v := (0 : Int32)) hx hb dX12_halt_9 (by decide) ?_
    refine lv_goto (tgt := 14) hx hb dX12_halt_10 (by decide) ?_
    exact b_X12_halt_14 cx hkn hL0 hK0 M1 ((0 : Int32)) H locs ls h w (lv_sub hl [0, 1] rfl)
-- X12_isAntLine
theorem wi_X12_isAntLine_X12 : ∀ w ∈ wsX120, w ∈ wsX12_isAntLine := by decide +kernel
abbrev rmX12_isAntLine : Room := { frames := 3, cells := 0, slots := 0, locals := 67 }
def m_X12_isAntLine_94 (G : gS) (a0 : Nat)  (M : mS)  : Option (mS × Int32) := o_ck ((0 : Int32) = 0 ∨ (0 : Int32) = 1) (some (M, (0 : Int32)))
def m_X12_isAntLine (G : gS) (M : mS) (a0 : Nat) : Option (mS × Int32) := o_wI M a0 9 ((mI M a0 9) + (1 : Int32)) (fun M1 => o_cl (m_X12_eatAs G M1 a0 (40 : Int32) (2 : Int32)) (fun M2 r3 => (if r3 = 0 then m_X12_isAntLine_94 G a0 M2 else o_cl (m_X12_eat G M2 a0 (6 : Int32)) (fun M6 r7 => (if r7 = 0 then m_X12_isAntLine_94 G a0 M6 else o_cl (m_X12_eatAs G M6 a0 (40 : Int32) (4 : Int32)) (fun M10 r11 => (if r11 = 0 then m_X12_isAntLine_94 G a0 M10 else o_cl (m_X12_eat G M10 a0 (7 : Int32)) (fun M14 r15 => (if r15 = 0 then m_X12_isAntLine_94 G a0 M14 else o_cl (m_X12_eatAs G M14 a0 (41 : Int32) (5 : Int32)) (fun M18 r19 => (if r19 = 0 then m_X12_isAntLine_94 G a0 M18 else o_cl (m_X12_eatAs G M18 a0 (41 : Int32) (5 : Int32)) (fun M22 r23 => (if r23 = 0 then m_X12_isAntLine_94 G a0 M22 else o_cl (m_X12_eat G M22 a0 (8 : Int32)) (fun M26 r27 => (if r27 = 0 then m_X12_isAntLine_94 G a0 M26 else o_cl (m_X12_eatOne G M26 a0 (9 : Int32) (12 : Int32) (6 : Int32)) (fun M30 r31 => (if r31 = 0 then m_X12_isAntLine_94 G a0 M30 else o_ck ((1 : Int32) = 0 ∨ (1 : Int32) = 1) (some (M30, (1 : Int32))))))))))))))))))))
set_option maxHeartbeats 4000000 in
set_option maxRecDepth 100000 in
theorem b_X12_isAntLine_94 {p : Program} {e : Env} {s : State} {m : MethodId} {args : Array Value} {below : List Frame} {meth : Method} {c : Code} {A : Nat → Prop} {l : Launch} {D : va_G} {cy : cyS} {G : gS} (cx : cX p s m args meth c cX12_isAntLine RX12 1 (some .boolean) wsX12_isAntLine D cy G A) {k0 n0 : Nat} (hkn : k0 ≤ (rmX12_isAntLine).cells ∧ n0 ≤ (rmX12_isAntLine).slots) {M' : mS} {r : Int32} {a0 : Nat} (hL0 : a0 ∈ gL G) (hK0 : gK G a0 = 11)  : ∀ (M : mS) (H : Heap) (locs : List Loc) (ls : Array Slot), m_X12_isAntLine_94 G a0 M = some (M', r) → wd D cy G M A s.heap H locs → lv_has ls 1 [] → W p l e rmX12_isAntLine s m args below meth c H locs k0 n0 (MQ below (va_Qi (fun (r' : Int32) (_ : Unit) => r' = r) (fun _ t => wOut D cy G M' t) A) args s k0 n0 A) (F0 m 94 ls []) := by
  obtain ⟨hx, hb, hml, hown, hts, hr, hlocks, hK, hA, hG, hsx⟩ := id cx
  intro M H locs ls h w hl
  unfold m_X12_isAntLine_94 at h
  refine lv_iconst (v := (0 : Int32)) hx hb dX12_isAntLine_94 (by decide) ?_
  obtain ⟨z1, h⟩ := x_ck h
  exact r_zret cx w z1 h dX12_isAntLine_95
set_option maxHeartbeats 4000000 in
set_option maxRecDepth 100000 in
theorem k_X12_isAntLine {l : Launch} {D : va_G} {cy : cyS} {G : gS} {M M' : mS} {r : Int32} {a0 : Nat} (hG : wt G) (hL0 : a0 ∈ gL G) (hK0 : gK G a0 = 11) (h : m_X12_isAntLine G M a0 = some (M', r)) : ctI l yX12_isAntLine wsX12_isAntLine rmX12_isAntLine D cy G M [.ref a0] M' r := by
  unfold m_X12_isAntLine at h
  refine ctI_of (cc := cX12_isAntLine) (nL := 1) (ret := (some .boolean)) (lv := [(0, .ref a0)]) hG (by decide) rfl ⟨rfl, rfl⟩ (Nat.le_of_ble_eq_true rfl) rfl ?_
  intro p e s m args below meth c A ls cx w hl
  obtain ⟨hx, hb, hml, hown, hts, hr, hlocks, hK, hA, -, hsx⟩ := id cx
  have hkn : 0 ≤ (rmX12_isAntLine).cells ∧ 0 ≤ (rmX12_isAntLine).slots := ⟨Nat.zero_le _, Nat.zero_le _⟩
  refine lv_aload_n hx hb dX12_isAntLine_0 rfl (lv_at hl 0 rfl) ?_
  refine lv_dup hx hb dX12_isAntLine_1 rfl ?_
  refine r_getI (k := 9) (v := .int (mI M a0 9)) cx w hL0 hK0 (by decide) rfl wi_X12_isAntLine_X12 (by decide) rfl (List.mem_of_getElem? (i := 1) rfl) dX12_isAntLine_2 ?_
  refine lv_iconst (v := (1 : Int32)) hx hb dX12_isAntLine_5 (by decide) ?_
  refine lv_iadd hx hb dX12_isAntLine_6 ?_
  obtain ⟨M1, eM1, h⟩ := x_wI h
  refine r_putI (k := 9) (ty := .int) cx w tyX12 tyX12_ok nmX12 hL0 hK0 (by decide) rfl wi_X12_isAntLine_X12 (by decide) rfl rfl rfl rfl st_11_9 (ln_11 _ _ (by decide)) (List.mem_of_getElem? (i := 1) rfl) dX12_isAntLine_7 eM1 (fun H locs w => ?_)
  refine lv_aload_n hx hb dX12_isAntLine_10 rfl (lv_at hl 0 rfl) ?_
  refine lv_bipush (v := (40 : Int32)) hx hb dX12_isAntLine_11 (by decide) ?_
  refine lv_iconst (v := (2 : Int32)) hx hb dX12_isAntLine_13 (by decide) ?_
  obtain ⟨M2, r3, y4, h⟩ := x_cl h
  refine r_callVi (As := [.int ((40 : Int32)), .int ((2 : Int32))]) (rest := []) cx w hkn hl.1 (k_X12_eatAs hG hL0 hK0 y4) (cwV 2 hts gX12_isAntLine_X12_eatAs rfl rfl rfl (by decide +kernel) ⟨Nat.le_of_ble_eq_true rfl, Nat.le_of_ble_eq_true rfl⟩) hL0 hK0 (by decide) rfl rfl rfl (Nat.le_of_ble_eq_true rfl) dX12_isAntLine_14 (fun H locs w => ?_)
  refine lv_if_eq (tgt := 94) hx hb dX12_isAntLine_17 (by decide) (fun k5 => ?_) (fun k5 => ?_)
  · have h := x_t h k5
    exact b_X12_isAntLine_94 cx hkn hL0 hK0 M2 H locs ls h w (lv_sub hl [] rfl)
  · have h := x_f h k5
    refine lv_aload_n hx hb dX12_isAntLine_20 rfl (lv_at hl 0 rfl) ?_
    refine lv_bipush (v := (6 : Int32)) hx hb dX12_isAntLine_21 (by decide) ?_
    obtain ⟨M6, r7, y8, h⟩ := x_cl h
    refine r_callVi (As := [.int ((6 : Int32))]) (rest := []) cx w hkn hl.1 (k_X12_eat hG hL0 hK0 y8) (cwV 1 hts gX12_isAntLine_X12_eat rfl rfl rfl (by decide +kernel) ⟨Nat.le_of_ble_eq_true rfl, Nat.le_of_ble_eq_true rfl⟩) hL0 hK0 (by decide) rfl rfl rfl (Nat.le_of_ble_eq_true rfl) dX12_isAntLine_23 (fun H locs w => ?_)
    refine lv_if_eq (tgt := 94) hx hb dX12_isAntLine_26 (by decide) (fun k9 => ?_) (fun k9 => ?_)
    · have h := x_t h k9
      exact b_X12_isAntLine_94 cx hkn hL0 hK0 M6 H locs ls h w (lv_sub hl [] rfl)
    · have h := x_f h k9
      refine lv_aload_n hx hb dX12_isAntLine_29 rfl (lv_at hl 0 rfl) ?_
      refine lv_bipush (v := (40 : Int32)) hx hb dX12_isAntLine_30 (by decide) ?_
      refine lv_iconst (v := (4 : Int32)) hx hb dX12_isAntLine_32 (by decide) ?_
      obtain ⟨M10, r11, y12, h⟩ := x_cl h
      refine r_callVi (As := [.int ((40 : Int32)), .int ((4 : Int32))]) (rest := []) cx w hkn hl.1 (k_X12_eatAs hG hL0 hK0 y12) (cwV 2 hts gX12_isAntLine_X12_eatAs rfl rfl rfl (by decide +kernel) ⟨Nat.le_of_ble_eq_true rfl, Nat.le_of_ble_eq_true rfl⟩) hL0 hK0 (by decide) rfl rfl rfl (Nat.le_of_ble_eq_true rfl) dX12_isAntLine_33 (fun H locs w => ?_)
      refine lv_if_eq (tgt := 94) hx hb dX12_isAntLine_36 (by decide) (fun k13 => ?_) (fun k13 => ?_)
      · have h := x_t h k13
        exact b_X12_isAntLine_94 cx hkn hL0 hK0 M10 H locs ls h w (lv_sub hl [] rfl)
      · have h := x_f h k13
        refine lv_aload_n hx hb dX12_isAntLine_39 rfl (lv_at hl 0 rfl) ?_
        refine lv_bipush (v := (7 : Int32)) hx hb dX12_isAntLine_40 (by decide) ?_
        obtain ⟨M14, r15, y16, h⟩ := x_cl h
        refine r_callVi (As := [.int ((7 : Int32))]) (rest := []) cx w hkn hl.1 (k_X12_eat hG hL0 hK0 y16) (cwV 1 hts gX12_isAntLine_X12_eat rfl rfl rfl (by decide +kernel) ⟨Nat.le_of_ble_eq_true rfl, Nat.le_of_ble_eq_true rfl⟩) hL0 hK0 (by decide) rfl rfl rfl (Nat.le_of_ble_eq_true rfl) dX12_isAntLine_42 (fun H locs w => ?_)
        refine lv_if_eq (tgt := 94) hx hb dX12_isAntLine_45 (by decide) (fun k17 => ?_) (fun k17 => ?_)
        · have h := x_t h k17
          exact b_X12_isAntLine_94 cx hkn hL0 hK0 M14 H locs ls h w (lv_sub hl [] rfl)
        · have h := x_f h k17
          refine lv_aload_n hx hb dX12_isAntLine_48 rfl (lv_at hl 0 rfl) ?_
          refine lv_bipush (v := (41 : Int32)) hx hb dX12_isAntLine_49 (by decide) ?_
          refine lv_iconst (v := (5 : Int32)) hx hb dX12_isAntLine_51 (by decide) ?_
          obtain ⟨M18, r19, y20, h⟩ := x_cl h
          refine r_callVi (As := [.int ((41 : Int32)), .int ((5 : Int32))]) (rest := []) cx w hkn hl.1 (k_X12_eatAs hG hL0 hK0 y20) (cwV 2 hts gX12_isAntLine_X12_eatAs rfl rfl rfl (by decide +kernel) ⟨Nat.le_of_ble_eq_true rfl, Nat.le_of_ble_eq_true rfl⟩) hL0 hK0 (by decide) rfl rfl rfl (Nat.le_of_ble_eq_true rfl) dX12_isAntLine_52 (fun H locs w => ?_)
          refine lv_if_eq (tgt := 94) hx hb dX12_isAntLine_55 (by decide) (fun k21 => ?_) (fun k21 => ?_)
          · have h := x_t h k21
            exact b_X12_isAntLine_94 cx hkn hL0 hK0 M18 H locs ls h w (lv_sub hl [] rfl)
          · have h := x_f h k21
            refine lv_aload_n hx hb dX12_isAntLine_58 rfl (lv_at hl 0 rfl) ?_
            refine lv_bipush (v := (41 : Int32)) hx hb dX12_isAntLine_59 (by decide) ?_
            refine lv_iconst (v := (5 : Int32)) hx hb dX12_isAntLine_61 (by decide) ?_
            obtain ⟨M22, r23, y24, h⟩ := x_cl h
            refine r_callVi (As := [.int ((41 : Int32)), .int ((5 : Int32))]) (rest := []) cx w hkn hl.1 (k_X12_eatAs hG hL0 hK0 y24) (cwV 2 hts gX12_isAntLine_X12_eatAs rfl rfl rfl (by decide +kernel) ⟨Nat.le_of_ble_eq_true rfl, Nat.le_of_ble_eq_true rfl⟩) hL0 hK0 (by decide) rfl rfl rfl (Nat.le_of_ble_eq_true rfl) dX12_isAntLine_62 (fun H locs w => ?_)
            refine lv_if_eq (tgt := 94) hx hb dX12_isAntLine_65 (by decide) (fun k25 => ?_) (fun k25 => ?_)
            · have h := x_t h k25
              exact b_X12_isAntLine_94 cx hkn hL0 hK0 M22 H locs ls h w (lv_sub hl [] rfl)
            · have h := x_f h k25
              refine lv_aload_n hx hb dX12_isAntLine_68 rfl (lv_at hl 0 rfl) ?_
              refine lv_bipush (v := (8 : Int32)) hx hb dX12_isAntLine_69 (by decide) ?_
              obtain ⟨M26, r27, y28, h⟩ := x_cl h
              refine r_callVi (As := [.int ((8 : Int32))]) (rest := []) cx w hkn hl.1 (k_X12_eat hG hL0 hK0 y28) (cwV 1 hts gX12_isAntLine_X12_eat rfl rfl rfl (by decide +kernel) ⟨Nat.le_of_ble_eq_true rfl, Nat.le_of_ble_eq_true rfl⟩) hL0 hK0 (by decide) rfl rfl rfl (Nat.le_of_ble_eq_true rfl) dX12_isAntLine_71 (fun H locs w => ?_)
              refine lv_if_eq (tgt := 94) hx hb dX12_isAntLine_74 (by decide) (fun k29 => ?_) (fun k29 => ?_)
              · have h := x_t h k29
                exact b_X12_isAntLine_94 cx hkn hL0 hK0 M26 H locs ls h w (lv_sub hl [] rfl)
              · have h := x_f h k29
                refine lv_aload_n hx hb dX12_isAntLine_77 rfl (lv_at hl 0 rfl) ?_
                refine lv_bipush (v := (9 : Int32)) hx hb dX12_isAntLine_78 (by decide) ?_
                refine lv_bipush (v := (12 : Int32)) hx hb dX12_isAntLine_80 (by decide) ?_
                refine lv_bipush (v := (6 : Int32)) hx hb dX12_isAntLine_82 (by decide) ?_
                obtain ⟨M30, r31, y32, h⟩ := x_cl h
                refine r_callVi (As := [.int ((9 : Int32)), .int ((12 : Int32)), .int ((6 : Int32))]) (rest := []) cx w hkn hl.1 (k_X12_eatOne hG hL0 hK0 y32) (cwV 3 hts gX12_isAntLine_X12_eatOne rfl rfl rfl (by decide +kernel) ⟨Nat.le_of_ble_eq_true rfl, Nat.le_of_ble_eq_true rfl⟩) hL0 hK0 (by decide) rfl rfl rfl (Nat.le_of_ble_eq_true rfl) dX12_isAntLine_84 (fun H locs w => ?_)
                refine lv_if_eq (tgt := 94) hx hb dX12_isAntLine_87 (by decide) (fun k33 => ?_) (fun k33 => ?_)
                · have h := x_t h k33
                  exact b_X12_isAntLine_94 cx hkn hL0 hK0 M30 H locs ls h w (lv_sub hl [] rfl)
                · have h := x_f h k33
                  refine lv_iconst (v := (1 : Int32)) hx hb dX12_isAntLine_90 (by decide) ?_
                  refine lv_goto (tgt := 95) hx hb dX12_isAntLine_91 (by decide) ?_
                  obtain ⟨z34, h⟩ := x_ck h
                  exact r_zret cx w z34 h dX12_isAntLine_95
-- X12_isDeeper
theorem wi_X12_isDeeper_X12 : ∀ w ∈ wsX120, w ∈ wsX12_isDeeper := by decide +kernel
abbrev rmX12_isDeeper : Room := { frames := 0, cells := 0, slots := 0, locals := 0 }
def m_X12_isDeeper (G : gS) (M : mS) (a0 : Nat) : Option (mS × Int32) := (if (mI M a0 10) = (8 : Int32) then o_ck ((0 : Int32) = 0 ∨ (0 : Int32) = 1) (some (M, (0 : Int32))) else o_wI M a0 10 ((mI M a0 10) + (1 : Int32)) (fun M2 => o_wI M2 a0 9 ((mI M2 a0 9) + (1 : Int32)) (fun M3 => o_ck ((1 : Int32) = 0 ∨ (1 : Int32) = 1) (some (M3, (1 : Int32))))))
set_option maxHeartbeats 4000000 in
set_option maxRecDepth 100000 in
theorem k_X12_isDeeper {l : Launch} {D : va_G} {cy : cyS} {G : gS} {M M' : mS} {r : Int32} {a0 : Nat} (hG : wt G) (hL0 : a0 ∈ gL G) (hK0 : gK G a0 = 11) (h : m_X12_isDeeper G M a0 = some (M', r)) : ctI l yX12_isDeeper wsX12_isDeeper rmX12_isDeeper D cy G M [.ref a0] M' r := by
  unfold m_X12_isDeeper at h
  refine ctI_of (cc := cX12_isDeeper) (nL := 1) (ret := (some .boolean)) (lv := [(0, .ref a0)]) hG (by decide) rfl ⟨rfl, rfl⟩ (Nat.le_of_ble_eq_true rfl) rfl ?_
  intro p e s m args below meth c A ls cx w hl
  obtain ⟨hx, hb, hml, hown, hts, hr, hlocks, hK, hA, -, hsx⟩ := id cx
  have hkn : 0 ≤ (rmX12_isDeeper).cells ∧ 0 ≤ (rmX12_isDeeper).slots := ⟨Nat.zero_le _, Nat.zero_le _⟩
  refine lv_aload_n hx hb dX12_isDeeper_0 rfl (lv_at hl 0 rfl) ?_
  refine r_getI (k := 10) (v := .int (mI M a0 10)) cx w hL0 hK0 (by decide) rfl wi_X12_isDeeper_X12 (by decide) rfl (List.mem_of_getElem? (i := 1) rfl) dX12_isDeeper_1 ?_
  refine lv_bipush (v := (8 : Int32)) hx hb dX12_isDeeper_4 (by decide) ?_
  refine lv_icmp_ne (tgt := 11) hx hb dX12_isDeeper_6 (by decide) (fun k1 => ?_) (fun k1 => ?_)
  · have h := x_f h k1
    refine lv_aload_n hx hb dX12_isDeeper_11 rfl (lv_at hl 0 rfl) ?_
    refine lv_dup hx hb dX12_isDeeper_12 rfl ?_
    refine r_getI (k := 10) (v := .int (mI M a0 10)) cx w hL0 hK0 (by decide) rfl wi_X12_isDeeper_X12 (by decide) rfl (List.mem_of_getElem? (i := 1) rfl) dX12_isDeeper_13 ?_
    refine lv_iconst (v := (1 : Int32)) hx hb dX12_isDeeper_16 (by decide) ?_
    refine lv_iadd hx hb dX12_isDeeper_17 ?_
    obtain ⟨M2, eM2, h⟩ := x_wI h
    refine r_putI (k := 10) (ty := .int) cx w tyX12 tyX12_ok nmX12 hL0 hK0 (by decide) rfl wi_X12_isDeeper_X12 (by decide) rfl rfl rfl rfl st_11_10 (ln_11 _ _ (by decide)) (List.mem_of_getElem? (i := 1) rfl) dX12_isDeeper_18 eM2 (fun H locs w => ?_)
    refine lv_aload_n hx hb dX12_isDeeper_21 rfl (lv_at hl 0 rfl) ?_
    refine lv_dup hx hb dX12_isDeeper_22 rfl ?_
    refine r_getI (k := 9) (v := .int (mI M2 a0 9)) cx w hL0 hK0 (by decide) rfl wi_X12_isDeeper_X12 (by decide) rfl (List.mem_of_getElem? (i := 2) rfl) dX12_isDeeper_23 ?_
    refine lv_iconst (v := (1 : Int32)) hx hb dX12_isDeeper_26 (by decide) ?_
    refine lv_iadd hx hb dX12_isDeeper_27 ?_
    obtain ⟨M3, eM3, h⟩ := x_wI h
    refine r_putI (k := 9) (ty := .int) cx w tyX12 tyX12_ok nmX12 hL0 hK0 (by decide) rfl wi_X12_isDeeper_X12 (by decide) rfl rfl rfl rfl st_11_9 (ln_11 _ _ (by decide)) (List.mem_of_getElem? (i := 2) rfl) dX12_isDeeper_28 eM3 (fun H locs w => ?_)
    refine lv_iconst (v := (1 : Int32)) hx hb dX12_isDeeper_31 (by decide) ?_
    obtain ⟨z4, h⟩ := x_ck h
    exact r_zret cx w z4 h dX12_isDeeper_32
  · have h := x_t h k1
    refine lv_iconst (v := (0 : Int32)) hx hb dX12_isDeeper_9 (by decide) ?_
    obtain ⟨z5, h⟩ := x_ck h
    exact r_zret cx w z5 h dX12_isDeeper_10
-- X12_put
theorem wi_X12_put_X10 : ∀ w ∈ wsX100, w ∈ wsX12_put := by decide +kernel
theorem wi_X12_put_X12 : ∀ w ∈ wsX120, w ∈ wsX12_put := by decide +kernel
abbrev rmX12_put : Room := { frames := 0, cells := 0, slots := 0, locals := 0 }
def m_X12_put (G : gS) (M : mS) (a0 : Nat) (c1 : Int32) : Option (mS × Unit) := o_rf (gP G a0 12) (fun q1 => o_rf (gP G q1 18) (fun q2 => o_rf (gP G a0 12) (fun q3 => o_ix (mI M q3 19) (gN G q2) (o_wI M q2 (Int32.toNatClampNeg (mI M q3 19)) c1 (fun M5 => o_rf (gP G a0 12) (fun q6 => o_wI M5 q6 19 ((mI M5 q6 19) + (1 : Int32)) (fun M7 => some (M7, ()))))))))
set_option maxHeartbeats 4000000 in
set_option maxRecDepth 100000 in
theorem k_X12_put {l : Launch} {D : va_G} {cy : cyS} {G : gS} {M M' : mS} {a0 : Nat} {c1 : Int32} (hG : wt G) (hL0 : a0 ∈ gL G) (hK0 : gK G a0 = 11) (h : m_X12_put G M a0 c1 = some (M', ())) : ctV l yX12_put wsX12_put rmX12_put D cy G M [.ref a0, .int c1] M' := by
  unfold m_X12_put at h
  refine ctV_of (cc := cX12_put) (nL := 2) (ret := none) (lv := [(0, .ref a0), (1, .int c1)]) hG (by decide) rfl ⟨rfl, rfl⟩ (Nat.le_of_ble_eq_true rfl) rfl ?_
  intro p e s m args below meth c A ls cx w hl
  obtain ⟨hx, hb, hml, hown, hts, hr, hlocks, hK, hA, -, hsx⟩ := id cx
  have hkn : 0 ≤ (rmX12_put).cells ∧ 0 ≤ (rmX12_put).slots := ⟨Nat.zero_le _, Nat.zero_le _⟩
  refine lv_aload_n hx hb dX12_put_0 rfl (lv_at hl 0 rfl) ?_
  obtain ⟨q1, eq1, h⟩ := x_rf h
  obtain ⟨hLq1, hKq1⟩ := wt_q hG hL0 hK0 eq1
  have hKq1 : gK G q1 = 9 := hKq1
  refine r_getR (k := 12) cx w hL0 hK0 (by decide) rfl wi_X12_put_X12 (by decide) rfl eq1 (List.mem_of_getElem? (i := 1) rfl) dX12_put_1 ?_
  obtain ⟨q2, eq2, h⟩ := x_rf h
  obtain ⟨hLq2, hKq2⟩ := wt_q hG hLq1 hKq1 eq2
  have hKq2 : gK G q2 = 12 := hKq2
  refine r_getRN (k := 18) cx w hLq1 hKq1 (by decide) rfl wi_X12_put_X10 (by decide) rfl eq2 (nwF cx (q := (RX12, 124, "FlagAntsModel$Plan", "code", "[I", "FlagAntsModel")) (List.mem_of_getElem? (i := 1) rfl)) dX12_put_4 ?_
  refine lv_aload_n hx hb dX12_put_7 rfl (lv_at hl 0 rfl) ?_
  obtain ⟨q3, eq3, h⟩ := x_rf h
  obtain ⟨hLq3, hKq3⟩ := wt_q hG hL0 hK0 eq3
  have hKq3 : gK G q3 = 9 := hKq3
  refine r_getR (k := 12) cx w hL0 hK0 (by decide) rfl wi_X12_put_X12 (by decide) rfl eq3 (List.mem_of_getElem? (i := 1) rfl) dX12_put_8 ?_
  refine r_getIN (k := 19) (v := .int (mI M q3 19)) cx w hLq3 hKq3 (by decide) rfl wi_X12_put_X10 (by decide) rfl (nwF cx (q := (RX12, 127, "FlagAntsModel$Plan", "size", "I", "FlagAntsModel")) (List.mem_of_getElem? (i := 2) rfl)) dX12_put_11 ?_
  refine lv_iload_n hx hb dX12_put_14 rfl (lv_at hl 1 rfl) ?_
  obtain ⟨z4, h⟩ := x_ix h
  obtain ⟨M5, eM5, h⟩ := x_wI h
  refine r_iast cx w hLq2 hKq2 z4 dX12_put_15 eM5 (fun H locs w => ?_)
  refine lv_aload_n hx hb dX12_put_16 rfl (lv_at hl 0 rfl) ?_
  obtain ⟨q6, eq6, h⟩ := x_rf h
  obtain ⟨hLq6, hKq6⟩ := wt_q hG hL0 hK0 eq6
  have hKq6 : gK G q6 = 9 := hKq6
  refine r_getR (k := 12) cx w hL0 hK0 (by decide) rfl wi_X12_put_X12 (by decide) rfl eq6 (List.mem_of_getElem? (i := 1) rfl) dX12_put_17 ?_
  refine lv_dup hx hb dX12_put_20 rfl ?_
  refine r_getIN (k := 19) (v := .int (mI M5 q6 19)) cx w hLq6 hKq6 (by decide) rfl wi_X12_put_X10 (by decide) rfl (nwF cx (q := (RX12, 127, "FlagAntsModel$Plan", "size", "I", "FlagAntsModel")) (List.mem_of_getElem? (i := 2) rfl)) dX12_put_21 ?_
  refine lv_iconst (v := (1 : Int32)) hx hb dX12_put_24 (by decide) ?_
  refine lv_iadd hx hb dX12_put_25 ?_
  obtain ⟨M7, eM7, h⟩ := x_wI h
  refine r_putIN (k := 19) (ty := .int) cx w tyX10 tyX10_ok nmX10 hLq6 hKq6 (by decide) rfl wi_X12_put_X10 (by decide) rfl rfl rfl rfl st_9_19 (ln_9 _ _ (by decide)) (nwF cx (q := (RX12, 127, "FlagAntsModel$Plan", "size", "I", "FlagAntsModel")) (List.mem_of_getElem? (i := 2) rfl)) dX12_put_26 eM7 (fun H locs w => ?_)
  exact r_vret cx w h dX12_put_29
-- X12_isSign
theorem wi_X12_isSign_X12 : ∀ w ∈ wsX120, w ∈ wsX12_isSign := by decide +kernel
abbrev rmX12_isSign : Room := { frames := 0, cells := 0, slots := 0, locals := 0 }
def m_X12_isSign (G : gS) (M : mS) (a0 : Nat) (c1 : Int32) : Option (mS × Int32) := o_rf (gP G a0 4) (fun q1 => o_ix (mI M a0 9) (gN G q1) ((if (mI M q1 (Int32.toNatClampNeg (mI M a0 9))) = ((50 : Int32) + c1) then o_ck ((1 : Int32) = 0 ∨ (1 : Int32) = 1) (some (M, (1 : Int32))) else o_ck ((0 : Int32) = 0 ∨ (0 : Int32) = 1) (some (M, (0 : Int32))))))
set_option maxHeartbeats 4000000 in
set_option maxRecDepth 100000 in
theorem k_X12_isSign {l : Launch} {D : va_G} {cy : cyS} {G : gS} {M M' : mS} {r : Int32} {a0 : Nat} {c1 : Int32} (hG : wt G) (hL0 : a0 ∈ gL G) (hK0 : gK G a0 = 11) (h : m_X12_isSign G M a0 c1 = some (M', r)) : ctI l yX12_isSign wsX12_isSign rmX12_isSign D cy G M [.ref a0, .int c1] M' r := by
  unfold m_X12_isSign at h
  refine ctI_of (cc := cX12_isSign) (nL := 2) (ret := (some .boolean)) (lv := [(0, .ref a0), (1, .int c1)]) hG (by decide) rfl ⟨rfl, rfl⟩ (Nat.le_of_ble_eq_true rfl) rfl ?_
  intro p e s m args below meth c A ls cx w hl
  obtain ⟨hx, hb, hml, hown, hts, hr, hlocks, hK, hA, -, hsx⟩ := id cx
  have hkn : 0 ≤ (rmX12_isSign).cells ∧ 0 ≤ (rmX12_isSign).slots := ⟨Nat.zero_le _, Nat.zero_le _⟩
  refine lv_aload_n hx hb dX12_isSign_0 rfl (lv_at hl 0 rfl) ?_
  obtain ⟨q1, eq1, h⟩ := x_rf h
  obtain ⟨hLq1, hKq1⟩ := wt_q hG hL0 hK0 eq1
  have hKq1 : gK G q1 = 12 := hKq1
  refine r_getR (k := 4) cx w hL0 hK0 (by decide) rfl wi_X12_isSign_X12 (by decide) rfl eq1 (List.mem_of_getElem? (i := 1) rfl) dX12_isSign_1 ?_
  refine lv_aload_n hx hb dX12_isSign_4 rfl (lv_at hl 0 rfl) ?_
  refine r_getI (k := 9) (v := .int (mI M a0 9)) cx w hL0 hK0 (by decide) rfl wi_X12_isSign_X12 (by decide) rfl (List.mem_of_getElem? (i := 2) rfl) dX12_isSign_5 ?_
  obtain ⟨z2, h⟩ := x_ix h
  refine r_iald cx w hLq1 hKq1 z2 dX12_isSign_8 ?_
  refine lv_bipush (v := (50 : Int32)) hx hb dX12_isSign_9 (by decide) ?_
  refine lv_iload_n hx hb dX12_isSign_11 rfl (lv_at hl 1 rfl) ?_
  refine lv_iadd hx hb dX12_isSign_12 ?_
  refine lv_icmp_ne (tgt := 20) hx hb dX12_isSign_13 (by decide) (fun k3 => ?_) (fun k3 => ?_)
  · have h := x_f h k3
    refine lv_iconst (v := (0 : Int32)) hx hb dX12_isSign_20 (by decide) ?_
    obtain ⟨z4, h⟩ := x_ck h
    exact r_zret cx w z4 h dX12_isSign_21
  · have h := x_t h k3
    refine lv_iconst (v := (1 : Int32)) hx hb dX12_isSign_16 (by decide) ?_
    refine lv_goto (tgt := 21) hx hb dX12_isSign_17 (by decide) ?_
    obtain ⟨z5, h⟩ := x_ck h
    exact r_zret cx w z5 h dX12_isSign_21
-- X12_isName
theorem wi_X12_isName_X10 : ∀ w ∈ wsX100, w ∈ wsX12_isName := by decide +kernel
theorem wi_X12_isName_X12 : ∀ w ∈ wsX120, w ∈ wsX12_isName := by decide +kernel
abbrev rmX12_isName : Room := { frames := 3, cells := 0, slots := 0, locals := 64 }
def m_X12_isName (G : gS) (M : mS) (a0 : Nat) (c1 : Int32) : Option (mS × Int32) := o_rf (gP G a0 12) (fun q1 => o_rf (gP G q1 20) (fun q2 => o_rf (gP G a0 12) (fun q3 => o_rf (gP G a0 12) (fun q4 => o_ix (mI M q3 21) (gN G q2) (o_wI M q2 (Int32.toNatClampNeg (mI M q3 21)) (mI M q4 19) (fun M6 => o_rf (gP G a0 12) (fun q7 => o_wI M6 q7 21 ((mI M6 q7 21) + (1 : Int32)) (fun M8 => o_cl (m_X12_put G M8 a0 (mI M8 a0 9)) (fun M9 r10 => o_cl (m_X12_eatAs G M9 a0 (40 : Int32) c1) (fun M12 r13 => o_ck (r13 = 0 ∨ r13 = 1) (some (M12, r13))))))))))))
set_option maxHeartbeats 4000000 in
set_option maxRecDepth 100000 in
theorem k_X12_isName {l : Launch} {D : va_G} {cy : cyS} {G : gS} {M M' : mS} {r : Int32} {a0 : Nat} {c1 : Int32} (hG : wt G) (hL0 : a0 ∈ gL G) (hK0 : gK G a0 = 11) (h : m_X12_isName G M a0 c1 = some (M', r)) : ctI l yX12_isName wsX12_isName rmX12_isName D cy G M [.ref a0, .int c1] M' r := by
  unfold m_X12_isName at h
  refine ctI_of (cc := cX12_isName) (nL := 2) (ret := (some .boolean)) (lv := [(0, .ref a0), (1, .int c1)]) hG (by decide) rfl ⟨rfl, rfl⟩ (Nat.le_of_ble_eq_true rfl) rfl ?_
  intro p e s m args below meth c A ls cx w hl
  obtain ⟨hx, hb, hml, hown, hts, hr, hlocks, hK, hA, -, hsx⟩ := id cx
  have hkn : 0 ≤ (rmX12_isName).cells ∧ 0 ≤ (rmX12_isName).slots := ⟨Nat.zero_le _, Nat.zero_le _⟩
  refine lv_aload_n hx hb dX12_isName_0 rfl (lv_at hl 0 rfl) ?_
  obtain ⟨q1, eq1, h⟩ := x_rf h
  obtain ⟨hLq1, hKq1⟩ := wt_q hG hL0 hK0 eq1
  have hKq1 : gK G q1 = 9 := hKq1
  refine r_getR (k := 12) cx w hL0 hK0 (by decide) rfl wi_X12_isName_X12 (by decide) rfl eq1 (List.mem_of_getElem? (i := 1) rfl) dX12_isName_1 ?_
  obtain ⟨q2, eq2, h⟩ := x_rf h
  obtain ⟨hLq2, hKq2⟩ := wt_q hG hLq1 hKq1 eq2
  have hKq2 : gK G q2 = 12 := hKq2
  refine r_getRN (k := 20) cx w hLq1 hKq1 (by decide) rfl wi_X12_isName_X10 (by decide) rfl eq2 (nwF cx (q := (RX12, 180, "FlagAntsModel$Plan", "open", "[I", "FlagAntsModel")) (List.mem_of_getElem? (i := 6) rfl)) dX12_isName_4 ?_
  refine lv_aload_n hx hb dX12_isName_7 rfl (lv_at hl 0 rfl) ?_
  obtain ⟨q3, eq3, h⟩ := x_rf h
  obtain ⟨hLq3, hKq3⟩ := wt_q hG hL0 hK0 eq3
  have hKq3 : gK G q3 = 9 := hKq3
  refine r_getR (k := 12) cx w hL0 hK0 (by decide) rfl wi_X12_isName_X12 (by decide) rfl eq3 (List.mem_of_getElem? (i := 1) rfl) dX12_isName_8 ?_
  refine r_getIN (k := 21) (v := .int (mI M q3 21)) cx w hLq3 hKq3 (by decide) rfl wi_X12_isName_X10 (by decide) rfl (nwF cx (q := (RX12, 183, "FlagAntsModel$Plan", "opens", "I", "FlagAntsModel")) (List.mem_of_getElem? (i := 7) rfl)) dX12_isName_11 ?_
  refine lv_aload_n hx hb dX12_isName_14 rfl (lv_at hl 0 rfl) ?_
  obtain ⟨q4, eq4, h⟩ := x_rf h
  obtain ⟨hLq4, hKq4⟩ := wt_q hG hL0 hK0 eq4
  have hKq4 : gK G q4 = 9 := hKq4
  refine r_getR (k := 12) cx w hL0 hK0 (by decide) rfl wi_X12_isName_X12 (by decide) rfl eq4 (List.mem_of_getElem? (i := 1) rfl) dX12_isName_15 ?_
  refine r_getIN (k := 19) (v := .int (mI M q4 19)) cx w hLq4 hKq4 (by decide) rfl wi_X12_isName_X10 (by decide) rfl (nwF cx (q := (RX12, 127, "FlagAntsModel$Plan", "size", "I", "FlagAntsModel")) (List.mem_of_getElem? (i := 2) rfl)) dX12_isName_18 ?_
  obtain ⟨z5, h⟩ := x_ix h
  obtain ⟨M6, eM6, h⟩ := x_wI h
  refine r_iast cx w hLq2 hKq2 z5 dX12_isName_21 eM6 (fun H locs w => ?_)
  refine lv_aload_n hx hb dX12_isName_22 rfl (lv_at hl 0 rfl) ?_
  obtain ⟨q7, eq7, h⟩ := x_rf h
  obtain ⟨hLq7, hKq7⟩ := wt_q hG hL0 hK0 eq7
  have hKq7 : gK G q7 = 9 := hKq7
  refine r_getR (k := 12) cx w hL0 hK0 (by decide) rfl wi_X12_isName_X12 (by decide) rfl eq7 (List.mem_of_getElem? (i := 1) rfl) dX12_isName_23 ?_
  refine lv_dup hx hb dX12_isName_26 rfl ?_
  refine r_getIN (k := 21) (v := .int (mI M6 q7 21)) cx w hLq7 hKq7 (by decide) rfl wi_X12_isName_X10 (by decide) rfl (nwF cx (q := (RX12, 183, "FlagAntsModel$Plan", "opens", "I", "FlagAntsModel")) (List.mem_of_getElem? (i := 7) rfl)) dX12_isName_27 ?_
  refine lv_iconst (v := (1 : Int32)) hx hb dX12_isName_30 (by decide) ?_
  refine lv_iadd hx hb dX12_isName_31 ?_
  obtain ⟨M8, eM8, h⟩ := x_wI h
  refine r_putIN (k := 21) (ty := .int) cx w tyX10 tyX10_ok nmX10 hLq7 hKq7 (by decide) rfl wi_X12_isName_X10 (by decide) rfl rfl rfl rfl st_9_21 (ln_9 _ _ (by decide)) (nwF cx (q := (RX12, 183, "FlagAntsModel$Plan", "opens", "I", "FlagAntsModel")) (List.mem_of_getElem? (i := 7) rfl)) dX12_isName_32 eM8 (fun H locs w => ?_)
  refine lv_aload_n hx hb dX12_isName_35 rfl (lv_at hl 0 rfl) ?_
  refine lv_aload_n hx hb dX12_isName_36 rfl (lv_at hl 0 rfl) ?_
  refine r_getI (k := 9) (v := .int (mI M8 a0 9)) cx w hL0 hK0 (by decide) rfl wi_X12_isName_X12 (by decide) rfl (List.mem_of_getElem? (i := 2) rfl) dX12_isName_37 ?_
  obtain ⟨M9, r10, y11, h⟩ := x_cl h
  refine r_callVv (As := [.int ((mI M8 a0 9))]) (rest := []) cx w hkn hl.1 (k_X12_put hG hL0 hK0 y11) (cwV 1 hts gX12_isName_X12_put rfl rfl rfl (by decide +kernel) ⟨Nat.le_of_ble_eq_true rfl, Nat.le_of_ble_eq_true rfl⟩) hL0 hK0 (by decide) rfl rfl rfl (Nat.le_of_ble_eq_true rfl) dX12_isName_40 (fun H locs w => ?_)
  refine lv_aload_n hx hb dX12_isName_43 rfl (lv_at hl 0 rfl) ?_
  refine lv_bipush (v := (40 : Int32)) hx hb dX12_isName_44 (by decide) ?_
  refine lv_iload_n hx hb dX12_isName_46 rfl (lv_at hl 1 rfl) ?_
  obtain ⟨M12, r13, y14, h⟩ := x_cl h
  refine r_callVi (As := [.int ((40 : Int32)), .int c1]) (rest := []) cx w hkn hl.1 (k_X12_eatAs hG hL0 hK0 y14) (cwV 2 hts gX12_isName_X12_eatAs rfl rfl rfl (by decide +kernel) ⟨Nat.le_of_ble_eq_true rfl, Nat.le_of_ble_eq_true rfl⟩) hL0 hK0 (by decide) rfl rfl rfl (Nat.le_of_ble_eq_true rfl) dX12_isName_47 (fun H locs w => ?_)
  obtain ⟨z15, h⟩ := x_ck h
  exact r_zret cx w z15 h dX12_isName_50
-- X12_isNamed
theorem wi_X12_isNamed_X12 : ∀ w ∈ wsX120, w ∈ wsX12_isNamed := by decide +kernel
abbrev rmX12_isNamed : Room := { frames := 4, cells := 0, slots := 0, locals := 85 }
def m_X12_isNamed (G : gS) (M : mS) (a0 : Nat) (c1 : Int32) : Option (mS × Int32) := o_rf (gP G a0 4) (fun q1 => o_ix (mI M a0 9) (gN G q1) (o_cl (m_X12_put G M a0 (mI M q1 (Int32.toNatClampNeg (mI M a0 9)))) (fun M3 r4 => o_wI M3 a0 9 ((mI M3 a0 9) + (1 : Int32)) (fun M6 => o_cl (m_X12_isName G M6 a0 c1) (fun M7 r8 => o_ck (r8 = 0 ∨ r8 = 1) (some (M7, r8)))))))
set_option maxHeartbeats 4000000 in
set_option maxRecDepth 100000 in
theorem k_X12_isNamed {l : Launch} {D : va_G} {cy : cyS} {G : gS} {M M' : mS} {r : Int32} {a0 : Nat} {c1 : Int32} (hG : wt G) (hL0 : a0 ∈ gL G) (hK0 : gK G a0 = 11) (h : m_X12_isNamed G M a0 c1 = some (M', r)) : ctI l yX12_isNamed wsX12_isNamed rmX12_isNamed D cy G M [.ref a0, .int c1] M' r := by
  unfold m_X12_isNamed at h
  refine ctI_of (cc := cX12_isNamed) (nL := 2) (ret := (some .boolean)) (lv := [(0, .ref a0), (1, .int c1)]) hG (by decide) rfl ⟨rfl, rfl⟩ (Nat.le_of_ble_eq_true rfl) rfl ?_
  intro p e s m args below meth c A ls cx w hl
  obtain ⟨hx, hb, hml, hown, hts, hr, hlocks, hK, hA, -, hsx⟩ := id cx
  have hkn : 0 ≤ (rmX12_isNamed).cells ∧ 0 ≤ (rmX12_isNamed).slots := ⟨Nat.zero_le _, Nat.zero_le _⟩
  refine lv_aload_n hx hb dX12_isNamed_0 rfl (lv_at hl 0 rfl) ?_
  refine lv_aload_n hx hb dX12_isNamed_1 rfl (lv_at hl 0 rfl) ?_
  obtain ⟨q1, eq1, h⟩ := x_rf h
  obtain ⟨hLq1, hKq1⟩ := wt_q hG hL0 hK0 eq1
  have hKq1 : gK G q1 = 12 := hKq1
  refine r_getR (k := 4) cx w hL0 hK0 (by decide) rfl wi_X12_isNamed_X12 (by decide) rfl eq1 (List.mem_of_getElem? (i := 1) rfl) dX12_isNamed_2 ?_
  refine lv_aload_n hx hb dX12_isNamed_5 rfl (lv_at hl 0 rfl) ?_
  refine r_getI (k := 9) (v := .int (mI M a0 9)) cx w hL0 hK0 (by decide) rfl wi_X12_isNamed_X12 (by decide) rfl (List.mem_of_getElem? (i := 2) rfl) dX12_isNamed_6 ?_
  obtain ⟨z2, h⟩ := x_ix h
  refine r_iald cx w hLq1 hKq1 z2 dX12_isNamed_9 ?_
  obtain ⟨M3, r4, y5, h⟩ := x_cl h
  refine r_callVv (As := [.int ((mI M q1 (Int32.toNatClampNeg (mI M a0 9))))]) (rest := []) cx w hkn hl.1 (k_X12_put hG hL0 hK0 y5) (cwV 1 hts gX12_isNamed_X12_put rfl rfl rfl (by decide +kernel) ⟨Nat.le_of_ble_eq_true rfl, Nat.le_of_ble_eq_true rfl⟩) hL0 hK0 (by decide) rfl rfl rfl (Nat.le_of_ble_eq_true rfl) dX12_isNamed_10 (fun H locs w => ?_)
  refine lv_aload_n hx hb dX12_isNamed_13 rfl (lv_at hl 0 rfl) ?_
  refine lv_dup hx hb dX12_isNamed_14 rfl ?_
  refine r_getI (k := 9) (v := .int (mI M3 a0 9)) cx w hL0 hK0 (by decide) rfl wi_X12_isNamed_X12 (by decide) rfl (List.mem_of_getElem? (i := 2) rfl) dX12_isNamed_15 ?_
  refine lv_iconst (v := (1 : Int32)) hx hb dX12_isNamed_18 (by decide) ?_
  refine lv_iadd hx hb dX12_isNamed_19 ?_
  obtain ⟨M6, eM6, h⟩ := x_wI h
  refine r_putI (k := 9) (ty := .int) cx w tyX12 tyX12_ok nmX12 hL0 hK0 (by decide) rfl wi_X12_isNamed_X12 (by decide) rfl rfl rfl rfl st_11_9 (ln_11 _ _ (by decide)) (List.mem_of_getElem? (i := 2) rfl) dX12_isNamed_20 eM6 (fun H locs w => ?_)
  refine lv_aload_n hx hb dX12_isNamed_23 rfl (lv_at hl 0 rfl) ?_
  refine lv_iload_n hx hb dX12_isNamed_24 rfl (lv_at hl 1 rfl) ?_
  obtain ⟨M7, r8, y9, h⟩ := x_cl h
  refine r_callVi (As := [.int c1]) (rest := []) cx w hkn hl.1 (k_X12_isName hG hL0 hK0 y9) (cwV 1 hts gX12_isNamed_X12_isName rfl rfl rfl (by decide +kernel) ⟨Nat.le_of_ble_eq_true rfl, Nat.le_of_ble_eq_true rfl⟩) hL0 hK0 (by decide) rfl rfl rfl (Nat.le_of_ble_eq_true rfl) dX12_isNamed_25 (fun H locs w => ?_)
  obtain ⟨z10, h⟩ := x_ck h
  exact r_zret cx w z10 h dX12_isNamed_28
-- a group that calls itself: X12_isSum X12_isProduct X12_isValue X12_isInside
abbrev RM3 (n : Nat) : Room := { frames := n + 5, cells := 0, slots := 0, locals := 60 * n + 106 }
theorem rm_up3 {n mL : Nat} (h : mL ≤ 41) : (RM3 n).frames + 1 ≤ (RM3 (n + 1)).frames ∧ 8 + (mL + 11) + (RM3 n).locals ≤ (RM3 (n + 1)).locals := ⟨by show n + 5 + 1 ≤ n + 1 + 5; omega, by show 8 + (mL + 11) + (60 * n + 106) ≤ 60 * (n + 1) + 106; omega⟩
theorem rm_lo3 {n f lo mL : Nat} (h1 : f + 1 ≤ 5) (h2 : 8 + (mL + 11) + lo ≤ 106) : f + 1 ≤ (RM3 (n + 1)).frames ∧ 8 + (mL + 11) + lo ≤ (RM3 (n + 1)).locals := ⟨by show f + 1 ≤ n + 1 + 5; omega, by show 8 + (mL + 11) + lo ≤ 60 * (n + 1) + 106; omega⟩
def SC3 (l : Launch) (D : va_G) (cy : cyS) (G : gS) (a : Nat) (rm : Room) (R : Nat → mS → Int32 → Int32 → Option (mS × Int32)) : Prop := (∀ (M : mS) (x y : Int32) (M' : mS) (r : Int32), R 0 M x y = some (M', r) → ctI l yX12_isSum wsX12_isSum rm D cy G M [.ref a] M' r) ∧ (∀ (M : mS) (x y : Int32) (M' : mS) (r : Int32), R 1 M x y = some (M', r) → ctI l yX12_isProduct wsX12_isProduct rm D cy G M [.ref a] M' r) ∧ (∀ (M : mS) (x y : Int32) (M' : mS) (r : Int32), R 2 M x y = some (M', r) → ctI l yX12_isValue wsX12_isValue rm D cy G M [.ref a] M' r) ∧ (∀ (M : mS) (x y : Int32) (M' : mS) (r : Int32), R 3 M x y = some (M', r) → ctI l yX12_isInside wsX12_isInside rm D cy G M [.ref a, .int x, .int y] M' r)
theorem wi_X12_isSum_X12 : ∀ w ∈ wsX120, w ∈ wsX12_isSum := by decide +kernel
theorem wi_X12_isProduct_X12 : ∀ w ∈ wsX120, w ∈ wsX12_isProduct := by decide +kernel
theorem wi_X12_isValue_X12 : ∀ w ∈ wsX120, w ∈ wsX12_isValue := by decide +kernel
theorem wi_X12_isInside_X12 : ∀ w ∈ wsX120, w ∈ wsX12_isInside := by decide +kernel
def q_X12_isSum_43 (G : gS) (R : Nat → mS → Int32 → Int32 → Option (mS × Int32)) (a0 : Nat) (kb9 : mS → Option (mS × Int32)) (M : mS) (s0 : Int32) : Option (mS × Int32) := o_wI M a0 9 ((mI M a0 9) + (1 : Int32)) (fun M1 => o_cl (R 1 M1 (0 : Int32) (0 : Int32)) (fun M2 r3 => (if r3 = 0 then o_ck ((0 : Int32) = 0 ∨ (0 : Int32) = 1) (some (M2, (0 : Int32))) else o_cl (m_X12_put G M2 a0 s0) (fun M6 r7 => kb9 M6))))
def q_X12_isSum_27 (G : gS) (R : Nat → mS → Int32 → Int32 → Option (mS × Int32)) (a0 : Nat) (kb9 : mS → Option (mS × Int32)) (M : mS)  : Option (mS × Int32) := o_cl (m_X12_isSign G M a0 (43 : Int32)) (fun M1 r2 => (if r2 = 0 then q_X12_isSum_43 G R a0 kb9 M1 ((45 : Int32)) else q_X12_isSum_43 G R a0 kb9 M1 ((44 : Int32))))
def q_X12_isSum_9 (G : gS) (R : Nat → mS → Int32 → Int32 → Option (mS × Int32)) (a0 : Nat)  : Nat → mS → Option (mS × Int32)
  | 0, _ => none
  | n + 1, M => o_cl (m_X12_isSign G M a0 (43 : Int32)) (fun M1 r2 => (if r2 = 0 then o_cl (m_X12_isSign G M1 a0 (45 : Int32)) (fun M5 r6 => (if r6 = 0 then o_ck ((1 : Int32) = 0 ∨ (1 : Int32) = 1) (some (M5, (1 : Int32))) else q_X12_isSum_27 G R a0 (fun M => q_X12_isSum_9 G R a0 n M) M5)) else q_X12_isSum_27 G R a0 (fun M => q_X12_isSum_9 G R a0 n M) M1))
def q_X12_isSum (G : gS) (R : Nat → mS → Int32 → Int32 → Option (mS × Int32)) (M : mS) (a0 : Nat) : Option (mS × Int32) := o_cl (R 1 M (0 : Int32) (0 : Int32)) (fun M1 r2 => (if r2 = 0 then o_ck ((0 : Int32) = 0 ∨ (0 : Int32) = 1) (some (M1, (0 : Int32))) else q_X12_isSum_9 G R a0 fu M1))
def q_X12_isProduct_43 (G : gS) (R : Nat → mS → Int32 → Int32 → Option (mS × Int32)) (a0 : Nat) (kb9 : mS → Option (mS × Int32)) (M : mS) (s0 : Int32) : Option (mS × Int32) := o_wI M a0 9 ((mI M a0 9) + (1 : Int32)) (fun M1 => o_cl (R 2 M1 (0 : Int32) (0 : Int32)) (fun M2 r3 => (if r3 = 0 then o_ck ((0 : Int32) = 0 ∨ (0 : Int32) = 1) (some (M2, (0 : Int32))) else o_cl (m_X12_put G M2 a0 s0) (fun M6 r7 => kb9 M6))))
def q_X12_isProduct_27 (G : gS) (R : Nat → mS → Int32 → Int32 → Option (mS × Int32)) (a0 : Nat) (kb9 : mS → Option (mS × Int32)) (M : mS)  : Option (mS × Int32) := o_cl (m_X12_isSign G M a0 (42 : Int32)) (fun M1 r2 => (if r2 = 0 then q_X12_isProduct_43 G R a0 kb9 M1 ((47 : Int32)) else q_X12_isProduct_43 G R a0 kb9 M1 ((46 : Int32))))
def q_X12_isProduct_9 (G : gS) (R : Nat → mS → Int32 → Int32 → Option (mS × Int32)) (a0 : Nat)  : Nat → mS → Option (mS × Int32)
  | 0, _ => none
  | n + 1, M => o_cl (m_X12_isSign G M a0 (42 : Int32)) (fun M1 r2 => (if r2 = 0 then o_cl (m_X12_isSign G M1 a0 (47 : Int32)) (fun M5 r6 => (if r6 = 0 then o_ck ((1 : Int32) = 0 ∨ (1 : Int32) = 1) (some (M5, (1 : Int32))) else q_X12_isProduct_27 G R a0 (fun M => q_X12_isProduct_9 G R a0 n M) M5)) else q_X12_isProduct_27 G R a0 (fun M => q_X12_isProduct_9 G R a0 n M) M1))
def q_X12_isProduct (G : gS) (R : Nat → mS → Int32 → Int32 → Option (mS × Int32)) (M : mS) (a0 : Nat) : Option (mS × Int32) := o_cl (R 2 M (0 : Int32) (0 : Int32)) (fun M1 r2 => (if r2 = 0 then o_ck ((0 : Int32) = 0 ∨ (0 : Int32) = 1) (some (M1, (0 : Int32))) else q_X12_isProduct_9 G R a0 fu M1))
def q_X12_isValue_67 (G : gS) (R : Nat → mS → Int32 → Int32 → Option (mS × Int32)) (a0 : Nat)  (M : mS) (v1 : Int32) : Option (mS × Int32) := o_cl (m_X12_put G M a0 v1) (fun M1 r2 => o_wI M1 a0 9 ((mI M1 a0 9) + (1 : Int32)) (fun M4 => o_ck ((1 : Int32) = 0 ∨ (1 : Int32) = 1) (some (M4, (1 : Int32)))))
def q_X12_isValue_153 (G : gS) (R : Nat → mS → Int32 → Int32 → Option (mS × Int32)) (a0 : Nat)  (M : mS)  : Option (mS × Int32) := o_ck ((0 : Int32) = 0 ∨ (0 : Int32) = 1) (some (M, (0 : Int32)))
def q_X12_isValue_198 (G : gS) (R : Nat → mS → Int32 → Int32 → Option (mS × Int32)) (a0 : Nat)  (M : mS) (s1 : Int32) (s2 : Int32) : Option (mS × Int32) := o_cl (R 3 M s1 s2) (fun M1 r2 => o_ck (r2 = 0 ∨ r2 = 1) (some (M1, r2)))
def q_X12_isValue_193 (G : gS) (R : Nat → mS → Int32 → Int32 → Option (mS × Int32)) (a0 : Nat)  (M : mS) (s1 : Int32) : Option (mS × Int32) := q_X12_isValue_198 G R a0 M s1 ((1 : Int32))
def q_X12_isValue (G : gS) (R : Nat → mS → Int32 → Int32 → Option (mS × Int32)) (M : mS) (a0 : Nat) : Option (mS × Int32) := o_rf (gP G a0 4) (fun q1 => o_ix (mI M a0 9) (gN G q1) (o_bd ((mI M q1 (Int32.toNatClampNeg (mI M a0 9)))) (fun x3 => o_cl (m_X12_is G M a0 (41 : Int32)) (fun M4 r5 => (if r5 = 0 then o_cl (m_X12_is G M4 a0 (20 : Int32)) (fun M8 r9 => (if r9 = 0 then o_cl (m_X12_is G M8 a0 (21 : Int32)) (fun M12 r13 => (if r13 = 0 then o_cl (m_X12_isWordOf G M12 a0 (22 : Int32) (24 : Int32)) (fun M16 r17 => (if r17 = 0 then o_cl (m_X12_eat G M16 a0 (25 : Int32)) (fun M20 r21 => (if r21 = 0 then o_cl (m_X12_isSign G M20 a0 (45 : Int32)) (fun M24 r25 => (if r25 = 0 then o_cl (m_X12_eat G M24 a0 (31 : Int32)) (fun M28 r29 => (if r29 = 0 then o_cl (m_X12_eat G M28 a0 (32 : Int32)) (fun M32 r33 => (if r33 = 0 then q_X12_isValue_198 G R a0 M32 x3 ((0 : Int32)) else q_X12_isValue_193 G R a0 M32 x3)) else q_X12_isValue_193 G R a0 M28 x3)) else o_cl (m_X12_isDeeper G M24 a0) (fun M36 r37 => (if r37 = 0 then q_X12_isValue_153 G R a0 M36 else o_cl (R 2 M36 (0 : Int32) (0 : Int32)) (fun M40 r41 => (if r41 = 0 then q_X12_isValue_153 G R a0 M40 else o_wI M40 a0 10 ((mI M40 a0 10) - (1 : Int32)) (fun M44 => o_cl (m_X12_put G M44 a0 (43 : Int32)) (fun M45 r46 => o_ck ((1 : Int32) = 0 ∨ (1 : Int32) = 1) (some (M45, (1 : Int32))))))))))) else o_cl (R 3 M20 x3 (0 : Int32)) (fun M49 r50 => (if r50 = 0 then o_ck ((0 : Int32) = 0 ∨ (0 : Int32) = 1) (some (M49, (0 : Int32))) else o_cl (m_X12_put G M49 a0 (25 : Int32)) (fun M53 r54 => o_ck ((1 : Int32) = 0 ∨ (1 : Int32) = 1) (some (M53, (1 : Int32)))))))) else o_cl (m_X12_isNamed G M16 a0 (14 : Int32)) (fun M58 r59 => o_ck (r59 = 0 ∨ r59 = 1) (some (M58, r59))))) else q_X12_isValue_67 G R a0 M12 x3)) else q_X12_isValue_67 G R a0 M8 x3)) else o_cl (m_X12_put G M4 a0 (42 : Int32)) (fun M62 r63 => o_cl (m_X12_numberAt G M62 a0 (mI M62 a0 9)) (fun M65 r66 => o_cl (m_X12_put G M65 a0 r66) (fun M68 r69 => o_wI M68 a0 9 ((mI M68 a0 9) + (1 : Int32)) (fun M71 => o_ck ((1 : Int32) = 0 ∨ (1 : Int32) = 1) (some (M71, (1 : Int32))))))))))))
def q_X12_isInside_43 (G : gS) (R : Nat → mS → Int32 → Int32 → Option (mS × Int32)) (a0 : Nat) (c1 : Int32) (c2 : Int32)  (M : mS)  : Option (mS × Int32) := o_ck ((0 : Int32) = 0 ∨ (0 : Int32) = 1) (some (M, (0 : Int32)))
def q_X12_isInside_64 (G : gS) (R : Nat → mS → Int32 → Int32 → Option (mS × Int32)) (a0 : Nat) (c1 : Int32) (c2 : Int32)  (M : mS)  : Option (mS × Int32) := o_cl (m_X12_eatSign G M a0 (41 : Int32)) (fun M1 r2 => o_ck (r2 = 0 ∨ r2 = 1) (some (M1, r2)))
def q_X12_isInside_45 (G : gS) (R : Nat → mS → Int32 → Int32 → Option (mS × Int32)) (a0 : Nat) (c1 : Int32) (c2 : Int32)  (M : mS)  : Option (mS × Int32) := o_wI M a0 10 ((mI M a0 10) - (1 : Int32)) (fun M1 => (if c2 = 0 then q_X12_isInside_64 G R a0 c1 c2 M1 else o_cl (m_X12_put G M1 a0 c1) (fun M3 r4 => q_X12_isInside_64 G R a0 c1 c2 M3)))
def q_X12_isInside (G : gS) (R : Nat → mS → Int32 → Int32 → Option (mS × Int32)) (M : mS) (a0 : Nat) (c1 : Int32) (c2 : Int32) : Option (mS × Int32) := o_cl (m_X12_isSign G M a0 (40 : Int32)) (fun M1 r2 => (if r2 = 0 then q_X12_isInside_43 G R a0 c1 c2 M1 else o_cl (m_X12_isDeeper G M1 a0) (fun M5 r6 => (if r6 = 0 then q_X12_isInside_43 G R a0 c1 c2 M5 else o_cl (R 0 M5 (0 : Int32) (0 : Int32)) (fun M9 r10 => (if r10 = 0 then q_X12_isInside_43 G R a0 c1 c2 M9 else (if c2 = 0 then q_X12_isInside_45 G R a0 c1 c2 M9 else o_cl (m_X12_eatSign G M9 a0 (44 : Int32)) (fun M14 r15 => (if r15 = 0 then q_X12_isInside_43 G R a0 c1 c2 M14 else o_cl (R 0 M14 (0 : Int32) (0 : Int32)) (fun M18 r19 => (if r19 = 0 then q_X12_isInside_43 G R a0 c1 c2 M18 else q_X12_isInside_45 G R a0 c1 c2 M18)))))))))))
set_option maxHeartbeats 4000000 in
set_option maxRecDepth 100000 in
theorem b_X12_isSum_43 {p : Program} {e : Env} {s : State} {m : MethodId} {args : Array Value} {below : List Frame} {meth : Method} {c : Code} {A : Nat → Prop} {l : Launch} {D : va_G} {cy : cyS} {G : gS} (cx : cX p s m args meth c cX12_isSum RX12 2 (some .boolean) wsX12_isSum D cy G A) {k0 n0 : Nat} {N0 : Nat} (hkn : k0 ≤ ((RM3 (N0 + 1))).cells ∧ n0 ≤ ((RM3 (N0 + 1))).slots) {M' : mS} {r : Int32} {a0 : Nat} (hL0 : a0 ∈ gL G) (hK0 : gK G a0 = 11)  {R : Nat → mS → Int32 → Int32 → Option (mS × Int32)} (hR : SC3 l D cy G a0 (RM3 N0) R) {kb9 : mS → Option (mS × Int32)} (hkb9 : ∀ (M : mS) (H : Heap) (locs : List Loc) (ls : Array Slot), kb9 M = some (M', r) → wd D cy G M A s.heap H locs → lv_has ls 2 [(0, .ref a0)] → W p l e (RM3 (N0 + 1)) s m args below meth c H locs k0 n0 (MQ below (va_Qi (fun (r' : Int32) (_ : Unit) => r' = r) (fun _ t => wOut D cy G M' t) A) args s k0 n0 A) (F0 m 9 ls [])) : ∀ (M : mS) (s0 : Int32) (H : Heap) (locs : List Loc) (ls : Array Slot), q_X12_isSum_43 G R a0 kb9 M s0 = some (M', r) → wd D cy G M A s.heap H locs → lv_has ls 2 [(0, .ref a0)] → W p l e (RM3 (N0 + 1)) s m args below meth c H locs k0 n0 (MQ below (va_Qi (fun (r' : Int32) (_ : Unit) => r' = r) (fun _ t => wOut D cy G M' t) A) args s k0 n0 A) (F0 m 43 ls [.int s0]) := by
  obtain ⟨hx, hb, hml, hown, hts, hr, hlocks, hK, hA, hG, hsx⟩ := id cx
  intro M s0 H locs ls h w hl
  unfold q_X12_isSum_43 at h
  refine lv_istore_n (lv' := [(1, .int s0), (0, .ref a0)]) hx hb dX12_isSum_43 rfl hl (by decide) rfl (fun ls hl => ?_)
  refine lv_aload_n hx hb dX12_isSum_44 rfl (lv_at hl 1 rfl) ?_
  refine lv_dup hx hb dX12_isSum_45 rfl ?_
  refine r_getI (k := 9) (v := .int (mI M a0 9)) cx w hL0 hK0 (by decide) rfl wi_X12_isSum_X12 (by decide) rfl (List.mem_of_getElem? (i := 1) rfl) dX12_isSum_46 ?_
  refine lv_iconst (v := (1 : Int32)) hx hb dX12_isSum_49 (by decide) ?_
  refine lv_iadd hx hb dX12_isSum_50 ?_
  obtain ⟨M1, eM1, h⟩ := x_wI h
  refine r_putI (k := 9) (ty := .int) cx w tyX12 tyX12_ok nmX12 hL0 hK0 (by decide) rfl wi_X12_isSum_X12 (by decide) rfl rfl rfl rfl st_11_9 (ln_11 _ _ (by decide)) (List.mem_of_getElem? (i := 1) rfl) dX12_isSum_51 eM1 (fun H locs w => ?_)
  refine lv_aload_n hx hb dX12_isSum_54 rfl (lv_at hl 1 rfl) ?_
  obtain ⟨M2, r3, y4, h⟩ := x_cl h
  refine r_callVi (As := []) (rest := []) cx w hkn hl.1 (hR.2.1 _ _ _ _ _ y4) (cwV 0 hts gX12_isSum_X12_isProduct rfl rfl rfl (by decide +kernel) (rm_up3 (by decide))) hL0 hK0 (by decide) rfl rfl rfl (Nat.le_of_ble_eq_true rfl) dX12_isSum_55 (fun H locs w => ?_)
  refine lv_if_ne (tgt := 63) hx hb dX12_isSum_58 (by decide) (fun k5 => ?_) (fun k5 => ?_)
  · have h := x_f h k5
    refine lv_aload_n hx hb dX12_isSum_63 rfl (lv_at hl 1 rfl) ?_
    refine lv_iload_n hx hb dX12_isSum_64 rfl (lv_at hl 0 rfl) ?_
    obtain ⟨M6, r7, y8, h⟩ := x_cl h
    refine r_callVv (As := [.int s0]) (rest := []) cx w hkn hl.1 (k_X12_put hG hL0 hK0 y8) (cwV 1 hts gX12_isSum_X12_put rfl rfl rfl (by decide +kernel) (rm_lo3 (Nat.le_of_ble_eq_true rfl) (Nat.le_of_ble_eq_true rfl))) hL0 hK0 (by decide) rfl rfl rfl (Nat.le_of_ble_eq_true rfl) dX12_isSum_65 (fun H locs w => ?_)
    refine lv_goto (tgt := 9) hx hb dX12_isSum_68 (by decide) ?_
    exact hkb9 M6 H locs ls h w (lv_sub hl [1] rfl)
  · have h := x_t h k5
    refine lv_iconst (v := (0 : Int32)) hx hb dX12_isSum_61 (by decide) ?_
    obtain ⟨z9, h⟩ := x_ck h
    exact r_zret cx w z9 h dX12_isSum_62
set_option maxHeartbeats 4000000 in
set_option maxRecDepth 100000 in
theorem b_X12_isSum_27 {p : Program} {e : Env} {s : State} {m : MethodId} {args : Array Value} {below : List Frame} {meth : Method} {c : Code} {A : Nat → Prop} {l : Launch} {D : va_G} {cy : cyS} {G : gS} (cx : cX p s m args meth c cX12_isSum RX12 2 (some .boolean) wsX12_isSum D cy G A) {k0 n0 : Nat} {N0 : Nat} (hkn : k0 ≤ ((RM3 (N0 + 1))).cells ∧ n0 ≤ ((RM3 (N0 + 1))).slots) {M' : mS} {r : Int32} {a0 : Nat} (hL0 : a0 ∈ gL G) (hK0 : gK G a0 = 11)  {R : Nat → mS → Int32 → Int32 → Option (mS × Int32)} (hR : SC3 l D cy G a0 (RM3 N0) R) {kb9 : mS → Option (mS × Int32)} (hkb9 : ∀ (M : mS) (H : Heap) (locs : List Loc) (ls : Array Slot), kb9 M = some (M', r) → wd D cy G M A s.heap H locs → lv_has ls 2 [(0, .ref a0)] → W p l e (RM3 (N0 + 1)) s m args below meth c H locs k0 n0 (MQ below (va_Qi (fun (r' : Int32) (_ : Unit) => r' = r) (fun _ t => wOut D cy G M' t) A) args s k0 n0 A) (F0 m 9 ls [])) : ∀ (M : mS) (H : Heap) (locs : List Loc) (ls : Array Slot), q_X12_isSum_27 G R a0 kb9 M = some (M', r) → wd D cy G M A s.heap H locs → lv_has ls 2 [(0, .ref a0)] → W p l e (RM3 (N0 + 1)) s m args below meth c H locs k0 n0 (MQ below (va_Qi (fun (r' : Int32) (_ : Unit) => r' = r) (fun _ t => wOut D cy G M' t) A) args s k0 n0 A) (F0 m 27 ls []) := by
  obtain ⟨hx, hb, hml, hown, hts, hr, hlocks, hK, hA, hG, hsx⟩ := id cx
  intro M H locs ls h w hl
  unfold q_X12_isSum_27 at h
  refine lv_aload_n hx hb dX12_isSum_27 rfl (lv_at hl 0 rfl) ?_
  refine lv_bipush (v := (43 : Int32)) hx hb dX12_isSum_28 (by decide) ?_
  obtain ⟨M1, r2, y3, h⟩ := x_cl h
  refine r_callVi (As := [.int ((43 : Int32))]) (rest := []) cx w hkn hl.1 (k_X12_isSign hG hL0 hK0 y3) (cwV 1 hts gX12_isSum_X12_isSign rfl rfl rfl (by decide +kernel) (rm_lo3 (Nat.le_of_ble_eq_true rfl) (Nat.le_of_ble_eq_true rfl))) hL0 hK0 (by decide) rfl rfl rfl (Nat.le_of_ble_eq_true rfl) dX12_isSum_30 (fun H locs w => ?_)
  refine lv_if_eq (tgt := 41) hx hb dX12_isSum_33 (by decide) (fun k4 => ?_) (fun k4 => ?_)
  · have h := x_t h k4
    refine lv_bipush (v := (45 : Int32)) hx hb dX12_isSum_41 (by decide) ?_
    exact b_X12_isSum_43 cx hkn hL0 hK0 hR (hkb9 := hkb9) M1 ((45 : Int32)) H locs ls h w (lv_sub hl [0] rfl)
  · have h := x_f h k4
    refine lv_bipush (v := (44 : Int32)) hx hb dX12_isSum_36 (by decide) ?_
    refine lv_goto (tgt := 43) hx hb dX12_isSum_38 (by decide) ?_
    exact b_X12_isSum_43 cx hkn hL0 hK0 hR (hkb9 := hkb9) M1 ((44 : Int32)) H locs ls h w (lv_sub hl [0] rfl)
set_option maxHeartbeats 4000000 in
set_option maxRecDepth 100000 in
theorem b_X12_isSum_9 {p : Program} {e : Env} {s : State} {m : MethodId} {args : Array Value} {below : List Frame} {meth : Method} {c : Code} {A : Nat → Prop} {l : Launch} {D : va_G} {cy : cyS} {G : gS} (cx : cX p s m args meth c cX12_isSum RX12 2 (some .boolean) wsX12_isSum D cy G A) {k0 n0 : Nat} {N0 : Nat} (hkn : k0 ≤ ((RM3 (N0 + 1))).cells ∧ n0 ≤ ((RM3 (N0 + 1))).slots) {M' : mS} {r : Int32} {a0 : Nat} (hL0 : a0 ∈ gL G) (hK0 : gK G a0 = 11)  {R : Nat → mS → Int32 → Int32 → Option (mS × Int32)} (hR : SC3 l D cy G a0 (RM3 N0) R)  : ∀ (n : Nat), ∀ (M : mS) (H : Heap) (locs : List Loc) (ls : Array Slot), q_X12_isSum_9 G R a0 n M = some (M', r) → wd D cy G M A s.heap H locs → lv_has ls 2 [(0, .ref a0)] → W p l e (RM3 (N0 + 1)) s m args below meth c H locs k0 n0 (MQ below (va_Qi (fun (r' : Int32) (_ : Unit) => r' = r) (fun _ t => wOut D cy G M' t) A) args s k0 n0 A) (F0 m 9 ls []) := by
  obtain ⟨hx, hb, hml, hown, hts, hr, hlocks, hK, hA, hG, hsx⟩ := id cx
  intro n
  induction n with
  | zero =>
    intro M H locs ls h w hl
    have h : none = some _ := h
    cases h
  | succ n ih =>
    intro M H locs ls h w hl
    rw [q_X12_isSum_9] at h
    refine lv_aload_n hx hb dX12_isSum_9 rfl (lv_at hl 0 rfl) ?_
    refine lv_bipush (v := (43 : Int32)) hx hb dX12_isSum_10 (by decide) ?_
    obtain ⟨M1, r2, y3, h⟩ := x_cl h
    refine r_callVi (As := [.int ((43 : Int32))]) (rest := []) cx w hkn hl.1 (k_X12_isSign hG hL0 hK0 y3) (cwV 1 hts gX12_isSum_X12_isSign rfl rfl rfl (by decide +kernel) (rm_lo3 (Nat.le_of_ble_eq_true rfl) (Nat.le_of_ble_eq_true rfl))) hL0 hK0 (by decide) rfl rfl rfl (Nat.le_of_ble_eq_true rfl) dX12_isSum_12 (fun H locs w => ?_)
    refine lv_if_ne (tgt := 27) hx hb dX12_isSum_15 (by decide) (fun k4 => ?_) (fun k4 => ?_)
    · have h := x_f h k4
      exact b_X12_isSum_27 cx hkn hL0 hK0 hR (hkb9 := ih) M1 H locs ls h w (lv_sub hl [0] rfl)
    · have h := x_t h k4
      refine lv_aload_n hx hb dX12_isSum_18 rfl (lv_at hl 0 rfl) ?_
      refine lv_bipush (v := (45 : Int32)) hx hb dX12_isSum_19 (by decide) ?_
      obtain ⟨M5, r6, y7, h⟩ := x_cl h
      refine r_callVi (As := [.int ((45 : Int32))]) (rest := []) cx w hkn hl.1 (k_X12_isSign hG hL0 hK0 y7) (cwV 1 hts gX12_isSum_X12_isSign rfl rfl rfl (by decide +kernel) (rm_lo3 (Nat.le_of_ble_eq_true rfl) (Nat.le_of_ble_eq_true rfl))) hL0 hK0 (by decide) rfl rfl rfl (Nat.le_of_ble_eq_true rfl) dX12_isSum_21 (fun H locs w => ?_)
      refine lv_if_eq (tgt := 71) hx hb dX12_isSum_24 (by decide) (fun k8 => ?_) (fun k8 => ?_)
      · have h := x_t h k8
        refine lv_iconst (v := (1 : Int32)) hx hb dX12_isSum_71 (by decide) ?_
        obtain ⟨z9, h⟩ := x_ck h
        exact r_zret cx w z9 h dX12_isSum_72
      · have h := x_f h k8
        exact b_X12_isSum_27 cx hkn hL0 hK0 hR (hkb9 := ih) M5 H locs ls h w (lv_sub hl [0] rfl)
set_option maxHeartbeats 4000000 in
set_option maxRecDepth 100000 in
theorem kq_X12_isSum {l : Launch} {D : va_G} {cy : cyS} {G : gS} {M M' : mS} {r : Int32} {a0 : Nat} (hG : wt G) (hL0 : a0 ∈ gL G) (hK0 : gK G a0 = 11) {N0 : Nat} {R : Nat → mS → Int32 → Int32 → Option (mS × Int32)} (hR : SC3 l D cy G a0 (RM3 N0) R) (h : q_X12_isSum G R M a0 = some (M', r)) : ctI l yX12_isSum wsX12_isSum (RM3 (N0 + 1)) D cy G M [.ref a0] M' r := by
  unfold q_X12_isSum at h
  refine ctI_of (cc := cX12_isSum) (nL := 2) (ret := (some .boolean)) (lv := [(0, .ref a0)]) hG (by decide) rfl ⟨rfl, rfl⟩ (Nat.le_of_ble_eq_true rfl) rfl ?_
  intro p e s m args below meth c A ls cx w hl
  obtain ⟨hx, hb, hml, hown, hts, hr, hlocks, hK, hA, -, hsx⟩ := id cx
  have hkn : 0 ≤ ((RM3 (N0 + 1))).cells ∧ 0 ≤ ((RM3 (N0 + 1))).slots := ⟨Nat.zero_le _, Nat.zero_le _⟩
  refine lv_aload_n hx hb dX12_isSum_0 rfl (lv_at hl 0 rfl) ?_
  obtain ⟨M1, r2, y3, h⟩ := x_cl h
  refine r_callVi (As := []) (rest := []) cx w hkn hl.1 (hR.2.1 _ _ _ _ _ y3) (cwV 0 hts gX12_isSum_X12_isProduct rfl rfl rfl (by decide +kernel) (rm_up3 (by decide))) hL0 hK0 (by decide) rfl rfl rfl (Nat.le_of_ble_eq_true rfl) dX12_isSum_1 (fun H locs w => ?_)
  refine lv_if_ne (tgt := 9) hx hb dX12_isSum_4 (by decide) (fun k4 => ?_) (fun k4 => ?_)
  · have h := x_f h k4
    exact b_X12_isSum_9 cx hkn hL0 hK0 hR fu M1 H locs ls h w (lv_sub hl [0] rfl)
  · have h := x_t h k4
    refine lv_iconst (v := (0 : Int32)) hx hb dX12_isSum_7 (by decide) ?_
    obtain ⟨z5, h⟩ := x_ck h
    exact r_zret cx w z5 h dX12_isSum_8
set_option maxHeartbeats 4000000 in
set_option maxRecDepth 100000 in
theorem b_X12_isProduct_43 {p : Program} {e : Env} {s : State} {m : MethodId} {args : Array Value} {below : List Frame} {meth : Method} {c : Code} {A : Nat → Prop} {l : Launch} {D : va_G} {cy : cyS} {G : gS} (cx : cX p s m args meth c cX12_isProduct RX12 2 (some .boolean) wsX12_isProduct D cy G A) {k0 n0 : Nat} {N0 : Nat} (hkn : k0 ≤ ((RM3 (N0 + 1))).cells ∧ n0 ≤ ((RM3 (N0 + 1))).slots) {M' : mS} {r : Int32} {a0 : Nat} (hL0 : a0 ∈ gL G) (hK0 : gK G a0 = 11)  {R : Nat → mS → Int32 → Int32 → Option (mS × Int32)} (hR : SC3 l D cy G a0 (RM3 N0) R) {kb9 : mS → Option (mS × Int32)} (hkb9 : ∀ (M : mS) (H : Heap) (locs : List Loc) (ls : Array Slot), kb9 M = some (M', r) → wd D cy G M A s.heap H locs → lv_has ls 2 [(0, .ref a0)] → W p l e (RM3 (N0 + 1)) s m args below meth c H locs k0 n0 (MQ below (va_Qi (fun (r' : Int32) (_ : Unit) => r' = r) (fun _ t => wOut D cy G M' t) A) args s k0 n0 A) (F0 m 9 ls [])) : ∀ (M : mS) (s0 : Int32) (H : Heap) (locs : List Loc) (ls : Array Slot), q_X12_isProduct_43 G R a0 kb9 M s0 = some (M', r) → wd D cy G M A s.heap H locs → lv_has ls 2 [(0, .ref a0)] → W p l e (RM3 (N0 + 1)) s m args below meth c H locs k0 n0 (MQ below (va_Qi (fun (r' : Int32) (_ : Unit) => r' = r) (fun _ t => wOut D cy G M' t) A) args s k0 n0 A) (F0 m 43 ls [.int s0]) := by
  obtain ⟨hx, hb, hml, hown, hts, hr, hlocks, hK, hA, hG, hsx⟩ := id cx
  intro M s0 H locs ls h w hl
  unfold q_X12_isProduct_43 at h
  refine lv_istore_n (lv' := [(1, .int s0), (0, .ref a0)]) hx hb dX12_isProduct_43 rfl hl (by decide) rfl (fun ls hl => ?_)
  refine lv_aload_n hx hb dX12_isProduct_44 rfl (lv_at hl 1 rfl) ?_
  refine lv_dup hx hb dX12_isProduct_45 rfl ?_
  refine r_getI (k := 9) (v := .int (mI M a0 9)) cx w hL0 hK0 (by decide) rfl wi_X12_isProduct_X12 (by decide) rfl (List.mem_of_getElem? (i := 1) rfl) dX12_isProduct_46 ?_
  refine lv_iconst (v := (1 : Int32)) hx hb dX12_isProduct_49 (by decide) ?_
  refine lv_iadd hx hb dX12_isProduct_50 ?_
  obtain ⟨M1, eM1, h⟩ := x_wI h
  refine r_putI (k := 9) (ty := .int) cx w tyX12 tyX12_ok nmX12 hL0 hK0 (by decide) rfl wi_X12_isProduct_X12 (by decide) rfl rfl rfl rfl st_11_9 (ln_11 _ _ (by decide)) (List.mem_of_getElem? (i := 1) rfl) dX12_isProduct_51 eM1 (fun H locs w => ?_)
  refine lv_aload_n hx hb dX12_isProduct_54 rfl (lv_at hl 1 rfl) ?_
  obtain ⟨M2, r3, y4, h⟩ := x_cl h
  refine r_callVi (As := []) (rest := []) cx w hkn hl.1 (hR.2.2.1 _ _ _ _ _ y4) (cwV 0 hts gX12_isProduct_X12_isValue rfl rfl rfl (by decide +kernel) (rm_up3 (by decide))) hL0 hK0 (by decide) rfl rfl rfl (Nat.le_of_ble_eq_true rfl) dX12_isProduct_55 (fun H locs w => ?_)
  refine lv_if_ne (tgt := 63) hx hb dX12_isProduct_58 (by decide) (fun k5 => ?_) (fun k5 => ?_)
  · have h := x_f h k5
    refine lv_aload_n hx hb dX12_isProduct_63 rfl (lv_at hl 1 rfl) ?_
    refine lv_iload_n hx hb dX12_isProduct_64 rfl (lv_at hl 0 rfl) ?_
    obtain ⟨M6, r7, y8, h⟩ := x_cl h
    refine r_callVv (As := [.int s0]) (rest := []) cx w hkn hl.1 (k_X12_put hG hL0 hK0 y8) (cwV 1 hts gX12_isProduct_X12_put rfl rfl rfl (by decide +kernel) (rm_lo3 (Nat.le_of_ble_eq_true rfl) (Nat.le_of_ble_eq_true rfl))) hL0 hK0 (by decide) rfl rfl rfl (Nat.le_of_ble_eq_true rfl) dX12_isProduct_65 (fun H locs w => ?_)
    refine lv_goto (tgt := 9) hx hb dX12_isProduct_68 (by decide) ?_
    exact hkb9 M6 H locs ls h w (lv_sub hl [1] rfl)
  · have h := x_t h k5
    refine lv_iconst (v := (0 : Int32)) hx hb dX12_isProduct_61 (by decide) ?_
    obtain ⟨z9, h⟩ := x_ck h
    exact r_zret cx w z9 h dX12_isProduct_62
set_option maxHeartbeats 4000000 in
set_option maxRecDepth 100000 in
theorem b_X12_isProduct_27 {p : Program} {e : Env} {s : State} {m : MethodId} {args : Array Value} {below : List Frame} {meth : Method} {c : Code} {A : Nat → Prop} {l : Launch} {D : va_G} {cy : cyS} {G : gS} (cx : cX p s m args meth c cX12_isProduct RX12 2 (some .boolean) wsX12_isProduct D cy G A) {k0 n0 : Nat} {N0 : Nat} (hkn : k0 ≤ ((RM3 (N0 + 1))).cells ∧ n0 ≤ ((RM3 (N0 + 1))).slots) {M' : mS} {r : Int32} {a0 : Nat} (hL0 : a0 ∈ gL G) (hK0 : gK G a0 = 11)  {R : Nat → mS → Int32 → Int32 → Option (mS × Int32)} (hR : SC3 l D cy G a0 (RM3 N0) R) {kb9 : mS → Option (mS × Int32)} (hkb9 : ∀ (M : mS) (H : Heap) (locs : List Loc) (ls : Array Slot), kb9 M = some (M', r) → wd D cy G M A s.heap H locs → lv_has ls 2 [(0, .ref a0)] → W p l e (RM3 (N0 + 1)) s m args below meth c H locs k0 n0 (MQ below (va_Qi (fun (r' : Int32) (_ : Unit) => r' = r) (fun _ t => wOut D cy G M' t) A) args s k0 n0 A) (F0 m 9 ls [])) : ∀ (M : mS) (H : Heap) (locs : List Loc) (ls : Array Slot), q_X12_isProduct_27 G R a0 kb9 M = some (M', r) → wd D cy G M A s.heap H locs → lv_has ls 2 [(0, .ref a0)] → W p l e (RM3 (N0 + 1)) s m args below meth c H locs k0 n0 (MQ below (va_Qi (fun (r' : Int32) (_ : Unit) => r' = r) (fun _ t => wOut D cy G M' t) A) args s k0 n0 A) (F0 m 27 ls []) := by
  obtain ⟨hx, hb, hml, hown, hts, hr, hlocks, hK, hA, hG, hsx⟩ := id cx
  intro M H locs ls h w hl
  unfold q_X12_isProduct_27 at h
  refine lv_aload_n hx hb dX12_isProduct_27 rfl (lv_at hl 0 rfl) ?_
  refine lv_bipush (v := (42 : Int32)) hx hb dX12_isProduct_28 (by decide) ?_
  obtain ⟨M1, r2, y3, h⟩ := x_cl h
  refine r_callVi (As := [.int ((42 : Int32))]) (rest := []) cx w hkn hl.1 (k_X12_isSign hG hL0 hK0 y3) (cwV 1 hts gX12_isProduct_X12_isSign rfl rfl rfl (by decide +kernel) (rm_lo3 (Nat.le_of_ble_eq_true rfl) (Nat.le_of_ble_eq_true rfl))) hL0 hK0 (by decide) rfl rfl rfl (Nat.le_of_ble_eq_true rfl) dX12_isProduct_30 (fun H locs w => ?_)
  refine lv_if_eq (tgt := 41) hx hb dX12_isProduct_33 (by decide) (fun k4 => ?_) (fun k4 => ?_)
  · have h := x_t h k4
    refine lv_bipush (v := (47 : Int32)) hx hb dX12_isProduct_41 (by decide) ?_
    exact b_X12_isProduct_43 cx hkn hL0 hK0 hR (hkb9 := hkb9) M1 ((47 : Int32)) H locs ls h w (lv_sub hl [0] rfl)
  · have h := x_f h k4
    refine lv_bipush (v := (46 : Int32)) hx hb dX12_isProduct_36 (by decide) ?_
    refine lv_goto (tgt := 43) hx hb dX12_isProduct_38 (by decide) ?_
    exact b_X12_isProduct_43 cx hkn hL0 hK0 hR (hkb9 := hkb9) M1 ((46 : Int32)) H locs ls h w (lv_sub hl [0] rfl)
set_option maxHeartbeats 4000000 in
set_option maxRecDepth 100000 in
theorem b_X12_isProduct_9 {p : Program} {e : Env} {s : State} {m : MethodId} {args : Array Value} {below : List Frame} {meth : Method} {c : Code} {A : Nat → Prop} {l : Launch} {D : va_G} {cy : cyS} {G : gS} (cx : cX p s m args meth c cX12_isProduct RX12 2 (some .boolean) wsX12_isProduct D cy G A) {k0 n0 : Nat} {N0 : Nat} (hkn : k0 ≤ ((RM3 (N0 + 1))).cells ∧ n0 ≤ ((RM3 (N0 + 1))).slots) {M' : mS} {r : Int32} {a0 : Nat} (hL0 : a0 ∈ gL G) (hK0 : gK G a0 = 11)  {R : Nat → mS → Int32 → Int32 → Option (mS × Int32)} (hR : SC3 l D cy G a0 (RM3 N0) R)  : ∀ (n : Nat), ∀ (M : mS) (H : Heap) (locs : List Loc) (ls : Array Slot), q_X12_isProduct_9 G R a0 n M = some (M', r) → wd D cy G M A s.heap H locs → lv_has ls 2 [(0, .ref a0)] → W p l e (RM3 (N0 + 1)) s m args below meth c H locs k0 n0 (MQ below (va_Qi (fun (r' : Int32) (_ : Unit) => r' = r) (fun _ t => wOut D cy G M' t) A) args s k0 n0 A) (F0 m 9 ls []) := by
  obtain ⟨hx, hb, hml, hown, hts, hr, hlocks, hK, hA, hG, hsx⟩ := id cx
  intro n
  induction n with
  | zero =>
    intro M H locs ls h w hl
    have h : none = some _ := h
    cases h
  | succ n ih =>
    intro M H locs ls h w hl
    rw [q_X12_isProduct_9] at h
    refine lv_aload_n hx hb dX12_isProduct_9 rfl (lv_at hl 0 rfl) ?_
    refine lv_bipush (v := (42 : Int32)) hx hb dX12_isProduct_10 (by decide) ?_
    obtain ⟨M1, r2, y3, h⟩ := x_cl h
    refine r_callVi (As := [.int ((42 : Int32))]) (rest := []) cx w hkn hl.1 (k_X12_isSign hG hL0 hK0 y3) (cwV 1 hts gX12_isProduct_X12_isSign rfl rfl rfl (by decide +kernel) (rm_lo3 (Nat.le_of_ble_eq_true rfl) (Nat.le_of_ble_eq_true rfl))) hL0 hK0 (by decide) rfl rfl rfl (Nat.le_of_ble_eq_true rfl) dX12_isProduct_12 (fun H locs w => ?_)
    refine lv_if_ne (tgt := 27) hx hb dX12_isProduct_15 (by decide) (fun k4 => ?_) (fun k4 => ?_)
    · have h := x_f h k4
      exact b_X12_isProduct_27 cx hkn hL0 hK0 hR (hkb9 := ih) M1 H locs ls h w (lv_sub hl [0] rfl)
    · have h := x_t h k4
      refine lv_aload_n hx hb dX12_isProduct_18 rfl (lv_at hl 0 rfl) ?_
      refine lv_bipush (v := (47 : Int32)) hx hb dX12_isProduct_19 (by decide) ?_
      obtain ⟨M5, r6, y7, h⟩ := x_cl h
      refine r_callVi (As := [.int ((47 : Int32))]) (rest := []) cx w hkn hl.1 (k_X12_isSign hG hL0 hK0 y7) (cwV 1 hts gX12_isProduct_X12_isSign rfl rfl rfl (by decide +kernel) (rm_lo3 (Nat.le_of_ble_eq_true rfl) (Nat.le_of_ble_eq_true rfl))) hL0 hK0 (by decide) rfl rfl rfl (Nat.le_of_ble_eq_true rfl) dX12_isProduct_21 (fun H locs w => ?_)
      refine lv_if_eq (tgt := 71) hx hb dX12_isProduct_24 (by decide) (fun k8 => ?_) (fun k8 => ?_)
      · have h := x_t h k8
        refine lv_iconst (v := (1 : Int32)) hx hb dX12_isProduct_71 (by decide) ?_
        obtain ⟨z9, h⟩ := x_ck h
        exact r_zret cx w z9 h dX12_isProduct_72
      · have h := x_f h k8
        exact b_X12_isProduct_27 cx hkn hL0 hK0 hR (hkb9 := ih) M5 H locs ls h w (lv_sub hl [0] rfl)
set_option maxHeartbeats 4000000 in
set_option maxRecDepth 100000 in
theorem kq_X12_isProduct {l : Launch} {D : va_G} {cy : cyS} {G : gS} {M M' : mS} {r : Int32} {a0 : Nat} (hG : wt G) (hL0 : a0 ∈ gL G) (hK0 : gK G a0 = 11) {N0 : Nat} {R : Nat → mS → Int32 → Int32 → Option (mS × Int32)} (hR : SC3 l D cy G a0 (RM3 N0) R) (h : q_X12_isProduct G R M a0 = some (M', r)) : ctI l yX12_isProduct wsX12_isProduct (RM3 (N0 + 1)) D cy G M [.ref a0] M' r := by
  unfold q_X12_isProduct at h
  refine ctI_of (cc := cX12_isProduct) (nL := 2) (ret := (some .boolean)) (lv := [(0, .ref a0)]) hG (by decide) rfl ⟨rfl, rfl⟩ (Nat.le_of_ble_eq_true rfl) rfl ?_
  intro p e s m args below meth c A ls cx w hl
  obtain ⟨hx, hb, hml, hown, hts, hr, hlocks, hK, hA, -, hsx⟩ := id cx
  have hkn : 0 ≤ ((RM3 (N0 + 1))).cells ∧ 0 ≤ ((RM3 (N0 + 1))).slots := ⟨Nat.zero_le _, Nat.zero_le _⟩
  refine lv_aload_n hx hb dX12_isProduct_0 rfl (lv_at hl 0 rfl) ?_
  obtain ⟨M1, r2, y3, h⟩ := x_cl h
  refine r_callVi (As := []) (rest := []) cx w hkn hl.1 (hR.2.2.1 _ _ _ _ _ y3) (cwV 0 hts gX12_isProduct_X12_isValue rfl rfl rfl (by decide +kernel) (rm_up3 (by decide))) hL0 hK0 (by decide) rfl rfl rfl (Nat.le_of_ble_eq_true rfl) dX12_isProduct_1 (fun H locs w => ?_)
  refine lv_if_ne (tgt := 9) hx hb dX12_isProduct_4 (by decide) (fun k4 => ?_) (fun k4 => ?_)
  · have h := x_f h k4
    exact b_X12_isProduct_9 cx hkn hL0 hK0 hR fu M1 H locs ls h w (lv_sub hl [0] rfl)
  · have h := x_t h k4
    refine lv_iconst (v := (0 : Int32)) hx hb dX12_isProduct_7 (by decide) ?_
    obtain ⟨z5, h⟩ := x_ck h
    exact r_zret cx w z5 h dX12_isProduct_8
set_option maxHeartbeats 4000000 in
set_option maxRecDepth 100000 in
theorem b_X12_isValue_67 {p : Program} {e : Env} {s : State} {m : MethodId} {args : Array Value} {below : List Frame} {meth : Method} {c : Code} {A : Nat → Prop} {l : Launch} {D : va_G} {cy : cyS} {G : gS} (cx : cX p s m args meth c cX12_isValue RX12 2 (some .boolean) wsX12_isValue D cy G A) {k0 n0 : Nat} {N0 : Nat} (hkn : k0 ≤ ((RM3 (N0 + 1))).cells ∧ n0 ≤ ((RM3 (N0 + 1))).slots) {M' : mS} {r : Int32} {a0 : Nat} (hL0 : a0 ∈ gL G) (hK0 : gK G a0 = 11)  {R : Nat → mS → Int32 → Int32 → Option (mS × Int32)} (hR : SC3 l D cy G a0 (RM3 N0) R)  : ∀ (M : mS) (v1 : Int32) (H : Heap) (locs : List Loc) (ls : Array Slot), q_X12_isValue_67 G R a0 M v1 = some (M', r) → wd D cy G M A s.heap H locs → lv_has ls 2 [(0, .ref a0), (1, .int v1)] → W p l e (RM3 (N0 + 1)) s m args below meth c H locs k0 n0 (MQ below (va_Qi (fun (r' : Int32) (_ : Unit) => r' = r) (fun _ t => wOut D cy G M' t) A) args s k0 n0 A) (F0 m 67 ls []) := by
  obtain ⟨hx, hb, hml, hown, hts, hr, hlocks, hK, hA, hG, hsx⟩ := id cx
  intro M v1 H locs ls h w hl
  unfold q_X12_isValue_67 at h
  refine lv_aload_n hx hb dX12_isValue_67 rfl (lv_at hl 0 rfl) ?_
  refine lv_iload_n hx hb dX12_isValue_68 rfl (lv_at hl 1 rfl) ?_
  obtain ⟨M1, r2, y3, h⟩ := x_cl h
  refine r_callVv (As := [.int v1]) (rest := []) cx w hkn hl.1 (k_X12_put hG hL0 hK0 y3) (cwV 1 hts gX12_isValue_X12_put rfl rfl rfl (by decide +kernel) (rm_lo3 (Nat.le_of_ble_eq_true rfl) (Nat.le_of_ble_eq_true rfl))) hL0 hK0 (by decide) rfl rfl rfl (Nat.le_of_ble_eq_true rfl) dX12_isValue_69 (fun H locs w => ?_)
  refine lv_aload_n hx hb dX12_isValue_72 rfl (lv_at hl 0 rfl) ?_
  refine lv_dup hx hb dX12_isValue_73 rfl ?_
  refine r_getI (k := 9) (v := .int (mI M1 a0 9)) cx w hL0 hK0 (by decide) rfl wi_X12_isValue_X12 (by decide) rfl (List.mem_of_getElem? (i := 2) rfl) dX12_isValue_74 ?_
  refine lv_iconst (v := (1 : Int32)) hx hb dX12_isValue_77 (by decide) ?_
  refine lv_iadd hx hb dX12_isValue_78 ?_
  obtain ⟨M4, eM4, h⟩ := x_wI h
  refine r_putI (k := 9) (ty := .int) cx w tyX12 tyX12_ok nmX12 hL0 hK0 (by decide) rfl wi_X12_isValue_X12 (by decide) rfl rfl rfl rfl st_11_9 (ln_11 _ _ (by decide)) (List.mem_of_getElem? (i := 2) rfl) dX12_isValue_79 eM4 (fun H locs w => ?_)
  refine lv_iconst (v := (1 : Int32)) hx hb dX12_isValue_82 (by decide) ?_
  obtain ⟨z5, h⟩ := x_ck h
  exact r_zret cx w z5 h dX12_isValue_83
set_option maxHeartbeats 4000000 in
set_option maxRecDepth 100000 in
theorem b_X12_isValue_153 {p : Program} {e : Env} {s : State} {m : MethodId} {args : Array Value} {below : List Frame} {meth : Method} {c : Code} {A : Nat → Prop} {l : Launch} {D : va_G} {cy : cyS} {G : gS} (cx : cX p s m args meth c cX12_isValue RX12 2 (some .boolean) wsX12_isValue D cy G A) {k0 n0 : Nat} {N0 : Nat} (hkn : k0 ≤ ((RM3 (N0 + 1))).cells ∧ n0 ≤ ((RM3 (N0 + 1))).slots) {M' : mS} {r : Int32} {a0 : Nat} (hL0 : a0 ∈ gL G) (hK0 : gK G a0 = 11)  {R : Nat → mS → Int32 → Int32 → Option (mS × Int32)} (hR : SC3 l D cy G a0 (RM3 N0) R)  : ∀ (M : mS) (H : Heap) (locs : List Loc) (ls : Array Slot), q_X12_isValue_153 G R a0 M = some (M', r) → wd D cy G M A s.heap H locs → lv_has ls 2 [] → W p l e (RM3 (N0 + 1)) s m args below meth c H locs k0 n0 (MQ below (va_Qi (fun (r' : Int32) (_ : Unit) => r' = r) (fun _ t => wOut D cy G M' t) A) args s k0 n0 A) (F0 m 153 ls []) := by
  obtain ⟨hx, hb, hml, hown, hts, hr, hlocks, hK, hA, hG, hsx⟩ := id cx
  intro M H locs ls h w hl
  unfold q_X12_isValue_153 at h
  refine lv_iconst (v := (0 : Int32)) hx hb dX12_isValue_153 (by decide) ?_
  obtain ⟨z1, h⟩ := x_ck h
  exact r_zret cx w z1 h dX12_isValue_154
set_option maxHeartbeats 4000000 in
set_option maxRecDepth 100000 in
theorem b_X12_isValue_198 {p : Program} {e : Env} {s : State} {m : MethodId} {args : Array Value} {below : List Frame} {meth : Method} {c : Code} {A : Nat → Prop} {l : Launch} {D : va_G} {cy : cyS} {G : gS} (cx : cX p s m args meth c cX12_isValue RX12 2 (some .boolean) wsX12_isValue D cy G A) {k0 n0 : Nat} {N0 : Nat} (hkn : k0 ≤ ((RM3 (N0 + 1))).cells ∧ n0 ≤ ((RM3 (N0 + 1))).slots) {M' : mS} {r : Int32} {a0 : Nat} (hL0 : a0 ∈ gL G) (hK0 : gK G a0 = 11)  {R : Nat → mS → Int32 → Int32 → Option (mS × Int32)} (hR : SC3 l D cy G a0 (RM3 N0) R)  : ∀ (M : mS) (s1 : Int32) (s2 : Int32) (H : Heap) (locs : List Loc) (ls : Array Slot), q_X12_isValue_198 G R a0 M s1 s2 = some (M', r) → wd D cy G M A s.heap H locs → lv_has ls 2 [] → W p l e (RM3 (N0 + 1)) s m args below meth c H locs k0 n0 (MQ below (va_Qi (fun (r' : Int32) (_ : Unit) => r' = r) (fun _ t => wOut D cy G M' t) A) args s k0 n0 A) (F0 m 198 ls [.int s2, .int s1, .ref a0]) := by
  obtain ⟨hx, hb, hml, hown, hts, hr, hlocks, hK, hA, hG, hsx⟩ := id cx
  intro M s1 s2 H locs ls h w hl
  unfold q_X12_isValue_198 at h
  obtain ⟨M1, r2, y3, h⟩ := x_cl h
  refine r_callVi (As := [.int s1, .int s2]) (rest := []) cx w hkn hl.1 (hR.2.2.2 _ _ _ _ _ y3) (cwV 2 hts gX12_isValue_X12_isInside rfl rfl rfl (by decide +kernel) (rm_up3 (by decide))) hL0 hK0 (by decide) rfl rfl rfl (Nat.le_of_ble_eq_true rfl) dX12_isValue_198 (fun H locs w => ?_)
  obtain ⟨z4, h⟩ := x_ck h
  exact r_zret cx w z4 h dX12_isValue_201
set_option maxHeartbeats 4000000 in
set_option maxRecDepth 100000 in
theorem b_X12_isValue_193 {p : Program} {e : Env} {s : State} {m : MethodId} {args : Array Value} {below : List Frame} {meth : Method} {c : Code} {A : Nat → Prop} {l : Launch} {D : va_G} {cy : cyS} {G : gS} (cx : cX p s m args meth c cX12_isValue RX12 2 (some .boolean) wsX12_isValue D cy G A) {k0 n0 : Nat} {N0 : Nat} (hkn : k0 ≤ ((RM3 (N0 + 1))).cells ∧ n0 ≤ ((RM3 (N0 + 1))).slots) {M' : mS} {r : Int32} {a0 : Nat} (hL0 : a0 ∈ gL G) (hK0 : gK G a0 = 11)  {R : Nat → mS → Int32 → Int32 → Option (mS × Int32)} (hR : SC3 l D cy G a0 (RM3 N0) R)  : ∀ (M : mS) (s1 : Int32) (H : Heap) (locs : List Loc) (ls : Array Slot), q_X12_isValue_193 G R a0 M s1 = some (M', r) → wd D cy G M A s.heap H locs → lv_has ls 2 [] → W p l e (RM3 (N0 + 1)) s m args below meth c H locs k0 n0 (MQ below (va_Qi (fun (r' : Int32) (_ : Unit) => r' = r) (fun _ t => wOut D cy G M' t) A) args s k0 n0 A) (F0 m 193 ls [.int s1, .ref a0]) := by
  obtain ⟨hx, hb, hml, hown, hts, hr, hlocks, hK, hA, hG, hsx⟩ := id cx
  intro M s1 H locs ls h w hl
  unfold q_X12_isValue_193 at h
  refine lv_iconst (v := (1 : Int32)) hx hb dX12_isValue_193 (by decide) ?_
  refine lv_goto (tgt := 198) hx hb dX12_isValue_194 (by decide) ?_
  exact b_X12_isValue_198 cx hkn hL0 hK0 hR M s1 ((1 : Int32)) H locs ls h w (lv_sub hl [] rfl)
set_option maxHeartbeats 4000000 in
set_option maxRecDepth 100000 in
theorem kq_X12_isValue {l : Launch} {D : va_G} {cy : cyS} {G : gS} {M M' : mS} {r : Int32} {a0 : Nat} (hG : wt G) (hL0 : a0 ∈ gL G) (hK0 : gK G a0 = 11) {N0 : Nat} {R : Nat → mS → Int32 → Int32 → Option (mS × Int32)} (hR : SC3 l D cy G a0 (RM3 N0) R) (h : q_X12_isValue G R M a0 = some (M', r)) : ctI l yX12_isValue wsX12_isValue (RM3 (N0 + 1)) D cy G M [.ref a0] M' r := by
  unfold q_X12_isValue at h
  refine ctI_of (cc := cX12_isValue) (nL := 2) (ret := (some .boolean)) (lv := [(0, .ref a0)]) hG (by decide) rfl ⟨rfl, rfl⟩ (Nat.le_of_ble_eq_true rfl) rfl ?_
  intro p e s m args below meth c A ls cx w hl
  obtain ⟨hx, hb, hml, hown, hts, hr, hlocks, hK, hA, -, hsx⟩ := id cx
  have hkn : 0 ≤ ((RM3 (N0 + 1))).cells ∧ 0 ≤ ((RM3 (N0 + 1))).slots := ⟨Nat.zero_le _, Nat.zero_le _⟩
  refine lv_aload_n hx hb dX12_isValue_0 rfl (lv_at hl 0 rfl) ?_
  obtain ⟨q1, eq1, h⟩ := x_rf h
  obtain ⟨hLq1, hKq1⟩ := wt_q hG hL0 hK0 eq1
  have hKq1 : gK G q1 = 12 := hKq1
  refine r_getR (k := 4) cx w hL0 hK0 (by decide) rfl wi_X12_isValue_X12 (by decide) rfl eq1 (List.mem_of_getElem? (i := 1) rfl) dX12_isValue_1 ?_
  refine lv_aload_n hx hb dX12_isValue_4 rfl (lv_at hl 0 rfl) ?_
  refine r_getI (k := 9) (v := .int (mI M a0 9)) cx w hL0 hK0 (by decide) rfl wi_X12_isValue_X12 (by decide) rfl (List.mem_of_getElem? (i := 2) rfl) dX12_isValue_5 ?_
  obtain ⟨z2, h⟩ := x_ix h
  refine r_iald cx w hLq1 hKq1 z2 dX12_isValue_8 ?_
  obtain ⟨x3, ex3, h⟩ := x_bd h
  refine r_topI ex3 ?_
  refine lv_istore_n (lv' := [(1, .int x3), (0, .ref a0)]) hx hb dX12_isValue_9 rfl hl (by decide) rfl (fun ls hl => ?_)
  refine lv_aload_n hx hb dX12_isValue_10 rfl (lv_at hl 1 rfl) ?_
  refine lv_bipush (v := (41 : Int32)) hx hb dX12_isValue_11 (by decide) ?_
  obtain ⟨M4, r5, y6, h⟩ := x_cl h
  refine r_callVi (As := [.int ((41 : Int32))]) (rest := []) cx w hkn hl.1 (k_X12_is hG hL0 hK0 y6) (cwV 1 hts gX12_isValue_X12_is rfl rfl rfl (by decide +kernel) (rm_lo3 (Nat.le_of_ble_eq_true rfl) (Nat.le_of_ble_eq_true rfl))) hL0 hK0 (by decide) rfl rfl rfl (Nat.le_of_ble_eq_true rfl) dX12_isValue_13 (fun H locs w => ?_)
  refine lv_if_eq (tgt := 49) hx hb dX12_isValue_16 (by decide) (fun k7 => ?_) (fun k7 => ?_)
  · have h := x_t h k7
    refine lv_aload_n hx hb dX12_isValue_49 rfl (lv_at hl 1 rfl) ?_
    refine lv_bipush (v := (20 : Int32)) hx hb dX12_isValue_50 (by decide) ?_
    obtain ⟨M8, r9, y10, h⟩ := x_cl h
    refine r_callVi (As := [.int ((20 : Int32))]) (rest := []) cx w hkn hl.1 (k_X12_is hG hL0 hK0 y10) (cwV 1 hts gX12_isValue_X12_is rfl rfl rfl (by decide +kernel) (rm_lo3 (Nat.le_of_ble_eq_true rfl) (Nat.le_of_ble_eq_true rfl))) hL0 hK0 (by decide) rfl rfl rfl (Nat.le_of_ble_eq_true rfl) dX12_isValue_52 (fun H locs w => ?_)
    refine lv_if_ne (tgt := 67) hx hb dX12_isValue_55 (by decide) (fun k11 => ?_) (fun k11 => ?_)
    · have h := x_f h k11
      exact b_X12_isValue_67 cx hkn hL0 hK0 hR M8 x3 H locs ls h w (lv_sub hl [1, 0] rfl)
    · have h := x_t h k11
      refine lv_aload_n hx hb dX12_isValue_58 rfl (lv_at hl 1 rfl) ?_
      refine lv_bipush (v := (21 : Int32)) hx hb dX12_isValue_59 (by decide) ?_
      obtain ⟨M12, r13, y14, h⟩ := x_cl h
      refine r_callVi (As := [.int ((21 : Int32))]) (rest := []) cx w hkn hl.1 (k_X12_is hG hL0 hK0 y14) (cwV 1 hts gX12_isValue_X12_is rfl rfl rfl (by decide +kernel) (rm_lo3 (Nat.le_of_ble_eq_true rfl) (Nat.le_of_ble_eq_true rfl))) hL0 hK0 (by decide) rfl rfl rfl (Nat.le_of_ble_eq_true rfl) dX12_isValue_61 (fun H locs w => ?_)
      refine lv_if_eq (tgt := 84) hx hb dX12_isValue_64 (by decide) (fun k15 => ?_) (fun k15 => ?_)
      · have h := x_t h k15
        refine lv_aload_n hx hb dX12_isValue_84 rfl (lv_at hl 1 rfl) ?_
        refine lv_bipush (v := (22 : Int32)) hx hb dX12_isValue_85 (by decide) ?_
        refine lv_bipush (v := (24 : Int32)) hx hb dX12_isValue_87 (by decide) ?_
        obtain ⟨M16, r17, y18, h⟩ := x_cl h
        refine r_callVi (As := [.int ((22 : Int32)), .int ((24 : Int32))]) (rest := []) cx w hkn hl.1 (k_X12_isWordOf hG hL0 hK0 y18) (cwV 2 hts gX12_isValue_X12_isWordOf rfl rfl rfl (by decide +kernel) (rm_lo3 (Nat.le_of_ble_eq_true rfl) (Nat.le_of_ble_eq_true rfl))) hL0 hK0 (by decide) rfl rfl rfl (Nat.le_of_ble_eq_true rfl) dX12_isValue_89 (fun H locs w => ?_)
        refine lv_if_eq (tgt := 102) hx hb dX12_isValue_92 (by decide) (fun k19 => ?_) (fun k19 => ?_)
        · have h := x_t h k19
          refine lv_aload_n hx hb dX12_isValue_102 rfl (lv_at hl 1 rfl) ?_
          refine lv_bipush (v := (25 : Int32)) hx hb dX12_isValue_103 (by decide) ?_
          obtain ⟨M20, r21, y22, h⟩ := x_cl h
          refine r_callVi (As := [.int ((25 : Int32))]) (rest := []) cx w hkn hl.1 (k_X12_eat hG hL0 hK0 y22) (cwV 1 hts gX12_isValue_X12_eat rfl rfl rfl (by decide +kernel) (rm_lo3 (Nat.le_of_ble_eq_true rfl) (Nat.le_of_ble_eq_true rfl))) hL0 hK0 (by decide) rfl rfl rfl (Nat.le_of_ble_eq_true rfl) dX12_isValue_105 (fun H locs w => ?_)
          refine lv_if_eq (tgt := 130) hx hb dX12_isValue_108 (by decide) (fun k23 => ?_) (fun k23 => ?_)
          · have h := x_t h k23
            refine lv_aload_n hx hb dX12_isValue_130 rfl (lv_at hl 1 rfl) ?_
            refine lv_bipush (v := (45 : Int32)) hx hb dX12_isValue_131 (by decide) ?_
            obtain ⟨M24, r25, y26, h⟩ := x_cl h
            refine r_callVi (As := [.int ((45 : Int32))]) (rest := []) cx w hkn hl.1 (k_X12_isSign hG hL0 hK0 y26) (cwV 1 hts gX12_isValue_X12_isSign rfl rfl rfl (by decide +kernel) (rm_lo3 (Nat.le_of_ble_eq_true rfl) (Nat.le_of_ble_eq_true rfl))) hL0 hK0 (by decide) rfl rfl rfl (Nat.le_of_ble_eq_true rfl) dX12_isValue_133 (fun H locs w => ?_)
            refine lv_if_eq (tgt := 173) hx hb dX12_isValue_136 (by decide) (fun k27 => ?_) (fun k27 => ?_)
            · have h := x_t h k27
              refine lv_aload_n hx hb dX12_isValue_173 rfl (lv_at hl 1 rfl) ?_
              refine lv_iload_n hx hb dX12_isValue_174 rfl (lv_at hl 0 rfl) ?_
              refine lv_aload_n hx hb dX12_isValue_175 rfl (lv_at hl 1 rfl) ?_
              refine lv_bipush (v := (31 : Int32)) hx hb dX12_isValue_176 (by decide) ?_
              obtain ⟨M28, r29, y30, h⟩ := x_cl h
              refine r_callVi (As := [.int ((31 : Int32))]) (rest := [.int x3, .ref a0]) cx w hkn hl.1 (k_X12_eat hG hL0 hK0 y30) (cwV 1 hts gX12_isValue_X12_eat rfl rfl rfl (by decide +kernel) (rm_lo3 (Nat.le_of_ble_eq_true rfl) (Nat.le_of_ble_eq_true rfl))) hL0 hK0 (by decide) rfl rfl rfl (Nat.le_of_ble_eq_true rfl) dX12_isValue_178 (fun H locs w => ?_)
              refine lv_if_ne (tgt := 193) hx hb dX12_isValue_181 (by decide) (fun k31 => ?_) (fun k31 => ?_)
              · have h := x_f h k31
                exact b_X12_isValue_193 cx hkn hL0 hK0 hR M28 x3 H locs ls h w (lv_sub hl [] rfl)
              · have h := x_t h k31
                refine lv_aload_n hx hb dX12_isValue_184 rfl (lv_at hl 1 rfl) ?_
                refine lv_bipush (v := (32 : Int32)) hx hb dX12_isValue_185 (by decide) ?_
                obtain ⟨M32, r33, y34, h⟩ := x_cl h
                refine r_callVi (As := [.int ((32 : Int32))]) (rest := [.int x3, .ref a0]) cx w hkn hl.1 (k_X12_eat hG hL0 hK0 y34) (cwV 1 hts gX12_isValue_X12_eat rfl rfl rfl (by decide +kernel) (rm_lo3 (Nat.le_of_ble_eq_true rfl) (Nat.le_of_ble_eq_true rfl))) hL0 hK0 (by decide) rfl rfl rfl (Nat.le_of_ble_eq_true rfl) dX12_isValue_187 (fun H locs w => ?_)
                refine lv_if_eq (tgt := 197) hx hb dX12_isValue_190 (by decide) (fun k35 => ?_) (fun k35 => ?_)
                · have h := x_t h k35
                  refine lv_iconst (v := (0 : Int32)) hx hb dX12_isValue_197 (by decide) ?_
                  exact b_X12_isValue_198 cx hkn hL0 hK0 hR M32 x3 ((0 : Int32)) H locs ls h w (lv_sub hl [] rfl)
                · have h := x_f h k35
                  exact b_X12_isValue_193 cx hkn hL0 hK0 hR M32 x3 H locs ls h w (lv_sub hl [] rfl)
            · have h := x_f h k27
              refine lv_aload_n hx hb dX12_isValue_139 rfl (lv_at hl 1 rfl) ?_
              obtain ⟨M36, r37, y38, h⟩ := x_cl h
              refine r_callVi (As := []) (rest := []) cx w hkn hl.1 (k_X12_isDeeper hG hL0 hK0 y38) (cwV 0 hts gX12_isValue_X12_isDeeper rfl rfl rfl (by decide +kernel) (rm_lo3 (Nat.le_of_ble_eq_true rfl) (Nat.le_of_ble_eq_true rfl))) hL0 hK0 (by decide) rfl rfl rfl (Nat.le_of_ble_eq_true rfl) dX12_isValue_140 (fun H locs w => ?_)
              refine lv_if_eq (tgt := 153) hx hb dX12_isValue_143 (by decide) (fun k39 => ?_) (fun k39 => ?_)
              · have h := x_t h k39
                exact b_X12_isValue_153 cx hkn hL0 hK0 hR M36 H locs ls h w (lv_sub hl [] rfl)
              · have h := x_f h k39
                refine lv_aload_n hx hb dX12_isValue_146 rfl (lv_at hl 1 rfl) ?_
                obtain ⟨M40, r41, y42, h⟩ := x_cl h
                refine r_callVi (As := []) (rest := []) cx w hkn hl.1 (hR.2.2.1 _ _ _ _ _ y42) (cwV 0 hts gX12_isValue_X12_isValue rfl rfl rfl (by decide +kernel) (rm_up3 (by decide))) hL0 hK0 (by decide) rfl rfl rfl (Nat.le_of_ble_eq_true rfl) dX12_isValue_147 (fun H locs w => ?_)
                refine lv_if_ne (tgt := 155) hx hb dX12_isValue_150 (by decide) (fun k43 => ?_) (fun k43 => ?_)
                · have h := x_f h k43
                  refine lv_aload_n hx hb dX12_isValue_155 rfl (lv_at hl 1 rfl) ?_
                  refine lv_dup hx hb dX12_isValue_156 rfl ?_
                  refine r_getI (k := 10) (v := .int (mI M40 a0 10)) cx w hL0 hK0 (by decide) rfl wi_X12_isValue_X12 (by decide) rfl (List.mem_of_getElem? (i := 3) rfl) dX12_isValue_157 ?_
                  refine lv_iconst (v := (1 : Int32)) hx hb dX12_isValue_160 (by decide) ?_
                  refine lv_isub hx hb dX12_isValue_161 ?_
                  obtain ⟨M44, eM44, h⟩ := x_wI h
                  refine r_putI (k := 10) (ty := .int) cx w tyX12 tyX12_ok nmX12 hL0 hK0 (by decide) rfl wi_X12_isValue_X12 (by decide) rfl rfl rfl rfl st_11_10 (ln_11 _ _ (by decide)) (List.mem_of_getElem? (i := 3) rfl) dX12_isValue_162 eM44 (fun H locs w => ?_)
                  refine lv_aload_n hx hb dX12_isValue_165 rfl (lv_at hl 1 rfl) ?_
                  refine lv_bipush (v := (43 : Int32)) hx hb dX12_isValue_166 (by decide) ?_
                  obtain ⟨M45, r46, y47, h⟩ := x_cl h
                  refine r_callVv (As := [.int ((43 : Int32))]) (rest := []) cx w hkn hl.1 (k_X12_put hG hL0 hK0 y47) (cwV 1 hts gX12_isValue_X12_put rfl rfl rfl (by decide +kernel) (rm_lo3 (Nat.le_of_ble_eq_true rfl) (Nat.le_of_ble_eq_true rfl))) hL0 hK0 (by decide) rfl rfl rfl (Nat.le_of_ble_eq_true rfl) dX12_isValue_168 (fun H locs w => ?_)
                  refine lv_iconst (v := (1 : Int32)) hx hb dX12_isValue_171 (by decide) ?_
                  obtain ⟨z48, h⟩ := x_ck h
                  exact r_zret cx w z48 h dX12_isValue_172
                · have h := x_t h k43
                  exact b_X12_isValue_153 cx hkn hL0 hK0 hR M40 H locs ls h w (lv_sub hl [] rfl)
          · have h := x_f h k23
            refine lv_aload_n hx hb dX12_isValue_111 rfl (lv_at hl 1 rfl) ?_
            refine lv_iload_n hx hb dX12_isValue_112 rfl (lv_at hl 0 rfl) ?_
            refine lv_iconst (v := (0 : Int32)) hx hb dX12_isValue_113 (by decide) ?_
            obtain ⟨M49, r50, y51, h⟩ := x_cl h
            refine r_callVi (As := [.int x3, .int ((0 : Int32))]) (rest := []) cx w hkn hl.1 (hR.2.2.2 _ _ _ _ _ y51) (cwV 2 hts gX12_isValue_X12_isInside rfl rfl rfl (by decide +kernel) (rm_up3 (by decide))) hL0 hK0 (by decide) rfl rfl rfl (Nat.le_of_ble_eq_true rfl) dX12_isValue_114 (fun H locs w => ?_)
            refine lv_if_ne (tgt := 122) hx hb dX12_isValue_117 (by decide) (fun k52 => ?_) (fun k52 => ?_)
            · have h := x_f h k52
              refine lv_aload_n hx hb dX12_isValue_122 rfl (lv_at hl 1 rfl) ?_
              refine lv_bipush (v := (25 : Int32)) hx hb dX12_isValue_123 (by decide) ?_
              obtain ⟨M53, r54, y55, h⟩ := x_cl h
              refine r_callVv (As := [.int ((25 : Int32))]) (rest := []) cx w hkn hl.1 (k_X12_put hG hL0 hK0 y55) (cwV 1 hts gX12_isValue_X12_put rfl rfl rfl (by decide +kernel) (rm_lo3 (Nat.le_of_ble_eq_true rfl) (Nat.le_of_ble_eq_true rfl))) hL0 hK0 (by decide) rfl rfl rfl (Nat.le_of_ble_eq_true rfl) dX12_isValue_125 (fun H locs w => ?_)
              refine lv_iconst (v := (1 : Int32)) hx hb dX12_isValue_128 (by decide) ?_
              obtain ⟨z56, h⟩ := x_ck h
              exact r_zret cx w z56 h dX12_isValue_129
            · have h := x_t h k52
              refine lv_iconst (v := (0 : Int32)) hx hb dX12_isValue_120 (by decide) ?_
              obtain ⟨z57, h⟩ := x_ck h
              exact r_zret cx w z57 h dX12_isValue_121
        · have h := x_f h k19
          refine lv_aload_n hx hb dX12_isValue_95 rfl (lv_at hl 1 rfl) ?_
          refine lv_bipush (v := (14 : Int32)) hx hb dX12_isValue_96 (by decide) ?_
          obtain ⟨M58, r59, y60, h⟩ := x_cl h
          refine r_callVi (As := [.int ((14 : Int32))]) (rest := []) cx w hkn hl.1 (k_X12_isNamed hG hL0 hK0 y60) (cwV 1 hts gX12_isValue_X12_isNamed rfl rfl rfl (by decide +kernel) (rm_lo3 (Nat.le_of_ble_eq_true rfl) (Nat.le_of_ble_eq_true rfl))) hL0 hK0 (by decide) rfl rfl rfl (Nat.le_of_ble_eq_true rfl) dX12_isValue_98 (fun H locs w => ?_)
          obtain ⟨z61, h⟩ := x_ck h
          exact r_zret cx w z61 h dX12_isValue_101
      · have h := x_f h k15
        exact b_X12_isValue_67 cx hkn hL0 hK0 hR M12 x3 H locs ls h w (lv_sub hl [1, 0] rfl)
  · have h := x_f h k7
    refine lv_aload_n hx hb dX12_isValue_19 rfl (lv_at hl 1 rfl) ?_
    refine lv_bipush (v := (42 : Int32)) hx hb dX12_isValue_20 (by decide) ?_
    obtain ⟨M62, r63, y64, h⟩ := x_cl h
    refine r_callVv (As := [.int ((42 : Int32))]) (rest := []) cx w hkn hl.1 (k_X12_put hG hL0 hK0 y64) (cwV 1 hts gX12_isValue_X12_put rfl rfl rfl (by decide +kernel) (rm_lo3 (Nat.le_of_ble_eq_true rfl) (Nat.le_of_ble_eq_true rfl))) hL0 hK0 (by decide) rfl rfl rfl (Nat.le_of_ble_eq_true rfl) dX12_isValue_22 (fun H locs w => ?_)
    refine lv_aload_n hx hb dX12_isValue_25 rfl (lv_at hl 1 rfl) ?_
    refine lv_aload_n hx hb dX12_isValue_26 rfl (lv_at hl 1 rfl) ?_
    refine lv_aload_n hx hb dX12_isValue_27 rfl (lv_at hl 1 rfl) ?_
    refine r_getI (k := 9) (v := .int (mI M62 a0 9)) cx w hL0 hK0 (by decide) rfl wi_X12_isValue_X12 (by decide) rfl (List.mem_of_getElem? (i := 2) rfl) dX12_isValue_28 ?_
    obtain ⟨M65, r66, y67, h⟩ := x_cl h
    refine r_callVi (As := [.int ((mI M62 a0 9))]) (rest := [.ref a0]) cx w hkn hl.1 (k_X12_numberAt hG hL0 hK0 y67) (cwV 1 hts gX12_isValue_X12_numberAt rfl rfl rfl (by decide +kernel) (rm_lo3 (Nat.le_of_ble_eq_true rfl) (Nat.le_of_ble_eq_true rfl))) hL0 hK0 (by decide) rfl rfl rfl (Nat.le_of_ble_eq_true rfl) dX12_isValue_31 (fun H locs w => ?_)
    obtain ⟨M68, r69, y70, h⟩ := x_cl h
    refine r_callVv (As := [.int r66]) (rest := []) cx w hkn hl.1 (k_X12_put hG hL0 hK0 y70) (cwV 1 hts gX12_isValue_X12_put rfl rfl rfl (by decide +kernel) (rm_lo3 (Nat.le_of_ble_eq_true rfl) (Nat.le_of_ble_eq_true rfl))) hL0 hK0 (by decide) rfl rfl rfl (Nat.le_of_ble_eq_true rfl) dX12_isValue_34 (fun H locs w => ?_)
    refine lv_aload_n hx hb dX12_isValue_37 rfl (lv_at hl 1 rfl) ?_
    refine lv_dup hx hb dX12_isValue_38 rfl ?_
    refine r_getI (k := 9) (v := .int (mI M68 a0 9)) cx w hL0 hK0 (by decide) rfl wi_X12_isValue_X12 (by decide) rfl (List.mem_of_getElem? (i := 2) rfl) dX12_isValue_39 ?_
    refine lv_iconst (v := (1 : Int32)) hx hb dX12_isValue_42 (by decide) ?_
    refine lv_iadd hx hb dX12_isValue_43 ?_
    obtain ⟨M71, eM71, h⟩ := x_wI h
    refine r_putI (k := 9) (ty := .int) cx w tyX12 tyX12_ok nmX12 hL0 hK0 (by decide) rfl wi_X12_isValue_X12 (by decide) rfl rfl rfl rfl st_11_9 (ln_11 _ _ (by decide)) (List.mem_of_getElem? (i := 2) rfl) dX12_isValue_44 eM71 (fun H locs w => ?_)
    refine lv_iconst (v := (1 : Int32)) hx hb dX12_isValue_47 (by decide) ?_
    obtain ⟨z72, h⟩ := x_ck h
    exact r_zret cx w z72 h dX12_isValue_48
set_option maxHeartbeats 4000000 in
set_option maxRecDepth 100000 in
theorem b_X12_isInside_43 {p : Program} {e : Env} {s : State} {m : MethodId} {args : Array Value} {below : List Frame} {meth : Method} {c : Code} {A : Nat → Prop} {l : Launch} {D : va_G} {cy : cyS} {G : gS} (cx : cX p s m args meth c cX12_isInside RX12 3 (some .boolean) wsX12_isInside D cy G A) {k0 n0 : Nat} {N0 : Nat} (hkn : k0 ≤ ((RM3 (N0 + 1))).cells ∧ n0 ≤ ((RM3 (N0 + 1))).slots) {M' : mS} {r : Int32} {a0 : Nat} {c1 : Int32} {c2 : Int32} (hL0 : a0 ∈ gL G) (hK0 : gK G a0 = 11)  {R : Nat → mS → Int32 → Int32 → Option (mS × Int32)} (hR : SC3 l D cy G a0 (RM3 N0) R)  : ∀ (M : mS) (H : Heap) (locs : List Loc) (ls : Array Slot), q_X12_isInside_43 G R a0 c1 c2 M = some (M', r) → wd D cy G M A s.heap H locs → lv_has ls 3 [] → W p l e (RM3 (N0 + 1)) s m args below meth c H locs k0 n0 (MQ below (va_Qi (fun (r' : Int32) (_ : Unit) => r' = r) (fun _ t => wOut D cy G M' t) A) args s k0 n0 A) (F0 m 43 ls []) := by
  obtain ⟨hx, hb, hml, hown, hts, hr, hlocks, hK, hA, hG, hsx⟩ := id cx
  intro M H locs ls h w hl
  unfold q_X12_isInside_43 at h
  refine lv_iconst (v := (0 : Int32)) hx hb dX12_isInside_43 (by decide) ?_
  obtain ⟨z1, h⟩ := x_ck h
  exact r_zret cx w z1 h dX12_isInside_44
set_option maxHeartbeats 4000000 in
set_option maxRecDepth 100000 in
theorem b_X12_isInside_64 {p : Program} {e : Env} {s : State} {m : MethodId} {args : Array Value} {below : List Frame} {meth : Method} {c : Code} {A : Nat → Prop} {l : Launch} {D : va_G} {cy : cyS} {G : gS} (cx : cX p s m args meth c cX12_isInside RX12 3 (some .boolean) wsX12_isInside D cy G A) {k0 n0 : Nat} {N0 : Nat} (hkn : k0 ≤ ((RM3 (N0 + 1))).cells ∧ n0 ≤ ((RM3 (N0 + 1))).slots) {M' : mS} {r : Int32} {a0 : Nat} {c1 : Int32} {c2 : Int32} (hL0 : a0 ∈ gL G) (hK0 : gK G a0 = 11)  {R : Nat → mS → Int32 → Int32 → Option (mS × Int32)} (hR : SC3 l D cy G a0 (RM3 N0) R)  : ∀ (M : mS) (H : Heap) (locs : List Loc) (ls : Array Slot), q_X12_isInside_64 G R a0 c1 c2 M = some (M', r) → wd D cy G M A s.heap H locs → lv_has ls 3 [(0, .ref a0)] → W p l e (RM3 (N0 + 1)) s m args below meth c H locs k0 n0 (MQ below (va_Qi (fun (r' : Int32) (_ : Unit) => r' = r) (fun _ t => wOut D cy G M' t) A) args s k0 n0 A) (F0 m 64 ls []) := by
  obtain ⟨hx, hb, hml, hown, hts, hr, hlocks, hK, hA, hG, hsx⟩ := id cx
  intro M H locs ls h w hl
  unfold q_X12_isInside_64 at h
  refine lv_aload_n hx hb dX12_isInside_64 rfl (lv_at hl 0 rfl) ?_
  refine lv_bipush (v := (41 : Int32)) hx hb dX12_isInside_65 (by decide) ?_
  obtain ⟨M1, r2, y3, h⟩ := x_cl h
  refine r_callVi (As := [.int ((41 : Int32))]) (rest := []) cx w hkn hl.1 (k_X12_eatSign hG hL0 hK0 y3) (cwV 1 hts gX12_isInside_X12_eatSign rfl rfl rfl (by decide +kernel) (rm_lo3 (Nat.le_of_ble_eq_true rfl) (Nat.le_of_ble_eq_true rfl))) hL0 hK0 (by decide) rfl rfl rfl (Nat.le_of_ble_eq_true rfl) dX12_isInside_67 (fun H locs w => ?_)
  obtain ⟨z4, h⟩ := x_ck h
  exact r_zret cx w z4 h dX12_isInside_70
set_option maxHeartbeats 4000000 in
set_option maxRecDepth 100000 in
theorem b_X12_isInside_45 {p : Program} {e : Env} {s : State} {m : MethodId} {args : Array Value} {below : List Frame} {meth : Method} {c : Code} {A : Nat → Prop} {l : Launch} {D : va_G} {cy : cyS} {G : gS} (cx : cX p s m args meth c cX12_isInside RX12 3 (some .boolean) wsX12_isInside D cy G A) {k0 n0 : Nat} {N0 : Nat} (hkn : k0 ≤ ((RM3 (N0 + 1))).cells ∧ n0 ≤ ((RM3 (N0 + 1))).slots) {M' : mS} {r : Int32} {a0 : Nat} {c1 : Int32} {c2 : Int32} (hL0 : a0 ∈ gL G) (hK0 : gK G a0 = 11)  {R : Nat → mS → Int32 → Int32 → Option (mS × Int32)} (hR : SC3 l D cy G a0 (RM3 N0) R)  : ∀ (M : mS) (H : Heap) (locs : List Loc) (ls : Array Slot), q_X12_isInside_45 G R a0 c1 c2 M = some (M', r) → wd D cy G M A s.heap H locs → lv_has ls 3 [(0, .ref a0), (1, .int c1), (2, .int c2)] → W p l e (RM3 (N0 + 1)) s m args below meth c H locs k0 n0 (MQ below (va_Qi (fun (r' : Int32) (_ : Unit) => r' = r) (fun _ t => wOut D cy G M' t) A) args s k0 n0 A) (F0 m 45 ls []) := by
  obtain ⟨hx, hb, hml, hown, hts, hr, hlocks, hK, hA, hG, hsx⟩ := id cx
  intro M H locs ls h w hl
  unfold q_X12_isInside_45 at h
  refine lv_aload_n hx hb dX12_isInside_45 rfl (lv_at hl 0 rfl) ?_
  refine lv_dup hx hb dX12_isInside_46 rfl ?_
  refine r_getI (k := 10) (v := .int (mI M a0 10)) cx w hL0 hK0 (by decide) rfl wi_X12_isInside_X12 (by decide) rfl (List.mem_of_getElem? (i := 1) rfl) dX12_isInside_47 ?_
  refine lv_iconst (v := (1 : Int32)) hx hb dX12_isInside_50 (by decide) ?_
  refine lv_isub hx hb dX12_isInside_51 ?_
  obtain ⟨M1, eM1, h⟩ := x_wI h
  refine r_putI (k := 10) (ty := .int) cx w tyX12 tyX12_ok nmX12 hL0 hK0 (by decide) rfl wi_X12_isInside_X12 (by decide) rfl rfl rfl rfl st_11_10 (ln_11 _ _ (by decide)) (List.mem_of_getElem? (i := 1) rfl) dX12_isInside_52 eM1 (fun H locs w => ?_)
  refine lv_iload_n hx hb dX12_isInside_55 rfl (lv_at hl 2 rfl) ?_
  refine lv_if_eq (tgt := 64) hx hb dX12_isInside_56 (by decide) (fun k2 => ?_) (fun k2 => ?_)
  · have h := x_t h k2
    exact b_X12_isInside_64 cx hkn hL0 hK0 hR M1 H locs ls h w (lv_sub hl [0] rfl)
  · have h := x_f h k2
    refine lv_aload_n hx hb dX12_isInside_59 rfl (lv_at hl 0 rfl) ?_
    refine lv_iload_n hx hb dX12_isInside_60 rfl (lv_at hl 1 rfl) ?_
    obtain ⟨M3, r4, y5, h⟩ := x_cl h
    refine r_callVv (As := [.int c1]) (rest := []) cx w hkn hl.1 (k_X12_put hG hL0 hK0 y5) (cwV 1 hts gX12_isInside_X12_put rfl rfl rfl (by decide +kernel) (rm_lo3 (Nat.le_of_ble_eq_true rfl) (Nat.le_of_ble_eq_true rfl))) hL0 hK0 (by decide) rfl rfl rfl (Nat.le_of_ble_eq_true rfl) dX12_isInside_61 (fun H locs w => ?_)
    exact b_X12_isInside_64 cx hkn hL0 hK0 hR M3 H locs ls h w (lv_sub hl [0] rfl)
set_option maxHeartbeats 4000000 in
set_option maxRecDepth 100000 in
theorem kq_X12_isInside {l : Launch} {D : va_G} {cy : cyS} {G : gS} {M M' : mS} {r : Int32} {a0 : Nat} {c1 : Int32} {c2 : Int32} (hG : wt G) (hL0 : a0 ∈ gL G) (hK0 : gK G a0 = 11) {N0 : Nat} {R : Nat → mS → Int32 → Int32 → Option (mS × Int32)} (hR : SC3 l D cy G a0 (RM3 N0) R) (h : q_X12_isInside G R M a0 c1 c2 = some (M', r)) : ctI l yX12_isInside wsX12_isInside (RM3 (N0 + 1)) D cy G M [.ref a0, .int c1, .int c2] M' r := by
  unfold q_X12_isInside at h
  refine ctI_of (cc := cX12_isInside) (nL := 3) (ret := (some .boolean)) (lv := [(0, .ref a0), (1, .int c1), (2, .int c2)]) hG (by decide) rfl ⟨rfl, rfl⟩ (Nat.le_of_ble_eq_true rfl) rfl ?_
  intro p e s m args below meth c A ls cx w hl
  obtain ⟨hx, hb, hml, hown, hts, hr, hlocks, hK, hA, -, hsx⟩ := id cx
  have hkn : 0 ≤ ((RM3 (N0 + 1))).cells ∧ 0 ≤ ((RM3 (N0 + 1))).slots := ⟨Nat.zero_le _, Nat.zero_le _⟩
  refine lv_aload_n hx hb dX12_isInside_0 rfl (lv_at hl 0 rfl) ?_
  refine lv_bipush (v := (40 : Int32)) hx hb dX12_isInside_1 (by decide) ?_
  obtain ⟨M1, r2, y3, h⟩ := x_cl h
  refine r_callVi (As := [.int ((40 : Int32))]) (rest := []) cx w hkn hl.1 (k_X12_isSign hG hL0 hK0 y3) (cwV 1 hts gX12_isInside_X12_isSign rfl rfl rfl (by decide +kernel) (rm_lo3 (Nat.le_of_ble_eq_true rfl) (Nat.le_of_ble_eq_true rfl))) hL0 hK0 (by decide) rfl rfl rfl (Nat.le_of_ble_eq_true rfl) dX12_isInside_3 (fun H locs w => ?_)
  refine lv_if_eq (tgt := 43) hx hb dX12_isInside_6 (by decide) (fun k4 => ?_) (fun k4 => ?_)
  · have h := x_t h k4
    exact b_X12_isInside_43 cx hkn hL0 hK0 hR M1 H locs ls h w (lv_sub hl [] rfl)
  · have h := x_f h k4
    refine lv_aload_n hx hb dX12_isInside_9 rfl (lv_at hl 0 rfl) ?_
    obtain ⟨M5, r6, y7, h⟩ := x_cl h
    refine r_callVi (As := []) (rest := []) cx w hkn hl.1 (k_X12_isDeeper hG hL0 hK0 y7) (cwV 0 hts gX12_isInside_X12_isDeeper rfl rfl rfl (by decide +kernel) (rm_lo3 (Nat.le_of_ble_eq_true rfl) (Nat.le_of_ble_eq_true rfl))) hL0 hK0 (by decide) rfl rfl rfl (Nat.le_of_ble_eq_true rfl) dX12_isInside_10 (fun H locs w => ?_)
    refine lv_if_eq (tgt := 43) hx hb dX12_isInside_13 (by decide) (fun k8 => ?_) (fun k8 => ?_)
    · have h := x_t h k8
      exact b_X12_isInside_43 cx hkn hL0 hK0 hR M5 H locs ls h w (lv_sub hl [] rfl)
    · have h := x_f h k8
      refine lv_aload_n hx hb dX12_isInside_16 rfl (lv_at hl 0 rfl) ?_
      obtain ⟨M9, r10, y11, h⟩ := x_cl h
      refine r_callVi (As := []) (rest := []) cx w hkn hl.1 (hR.1 _ _ _ _ _ y11) (cwV 0 hts gX12_isInside_X12_isSum rfl rfl rfl (by decide +kernel) (rm_up3 (by decide))) hL0 hK0 (by decide) rfl rfl rfl (Nat.le_of_ble_eq_true rfl) dX12_isInside_17 (fun H locs w => ?_)
      refine lv_if_eq (tgt := 43) hx hb dX12_isInside_20 (by decide) (fun k12 => ?_) (fun k12 => ?_)
      · have h := x_t h k12
        exact b_X12_isInside_43 cx hkn hL0 hK0 hR M9 H locs ls h w (lv_sub hl [] rfl)
      · have h := x_f h k12
        refine lv_iload_n hx hb dX12_isInside_23 rfl (lv_at hl 2 rfl) ?_
        refine lv_if_eq (tgt := 45) hx hb dX12_isInside_24 (by decide) (fun k13 => ?_) (fun k13 => ?_)
        · have h := x_t h k13
          exact b_X12_isInside_45 cx hkn hL0 hK0 hR M9 H locs ls h w (lv_sub hl [0, 1, 2] rfl)
        · have h := x_f h k13
          refine lv_aload_n hx hb dX12_isInside_27 rfl (lv_at hl 0 rfl) ?_
          refine lv_bipush (v := (44 : Int32)) hx hb dX12_isInside_28 (by decide) ?_
          obtain ⟨M14, r15, y16, h⟩ := x_cl h
          refine r_callVi (As := [.int ((44 : Int32))]) (rest := []) cx w hkn hl.1 (k_X12_eatSign hG hL0 hK0 y16) (cwV 1 hts gX12_isInside_X12_eatSign rfl rfl rfl (by decide +kernel) (rm_lo3 (Nat.le_of_ble_eq_true rfl) (Nat.le_of_ble_eq_true rfl))) hL0 hK0 (by decide) rfl rfl rfl (Nat.le_of_ble_eq_true rfl) dX12_isInside_30 (fun H locs w => ?_)
          refine lv_if_eq (tgt := 43) hx hb dX12_isInside_33 (by decide) (fun k17 => ?_) (fun k17 => ?_)
          · have h := x_t h k17
            exact b_X12_isInside_43 cx hkn hL0 hK0 hR M14 H locs ls h w (lv_sub hl [] rfl)
          · have h := x_f h k17
            refine lv_aload_n hx hb dX12_isInside_36 rfl (lv_at hl 0 rfl) ?_
            obtain ⟨M18, r19, y20, h⟩ := x_cl h
            refine r_callVi (As := []) (rest := []) cx w hkn hl.1 (hR.1 _ _ _ _ _ y20) (cwV 0 hts gX12_isInside_X12_isSum rfl rfl rfl (by decide +kernel) (rm_up3 (by decide))) hL0 hK0 (by decide) rfl rfl rfl (Nat.le_of_ble_eq_true rfl) dX12_isInside_37 (fun H locs w => ?_)
            refine lv_if_ne (tgt := 45) hx hb dX12_isInside_40 (by decide) (fun k21 => ?_) (fun k21 => ?_)
            · have h := x_f h k21
              exact b_X12_isInside_45 cx hkn hL0 hK0 hR M18 H locs ls h w (lv_sub hl [0, 1, 2] rfl)
            · have h := x_t h k21
              exact b_X12_isInside_43 cx hkn hL0 hK0 hR M18 H locs ls h w (lv_sub hl [] rfl)
def rec3 (G : gS) (a : Nat) : Nat → Nat → mS → Int32 → Int32 → Option (mS × Int32)
  | 0, _, _, _, _ => none
  | n + 1, t, M, x, y => if t = 0 then q_X12_isSum G (rec3 G a n) M a else if t = 1 then q_X12_isProduct G (rec3 G a n) M a else if t = 2 then q_X12_isValue G (rec3 G a n) M a else if t = 3 then q_X12_isInside G (rec3 G a n) M a x y else none
theorem kr3 {l : Launch} {D : va_G} {cy : cyS} {G : gS} {a : Nat} (hG : wt G) (hL : a ∈ gL G) (hK : gK G a = 11) : ∀ n : Nat, SC3 l D cy G a (RM3 n) (rec3 G a n) := by
  intro n
  induction n with
  | zero => exact ⟨fun M x y M' r h => nn h, fun M x y M' r h => nn h, fun M x y M' r h => nn h, fun M x y M' r h => nn h⟩
  | succ n ih => exact ⟨fun M x y M' r h => kq_X12_isSum hG hL hK ih h, fun M x y M' r h => kq_X12_isProduct hG hL hK ih h, fun M x y M' r h => kq_X12_isValue hG hL hK ih h, fun M x y M' r h => kq_X12_isInside hG hL hK ih h⟩
def m_X12_isSum (G : gS) (M : mS) (a : Nat) : Option (mS × Int32) := rec3 G a 64 0 M (0 : Int32) (0 : Int32)
abbrev rmX12_isSum : Room := RM3 64
theorem k_X12_isSum {l : Launch} {D : va_G} {cy : cyS} {G : gS} {M M' : mS} {r : Int32} {a : Nat} (hG : wt G) (hL : a ∈ gL G) (hK : gK G a = 11) (h : m_X12_isSum G M a = some (M', r)) : ctI l yX12_isSum wsX12_isSum rmX12_isSum D cy G M [.ref a] M' r := ((kr3 (l := l) (D := D) (cy := cy) hG hL hK 64).1) _ _ _ _ _ h
def m_X12_isProduct (G : gS) (M : mS) (a : Nat) : Option (mS × Int32) := rec3 G a 64 1 M (0 : Int32) (0 : Int32)
abbrev rmX12_isProduct : Room := RM3 64
theorem k_X12_isProduct {l : Launch} {D : va_G} {cy : cyS} {G : gS} {M M' : mS} {r : Int32} {a : Nat} (hG : wt G) (hL : a ∈ gL G) (hK : gK G a = 11) (h : m_X12_isProduct G M a = some (M', r)) : ctI l yX12_isProduct wsX12_isProduct rmX12_isProduct D cy G M [.ref a] M' r := ((kr3 (l := l) (D := D) (cy := cy) hG hL hK 64).2.1) _ _ _ _ _ h
def m_X12_isValue (G : gS) (M : mS) (a : Nat) : Option (mS × Int32) := rec3 G a 64 2 M (0 : Int32) (0 : Int32)
abbrev rmX12_isValue : Room := RM3 64
theorem k_X12_isValue {l : Launch} {D : va_G} {cy : cyS} {G : gS} {M M' : mS} {r : Int32} {a : Nat} (hG : wt G) (hL : a ∈ gL G) (hK : gK G a = 11) (h : m_X12_isValue G M a = some (M', r)) : ctI l yX12_isValue wsX12_isValue rmX12_isValue D cy G M [.ref a] M' r := ((kr3 (l := l) (D := D) (cy := cy) hG hL hK 64).2.2.1) _ _ _ _ _ h
def m_X12_isInside (G : gS) (M : mS) (a : Nat) (x : Int32) (y : Int32) : Option (mS × Int32) := rec3 G a 64 3 M x y
abbrev rmX12_isInside : Room := RM3 64
theorem k_X12_isInside {l : Launch} {D : va_G} {cy : cyS} {G : gS} {M M' : mS} {r : Int32} {a : Nat} {x : Int32} {y : Int32} (hG : wt G) (hL : a ∈ gL G) (hK : gK G a = 11) (h : m_X12_isInside G M a x y = some (M', r)) : ctI l yX12_isInside wsX12_isInside rmX12_isInside D cy G M [.ref a, .int x, .int y] M' r := ((kr3 (l := l) (D := D) (cy := cy) hG hL hK 64).2.2.2) _ _ _ _ _ h
-- a group that calls itself: X12_isTest X12_isBoth X12_isSingle
abbrev RM4 (n : Nat) : Room := { frames := n + 70, cells := 0, slots := 0, locals := 60 * n + 3967 }
theorem rm_up4 {n mL : Nat} (h : mL ≤ 41) : (RM4 n).frames + 1 ≤ (RM4 (n + 1)).frames ∧ 8 + (mL + 11) + (RM4 n).locals ≤ (RM4 (n + 1)).locals := ⟨by show n + 70 + 1 ≤ n + 1 + 70; omega, by show 8 + (mL + 11) + (60 * n + 3967) ≤ 60 * (n + 1) + 3967; omega⟩
theorem rm_lo4 {n f lo mL : Nat} (h1 : f + 1 ≤ 70) (h2 : 8 + (mL + 11) + lo ≤ 3967) : f + 1 ≤ (RM4 (n + 1)).frames ∧ 8 + (mL + 11) + lo ≤ (RM4 (n + 1)).locals := ⟨by show f + 1 ≤ n + 1 + 70; omega, by show 8 + (mL + 11) + lo ≤ 60 * (n + 1) + 3967; omega⟩
def SC4 (l : Launch) (D : va_G) (cy : cyS) (G : gS) (a : Nat) (rm : Room) (R : Nat → mS → Int32 → Int32 → Option (mS × Int32)) : Prop := (∀ (M : mS) (x y : Int32) (M' : mS) (r : Int32), R 0 M x y = some (M', r) → ctI l yX12_isTest wsX12_isTest rm D cy G M [.ref a] M' r) ∧ (∀ (M : mS) (x y : Int32) (M' : mS) (r : Int32), R 1 M x y = some (M', r) → ctI l yX12_isBoth wsX12_isBoth rm D cy G M [.ref a] M' r) ∧ (∀ (M : mS) (x y : Int32) (M' : mS) (r : Int32), R 2 M x y = some (M', r) → ctI l yX12_isSingle wsX12_isSingle rm D cy G M [.ref a] M' r)
theorem wi_X12_isSingle_X12 : ∀ w ∈ wsX120, w ∈ wsX12_isSingle := by decide +kernel
def q_X12_isTest_9 (G : gS) (R : Nat → mS → Int32 → Int32 → Option (mS × Int32)) (a0 : Nat)  : Nat → mS → Option (mS × Int32)
  | 0, _ => none
  | n + 1, M => o_cl (m_X12_eat G M a0 (30 : Int32)) (fun M1 r2 => (if r2 = 0 then o_ck ((1 : Int32) = 0 ∨ (1 : Int32) = 1) (some (M1, (1 : Int32))) else o_cl (R 1 M1 (0 : Int32) (0 : Int32)) (fun M6 r7 => (if r7 = 0 then o_ck ((0 : Int32) = 0 ∨ (0 : Int32) = 1) (some (M6, (0 : Int32))) else o_cl (m_X12_put G M6 a0 (30 : Int32)) (fun M10 r11 => q_X12_isTest_9 G R a0 n M10)))))
def q_X12_isTest (G : gS) (R : Nat → mS → Int32 → Int32 → Option (mS × Int32)) (M : mS) (a0 : Nat) : Option (mS × Int32) := o_cl (R 1 M (0 : Int32) (0 : Int32)) (fun M1 r2 => (if r2 = 0 then o_ck ((0 : Int32) = 0 ∨ (0 : Int32) = 1) (some (M1, (0 : Int32))) else q_X12_isTest_9 G R a0 fu M1))
def q_X12_isBoth_9 (G : gS) (R : Nat → mS → Int32 → Int32 → Option (mS × Int32)) (a0 : Nat)  : Nat → mS → Option (mS × Int32)
  | 0, _ => none
  | n + 1, M => o_cl (m_X12_eat G M a0 (29 : Int32)) (fun M1 r2 => (if r2 = 0 then o_ck ((1 : Int32) = 0 ∨ (1 : Int32) = 1) (some (M1, (1 : Int32))) else o_cl (R 2 M1 (0 : Int32) (0 : Int32)) (fun M6 r7 => (if r7 = 0 then o_ck ((0 : Int32) = 0 ∨ (0 : Int32) = 1) (some (M6, (0 : Int32))) else o_cl (m_X12_put G M6 a0 (29 : Int32)) (fun M10 r11 => q_X12_isBoth_9 G R a0 n M10)))))
def q_X12_isBoth (G : gS) (R : Nat → mS → Int32 → Int32 → Option (mS × Int32)) (M : mS) (a0 : Nat) : Option (mS × Int32) := o_cl (R 2 M (0 : Int32) (0 : Int32)) (fun M1 r2 => (if r2 = 0 then o_ck ((0 : Int32) = 0 ∨ (0 : Int32) = 1) (some (M1, (0 : Int32))) else q_X12_isBoth_9 G R a0 fu M1))
def q_X12_isSingle_23 (G : gS) (R : Nat → mS → Int32 → Int32 → Option (mS × Int32)) (a0 : Nat)  (M : mS)  : Option (mS × Int32) := o_ck ((0 : Int32) = 0 ∨ (0 : Int32) = 1) (some (M, (0 : Int32)))
def q_X12_isSingle_66 (G : gS) (R : Nat → mS → Int32 → Int32 → Option (mS × Int32)) (a0 : Nat)  (M : mS)  : Option (mS × Int32) := o_ck ((0 : Int32) = 0 ∨ (0 : Int32) = 1) (some (M, (0 : Int32)))
def q_X12_isSingle_103 (G : gS) (R : Nat → mS → Int32 → Int32 → Option (mS × Int32)) (a0 : Nat)  (M : mS)  : Option (mS × Int32) := o_cl (m_X12_isNamed G M a0 (14 : Int32)) (fun M1 r2 => o_ck (r2 = 0 ∨ r2 = 1) (some (M1, r2)))
def q_X12_isSingle_192 (G : gS) (R : Nat → mS → Int32 → Int32 → Option (mS × Int32)) (a0 : Nat)  (M : mS) (s0 : Int32) : Option (mS × Int32) := (if s0 = (-1 : Int32) then o_ck ((0 : Int32) = 0 ∨ (0 : Int32) = 1) (some (M, (0 : Int32))) else o_wI M a0 9 ((mI M a0 9) + (1 : Int32)) (fun M2 => o_cl (m_X12_isSum G M2 a0) (fun M3 r4 => (if r4 = 0 then o_ck ((0 : Int32) = 0 ∨ (0 : Int32) = 1) (some (M3, (0 : Int32))) else o_cl (m_X12_put G M3 a0 s0) (fun M7 r8 => o_ck ((1 : Int32) = 0 ∨ (1 : Int32) = 1) (some (M7, (1 : Int32))))))))
def q_X12_isSingle (G : gS) (R : Nat → mS → Int32 → Int32 → Option (mS × Int32)) (M : mS) (a0 : Nat) : Option (mS × Int32) := o_cl (m_X12_is G M a0 (28 : Int32)) (fun M1 r2 => (if r2 = 0 then o_cl (m_X12_isSign G M1 a0 (91 : Int32)) (fun M5 r6 => (if r6 = 0 then o_cl (m_X12_is G M5 a0 (26 : Int32)) (fun M9 r10 => (if r10 = 0 then o_cl (m_X12_is G M9 a0 (27 : Int32)) (fun M13 r14 => (if r14 = 0 then o_cl (m_X12_isSum G M13 a0) (fun M17 r18 => (if r18 = 0 then o_ck ((0 : Int32) = 0 ∨ (0 : Int32) = 1) (some (M17, (0 : Int32))) else o_cl (m_X12_isSign G M17 a0 (60 : Int32)) (fun M21 r22 => (if r22 = 0 then o_cl (m_X12_isSign G M21 a0 (62 : Int32)) (fun M25 r26 => (if r26 = 0 then o_cl (m_X12_isSign G M25 a0 (61 : Int32)) (fun M29 r30 => (if r30 = 0 then o_cl (m_X12_is G M29 a0 (300 : Int32)) (fun M33 r34 => (if r34 = 0 then o_cl (m_X12_is G M33 a0 (301 : Int32)) (fun M37 r38 => (if r38 = 0 then q_X12_isSingle_192 G R a0 M37 ((-1 : Int32)) else q_X12_isSingle_192 G R a0 M37 ((53 : Int32)))) else q_X12_isSingle_192 G R a0 M33 ((52 : Int32)))) else q_X12_isSingle_192 G R a0 M29 ((51 : Int32)))) else q_X12_isSingle_192 G R a0 M25 ((49 : Int32)))) else q_X12_isSingle_192 G R a0 M21 ((48 : Int32)))))) else q_X12_isSingle_103 G R a0 M13)) else q_X12_isSingle_103 G R a0 M9)) else o_cl (m_X12_isDeeper G M5 a0) (fun M42 r43 => (if r43 = 0 then q_X12_isSingle_66 G R a0 M42 else o_cl (R 0 M42 (0 : Int32) (0 : Int32)) (fun M46 r47 => (if r47 = 0 then q_X12_isSingle_66 G R a0 M46 else o_wI M46 a0 10 ((mI M46 a0 10) - (1 : Int32)) (fun M50 => o_cl (m_X12_eatSign G M50 a0 (93 : Int32)) (fun M51 r52 => o_ck (r52 = 0 ∨ r52 = 1) (some (M51, r52)))))))))) else o_cl (m_X12_isDeeper G M1 a0) (fun M55 r56 => (if r56 = 0 then q_X12_isSingle_23 G R a0 M55 else o_cl (R 2 M55 (0 : Int32) (0 : Int32)) (fun M59 r60 => (if r60 = 0 then q_X12_isSingle_23 G R a0 M59 else o_wI M59 a0 10 ((mI M59 a0 10) - (1 : Int32)) (fun M63 => o_cl (m_X12_put G M63 a0 (28 : Int32)) (fun M64 r65 => o_ck ((1 : Int32) = 0 ∨ (1 : Int32) = 1) (some (M64, (1 : Int32)))))))))))
set_option maxHeartbeats 4000000 in
set_option maxRecDepth 100000 in
theorem b_X12_isTest_9 {p : Program} {e : Env} {s : State} {m : MethodId} {args : Array Value} {below : List Frame} {meth : Method} {c : Code} {A : Nat → Prop} {l : Launch} {D : va_G} {cy : cyS} {G : gS} (cx : cX p s m args meth c cX12_isTest RX12 1 (some .boolean) wsX12_isTest D cy G A) {k0 n0 : Nat} {N0 : Nat} (hkn : k0 ≤ ((RM4 (N0 + 1))).cells ∧ n0 ≤ ((RM4 (N0 + 1))).slots) {M' : mS} {r : Int32} {a0 : Nat} (hL0 : a0 ∈ gL G) (hK0 : gK G a0 = 11)  {R : Nat → mS → Int32 → Int32 → Option (mS × Int32)} (hR : SC4 l D cy G a0 (RM4 N0) R)  : ∀ (n : Nat), ∀ (M : mS) (H : Heap) (locs : List Loc) (ls : Array Slot), q_X12_isTest_9 G R a0 n M = some (M', r) → wd D cy G M A s.heap H locs → lv_has ls 1 [(0, .ref a0)] → W p l e (RM4 (N0 + 1)) s m args below meth c H locs k0 n0 (MQ below (va_Qi (fun (r' : Int32) (_ : Unit) => r' = r) (fun _ t => wOut D cy G M' t) A) args s k0 n0 A) (F0 m 9 ls []) := by
  obtain ⟨hx, hb, hml, hown, hts, hr, hlocks, hK, hA, hG, hsx⟩ := id cx
  intro n
  induction n with
  | zero =>
    intro M H locs ls h w hl
    have h : none = some _ := h
    cases h
  | succ n ih =>
    intro M H locs ls h w hl
    rw [q_X12_isTest_9] at h
    refine lv_aload_n hx hb dX12_isTest_9 rfl (lv_at hl 0 rfl) ?_
    refine lv_bipush (v := (30 : Int32)) hx hb dX12_isTest_10 (by decide) ?_
    obtain ⟨M1, r2, y3, h⟩ := x_cl h
    refine r_callVi (As := [.int ((30 : Int32))]) (rest := []) cx w hkn hl.1 (k_X12_eat hG hL0 hK0 y3) (cwV 1 hts gX12_isTest_X12_eat rfl rfl rfl (by decide +kernel) (rm_lo4 (Nat.le_of_ble_eq_true rfl) (Nat.le_of_ble_eq_true rfl))) hL0 hK0 (by decide) rfl rfl rfl (Nat.le_of_ble_eq_true rfl) dX12_isTest_12 (fun H locs w => ?_)
    refine lv_if_eq (tgt := 36) hx hb dX12_isTest_15 (by decide) (fun k4 => ?_) (fun k4 => ?_)
    · have h := x_t h k4
      refine lv_iconst (v := (1 : Int32)) hx hb dX12_isTest_36 (by decide) ?_
      obtain ⟨z5, h⟩ := x_ck h
      exact r_zret cx w z5 h dX12_isTest_37
    · have h := x_f h k4
      refine lv_aload_n hx hb dX12_isTest_18 rfl (lv_at hl 0 rfl) ?_
      obtain ⟨M6, r7, y8, h⟩ := x_cl h
      refine r_callVi (As := []) (rest := []) cx w hkn hl.1 (hR.2.1 _ _ _ _ _ y8) (cwV 0 hts gX12_isTest_X12_isBoth rfl rfl rfl (by decide +kernel) (rm_up4 (by decide))) hL0 hK0 (by decide) rfl rfl rfl (Nat.le_of_ble_eq_true rfl) dX12_isTest_19 (fun H locs w => ?_)
      refine lv_if_ne (tgt := 27) hx hb dX12_isTest_22 (by decide) (fun k9 => ?_) (fun k9 => ?_)
      · have h := x_f h k9
        refine lv_aload_n hx hb dX12_isTest_27 rfl (lv_at hl 0 rfl) ?_
        refine lv_bipush (v := (30 : Int32)) hx hb dX12_isTest_28 (by decide) ?_
        obtain ⟨M10, r11, y12, h⟩ := x_cl h
        refine r_callVv (As := [.int ((30 : Int32))]) (rest := []) cx w hkn hl.1 (k_X12_put hG hL0 hK0 y12) (cwV 1 hts gX12_isTest_X12_put rfl rfl rfl (by decide +kernel) (rm_lo4 (Nat.le_of_ble_eq_true rfl) (Nat.le_of_ble_eq_true rfl))) hL0 hK0 (by decide) rfl rfl rfl (Nat.le_of_ble_eq_true rfl) dX12_isTest_30 (fun H locs w => ?_)
        refine lv_goto (tgt := 9) hx hb dX12_isTest_33 (by decide) ?_
        exact ih M10 H locs ls h w (lv_sub hl [0] rfl)
      · have h := x_t h k9
        refine lv_iconst (v := (0 : Int32)) hx hb dX12_isTest_25 (by decide) ?_
        obtain ⟨z13, h⟩ := x_ck h
        exact r_zret cx w z13 h dX12_isTest_26
set_option maxHeartbeats 4000000 in
set_option maxRecDepth 100000 in
theorem kq_X12_isTest {l : Launch} {D : va_G} {cy : cyS} {G : gS} {M M' : mS} {r : Int32} {a0 : Nat} (hG : wt G) (hL0 : a0 ∈ gL G) (hK0 : gK G a0 = 11) {N0 : Nat} {R : Nat → mS → Int32 → Int32 → Option (mS × Int32)} (hR : SC4 l D cy G a0 (RM4 N0) R) (h : q_X12_isTest G R M a0 = some (M', r)) : ctI l yX12_isTest wsX12_isTest (RM4 (N0 + 1)) D cy G M [.ref a0] M' r := by
  unfold q_X12_isTest at h
  refine ctI_of (cc := cX12_isTest) (nL := 1) (ret := (some .boolean)) (lv := [(0, .ref a0)]) hG (by decide) rfl ⟨rfl, rfl⟩ (Nat.le_of_ble_eq_true rfl) rfl ?_
  intro p e s m args below meth c A ls cx w hl
  obtain ⟨hx, hb, hml, hown, hts, hr, hlocks, hK, hA, -, hsx⟩ := id cx
  have hkn : 0 ≤ ((RM4 (N0 + 1))).cells ∧ 0 ≤ ((RM4 (N0 + 1))).slots := ⟨Nat.zero_le _, Nat.zero_le _⟩
  refine lv_aload_n hx hb dX12_isTest_0 rfl (lv_at hl 0 rfl) ?_
  obtain ⟨M1, r2, y3, h⟩ := x_cl h
  refine r_callVi (As := []) (rest := []) cx w hkn hl.1 (hR.2.1 _ _ _ _ _ y3) (cwV 0 hts gX12_isTest_X12_isBoth rfl rfl rfl (by decide +kernel) (rm_up4 (by decide))) hL0 hK0 (by decide) rfl rfl rfl (Nat.le_of_ble_eq_true rfl) dX12_isTest_1 (fun H locs w => ?_)
  refine lv_if_ne (tgt := 9) hx hb dX12_isTest_4 (by decide) (fun k4 => ?_) (fun k4 => ?_)
  · have h := x_f h k4
    exact b_X12_isTest_9 cx hkn hL0 hK0 hR fu M1 H locs ls h w (lv_sub hl [0] rfl)
  · have h := x_t h k4
    refine lv_iconst (v := (0 : Int32)) hx hb dX12_isTest_7 (by decide) ?_
    obtain ⟨z5, h⟩ := x_ck h
    exact r_zret cx w z5 h dX12_isTest_8
set_option maxHeartbeats 4000000 in
set_option maxRecDepth 100000 in
theorem b_X12_isBoth_9 {p : Program} {e : Env} {s : State} {m : MethodId} {args : Array Value} {below : List Frame} {meth : Method} {c : Code} {A : Nat → Prop} {l : Launch} {D : va_G} {cy : cyS} {G : gS} (cx : cX p s m args meth c cX12_isBoth RX12 1 (some .boolean) wsX12_isBoth D cy G A) {k0 n0 : Nat} {N0 : Nat} (hkn : k0 ≤ ((RM4 (N0 + 1))).cells ∧ n0 ≤ ((RM4 (N0 + 1))).slots) {M' : mS} {r : Int32} {a0 : Nat} (hL0 : a0 ∈ gL G) (hK0 : gK G a0 = 11)  {R : Nat → mS → Int32 → Int32 → Option (mS × Int32)} (hR : SC4 l D cy G a0 (RM4 N0) R)  : ∀ (n : Nat), ∀ (M : mS) (H : Heap) (locs : List Loc) (ls : Array Slot), q_X12_isBoth_9 G R a0 n M = some (M', r) → wd D cy G M A s.heap H locs → lv_has ls 1 [(0, .ref a0)] → W p l e (RM4 (N0 + 1)) s m args below meth c H locs k0 n0 (MQ below (va_Qi (fun (r' : Int32) (_ : Unit) => r' = r) (fun _ t => wOut D cy G M' t) A) args s k0 n0 A) (F0 m 9 ls []) := by
  obtain ⟨hx, hb, hml, hown, hts, hr, hlocks, hK, hA, hG, hsx⟩ := id cx
  intro n
  induction n with
  | zero =>
    intro M H locs ls h w hl
    have h : none = some _ := h
    cases h
  | succ n ih =>
    intro M H locs ls h w hl
    rw [q_X12_isBoth_9] at h
    refine lv_aload_n hx hb dX12_isBoth_9 rfl (lv_at hl 0 rfl) ?_
    refine lv_bipush (v := (29 : Int32)) hx hb dX12_isBoth_10 (by decide) ?_
    obtain ⟨M1, r2, y3, h⟩ := x_cl h
    refine r_callVi (As := [.int ((29 : Int32))]) (rest := []) cx w hkn hl.1 (k_X12_eat hG hL0 hK0 y3) (cwV 1 hts gX12_isBoth_X12_eat rfl rfl rfl (by decide +kernel) (rm_lo4 (Nat.le_of_ble_eq_true rfl) (Nat.le_of_ble_eq_true rfl))) hL0 hK0 (by decide) rfl rfl rfl (Nat.le_of_ble_eq_true rfl) dX12_isBoth_12 (fun H locs w => ?_)
    refine lv_if_eq (tgt := 36) hx hb dX12_isBoth_15 (by decide) (fun k4 => ?_) (fun k4 => ?_)
    · have h := x_t h k4
      refine lv_iconst (v := (1 : Int32)) hx hb dX12_isBoth_36 (by decide) ?_
      obtain ⟨z5, h⟩ := x_ck h
      exact r_zret cx w z5 h dX12_isBoth_37
    · have h := x_f h k4
      refine lv_aload_n hx hb dX12_isBoth_18 rfl (lv_at hl 0 rfl) ?_
      obtain ⟨M6, r7, y8, h⟩ := x_cl h
      refine r_callVi (As := []) (rest := []) cx w hkn hl.1 (hR.2.2 _ _ _ _ _ y8) (cwV 0 hts gX12_isBoth_X12_isSingle rfl rfl rfl (by decide +kernel) (rm_up4 (by decide))) hL0 hK0 (by decide) rfl rfl rfl (Nat.le_of_ble_eq_true rfl) dX12_isBoth_19 (fun H locs w => ?_)
      refine lv_if_ne (tgt := 27) hx hb dX12_isBoth_22 (by decide) (fun k9 => ?_) (fun k9 => ?_)
      · have h := x_f h k9
        refine lv_aload_n hx hb dX12_isBoth_27 rfl (lv_at hl 0 rfl) ?_
        refine lv_bipush (v := (29 : Int32)) hx hb dX12_isBoth_28 (by decide) ?_
        obtain ⟨M10, r11, y12, h⟩ := x_cl h
        refine r_callVv (As := [.int ((29 : Int32))]) (rest := []) cx w hkn hl.1 (k_X12_put hG hL0 hK0 y12) (cwV 1 hts gX12_isBoth_X12_put rfl rfl rfl (by decide +kernel) (rm_lo4 (Nat.le_of_ble_eq_true rfl) (Nat.le_of_ble_eq_true rfl))) hL0 hK0 (by decide) rfl rfl rfl (Nat.le_of_ble_eq_true rfl) dX12_isBoth_30 (fun H locs w => ?_)
        refine lv_goto (tgt := 9) hx hb dX12_isBoth_33 (by decide) ?_
        exact ih M10 H locs ls h w (lv_sub hl [0] rfl)
      · have h := x_t h k9
        refine lv_iconst (v := (0 : Int32)) hx hb dX12_isBoth_25 (by decide) ?_
        obtain ⟨z13, h⟩ := x_ck h
        exact r_zret cx w z13 h dX12_isBoth_26
set_option maxHeartbeats 4000000 in
set_option maxRecDepth 100000 in
theorem kq_X12_isBoth {l : Launch} {D : va_G} {cy : cyS} {G : gS} {M M' : mS} {r : Int32} {a0 : Nat} (hG : wt G) (hL0 : a0 ∈ gL G) (hK0 : gK G a0 = 11) {N0 : Nat} {R : Nat → mS → Int32 → Int32 → Option (mS × Int32)} (hR : SC4 l D cy G a0 (RM4 N0) R) (h : q_X12_isBoth G R M a0 = some (M', r)) : ctI l yX12_isBoth wsX12_isBoth (RM4 (N0 + 1)) D cy G M [.ref a0] M' r := by
  unfold q_X12_isBoth at h
  refine ctI_of (cc := cX12_isBoth) (nL := 1) (ret := (some .boolean)) (lv := [(0, .ref a0)]) hG (by decide) rfl ⟨rfl, rfl⟩ (Nat.le_of_ble_eq_true rfl) rfl ?_
  intro p e s m args below meth c A ls cx w hl
  obtain ⟨hx, hb, hml, hown, hts, hr, hlocks, hK, hA, -, hsx⟩ := id cx
  have hkn : 0 ≤ ((RM4 (N0 + 1))).cells ∧ 0 ≤ ((RM4 (N0 + 1))).slots := ⟨Nat.zero_le _, Nat.zero_le _⟩
  refine lv_aload_n hx hb dX12_isBoth_0 rfl (lv_at hl 0 rfl) ?_
  obtain ⟨M1, r2, y3, h⟩ := x_cl h
  refine r_callVi (As := []) (rest := []) cx w hkn hl.1 (hR.2.2 _ _ _ _ _ y3) (cwV 0 hts gX12_isBoth_X12_isSingle rfl rfl rfl (by decide +kernel) (rm_up4 (by decide))) hL0 hK0 (by decide) rfl rfl rfl (Nat.le_of_ble_eq_true rfl) dX12_isBoth_1 (fun H locs w => ?_)
  refine lv_if_ne (tgt := 9) hx hb dX12_isBoth_4 (by decide) (fun k4 => ?_) (fun k4 => ?_)
  · have h := x_f h k4
    exact b_X12_isBoth_9 cx hkn hL0 hK0 hR fu M1 H locs ls h w (lv_sub hl [0] rfl)
  · have h := x_t h k4
    refine lv_iconst (v := (0 : Int32)) hx hb dX12_isBoth_7 (by decide) ?_
    obtain ⟨z5, h⟩ := x_ck h
    exact r_zret cx w z5 h dX12_isBoth_8
set_option maxHeartbeats 4000000 in
set_option maxRecDepth 100000 in
theorem b_X12_isSingle_23 {p : Program} {e : Env} {s : State} {m : MethodId} {args : Array Value} {below : List Frame} {meth : Method} {c : Code} {A : Nat → Prop} {l : Launch} {D : va_G} {cy : cyS} {G : gS} (cx : cX p s m args meth c cX12_isSingle RX12 2 (some .boolean) wsX12_isSingle D cy G A) {k0 n0 : Nat} {N0 : Nat} (hkn : k0 ≤ ((RM4 (N0 + 1))).cells ∧ n0 ≤ ((RM4 (N0 + 1))).slots) {M' : mS} {r : Int32} {a0 : Nat} (hL0 : a0 ∈ gL G) (hK0 : gK G a0 = 11)  {R : Nat → mS → Int32 → Int32 → Option (mS × Int32)} (hR : SC4 l D cy G a0 (RM4 N0) R)  : ∀ (M : mS) (H : Heap) (locs : List Loc) (ls : Array Slot), q_X12_isSingle_23 G R a0 M = some (M', r) → wd D cy G M A s.heap H locs → lv_has ls 2 [] → W p l e (RM4 (N0 + 1)) s m args below meth c H locs k0 n0 (MQ below (va_Qi (fun (r' : Int32) (_ : Unit) => r' = r) (fun _ t => wOut D cy G M' t) A) args s k0 n0 A) (F0 m 23 ls []) := by
  obtain ⟨hx, hb, hml, hown, hts, hr, hlocks, hK, hA, hG, hsx⟩ := id cx
  intro M H locs ls h w hl
  unfold q_X12_isSingle_23 at h
  refine lv_iconst (v := (0 : Int32)) hx hb dX12_isSingle_23 (by decide) ?_
  obtain ⟨z1, h⟩ := x_ck h
  exact r_zret cx w z1 h dX12_isSingle_24
set_option maxHeartbeats 4000000 in
set_option maxRecDepth 100000 in
theorem b_X12_isSingle_66 {p : Program} {e : Env} {s : State} {m : MethodId} {args : Array Value} {below : List Frame} {meth : Method} {c : Code} {A : Nat → Prop} {l : Launch} {D : va_G} {cy : cyS} {G : gS} (cx : cX p s m args meth c cX12_isSingle RX12 2 (some .boolean) wsX12_isSingle D cy G A) {k0 n0 : Nat} {N0 : Nat} (hkn : k0 ≤ ((RM4 (N0 + 1))).cells ∧ n0 ≤ ((RM4 (N0 + 1))).slots) {M' : mS} {r : Int32} {a0 : Nat} (hL0 : a0 ∈ gL G) (hK0 : gK G a0 = 11)  {R : Nat → mS → Int32 → Int32 → Option (mS × Int32)} (hR : SC4 l D cy G a0 (RM4 N0) R)  : ∀ (M : mS) (H : Heap) (locs : List Loc) (ls : Array Slot), q_X12_isSingle_66 G R a0 M = some (M', r) → wd D cy G M A s.heap H locs → lv_has ls 2 [] → W p l e (RM4 (N0 + 1)) s m args below meth c H locs k0 n0 (MQ below (va_Qi (fun (r' : Int32) (_ : Unit) => r' = r) (fun _ t => wOut D cy G M' t) A) args s k0 n0 A) (F0 m 66 ls []) := by
  obtain ⟨hx, hb, hml, hown, hts, hr, hlocks, hK, hA, hG, hsx⟩ := id cx
  intro M H locs ls h w hl
  unfold q_X12_isSingle_66 at h
  refine lv_iconst (v := (0 : Int32)) hx hb dX12_isSingle_66 (by decide) ?_
  obtain ⟨z1, h⟩ := x_ck h
  exact r_zret cx w z1 h dX12_isSingle_67
set_option maxHeartbeats 4000000 in
set_option maxRecDepth 100000 in
theorem b_X12_isSingle_103 {p : Program} {e : Env} {s : State} {m : MethodId} {args : Array Value} {below : List Frame} {meth : Method} {c : Code} {A : Nat → Prop} {l : Launch} {D : va_G} {cy : cyS} {G : gS} (cx : cX p s m args meth c cX12_isSingle RX12 2 (some .boolean) wsX12_isSingle D cy G A) {k0 n0 : Nat} {N0 : Nat} (hkn : k0 ≤ ((RM4 (N0 + 1))).cells ∧ n0 ≤ ((RM4 (N0 + 1))).slots) {M' : mS} {r : Int32} {a0 : Nat} (hL0 : a0 ∈ gL G) (hK0 : gK G a0 = 11)  {R : Nat → mS → Int32 → Int32 → Option (mS × Int32)} (hR : SC4 l D cy G a0 (RM4 N0) R)  : ∀ (M : mS) (H : Heap) (locs : List Loc) (ls : Array Slot), q_X12_isSingle_103 G R a0 M = some (M', r) → wd D cy G M A s.heap H locs → lv_has ls 2 [(0, .ref a0)] → W p l e (RM4 (N0 + 1)) s m args below meth c H locs k0 n0 (MQ below (va_Qi (fun (r' : Int32) (_ : Unit) => r' = r) (fun _ t => wOut D cy G M' t) A) args s k0 n0 A) (F0 m 103 ls []) := by
  obtain ⟨hx, hb, hml, hown, hts, hr, hlocks, hK, hA, hG, hsx⟩ := id cx
  intro M H locs ls h w hl
  unfold q_X12_isSingle_103 at h
  refine lv_aload_n hx hb dX12_isSingle_103 rfl (lv_at hl 0 rfl) ?_
  refine lv_bipush (v := (14 : Int32)) hx hb dX12_isSingle_104 (by decide) ?_
  obtain ⟨M1, r2, y3, h⟩ := x_cl h
  refine r_callVi (As := [.int ((14 : Int32))]) (rest := []) cx w hkn hl.1 (k_X12_isNamed hG hL0 hK0 y3) (cwV 1 hts gX12_isSingle_X12_isNamed rfl rfl rfl (by decide +kernel) (rm_lo4 (Nat.le_of_ble_eq_true rfl) (Nat.le_of_ble_eq_true rfl))) hL0 hK0 (by decide) rfl rfl rfl (Nat.le_of_ble_eq_true rfl) dX12_isSingle_106 (fun H locs w => ?_)
  obtain ⟨z4, h⟩ := x_ck h
  exact r_zret cx w z4 h dX12_isSingle_109
set_option maxHeartbeats 4000000 in
set_option maxRecDepth 100000 in
theorem b_X12_isSingle_192 {p : Program} {e : Env} {s : State} {m : MethodId} {args : Array Value} {below : List Frame} {meth : Method} {c : Code} {A : Nat → Prop} {l : Launch} {D : va_G} {cy : cyS} {G : gS} (cx : cX p s m args meth c cX12_isSingle RX12 2 (some .boolean) wsX12_isSingle D cy G A) {k0 n0 : Nat} {N0 : Nat} (hkn : k0 ≤ ((RM4 (N0 + 1))).cells ∧ n0 ≤ ((RM4 (N0 + 1))).slots) {M' : mS} {r : Int32} {a0 : Nat} (hL0 : a0 ∈ gL G) (hK0 : gK G a0 = 11)  {R : Nat → mS → Int32 → Int32 → Option (mS × Int32)} (hR : SC4 l D cy G a0 (RM4 N0) R)  : ∀ (M : mS) (s0 : Int32) (H : Heap) (locs : List Loc) (ls : Array Slot), q_X12_isSingle_192 G R a0 M s0 = some (M', r) → wd D cy G M A s.heap H locs → lv_has ls 2 [(0, .ref a0)] → W p l e (RM4 (N0 + 1)) s m args below meth c H locs k0 n0 (MQ below (va_Qi (fun (r' : Int32) (_ : Unit) => r' = r) (fun _ t => wOut D cy G M' t) A) args s k0 n0 A) (F0 m 192 ls [.int s0]) := by
  obtain ⟨hx, hb, hml, hown, hts, hr, hlocks, hK, hA, hG, hsx⟩ := id cx
  intro M s0 H locs ls h w hl
  unfold q_X12_isSingle_192 at h
  refine lv_istore_n (lv' := [(1, .int s0), (0, .ref a0)]) hx hb dX12_isSingle_192 rfl hl (by decide) rfl (fun ls hl => ?_)
  refine lv_iload_n hx hb dX12_isSingle_193 rfl (lv_at hl 0 rfl) ?_
  refine lv_iconst (v := (-1 : Int32)) hx hb dX12_isSingle_194 (by decide) ?_
  refine lv_icmp_ne (tgt := 200) hx hb dX12_isSingle_195 (by decide) (fun k1 => ?_) (fun k1 => ?_)
  · have h := x_f h k1
    refine lv_aload_n hx hb dX12_isSingle_200 rfl (lv_at hl 1 rfl) ?_
    refine lv_dup hx hb dX12_isSingle_201 rfl ?_
    refine r_getI (k := 9) (v := .int (mI M a0 9)) cx w hL0 hK0 (by decide) rfl wi_X12_isSingle_X12 (by decide) rfl (List.mem_of_getElem? (i := 2) rfl) dX12_isSingle_202 ?_
    refine lv_iconst (v := (1 : Int32)) hx hb dX12_isSingle_205 (by decide) ?_
    refine lv_iadd hx hb dX12_isSingle_206 ?_
    obtain ⟨M2, eM2, h⟩ := x_wI h
    refine r_putI (k := 9) (ty := .int) cx w tyX12 tyX12_ok nmX12 hL0 hK0 (by decide) rfl wi_X12_isSingle_X12 (by decide) rfl rfl rfl rfl st_11_9 (ln_11 _ _ (by decide)) (List.mem_of_getElem? (i := 2) rfl) dX12_isSingle_207 eM2 (fun H locs w => ?_)
    refine lv_aload_n hx hb dX12_isSingle_210 rfl (lv_at hl 1 rfl) ?_
    obtain ⟨M3, r4, y5, h⟩ := x_cl h
    refine r_callVi (As := []) (rest := []) cx w hkn hl.1 (k_X12_isSum hG hL0 hK0 y5) (cwV 0 hts gX12_isSingle_X12_isSum rfl rfl rfl (by decide +kernel) (rm_lo4 (Nat.le_of_ble_eq_true rfl) (Nat.le_of_ble_eq_true rfl))) hL0 hK0 (by decide) rfl rfl rfl (Nat.le_of_ble_eq_true rfl) dX12_isSingle_211 (fun H locs w => ?_)
    refine lv_if_ne (tgt := 219) hx hb dX12_isSingle_214 (by decide) (fun k6 => ?_) (fun k6 => ?_)
    · have h := x_f h k6
      refine lv_aload_n hx hb dX12_isSingle_219 rfl (lv_at hl 1 rfl) ?_
      refine lv_iload_n hx hb dX12_isSingle_220 rfl (lv_at hl 0 rfl) ?_
      obtain ⟨M7, r8, y9, h⟩ := x_cl h
      refine r_callVv (As := [.int s0]) (rest := []) cx w hkn hl.1 (k_X12_put hG hL0 hK0 y9) (cwV 1 hts gX12_isSingle_X12_put rfl rfl rfl (by decide +kernel) (rm_lo4 (Nat.le_of_ble_eq_true rfl) (Nat.le_of_ble_eq_true rfl))) hL0 hK0 (by decide) rfl rfl rfl (Nat.le_of_ble_eq_true rfl) dX12_isSingle_221 (fun H locs w => ?_)
      refine lv_iconst (v := (1 : Int32)) hx hb dX12_isSingle_224 (by decide) ?_
      obtain ⟨z10, h⟩ := x_ck h
      exact r_zret cx w z10 h dX12_isSingle_225
    · have h := x_t h k6
      refine lv_iconst (v := (0 : Int32)) hx hb dX12_isSingle_217 (by decide) ?_
      obtain ⟨z11, h⟩ := x_ck h
      exact r_zret cx w z11 h dX12_isSingle_218
  · have h := x_t h k1
    refine lv_iconst (v := (0 : Int32)) hx hb dX12_isSingle_198 (by decide) ?_
    obtain ⟨z12, h⟩ := x_ck h
    exact r_zret cx w z12 h dX12_isSingle_199
set_option maxHeartbeats 4000000 in
set_option maxRecDepth 100000 in
theorem kq_X12_isSingle {l : Launch} {D : va_G} {cy : cyS} {G : gS} {M M' : mS} {r : Int32} {a0 : Nat} (hG : wt G) (hL0 : a0 ∈ gL G) (hK0 : gK G a0 = 11) {N0 : Nat} {R : Nat → mS → Int32 → Int32 → Option (mS × Int32)} (hR : SC4 l D cy G a0 (RM4 N0) R) (h : q_X12_isSingle G R M a0 = some (M', r)) : ctI l yX12_isSingle wsX12_isSingle (RM4 (N0 + 1)) D cy G M [.ref a0] M' r := by
  unfold q_X12_isSingle at h
  refine ctI_of (cc := cX12_isSingle) (nL := 2) (ret := (some .boolean)) (lv := [(0, .ref a0)]) hG (by decide) rfl ⟨rfl, rfl⟩ (Nat.le_of_ble_eq_true rfl) rfl ?_
  intro p e s m args below meth c A ls cx w hl
  obtain ⟨hx, hb, hml, hown, hts, hr, hlocks, hK, hA, -, hsx⟩ := id cx
  have hkn : 0 ≤ ((RM4 (N0 + 1))).cells ∧ 0 ≤ ((RM4 (N0 + 1))).slots := ⟨Nat.zero_le _, Nat.zero_le _⟩
  refine lv_aload_n hx hb dX12_isSingle_0 rfl (lv_at hl 0 rfl) ?_
  refine lv_bipush (v := (28 : Int32)) hx hb dX12_isSingle_1 (by decide) ?_
  obtain ⟨M1, r2, y3, h⟩ := x_cl h
  refine r_callVi (As := [.int ((28 : Int32))]) (rest := []) cx w hkn hl.1 (k_X12_is hG hL0 hK0 y3) (cwV 1 hts gX12_isSingle_X12_is rfl rfl rfl (by decide +kernel) (rm_lo4 (Nat.le_of_ble_eq_true rfl) (Nat.le_of_ble_eq_true rfl))) hL0 hK0 (by decide) rfl rfl rfl (Nat.le_of_ble_eq_true rfl) dX12_isSingle_3 (fun H locs w => ?_)
  refine lv_if_eq (tgt := 43) hx hb dX12_isSingle_6 (by decide) (fun k4 => ?_) (fun k4 => ?_)
  · have h := x_t h k4
    refine lv_aload_n hx hb dX12_isSingle_43 rfl (lv_at hl 0 rfl) ?_
    refine lv_bipush (v := (91 : Int32)) hx hb dX12_isSingle_44 (by decide) ?_
    obtain ⟨M5, r6, y7, h⟩ := x_cl h
    refine r_callVi (As := [.int ((91 : Int32))]) (rest := []) cx w hkn hl.1 (k_X12_isSign hG hL0 hK0 y7) (cwV 1 hts gX12_isSingle_X12_isSign rfl rfl rfl (by decide +kernel) (rm_lo4 (Nat.le_of_ble_eq_true rfl) (Nat.le_of_ble_eq_true rfl))) hL0 hK0 (by decide) rfl rfl rfl (Nat.le_of_ble_eq_true rfl) dX12_isSingle_46 (fun H locs w => ?_)
    refine lv_if_eq (tgt := 85) hx hb dX12_isSingle_49 (by decide) (fun k8 => ?_) (fun k8 => ?_)
    · have h := x_t h k8
      refine lv_aload_n hx hb dX12_isSingle_85 rfl (lv_at hl 0 rfl) ?_
      refine lv_bipush (v := (26 : Int32)) hx hb dX12_isSingle_86 (by decide) ?_
      obtain ⟨M9, r10, y11, h⟩ := x_cl h
      refine r_callVi (As := [.int ((26 : Int32))]) (rest := []) cx w hkn hl.1 (k_X12_is hG hL0 hK0 y11) (cwV 1 hts gX12_isSingle_X12_is rfl rfl rfl (by decide +kernel) (rm_lo4 (Nat.le_of_ble_eq_true rfl) (Nat.le_of_ble_eq_true rfl))) hL0 hK0 (by decide) rfl rfl rfl (Nat.le_of_ble_eq_true rfl) dX12_isSingle_88 (fun H locs w => ?_)
      refine lv_if_ne (tgt := 103) hx hb dX12_isSingle_91 (by decide) (fun k12 => ?_) (fun k12 => ?_)
      · have h := x_f h k12
        exact b_X12_isSingle_103 cx hkn hL0 hK0 hR M9 H locs ls h w (lv_sub hl [0] rfl)
      · have h := x_t h k12
        refine lv_aload_n hx hb dX12_isSingle_94 rfl (lv_at hl 0 rfl) ?_
        refine lv_bipush (v := (27 : Int32)) hx hb dX12_isSingle_95 (by decide) ?_
        obtain ⟨M13, r14, y15, h⟩ := x_cl h
        refine r_callVi (As := [.int ((27 : Int32))]) (rest := []) cx w hkn hl.1 (k_X12_is hG hL0 hK0 y15) (cwV 1 hts gX12_isSingle_X12_is rfl rfl rfl (by decide +kernel) (rm_lo4 (Nat.le_of_ble_eq_true rfl) (Nat.le_of_ble_eq_true rfl))) hL0 hK0 (by decide) rfl rfl rfl (Nat.le_of_ble_eq_true rfl) dX12_isSingle_97 (fun H locs w => ?_)
        refine lv_if_eq (tgt := 110) hx hb dX12_isSingle_100 (by decide) (fun k16 => ?_) (fun k16 => ?_)
        · have h := x_t h k16
          refine lv_aload_n hx hb dX12_isSingle_110 rfl (lv_at hl 0 rfl) ?_
          obtain ⟨M17, r18, y19, h⟩ := x_cl h
          refine r_callVi (As := []) (rest := []) cx w hkn hl.1 (k_X12_isSum hG hL0 hK0 y19) (cwV 0 hts gX12_isSingle_X12_isSum rfl rfl rfl (by decide +kernel) (rm_lo4 (Nat.le_of_ble_eq_true rfl) (Nat.le_of_ble_eq_true rfl))) hL0 hK0 (by decide) rfl rfl rfl (Nat.le_of_ble_eq_true rfl) dX12_isSingle_111 (fun H locs w => ?_)
          refine lv_if_ne (tgt := 119) hx hb dX12_isSingle_114 (by decide) (fun k20 => ?_) (fun k20 => ?_)
          · have h := x_f h k20
            refine lv_aload_n hx hb dX12_isSingle_119 rfl (lv_at hl 0 rfl) ?_
            refine lv_bipush (v := (60 : Int32)) hx hb dX12_isSingle_120 (by decide) ?_
            obtain ⟨M21, r22, y23, h⟩ := x_cl h
            refine r_callVi (As := [.int ((60 : Int32))]) (rest := []) cx w hkn hl.1 (k_X12_isSign hG hL0 hK0 y23) (cwV 1 hts gX12_isSingle_X12_isSign rfl rfl rfl (by decide +kernel) (rm_lo4 (Nat.le_of_ble_eq_true rfl) (Nat.le_of_ble_eq_true rfl))) hL0 hK0 (by decide) rfl rfl rfl (Nat.le_of_ble_eq_true rfl) dX12_isSingle_122 (fun H locs w => ?_)
            refine lv_if_eq (tgt := 133) hx hb dX12_isSingle_125 (by decide) (fun k24 => ?_) (fun k24 => ?_)
            · have h := x_t h k24
              refine lv_aload_n hx hb dX12_isSingle_133 rfl (lv_at hl 0 rfl) ?_
              refine lv_bipush (v := (62 : Int32)) hx hb dX12_isSingle_134 (by decide) ?_
              obtain ⟨M25, r26, y27, h⟩ := x_cl h
              refine r_callVi (As := [.int ((62 : Int32))]) (rest := []) cx w hkn hl.1 (k_X12_isSign hG hL0 hK0 y27) (cwV 1 hts gX12_isSingle_X12_isSign rfl rfl rfl (by decide +kernel) (rm_lo4 (Nat.le_of_ble_eq_true rfl) (Nat.le_of_ble_eq_true rfl))) hL0 hK0 (by decide) rfl rfl rfl (Nat.le_of_ble_eq_true rfl) dX12_isSingle_136 (fun H locs w => ?_)
              refine lv_if_eq (tgt := 147) hx hb dX12_isSingle_139 (by decide) (fun k28 => ?_) (fun k28 => ?_)
              · have h := x_t h k28
                refine lv_aload_n hx hb dX12_isSingle_147 rfl (lv_at hl 0 rfl) ?_
                refine lv_bipush (v := (61 : Int32)) hx hb dX12_isSingle_148 (by decide) ?_
                obtain ⟨M29, r30, y31, h⟩ := x_cl h
                refine r_callVi (As := [.int ((61 : Int32))]) (rest := []) cx w hkn hl.1 (k_X12_isSign hG hL0 hK0 y31) (cwV 1 hts gX12_isSingle_X12_isSign rfl rfl rfl (by decide +kernel) (rm_lo4 (Nat.le_of_ble_eq_true rfl) (Nat.le_of_ble_eq_true rfl))) hL0 hK0 (by decide) rfl rfl rfl (Nat.le_of_ble_eq_true rfl) dX12_isSingle_150 (fun H locs w => ?_)
                refine lv_if_eq (tgt := 161) hx hb dX12_isSingle_153 (by decide) (fun k32 => ?_) (fun k32 => ?_)
                · have h := x_t h k32
                  refine lv_aload_n hx hb dX12_isSingle_161 rfl (lv_at hl 0 rfl) ?_
                  refine lv_sipush (v := (300 : Int32)) hx hb dX12_isSingle_162 (by decide) ?_
                  obtain ⟨M33, r34, y35, h⟩ := x_cl h
                  refine r_callVi (As := [.int ((300 : Int32))]) (rest := []) cx w hkn hl.1 (k_X12_is hG hL0 hK0 y35) (cwV 1 hts gX12_isSingle_X12_is rfl rfl rfl (by decide +kernel) (rm_lo4 (Nat.le_of_ble_eq_true rfl) (Nat.le_of_ble_eq_true rfl))) hL0 hK0 (by decide) rfl rfl rfl (Nat.le_of_ble_eq_true rfl) dX12_isSingle_165 (fun H locs w => ?_)
                  refine lv_if_eq (tgt := 176) hx hb dX12_isSingle_168 (by decide) (fun k36 => ?_) (fun k36 => ?_)
                  · have h := x_t h k36
                    refine lv_aload_n hx hb dX12_isSingle_176 rfl (lv_at hl 0 rfl) ?_
                    refine lv_sipush (v := (301 : Int32)) hx hb dX12_isSingle_177 (by decide) ?_
                    obtain ⟨M37, r38, y39, h⟩ := x_cl h
                    refine r_callVi (As := [.int ((301 : Int32))]) (rest := []) cx w hkn hl.1 (k_X12_is hG hL0 hK0 y39) (cwV 1 hts gX12_isSingle_X12_is rfl rfl rfl (by decide +kernel) (rm_lo4 (Nat.le_of_ble_eq_true rfl) (Nat.le_of_ble_eq_true rfl))) hL0 hK0 (by decide) rfl rfl rfl (Nat.le_of_ble_eq_true rfl) dX12_isSingle_180 (fun H locs w => ?_)
                    refine lv_if_eq (tgt := 191) hx hb dX12_isSingle_183 (by decide) (fun k40 => ?_) (fun k40 => ?_)
                    · have h := x_t h k40
                      refine lv_iconst (v := (-1 : Int32)) hx hb dX12_isSingle_191 (by decide) ?_
                      exact b_X12_isSingle_192 cx hkn hL0 hK0 hR M37 ((-1 : Int32)) H locs ls h w (lv_sub hl [0] rfl)
                    · have h := x_f h k40
                      refine lv_bipush (v := (53 : Int32)) hx hb dX12_isSingle_186 (by decide) ?_
                      refine lv_goto (tgt := 192) hx hb dX12_isSingle_188 (by decide) ?_
                      exact b_X12_isSingle_192 cx hkn hL0 hK0 hR M37 ((53 : Int32)) H locs ls h w (lv_sub hl [0] rfl)
                  · have h := x_f h k36
                    refine lv_bipush (v := (52 : Int32)) hx hb dX12_isSingle_171 (by decide) ?_
                    refine lv_goto (tgt := 192) hx hb dX12_isSingle_173 (by decide) ?_
                    exact b_X12_isSingle_192 cx hkn hL0 hK0 hR M33 ((52 : Int32)) H locs ls h w (lv_sub hl [0] rfl)
                · have h := x_f h k32
                  refine lv_bipush (v := (51 : Int32)) hx hb dX12_isSingle_156 (by decide) ?_
                  refine lv_goto (tgt := 192) hx hb dX12_isSingle_158 (by decide) ?_
                  exact b_X12_isSingle_192 cx hkn hL0 hK0 hR M29 ((51 : Int32)) H locs ls h w (lv_sub hl [0] rfl)
              · have h := x_f h k28
                refine lv_bipush (v := (49 : Int32)) hx hb dX12_isSingle_142 (by decide) ?_
                refine lv_goto (tgt := 192) hx hb dX12_isSingle_144 (by decide) ?_
                exact b_X12_isSingle_192 cx hkn hL0 hK0 hR M25 ((49 : Int32)) H locs ls h w (lv_sub hl [0] rfl)
            · have h := x_f h k24
              refine lv_bipush (v := (48 : Int32)) hx hb dX12_isSingle_128 (by decide) ?_
              refine lv_goto (tgt := 192) hx hb dX12_isSingle_130 (by decide) ?_
              exact b_X12_isSingle_192 cx hkn hL0 hK0 hR M21 ((48 : Int32)) H locs ls h w (lv_sub hl [0] rfl)
          · have h := x_t h k20
            refine lv_iconst (v := (0 : Int32)) hx hb dX12_isSingle_117 (by decide) ?_
            obtain ⟨z41, h⟩ := x_ck h
            exact r_zret cx w z41 h dX12_isSingle_118
        · have h := x_f h k16
          exact b_X12_isSingle_103 cx hkn hL0 hK0 hR M13 H locs ls h w (lv_sub hl [0] rfl)
    · have h := x_f h k8
      refine lv_aload_n hx hb dX12_isSingle_52 rfl (lv_at hl 0 rfl) ?_
      obtain ⟨M42, r43, y44, h⟩ := x_cl h
      refine r_callVi (As := []) (rest := []) cx w hkn hl.1 (k_X12_isDeeper hG hL0 hK0 y44) (cwV 0 hts gX12_isSingle_X12_isDeeper rfl rfl rfl (by decide +kernel) (rm_lo4 (Nat.le_of_ble_eq_true rfl) (Nat.le_of_ble_eq_true rfl))) hL0 hK0 (by decide) rfl rfl rfl (Nat.le_of_ble_eq_true rfl) dX12_isSingle_53 (fun H locs w => ?_)
      refine lv_if_eq (tgt := 66) hx hb dX12_isSingle_56 (by decide) (fun k45 => ?_) (fun k45 => ?_)
      · have h := x_t h k45
        exact b_X12_isSingle_66 cx hkn hL0 hK0 hR M42 H locs ls h w (lv_sub hl [] rfl)
      · have h := x_f h k45
        refine lv_aload_n hx hb dX12_isSingle_59 rfl (lv_at hl 0 rfl) ?_
        obtain ⟨M46, r47, y48, h⟩ := x_cl h
        refine r_callVi (As := []) (rest := []) cx w hkn hl.1 (hR.1 _ _ _ _ _ y48) (cwV 0 hts gX12_isSingle_X12_isTest rfl rfl rfl (by decide +kernel) (rm_up4 (by decide))) hL0 hK0 (by decide) rfl rfl rfl (Nat.le_of_ble_eq_true rfl) dX12_isSingle_60 (fun H locs w => ?_)
        refine lv_if_ne (tgt := 68) hx hb dX12_isSingle_63 (by decide) (fun k49 => ?_) (fun k49 => ?_)
        · have h := x_f h k49
          refine lv_aload_n hx hb dX12_isSingle_68 rfl (lv_at hl 0 rfl) ?_
          refine lv_dup hx hb dX12_isSingle_69 rfl ?_
          refine r_getI (k := 10) (v := .int (mI M46 a0 10)) cx w hL0 hK0 (by decide) rfl wi_X12_isSingle_X12 (by decide) rfl (List.mem_of_getElem? (i := 1) rfl) dX12_isSingle_70 ?_
          refine lv_iconst (v := (1 : Int32)) hx hb dX12_isSingle_73 (by decide) ?_
          refine lv_isub hx hb dX12_isSingle_74 ?_
          obtain ⟨M50, eM50, h⟩ := x_wI h
          refine r_putI (k := 10) (ty := .int) cx w tyX12 tyX12_ok nmX12 hL0 hK0 (by decide) rfl wi_X12_isSingle_X12 (by decide) rfl rfl rfl rfl st_11_10 (ln_11 _ _ (by decide)) (List.mem_of_getElem? (i := 1) rfl) dX12_isSingle_75 eM50 (fun H locs w => ?_)
          refine lv_aload_n hx hb dX12_isSingle_78 rfl (lv_at hl 0 rfl) ?_
          refine lv_bipush (v := (93 : Int32)) hx hb dX12_isSingle_79 (by decide) ?_
          obtain ⟨M51, r52, y53, h⟩ := x_cl h
          refine r_callVi (As := [.int ((93 : Int32))]) (rest := []) cx w hkn hl.1 (k_X12_eatSign hG hL0 hK0 y53) (cwV 1 hts gX12_isSingle_X12_eatSign rfl rfl rfl (by decide +kernel) (rm_lo4 (Nat.le_of_ble_eq_true rfl) (Nat.le_of_ble_eq_true rfl))) hL0 hK0 (by decide) rfl rfl rfl (Nat.le_of_ble_eq_true rfl) dX12_isSingle_81 (fun H locs w => ?_)
          obtain ⟨z54, h⟩ := x_ck h
          exact r_zret cx w z54 h dX12_isSingle_84
        · have h := x_t h k49
          exact b_X12_isSingle_66 cx hkn hL0 hK0 hR M46 H locs ls h w (lv_sub hl [] rfl)
  · have h := x_f h k4
    refine lv_aload_n hx hb dX12_isSingle_9 rfl (lv_at hl 0 rfl) ?_
    obtain ⟨M55, r56, y57, h⟩ := x_cl h
    refine r_callVi (As := []) (rest := []) cx w hkn hl.1 (k_X12_isDeeper hG hL0 hK0 y57) (cwV 0 hts gX12_isSingle_X12_isDeeper rfl rfl rfl (by decide +kernel) (rm_lo4 (Nat.le_of_ble_eq_true rfl) (Nat.le_of_ble_eq_true rfl))) hL0 hK0 (by decide) rfl rfl rfl (Nat.le_of_ble_eq_true rfl) dX12_isSingle_10 (fun H locs w => ?_)
    refine lv_if_eq (tgt := 23) hx hb dX12_isSingle_13 (by decide) (fun k58 => ?_) (fun k58 => ?_)
    · have h := x_t h k58
      exact b_X12_isSingle_23 cx hkn hL0 hK0 hR M55 H locs ls h w (lv_sub hl [] rfl)
    · have h := x_f h k58
      refine lv_aload_n hx hb dX12_isSingle_16 rfl (lv_at hl 0 rfl) ?_
      obtain ⟨M59, r60, y61, h⟩ := x_cl h
      refine r_callVi (As := []) (rest := []) cx w hkn hl.1 (hR.2.2 _ _ _ _ _ y61) (cwV 0 hts gX12_isSingle_X12_isSingle rfl rfl rfl (by decide +kernel) (rm_up4 (by decide))) hL0 hK0 (by decide) rfl rfl rfl (Nat.le_of_ble_eq_true rfl) dX12_isSingle_17 (fun H locs w => ?_)
      refine lv_if_ne (tgt := 25) hx hb dX12_isSingle_20 (by decide) (fun k62 => ?_) (fun k62 => ?_)
      · have h := x_f h k62
        refine lv_aload_n hx hb dX12_isSingle_25 rfl (lv_at hl 0 rfl) ?_
        refine lv_dup hx hb dX12_isSingle_26 rfl ?_
        refine r_getI (k := 10) (v := .int (mI M59 a0 10)) cx w hL0 hK0 (by decide) rfl wi_X12_isSingle_X12 (by decide) rfl (List.mem_of_getElem? (i := 1) rfl) dX12_isSingle_27 ?_
        refine lv_iconst (v := (1 : Int32)) hx hb dX12_isSingle_30 (by decide) ?_
        refine lv_isub hx hb dX12_isSingle_31 ?_
        obtain ⟨M63, eM63, h⟩ := x_wI h
        refine r_putI (k := 10) (ty := .int) cx w tyX12 tyX12_ok nmX12 hL0 hK0 (by decide) rfl wi_X12_isSingle_X12 (by decide) rfl rfl rfl rfl st_11_10 (ln_11 _ _ (by decide)) (List.mem_of_getElem? (i := 1) rfl) dX12_isSingle_32 eM63 (fun H locs w => ?_)
        refine lv_aload_n hx hb dX12_isSingle_35 rfl (lv_at hl 0 rfl) ?_
        refine lv_bipush (v := (28 : Int32)) hx hb dX12_isSingle_36 (by decide) ?_
        obtain ⟨M64, r65, y66, h⟩ := x_cl h
        refine r_callVv (As := [.int ((28 : Int32))]) (rest := []) cx w hkn hl.1 (k_X12_put hG hL0 hK0 y66) (cwV 1 hts gX12_isSingle_X12_put rfl rfl rfl (by decide +kernel) (rm_lo4 (Nat.le_of_ble_eq_true rfl) (Nat.le_of_ble_eq_true rfl))) hL0 hK0 (by decide) rfl rfl rfl (Nat.le_of_ble_eq_true rfl) dX12_isSingle_38 (fun H locs w => ?_)
        refine lv_iconst (v := (1 : Int32)) hx hb dX12_isSingle_41 (by decide) ?_
        obtain ⟨z67, h⟩ := x_ck h
        exact r_zret cx w z67 h dX12_isSingle_42
      · have h := x_t h k62
        exact b_X12_isSingle_23 cx hkn hL0 hK0 hR M59 H locs ls h w (lv_sub hl [] rfl)
def rec4 (G : gS) (a : Nat) : Nat → Nat → mS → Int32 → Int32 → Option (mS × Int32)
  | 0, _, _, _, _ => none
  | n + 1, t, M, x, y => if t = 0 then q_X12_isTest G (rec4 G a n) M a else if t = 1 then q_X12_isBoth G (rec4 G a n) M a else if t = 2 then q_X12_isSingle G (rec4 G a n) M a else none
theorem kr4 {l : Launch} {D : va_G} {cy : cyS} {G : gS} {a : Nat} (hG : wt G) (hL : a ∈ gL G) (hK : gK G a = 11) : ∀ n : Nat, SC4 l D cy G a (RM4 n) (rec4 G a n) := by
  intro n
  induction n with
  | zero => exact ⟨fun M x y M' r h => nn h, fun M x y M' r h => nn h, fun M x y M' r h => nn h⟩
  | succ n ih => exact ⟨fun M x y M' r h => kq_X12_isTest hG hL hK ih h, fun M x y M' r h => kq_X12_isBoth hG hL hK ih h, fun M x y M' r h => kq_X12_isSingle hG hL hK ih h⟩
def m_X12_isTest (G : gS) (M : mS) (a : Nat) : Option (mS × Int32) := rec4 G a 64 0 M (0 : Int32) (0 : Int32)
abbrev rmX12_isTest : Room := RM4 64
theorem k_X12_isTest {l : Launch} {D : va_G} {cy : cyS} {G : gS} {M M' : mS} {r : Int32} {a : Nat} (hG : wt G) (hL : a ∈ gL G) (hK : gK G a = 11) (h : m_X12_isTest G M a = some (M', r)) : ctI l yX12_isTest wsX12_isTest rmX12_isTest D cy G M [.ref a] M' r := ((kr4 (l := l) (D := D) (cy := cy) hG hL hK 64).1) _ _ _ _ _ h
def m_X12_isBoth (G : gS) (M : mS) (a : Nat) : Option (mS × Int32) := rec4 G a 64 1 M (0 : Int32) (0 : Int32)
abbrev rmX12_isBoth : Room := RM4 64
theorem k_X12_isBoth {l : Launch} {D : va_G} {cy : cyS} {G : gS} {M M' : mS} {r : Int32} {a : Nat} (hG : wt G) (hL : a ∈ gL G) (hK : gK G a = 11) (h : m_X12_isBoth G M a = some (M', r)) : ctI l yX12_isBoth wsX12_isBoth rmX12_isBoth D cy G M [.ref a] M' r := ((kr4 (l := l) (D := D) (cy := cy) hG hL hK 64).2.1) _ _ _ _ _ h
def m_X12_isSingle (G : gS) (M : mS) (a : Nat) : Option (mS × Int32) := rec4 G a 64 2 M (0 : Int32) (0 : Int32)
abbrev rmX12_isSingle : Room := RM4 64
theorem k_X12_isSingle {l : Launch} {D : va_G} {cy : cyS} {G : gS} {M M' : mS} {r : Int32} {a : Nat} (hG : wt G) (hL : a ∈ gL G) (hK : gK G a = 11) (h : m_X12_isSingle G M a = some (M', r)) : ctI l yX12_isSingle wsX12_isSingle rmX12_isSingle D cy G M [.ref a] M' r := ((kr4 (l := l) (D := D) (cy := cy) hG hL hK 64).2.2) _ _ _ _ _ h
-- X12_isOrderLine
theorem wi_X12_isOrderLine_X10 : ∀ w ∈ wsX100, w ∈ wsX12_isOrderLine := by decide +kernel
theorem wi_X12_isOrderLine_X12 : ∀ w ∈ wsX120, w ∈ wsX12_isOrderLine := by decide +kernel
abbrev rmX12_isOrderLine : Room := { frames := 135, cells := 0, slots := 0, locals := 7827 }
def m_X12_isOrderLine_181 (G : gS) (a0 : Nat)  (M : mS)  : Option (mS × Int32) := o_ck ((0 : Int32) = 0 ∨ (0 : Int32) = 1) (some (M, (0 : Int32)))
def m_X12_isOrderLine_165 (G : gS) (a0 : Nat)  (M : mS) (v3 : Int32) (s0 : Int32) : Option (mS × Int32) := (if s0 = 0 then m_X12_isOrderLine_181 G a0 M else o_cl (m_X12_eat G M a0 (19 : Int32)) (fun M2 r3 => (if r3 = 0 then m_X12_isOrderLine_181 G a0 M2 else o_rf (gP G a0 12) (fun q6 => o_rf (gP G q6 16) (fun q7 => o_rf (gP G a0 12) (fun q8 => o_ix v3 (gN G q7) (o_wI M2 q7 (Int32.toNatClampNeg v3) (mI M2 q8 19) (fun M10 => o_cl (m_X12_isTest G M10 a0) (fun M11 r12 => (if r12 = 0 then o_ck ((0 : Int32) = 0 ∨ (0 : Int32) = 1) (some (M11, (0 : Int32))) else o_rf (gP G a0 12) (fun q15 => o_rf (gP G q15 17) (fun q16 => o_rf (gP G a0 12) (fun q17 => o_ix v3 (gN G q16) (o_wI M11 q16 (Int32.toNatClampNeg v3) (mI M11 q17 19) (fun M19 => o_ck ((1 : Int32) = 0 ∨ (1 : Int32) = 1) (some (M19, (1 : Int32))))))))))))))))))
def m_X12_isOrderLine_128 (G : gS) (a0 : Nat)  (M : mS) (v3 : Int32) : Option (mS × Int32) := m_X12_isOrderLine_165 G a0 M v3 ((0 : Int32))
def m_X12_isOrderLine_164 (G : gS) (a0 : Nat)  (M : mS) (v3 : Int32) : Option (mS × Int32) := m_X12_isOrderLine_165 G a0 M v3 ((0 : Int32))
def m_X12_isOrderLine_160 (G : gS) (a0 : Nat)  (M : mS) (v3 : Int32) : Option (mS × Int32) := m_X12_isOrderLine_165 G a0 M v3 ((1 : Int32))
def m_X12_isOrderLine_42 (G : gS) (a0 : Nat)  (M : mS) (v1 : Int32) (v2 : Int32) : Option (mS × Int32) := o_rf (gP G a0 7) (fun q1 => o_ix (mI M a0 9) (gN G q1) (o_wI M q1 (Int32.toNatClampNeg (mI M a0 9)) (9 : Int32) (fun M3 => o_wI M3 a0 9 ((mI M3 a0 9) + (1 : Int32)) (fun M4 => o_rf (gP G a0 12) (fun q5 => o_bd ((if (20 : Int32) < (mI M4 q5 12) then (20 : Int32) else (mI M4 q5 12))) (fun x6 => o_rf (gP G a0 12) (fun q7 => o_wI M4 q7 12 ((mI M4 q7 12) + (1 : Int32)) (fun M8 => (if v1 = 0 then o_cl (m_X12_eatAs G M8 a0 (40 : Int32) (12 : Int32)) (fun M10 r11 => (if r11 = 0 then m_X12_isOrderLine_164 G a0 M10 x6 else (if v2 = 0 then m_X12_isOrderLine_160 G a0 M10 x6 else o_cl (m_X12_eatOne G M10 a0 (9 : Int32) (12 : Int32) (13 : Int32)) (fun M15 r16 => (if r16 = 0 then m_X12_isOrderLine_164 G a0 M15 x6 else m_X12_isOrderLine_160 G a0 M15 x6))))) else o_cl (m_X12_eatAs G M8 a0 (41 : Int32) (10 : Int32)) (fun M19 r20 => (if r20 = 0 then m_X12_isOrderLine_128 G a0 M19 x6 else o_cl (m_X12_eat G M19 a0 (15 : Int32)) (fun M23 r24 => (if r24 = 0 then m_X12_isOrderLine_128 G a0 M23 x6 else o_cl (m_X12_eatAs G M23 a0 (41 : Int32) (11 : Int32)) (fun M27 r28 => (if r28 = 0 then m_X12_isOrderLine_128 G a0 M27 x6 else m_X12_isOrderLine_165 G a0 M27 x6 ((1 : Int32)))))))))))))))))
def m_X12_isOrderLine (G : gS) (M : mS) (a0 : Nat) : Option (mS × Int32) := o_cl (m_X12_is G M a0 (14 : Int32)) (fun M1 r2 => o_cl (m_X12_is G M1 a0 (16 : Int32)) (fun M4 r5 => (if r2 = 0 then (if r5 = 0 then o_cl (m_X12_is G M4 a0 (17 : Int32)) (fun M9 r10 => (if r10 = 0 then o_cl (m_X12_is G M9 a0 (18 : Int32)) (fun M13 r14 => (if r14 = 0 then o_ck ((0 : Int32) = 0 ∨ (0 : Int32) = 1) (some (M13, (0 : Int32))) else m_X12_isOrderLine_42 G a0 M13 r2 r5)) else m_X12_isOrderLine_42 G a0 M9 r2 r5)) else m_X12_isOrderLine_42 G a0 M4 r2 r5) else m_X12_isOrderLine_42 G a0 M4 r2 r5)))
set_option maxHeartbeats 4000000 in
set_option maxRecDepth 100000 in
theorem b_X12_isOrderLine_181 {p : Program} {e : Env} {s : State} {m : MethodId} {args : Array Value} {below : List Frame} {meth : Method} {c : Code} {A : Nat → Prop} {l : Launch} {D : va_G} {cy : cyS} {G : gS} (cx : cX p s m args meth c cX12_isOrderLine RX12 5 (some .boolean) wsX12_isOrderLine D cy G A) {k0 n0 : Nat} (hkn : k0 ≤ (rmX12_isOrderLine).cells ∧ n0 ≤ (rmX12_isOrderLine).slots) {M' : mS} {r : Int32} {a0 : Nat} (hL0 : a0 ∈ gL G) (hK0 : gK G a0 = 11)  : ∀ (M : mS) (H : Heap) (locs : List Loc) (ls : Array Slot), m_X12_isOrderLine_181 G a0 M = some (M', r) → wd D cy G M A s.heap H locs → lv_has ls 5 [] → W p l e rmX12_isOrderLine s m args below meth c H locs k0 n0 (MQ below (va_Qi (fun (r' : Int32) (_ : Unit) => r' = r) (fun _ t => wOut D cy G M' t) A) args s k0 n0 A) (F0 m 181 ls []) := by
  obtain ⟨hx, hb, hml, hown, hts, hr, hlocks, hK, hA, hG, hsx⟩ := id cx
  intro M H locs ls h w hl
  unfold m_X12_isOrderLine_181 at h
  refine lv_iconst (v := (0 : Int32)) hx hb dX12_isOrderLine_181 (by decide) ?_
  obtain ⟨z1, h⟩ := x_ck h
  exact r_zret cx w z1 h dX12_isOrderLine_182
set_option maxHeartbeats 4000000 in
set_option maxRecDepth 100000 in
theorem b_X12_isOrderLine_165 {p : Program} {e : Env} {s : State} {m : MethodId} {args : Array Value} {below : List Frame} {meth : Method} {c : Code} {A : Nat → Prop} {l : Launch} {D : va_G} {cy : cyS} {G : gS} (cx : cX p s m args meth c cX12_isOrderLine RX12 5 (some .boolean) wsX12_isOrderLine D cy G A) {k0 n0 : Nat} (hkn : k0 ≤ (rmX12_isOrderLine).cells ∧ n0 ≤ (rmX12_isOrderLine).slots) {M' : mS} {r : Int32} {a0 : Nat} (hL0 : a0 ∈ gL G) (hK0 : gK G a0 = 11)  : ∀ (M : mS) (v3 : Int32) (s0 : Int32) (H : Heap) (locs : List Loc) (ls : Array Slot), m_X12_isOrderLine_165 G a0 M v3 s0 = some (M', r) → wd D cy G M A s.heap H locs → lv_has ls 5 [(0, .ref a0), (3, .int v3)] → W p l e rmX12_isOrderLine s m args below meth c H locs k0 n0 (MQ below (va_Qi (fun (r' : Int32) (_ : Unit) => r' = r) (fun _ t => wOut D cy G M' t) A) args s k0 n0 A) (F0 m 165 ls [.int s0]) := by
  obtain ⟨hx, hb, hml, hown, hts, hr, hlocks, hK, hA, hG, hsx⟩ := id cx
  intro M v3 s0 H locs ls h w hl
  unfold m_X12_isOrderLine_165 at h
  refine lv_istore (lv' := [(4, .int s0), (0, .ref a0), (3, .int v3)]) hx hb dX12_isOrderLine_165 hl (by decide) rfl (fun ls hl => ?_)
  refine lv_iload hx hb dX12_isOrderLine_167 (lv_at hl 0 rfl) ?_
  refine lv_if_eq (tgt := 181) hx hb dX12_isOrderLine_169 (by decide) (fun k1 => ?_) (fun k1 => ?_)
  · have h := x_t h k1
    exact b_X12_isOrderLine_181 cx hkn hL0 hK0 M H locs ls h w (lv_sub hl [] rfl)
  · have h := x_f h k1
    refine lv_aload_n hx hb dX12_isOrderLine_172 rfl (lv_at hl 1 rfl) ?_
    refine lv_bipush (v := (19 : Int32)) hx hb dX12_isOrderLine_173 (by decide) ?_
    obtain ⟨M2, r3, y4, h⟩ := x_cl h
    refine r_callVi (As := [.int ((19 : Int32))]) (rest := []) cx w hkn hl.1 (k_X12_eat hG hL0 hK0 y4) (cwV 1 hts gX12_isOrderLine_X12_eat rfl rfl rfl (by decide +kernel) ⟨Nat.le_of_ble_eq_true rfl, Nat.le_of_ble_eq_true rfl⟩) hL0 hK0 (by decide) rfl rfl rfl (Nat.le_of_ble_eq_true rfl) dX12_isOrderLine_175 (fun H locs w => ?_)
    refine lv_if_ne (tgt := 183) hx hb dX12_isOrderLine_178 (by decide) (fun k5 => ?_) (fun k5 => ?_)
    · have h := x_f h k5
      refine lv_aload_n hx hb dX12_isOrderLine_183 rfl (lv_at hl 1 rfl) ?_
      obtain ⟨q6, eq6, h⟩ := x_rf h
      obtain ⟨hLq6, hKq6⟩ := wt_q hG hL0 hK0 eq6
      have hKq6 : gK G q6 = 9 := hKq6
      refine r_getR (k := 12) cx w hL0 hK0 (by decide) rfl wi_X12_isOrderLine_X12 (by decide) rfl eq6 (List.mem_of_getElem? (i := 3) rfl) dX12_isOrderLine_184 ?_
      obtain ⟨q7, eq7, h⟩ := x_rf h
      obtain ⟨hLq7, hKq7⟩ := wt_q hG hLq6 hKq6 eq7
      have hKq7 : gK G q7 = 12 := hKq7
      refine r_getRN (k := 16) cx w hLq6 hKq6 (by decide) rfl wi_X12_isOrderLine_X10 (by decide) rfl eq7 (nwF cx (q := (RX12, 158, "FlagAntsModel$Plan", "test", "[I", "FlagAntsModel")) (List.mem_of_getElem? (i := 4) rfl)) dX12_isOrderLine_187 ?_
      refine lv_iload_n hx hb dX12_isOrderLine_190 rfl (lv_at hl 2 rfl) ?_
      refine lv_aload_n hx hb dX12_isOrderLine_191 rfl (lv_at hl 1 rfl) ?_
      obtain ⟨q8, eq8, h⟩ := x_rf h
      obtain ⟨hLq8, hKq8⟩ := wt_q hG hL0 hK0 eq8
      have hKq8 : gK G q8 = 9 := hKq8
      refine r_getR (k := 12) cx w hL0 hK0 (by decide) rfl wi_X12_isOrderLine_X12 (by decide) rfl eq8 (List.mem_of_getElem? (i := 3) rfl) dX12_isOrderLine_192 ?_
      refine r_getIN (k := 19) (v := .int (mI M2 q8 19)) cx w hLq8 hKq8 (by decide) rfl wi_X12_isOrderLine_X10 (by decide) rfl (nwF cx (q := (RX12, 127, "FlagAntsModel$Plan", "size", "I", "FlagAntsModel")) (List.mem_of_getElem? (i := 2) rfl)) dX12_isOrderLine_195 ?_
      obtain ⟨z9, h⟩ := x_ix h
      obtain ⟨M10, eM10, h⟩ := x_wI h
      refine r_iast cx w hLq7 hKq7 z9 dX12_isOrderLine_198 eM10 (fun H locs w => ?_)
      refine lv_aload_n hx hb dX12_isOrderLine_199 rfl (lv_at hl 1 rfl) ?_
      obtain ⟨M11, r12, y13, h⟩ := x_cl h
      refine r_callVi (As := []) (rest := []) cx w hkn hl.1 (k_X12_isTest hG hL0 hK0 y13) (cwV 0 hts gX12_isOrderLine_X12_isTest rfl rfl rfl (by decide +kernel) ⟨Nat.le_of_ble_eq_true rfl, Nat.le_of_ble_eq_true rfl⟩) hL0 hK0 (by decide) rfl rfl rfl (Nat.le_of_ble_eq_true rfl) dX12_isOrderLine_200 (fun H locs w => ?_)
      refine lv_if_ne (tgt := 208) hx hb dX12_isOrderLine_203 (by decide) (fun k14 => ?_) (fun k14 => ?_)
      · have h := x_f h k14
        refine lv_aload_n hx hb dX12_isOrderLine_208 rfl (lv_at hl 1 rfl) ?_
        obtain ⟨q15, eq15, h⟩ := x_rf h
        obtain ⟨hLq15, hKq15⟩ := wt_q hG hL0 hK0 eq15
        have hKq15 : gK G q15 = 9 := hKq15
        refine r_getR (k := 12) cx w hL0 hK0 (by decide) rfl wi_X12_isOrderLine_X12 (by decide) rfl eq15 (List.mem_of_getElem? (i := 3) rfl) dX12_isOrderLine_209 ?_
        obtain ⟨q16, eq16, h⟩ := x_rf h
        obtain ⟨hLq16, hKq16⟩ := wt_q hG hLq15 hKq15 eq16
        have hKq16 : gK G q16 = 12 := hKq16
        refine r_getRN (k := 17) cx w hLq15 hKq15 (by decide) rfl wi_X12_isOrderLine_X10 (by decide) rfl eq16 (nwF cx (q := (RX12, 164, "FlagAntsModel$Plan", "testEnd", "[I", "FlagAntsModel")) (List.mem_of_getElem? (i := 5) rfl)) dX12_isOrderLine_212 ?_
        refine lv_iload_n hx hb dX12_isOrderLine_215 rfl (lv_at hl 2 rfl) ?_
        refine lv_aload_n hx hb dX12_isOrderLine_216 rfl (lv_at hl 1 rfl) ?_
        obtain ⟨q17, eq17, h⟩ := x_rf h
        obtain ⟨hLq17, hKq17⟩ := wt_q hG hL0 hK0 eq17
        have hKq17 : gK G q17 = 9 := hKq17
        refine r_getR (k := 12) cx w hL0 hK0 (by decide) rfl wi_X12_isOrderLine_X12 (by decide) rfl eq17 (List.mem_of_getElem? (i := 3) rfl) dX12_isOrderLine_217 ?_
        refine r_getIN (k := 19) (v := .int (mI M11 q17 19)) cx w hLq17 hKq17 (by decide) rfl wi_X12_isOrderLine_X10 (by decide) rfl (nwF cx (q := (RX12, 127, "FlagAntsModel$Plan", "size", "I", "FlagAntsModel")) (List.mem_of_getElem? (i := 2) rfl)) dX12_isOrderLine_220 ?_
        obtain ⟨z18, h⟩ := x_ix h
        obtain ⟨M19, eM19, h⟩ := x_wI h
        refine r_iast cx w hLq16 hKq16 z18 dX12_isOrderLine_223 eM19 (fun H locs w => ?_)
        refine lv_iconst (v := (1 : Int32)) hx hb dX12_isOrderLine_224 (by decide) ?_
        obtain ⟨z20, h⟩ := x_ck h
        exact r_zret cx w z20 h dX12_isOrderLine_225
      · have h := x_t h k14
        refine lv_iconst (v := (0 : Int32)) hx hb dX12_isOrderLine_206 (by decide) ?_
        obtain ⟨z21, h⟩ := x_ck h
        exact r_zret cx w z21 h dX12_isOrderLine_207
    · have h := x_t h k5
      exact b_X12_isOrderLine_181 cx hkn hL0 hK0 M2 H locs ls h w (lv_sub hl [] rfl)
set_option maxHeartbeats 4000000 in
set_option maxRecDepth 100000 in
theorem b_X12_isOrderLine_128 {p : Program} {e : Env} {s : State} {m : MethodId} {args : Array Value} {below : List Frame} {meth : Method} {c : Code} {A : Nat → Prop} {l : Launch} {D : va_G} {cy : cyS} {G : gS} (cx : cX p s m args meth c cX12_isOrderLine RX12 5 (some .boolean) wsX12_isOrderLine D cy G A) {k0 n0 : Nat} (hkn : k0 ≤ (rmX12_isOrderLine).cells ∧ n0 ≤ (rmX12_isOrderLine).slots) {M' : mS} {r : Int32} {a0 : Nat} (hL0 : a0 ∈ gL G) (hK0 : gK G a0 = 11)  : ∀ (M : mS) (v3 : Int32) (H : Heap) (locs : List Loc) (ls : Array Slot), m_X12_isOrderLine_128 G a0 M v3 = some (M', r) → wd D cy G M A s.heap H locs → lv_has ls 5 [(0, .ref a0), (3, .int v3)] → W p l e rmX12_isOrderLine s m args below meth c H locs k0 n0 (MQ below (va_Qi (fun (r' : Int32) (_ : Unit) => r' = r) (fun _ t => wOut D cy G M' t) A) args s k0 n0 A) (F0 m 128 ls []) := by
  obtain ⟨hx, hb, hml, hown, hts, hr, hlocks, hK, hA, hG, hsx⟩ := id cx
  intro M v3 H locs ls h w hl
  unfold m_X12_isOrderLine_128 at h
  refine lv_iconst (v := (0 : Int32)) hx hb dX12_isOrderLine_128 (by decide) ?_
  refine lv_goto (tgt := 165) hx hb dX12_isOrderLine_129 (by decide) ?_
  exact b_X12_isOrderLine_165 cx hkn hL0 hK0 M v3 ((0 : Int32)) H locs ls h w (lv_sub hl [0, 1] rfl)
set_option maxHeartbeats 4000000 in
set_option maxRecDepth 100000 in
theorem b_X12_isOrderLine_164 {p : Program} {e : Env} {s : State} {m : MethodId} {args : Array Value} {below : List Frame} {meth : Method} {c : Code} {A : Nat → Prop} {l : Launch} {D : va_G} {cy : cyS} {G : gS} (cx : cX p s m args meth c cX12_isOrderLine RX12 5 (some .boolean) wsX12_isOrderLine D cy G A) {k0 n0 : Nat} (hkn : k0 ≤ (rmX12_isOrderLine).cells ∧ n0 ≤ (rmX12_isOrderLine).slots) {M' : mS} {r : Int32} {a0 : Nat} (hL0 : a0 ∈ gL G) (hK0 : gK G a0 = 11)  : ∀ (M : mS) (v3 : Int32) (H : Heap) (locs : List Loc) (ls : Array Slot), m_X12_isOrderLine_164 G a0 M v3 = some (M', r) → wd D cy G M A s.heap H locs → lv_has ls 5 [(0, .ref a0), (3, .int v3)] → W p l e rmX12_isOrderLine s m args below meth c H locs k0 n0 (MQ below (va_Qi (fun (r' : Int32) (_ : Unit) => r' = r) (fun _ t => wOut D cy G M' t) A) args s k0 n0 A) (F0 m 164 ls []) := by
  obtain ⟨hx, hb, hml, hown, hts, hr, hlocks, hK, hA, hG, hsx⟩ := id cx
  intro M v3 H locs ls h w hl
  unfold m_X12_isOrderLine_164 at h
  refine lv_iconst (v := (0 : Int32)) hx hb dX12_isOrderLine_164 (by decide) ?_
  exact b_X12_isOrderLine_165 cx hkn hL0 hK0 M v3 ((0 : Int32)) H locs ls h w (lv_sub hl [0, 1] rfl)
set_option maxHeartbeats 4000000 in
set_option maxRecDepth 100000 in
theorem b_X12_isOrderLine_160 {p : Program} {e : Env} {s : State} {m : MethodId} {args : Array Value} {below : List Frame} {meth : Method} {c : Code} {A : Nat → Prop} {l : Launch} {D : va_G} {cy : cyS} {G : gS} (cx : cX p s m args meth c cX12_isOrderLine RX12 5 (some .boolean) wsX12_isOrderLine D cy G A) {k0 n0 : Nat} (hkn : k0 ≤ (rmX12_isOrderLine).cells ∧ n0 ≤ (rmX12_isOrderLine).slots) {M' : mS} {r : Int32} {a0 : Nat} (hL0 : a0 ∈ gL G) (hK0 : gK G a0 = 11)  : ∀ (M : mS) (v3 : Int32) (H : Heap) (locs : List Loc) (ls : Array Slot), m_X12_isOrderLine_160 G a0 M v3 = some (M', r) → wd D cy G M A s.heap H locs → lv_has ls 5 [(0, .ref a0), (3, .int v3)] → W p l e rmX12_isOrderLine s m args below meth c H locs k0 n0 (MQ below (va_Qi (fun (r' : Int32) (_ : Unit) => r' = r) (fun _ t => wOut D cy G M' t) A) args s k0 n0 A) (F0 m 160 ls []) := by
  obtain ⟨hx, hb, hml, hown, hts, hr, hlocks, hK, hA, hG, hsx⟩ := id cx
  intro M v3 H locs ls h w hl
  unfold m_X12_isOrderLine_160 at h
  refine lv_iconst (v := (1 : Int32)) hx hb dX12_isOrderLine_160 (by decide) ?_
  refine lv_goto (tgt := 165) hx hb dX12_isOrderLine_161 (by decide) ?_
  exact b_X12_isOrderLine_165 cx hkn hL0 hK0 M v3 ((1 : Int32)) H locs ls h w (lv_sub hl [0, 1] rfl)
set_option maxHeartbeats 4000000 in
set_option maxRecDepth 100000 in
theorem b_X12_isOrderLine_42 {p : Program} {e : Env} {s : State} {m : MethodId} {args : Array Value} {below : List Frame} {meth : Method} {c : Code} {A : Nat → Prop} {l : Launch} {D : va_G} {cy : cyS} {G : gS} (cx : cX p s m args meth c cX12_isOrderLine RX12 5 (some .boolean) wsX12_isOrderLine D cy G A) {k0 n0 : Nat} (hkn : k0 ≤ (rmX12_isOrderLine).cells ∧ n0 ≤ (rmX12_isOrderLine).slots) {M' : mS} {r : Int32} {a0 : Nat} (hL0 : a0 ∈ gL G) (hK0 : gK G a0 = 11)  : ∀ (M : mS) (v1 : Int32) (v2 : Int32) (H : Heap) (locs : List Loc) (ls : Array Slot), m_X12_isOrderLine_42 G a0 M v1 v2 = some (M', r) → wd D cy G M A s.heap H locs → lv_has ls 5 [(0, .ref a0), (1, .int v1), (2, .int v2)] → W p l e rmX12_isOrderLine s m args below meth c H locs k0 n0 (MQ below (va_Qi (fun (r' : Int32) (_ : Unit) => r' = r) (fun _ t => wOut D cy G M' t) A) args s k0 n0 A) (F0 m 42 ls []) := by
  obtain ⟨hx, hb, hml, hown, hts, hr, hlocks, hK, hA, hG, hsx⟩ := id cx
  intro M v1 v2 H locs ls h w hl
  unfold m_X12_isOrderLine_42 at h
  refine lv_aload_n hx hb dX12_isOrderLine_42 rfl (lv_at hl 0 rfl) ?_
  obtain ⟨q1, eq1, h⟩ := x_rf h
  obtain ⟨hLq1, hKq1⟩ := wt_q hG hL0 hK0 eq1
  have hKq1 : gK G q1 = 12 := hKq1
  refine r_getR (k := 7) cx w hL0 hK0 (by decide) rfl wi_X12_isOrderLine_X12 (by decide) rfl eq1 (List.mem_of_getElem? (i := 1) rfl) dX12_isOrderLine_43 ?_
  refine lv_aload_n hx hb dX12_isOrderLine_46 rfl (lv_at hl 0 rfl) ?_
  refine r_getI (k := 9) (v := .int (mI M a0 9)) cx w hL0 hK0 (by decide) rfl wi_X12_isOrderLine_X12 (by decide) rfl (List.mem_of_getElem? (i := 2) rfl) dX12_isOrderLine_47 ?_
  refine lv_bipush (v := (9 : Int32)) hx hb dX12_isOrderLine_50 (by decide) ?_
  obtain ⟨z2, h⟩ := x_ix h
  obtain ⟨M3, eM3, h⟩ := x_wI h
  refine r_iast cx w hLq1 hKq1 z2 dX12_isOrderLine_52 eM3 (fun H locs w => ?_)
  refine lv_aload_n hx hb dX12_isOrderLine_53 rfl (lv_at hl 0 rfl) ?_
  refine lv_dup hx hb dX12_isOrderLine_54 rfl ?_
  refine r_getI (k := 9) (v := .int (mI M3 a0 9)) cx w hL0 hK0 (by decide) rfl wi_X12_isOrderLine_X12 (by decide) rfl (List.mem_of_getElem? (i := 2) rfl) dX12_isOrderLine_55 ?_
  refine lv_iconst (v := (1 : Int32)) hx hb dX12_isOrderLine_58 (by decide) ?_
  refine lv_iadd hx hb dX12_isOrderLine_59 ?_
  obtain ⟨M4, eM4, h⟩ := x_wI h
  refine r_putI (k := 9) (ty := .int) cx w tyX12 tyX12_ok nmX12 hL0 hK0 (by decide) rfl wi_X12_isOrderLine_X12 (by decide) rfl rfl rfl rfl st_11_9 (ln_11 _ _ (by decide)) (List.mem_of_getElem? (i := 2) rfl) dX12_isOrderLine_60 eM4 (fun H locs w => ?_)
  refine lv_aload_n hx hb dX12_isOrderLine_63 rfl (lv_at hl 0 rfl) ?_
  obtain ⟨q5, eq5, h⟩ := x_rf h
  obtain ⟨hLq5, hKq5⟩ := wt_q hG hL0 hK0 eq5
  have hKq5 : gK G q5 = 9 := hKq5
  refine r_getR (k := 12) cx w hL0 hK0 (by decide) rfl wi_X12_isOrderLine_X12 (by decide) rfl eq5 (List.mem_of_getElem? (i := 3) rfl) dX12_isOrderLine_64 ?_
  refine r_getIN (k := 12) (v := .int (mI M4 q5 12)) cx w hLq5 hKq5 (by decide) rfl wi_X12_isOrderLine_X10 (by decide) rfl (nwF cx (q := (RX12, 155, "FlagAntsModel$Plan", "ordersRead", "I", "FlagAntsModel")) (List.mem_of_getElem? (i := 3) rfl)) dX12_isOrderLine_67 ?_
  refine lv_bipush (v := (20 : Int32)) hx hb dX12_isOrderLine_70 (by decide) ?_
  refine va_mmin hx hb (hml.trans hl.1.symm) hown (hts _ (List.mem_of_getElem? (i := 4) rfl)) (hts _ (List.mem_of_getElem? (i := 5) rfl)) (hts _ (List.mem_of_getElem? (i := 6) rfl)) (hts _ (List.mem_of_getElem? (i := 7) rfl)) (Nat.le_of_ble_eq_true rfl) (Nat.le_of_ble_eq_true rfl) hkn.1 hkn.2 dX12_isOrderLine_72 ?_
  obtain ⟨x6, ex6, h⟩ := x_bd h
  refine r_topI ex6 ?_
  refine lv_istore_n (lv' := [(3, .int x6), (0, .ref a0), (1, .int v1), (2, .int v2)]) hx hb dX12_isOrderLine_75 rfl hl (by decide) rfl (fun ls hl => ?_)
  refine lv_aload_n hx hb dX12_isOrderLine_76 rfl (lv_at hl 1 rfl) ?_
  obtain ⟨q7, eq7, h⟩ := x_rf h
  obtain ⟨hLq7, hKq7⟩ := wt_q hG hL0 hK0 eq7
  have hKq7 : gK G q7 = 9 := hKq7
  refine r_getR (k := 12) cx w hL0 hK0 (by decide) rfl wi_X12_isOrderLine_X12 (by decide) rfl eq7 (List.mem_of_getElem? (i := 3) rfl) dX12_isOrderLine_77 ?_
  refine lv_dup hx hb dX12_isOrderLine_80 rfl ?_
  refine r_getIN (k := 12) (v := .int (mI M4 q7 12)) cx w hLq7 hKq7 (by decide) rfl wi_X12_isOrderLine_X10 (by decide) rfl (nwF cx (q := (RX12, 155, "FlagAntsModel$Plan", "ordersRead", "I", "FlagAntsModel")) (List.mem_of_getElem? (i := 3) rfl)) dX12_isOrderLine_81 ?_
  refine lv_iconst (v := (1 : Int32)) hx hb dX12_isOrderLine_84 (by decide) ?_
  refine lv_iadd hx hb dX12_isOrderLine_85 ?_
  obtain ⟨M8, eM8, h⟩ := x_wI h
  refine r_putIN (k := 12) (ty := .int) cx w tyX10 tyX10_ok nmX10 hLq7 hKq7 (by decide) rfl wi_X12_isOrderLine_X10 (by decide) rfl rfl rfl rfl st_9_12 (ln_9 _ _ (by decide)) (nwF cx (q := (RX12, 155, "FlagAntsModel$Plan", "ordersRead", "I", "FlagAntsModel")) (List.mem_of_getElem? (i := 3) rfl)) dX12_isOrderLine_86 eM8 (fun H locs w => ?_)
  refine lv_iload_n hx hb dX12_isOrderLine_89 rfl (lv_at hl 2 rfl) ?_
  refine lv_if_eq (tgt := 132) hx hb dX12_isOrderLine_90 (by decide) (fun k9 => ?_) (fun k9 => ?_)
  · have h := x_t h k9
    refine lv_aload_n hx hb dX12_isOrderLine_132 rfl (lv_at hl 1 rfl) ?_
    refine lv_bipush (v := (40 : Int32)) hx hb dX12_isOrderLine_133 (by decide) ?_
    refine lv_bipush (v := (12 : Int32)) hx hb dX12_isOrderLine_135 (by decide) ?_
    obtain ⟨M10, r11, y12, h⟩ := x_cl h
    refine r_callVi (As := [.int ((40 : Int32)), .int ((12 : Int32))]) (rest := []) cx w hkn hl.1 (k_X12_eatAs hG hL0 hK0 y12) (cwV 2 hts gX12_isOrderLine_X12_eatAs rfl rfl rfl (by decide +kernel) ⟨Nat.le_of_ble_eq_true rfl, Nat.le_of_ble_eq_true rfl⟩) hL0 hK0 (by decide) rfl rfl rfl (Nat.le_of_ble_eq_true rfl) dX12_isOrderLine_137 (fun H locs w => ?_)
    refine lv_if_eq (tgt := 164) hx hb dX12_isOrderLine_140 (by decide) (fun k13 => ?_) (fun k13 => ?_)
    · have h := x_t h k13
      exact b_X12_isOrderLine_164 cx hkn hL0 hK0 M10 x6 H locs ls h w (lv_sub hl [1, 0] rfl)
    · have h := x_f h k13
      refine lv_iload_n hx hb dX12_isOrderLine_143 rfl (lv_at hl 3 rfl) ?_
      refine lv_if_eq (tgt := 160) hx hb dX12_isOrderLine_144 (by decide) (fun k14 => ?_) (fun k14 => ?_)
      · have h := x_t h k14
        exact b_X12_isOrderLine_160 cx hkn hL0 hK0 M10 x6 H locs ls h w (lv_sub hl [1, 0] rfl)
      · have h := x_f h k14
        refine lv_aload_n hx hb dX12_isOrderLine_147 rfl (lv_at hl 1 rfl) ?_
        refine lv_bipush (v := (9 : Int32)) hx hb dX12_isOrderLine_148 (by decide) ?_
        refine lv_bipush (v := (12 : Int32)) hx hb dX12_isOrderLine_150 (by decide) ?_
        refine lv_bipush (v := (13 : Int32)) hx hb dX12_isOrderLine_152 (by decide) ?_
        obtain ⟨M15, r16, y17, h⟩ := x_cl h
        refine r_callVi (As := [.int ((9 : Int32)), .int ((12 : Int32)), .int ((13 : Int32))]) (rest := []) cx w hkn hl.1 (k_X12_eatOne hG hL0 hK0 y17) (cwV 3 hts gX12_isOrderLine_X12_eatOne rfl rfl rfl (by decide +kernel) ⟨Nat.le_of_ble_eq_true rfl, Nat.le_of_ble_eq_true rfl⟩) hL0 hK0 (by decide) rfl rfl rfl (Nat.le_of_ble_eq_true rfl) dX12_isOrderLine_154 (fun H locs w => ?_)
        refine lv_if_eq (tgt := 164) hx hb dX12_isOrderLine_157 (by decide) (fun k18 => ?_) (fun k18 => ?_)
        · have h := x_t h k18
          exact b_X12_isOrderLine_164 cx hkn hL0 hK0 M15 x6 H locs ls h w (lv_sub hl [1, 0] rfl)
        · have h := x_f h k18
          exact b_X12_isOrderLine_160 cx hkn hL0 hK0 M15 x6 H locs ls h w (lv_sub hl [1, 0] rfl)
  · have h := x_f h k9
    refine lv_aload_n hx hb dX12_isOrderLine_93 rfl (lv_at hl 1 rfl) ?_
    refine lv_bipush (v := (41 : Int32)) hx hb dX12_isOrderLine_94 (by decide) ?_
    refine lv_bipush (v := (10 : Int32)) hx hb dX12_isOrderLine_96 (by decide) ?_
    obtain ⟨M19, r20, y21, h⟩ := x_cl h
    refine r_callVi (As := [.int ((41 : Int32)), .int ((10 : Int32))]) (rest := []) cx w hkn hl.1 (k_X12_eatAs hG hL0 hK0 y21) (cwV 2 hts gX12_isOrderLine_X12_eatAs rfl rfl rfl (by decide +kernel) ⟨Nat.le_of_ble_eq_true rfl, Nat.le_of_ble_eq_true rfl⟩) hL0 hK0 (by decide) rfl rfl rfl (Nat.le_of_ble_eq_true rfl) dX12_isOrderLine_98 (fun H locs w => ?_)
    refine lv_if_eq (tgt := 128) hx hb dX12_isOrderLine_101 (by decide) (fun k22 => ?_) (fun k22 => ?_)
    · have h := x_t h k22
      exact b_X12_isOrderLine_128 cx hkn hL0 hK0 M19 x6 H locs ls h w (lv_sub hl [1, 0] rfl)
    · have h := x_f h k22
      refine lv_aload_n hx hb dX12_isOrderLine_104 rfl (lv_at hl 1 rfl) ?_
      refine lv_bipush (v := (15 : Int32)) hx hb dX12_isOrderLine_105 (by decide) ?_
      obtain ⟨M23, r24, y25, h⟩ := x_cl h
      refine r_callVi (As := [.int ((15 : Int32))]) (rest := []) cx w hkn hl.1 (k_X12_eat hG hL0 hK0 y25) (cwV 1 hts gX12_isOrderLine_X12_eat rfl rfl rfl (by decide +kernel) ⟨Nat.le_of_ble_eq_true rfl, Nat.le_of_ble_eq_true rfl⟩) hL0 hK0 (by decide) rfl rfl rfl (Nat.le_of_ble_eq_true rfl) dX12_isOrderLine_107 (fun H locs w => ?_)
      refine lv_if_eq (tgt := 128) hx hb dX12_isOrderLine_110 (by decide) (fun k26 => ?_) (fun k26 => ?_)
      · have h := x_t h k26
        exact b_X12_isOrderLine_128 cx hkn hL0 hK0 M23 x6 H locs ls h w (lv_sub hl [1, 0] rfl)
      · have h := x_f h k26
        refine lv_aload_n hx hb dX12_isOrderLine_113 rfl (lv_at hl 1 rfl) ?_
        refine lv_bipush (v := (41 : Int32)) hx hb dX12_isOrderLine_114 (by decide) ?_
        refine lv_bipush (v := (11 : Int32)) hx hb dX12_isOrderLine_116 (by decide) ?_
        obtain ⟨M27, r28, y29, h⟩ := x_cl h
        refine r_callVi (As := [.int ((41 : Int32)), .int ((11 : Int32))]) (rest := []) cx w hkn hl.1 (k_X12_eatAs hG hL0 hK0 y29) (cwV 2 hts gX12_isOrderLine_X12_eatAs rfl rfl rfl (by decide +kernel) ⟨Nat.le_of_ble_eq_true rfl, Nat.le_of_ble_eq_true rfl⟩) hL0 hK0 (by decide) rfl rfl rfl (Nat.le_of_ble_eq_true rfl) dX12_isOrderLine_118 (fun H locs w => ?_)
        refine lv_if_eq (tgt := 128) hx hb dX12_isOrderLine_121 (by decide) (fun k30 => ?_) (fun k30 => ?_)
        · have h := x_t h k30
          exact b_X12_isOrderLine_128 cx hkn hL0 hK0 M27 x6 H locs ls h w (lv_sub hl [1, 0] rfl)
        · have h := x_f h k30
          refine lv_iconst (v := (1 : Int32)) hx hb dX12_isOrderLine_124 (by decide) ?_
          refine lv_goto (tgt := 165) hx hb dX12_isOrderLine_125 (by decide) ?_
          exact b_X12_isOrderLine_165 cx hkn hL0 hK0 M27 x6 ((1 : Int32)) H locs ls h w (lv_sub hl [1, 0] rfl)
set_option maxHeartbeats 4000000 in
set_option maxRecDepth 100000 in
theorem k_X12_isOrderLine {l : Launch} {D : va_G} {cy : cyS} {G : gS} {M M' : mS} {r : Int32} {a0 : Nat} (hG : wt G) (hL0 : a0 ∈ gL G) (hK0 : gK G a0 = 11) (h : m_X12_isOrderLine G M a0 = some (M', r)) : ctI l yX12_isOrderLine wsX12_isOrderLine rmX12_isOrderLine D cy G M [.ref a0] M' r := by
  unfold m_X12_isOrderLine at h
  refine ctI_of (cc := cX12_isOrderLine) (nL := 5) (ret := (some .boolean)) (lv := [(0, .ref a0)]) hG (by decide) rfl ⟨rfl, rfl⟩ (Nat.le_of_ble_eq_true rfl) rfl ?_
  intro p e s m args below meth c A ls cx w hl
  obtain ⟨hx, hb, hml, hown, hts, hr, hlocks, hK, hA, -, hsx⟩ := id cx
  have hkn : 0 ≤ (rmX12_isOrderLine).cells ∧ 0 ≤ (rmX12_isOrderLine).slots := ⟨Nat.zero_le _, Nat.zero_le _⟩
  refine lv_aload_n hx hb dX12_isOrderLine_0 rfl (lv_at hl 0 rfl) ?_
  refine lv_bipush (v := (14 : Int32)) hx hb dX12_isOrderLine_1 (by decide) ?_
  obtain ⟨M1, r2, y3, h⟩ := x_cl h
  refine r_callVi (As := [.int ((14 : Int32))]) (rest := []) cx w hkn hl.1 (k_X12_is hG hL0 hK0 y3) (cwV 1 hts gX12_isOrderLine_X12_is rfl rfl rfl (by decide +kernel) ⟨Nat.le_of_ble_eq_true rfl, Nat.le_of_ble_eq_true rfl⟩) hL0 hK0 (by decide) rfl rfl rfl (Nat.le_of_ble_eq_true rfl) dX12_isOrderLine_3 (fun H locs w => ?_)
  refine lv_istore_n (lv' := [(1, .int r2), (0, .ref a0)]) hx hb dX12_isOrderLine_6 rfl hl (by decide) rfl (fun ls hl => ?_)
  refine lv_aload_n hx hb dX12_isOrderLine_7 rfl (lv_at hl 1 rfl) ?_
  refine lv_bipush (v := (16 : Int32)) hx hb dX12_isOrderLine_8 (by decide) ?_
  obtain ⟨M4, r5, y6, h⟩ := x_cl h
  refine r_callVi (As := [.int ((16 : Int32))]) (rest := []) cx w hkn hl.1 (k_X12_is hG hL0 hK0 y6) (cwV 1 hts gX12_isOrderLine_X12_is rfl rfl rfl (by decide +kernel) ⟨Nat.le_of_ble_eq_true rfl, Nat.le_of_ble_eq_true rfl⟩) hL0 hK0 (by decide) rfl rfl rfl (Nat.le_of_ble_eq_true rfl) dX12_isOrderLine_10 (fun H locs w => ?_)
  refine lv_istore_n (lv' := [(2, .int r5), (1, .int r2), (0, .ref a0)]) hx hb dX12_isOrderLine_13 rfl hl (by decide) rfl (fun ls hl => ?_)
  refine lv_iload_n hx hb dX12_isOrderLine_14 rfl (lv_at hl 1 rfl) ?_
  refine lv_if_ne (tgt := 42) hx hb dX12_isOrderLine_15 (by decide) (fun k7 => ?_) (fun k7 => ?_)
  · have h := x_f h k7
    exact b_X12_isOrderLine_42 cx hkn hL0 hK0 M4 r2 r5 H locs ls h w (lv_sub hl [2, 1, 0] rfl)
  · have h := x_t h k7
    refine lv_iload_n hx hb dX12_isOrderLine_18 rfl (lv_at hl 0 rfl) ?_
    refine lv_if_ne (tgt := 42) hx hb dX12_isOrderLine_19 (by decide) (fun k8 => ?_) (fun k8 => ?_)
    · have h := x_f h k8
      exact b_X12_isOrderLine_42 cx hkn hL0 hK0 M4 r2 r5 H locs ls h w (lv_sub hl [2, 1, 0] rfl)
    · have h := x_t h k8
      refine lv_aload_n hx hb dX12_isOrderLine_22 rfl (lv_at hl 2 rfl) ?_
      refine lv_bipush (v := (17 : Int32)) hx hb dX12_isOrderLine_23 (by decide) ?_
      obtain ⟨M9, r10, y11, h⟩ := x_cl h
      refine r_callVi (As := [.int ((17 : Int32))]) (rest := []) cx w hkn hl.1 (k_X12_is hG hL0 hK0 y11) (cwV 1 hts gX12_isOrderLine_X12_is rfl rfl rfl (by decide +kernel) ⟨Nat.le_of_ble_eq_true rfl, Nat.le_of_ble_eq_true rfl⟩) hL0 hK0 (by decide) rfl rfl rfl (Nat.le_of_ble_eq_true rfl) dX12_isOrderLine_25 (fun H locs w => ?_)
      refine lv_if_ne (tgt := 42) hx hb dX12_isOrderLine_28 (by decide) (fun k12 => ?_) (fun k12 => ?_)
      · have h := x_f h k12
        exact b_X12_isOrderLine_42 cx hkn hL0 hK0 M9 r2 r5 H locs ls h w (lv_sub hl [2, 1, 0] rfl)
      · have h := x_t h k12
        refine lv_aload_n hx hb dX12_isOrderLine_31 rfl (lv_at hl 2 rfl) ?_
        refine lv_bipush (v := (18 : Int32)) hx hb dX12_isOrderLine_32 (by decide) ?_
        obtain ⟨M13, r14, y15, h⟩ := x_cl h
        refine r_callVi (As := [.int ((18 : Int32))]) (rest := []) cx w hkn hl.1 (k_X12_is hG hL0 hK0 y15) (cwV 1 hts gX12_isOrderLine_X12_is rfl rfl rfl (by decide +kernel) ⟨Nat.le_of_ble_eq_true rfl, Nat.le_of_ble_eq_true rfl⟩) hL0 hK0 (by decide) rfl rfl rfl (Nat.le_of_ble_eq_true rfl) dX12_isOrderLine_34 (fun H locs w => ?_)
        refine lv_if_ne (tgt := 42) hx hb dX12_isOrderLine_37 (by decide) (fun k16 => ?_) (fun k16 => ?_)
        · have h := x_f h k16
          exact b_X12_isOrderLine_42 cx hkn hL0 hK0 M13 r2 r5 H locs ls h w (lv_sub hl [2, 1, 0] rfl)
        · have h := x_t h k16
          refine lv_iconst (v := (0 : Int32)) hx hb dX12_isOrderLine_40 (by decide) ?_
          obtain ⟨z17, h⟩ := x_ck h
          exact r_zret cx w z17 h dX12_isOrderLine_41
-- X12_isPaintLine
theorem wi_X12_isPaintLine_X12 : ∀ w ∈ wsX120, w ∈ wsX12_isPaintLine := by decide +kernel
abbrev rmX12_isPaintLine : Room := { frames := 3, cells := 0, slots := 0, locals := 64 }
def m_X12_isPaintLine_47 (G : gS) (a0 : Nat)  (M : mS)  : Option (mS × Int32) := o_ck ((0 : Int32) = 0 ∨ (0 : Int32) = 1) (some (M, (0 : Int32)))
def m_X12_isPaintLine (G : gS) (M : mS) (a0 : Nat) : Option (mS × Int32) := o_wI M a0 9 ((mI M a0 9) + (1 : Int32)) (fun M1 => o_cl (m_X12_eatAs G M1 a0 (41 : Int32) (7 : Int32)) (fun M2 r3 => (if r3 = 0 then m_X12_isPaintLine_47 G a0 M2 else o_cl (m_X12_eatAs G M2 a0 (41 : Int32) (7 : Int32)) (fun M6 r7 => (if r7 = 0 then m_X12_isPaintLine_47 G a0 M6 else o_cl (m_X12_eatAs G M6 a0 (41 : Int32) (8 : Int32)) (fun M10 r11 => (if r11 = 0 then m_X12_isPaintLine_47 G a0 M10 else o_ck ((1 : Int32) = 0 ∨ (1 : Int32) = 1) (some (M10, (1 : Int32))))))))))
set_option maxHeartbeats 4000000 in
set_option maxRecDepth 100000 in
theorem b_X12_isPaintLine_47 {p : Program} {e : Env} {s : State} {m : MethodId} {args : Array Value} {below : List Frame} {meth : Method} {c : Code} {A : Nat → Prop} {l : Launch} {D : va_G} {cy : cyS} {G : gS} (cx : cX p s m args meth c cX12_isPaintLine RX12 1 (some .boolean) wsX12_isPaintLine D cy G A) {k0 n0 : Nat} (hkn : k0 ≤ (rmX12_isPaintLine).cells ∧ n0 ≤ (rmX12_isPaintLine).slots) {M' : mS} {r : Int32} {a0 : Nat} (hL0 : a0 ∈ gL G) (hK0 : gK G a0 = 11)  : ∀ (M : mS) (H : Heap) (locs : List Loc) (ls : Array Slot), m_X12_isPaintLine_47 G a0 M = some (M', r) → wd D cy G M A s.heap H locs → lv_has ls 1 [] → W p l e rmX12_isPaintLine s m args below meth c H locs k0 n0 (MQ below (va_Qi (fun (r' : Int32) (_ : Unit) => r' = r) (fun _ t => wOut D cy G M' t) A) args s k0 n0 A) (F0 m 47 ls []) := by
  obtain ⟨hx, hb, hml, hown, hts, hr, hlocks, hK, hA, hG, hsx⟩ := id cx
  intro M H locs ls h w hl
  unfold m_X12_isPaintLine_47 at h
  refine lv_iconst (v := (0 : Int32)) hx hb dX12_isPaintLine_47 (by decide) ?_
  obtain ⟨z1, h⟩ := x_ck h
  exact r_zret cx w z1 h dX12_isPaintLine_48
set_option maxHeartbeats 4000000 in
set_option maxRecDepth 100000 in
theorem k_X12_isPaintLine {l : Launch} {D : va_G} {cy : cyS} {G : gS} {M M' : mS} {r : Int32} {a0 : Nat} (hG : wt G) (hL0 : a0 ∈ gL G) (hK0 : gK G a0 = 11) (h : m_X12_isPaintLine G M a0 = some (M', r)) : ctI l yX12_isPaintLine wsX12_isPaintLine rmX12_isPaintLine D cy G M [.ref a0] M' r := by
  unfold m_X12_isPaintLine at h
  refine ctI_of (cc := cX12_isPaintLine) (nL := 1) (ret := (some .boolean)) (lv := [(0, .ref a0)]) hG (by decide) rfl ⟨rfl, rfl⟩ (Nat.le_of_ble_eq_true rfl) rfl ?_
  intro p e s m args below meth c A ls cx w hl
  obtain ⟨hx, hb, hml, hown, hts, hr, hlocks, hK, hA, -, hsx⟩ := id cx
  have hkn : 0 ≤ (rmX12_isPaintLine).cells ∧ 0 ≤ (rmX12_isPaintLine).slots := ⟨Nat.zero_le _, Nat.zero_le _⟩
  refine lv_aload_n hx hb dX12_isPaintLine_0 rfl (lv_at hl 0 rfl) ?_
  refine lv_dup hx hb dX12_isPaintLine_1 rfl ?_
  refine r_getI (k := 9) (v := .int (mI M a0 9)) cx w hL0 hK0 (by decide) rfl wi_X12_isPaintLine_X12 (by decide) rfl (List.mem_of_getElem? (i := 1) rfl) dX12_isPaintLine_2 ?_
  refine lv_iconst (v := (1 : Int32)) hx hb dX12_isPaintLine_5 (by decide) ?_
  refine lv_iadd hx hb dX12_isPaintLine_6 ?_
  obtain ⟨M1, eM1, h⟩ := x_wI h
  refine r_putI (k := 9) (ty := .int) cx w tyX12 tyX12_ok nmX12 hL0 hK0 (by decide) rfl wi_X12_isPaintLine_X12 (by decide) rfl rfl rfl rfl st_11_9 (ln_11 _ _ (by decide)) (List.mem_of_getElem? (i := 1) rfl) dX12_isPaintLine_7 eM1 (fun H locs w => ?_)
  refine lv_aload_n hx hb dX12_isPaintLine_10 rfl (lv_at hl 0 rfl) ?_
  refine lv_bipush (v := (41 : Int32)) hx hb dX12_isPaintLine_11 (by decide) ?_
  refine lv_bipush (v := (7 : Int32)) hx hb dX12_isPaintLine_13 (by decide) ?_
  obtain ⟨M2, r3, y4, h⟩ := x_cl h
  refine r_callVi (As := [.int ((41 : Int32)), .int ((7 : Int32))]) (rest := []) cx w hkn hl.1 (k_X12_eatAs hG hL0 hK0 y4) (cwV 2 hts gX12_isPaintLine_X12_eatAs rfl rfl rfl (by decide +kernel) ⟨Nat.le_of_ble_eq_true rfl, Nat.le_of_ble_eq_true rfl⟩) hL0 hK0 (by decide) rfl rfl rfl (Nat.le_of_ble_eq_true rfl) dX12_isPaintLine_15 (fun H locs w => ?_)
  refine lv_if_eq (tgt := 47) hx hb dX12_isPaintLine_18 (by decide) (fun k5 => ?_) (fun k5 => ?_)
  · have h := x_t h k5
    exact b_X12_isPaintLine_47 cx hkn hL0 hK0 M2 H locs ls h w (lv_sub hl [] rfl)
  · have h := x_f h k5
    refine lv_aload_n hx hb dX12_isPaintLine_21 rfl (lv_at hl 0 rfl) ?_
    refine lv_bipush (v := (41 : Int32)) hx hb dX12_isPaintLine_22 (by decide) ?_
    refine lv_bipush (v := (7 : Int32)) hx hb dX12_isPaintLine_24 (by decide) ?_
    obtain ⟨M6, r7, y8, h⟩ := x_cl h
    refine r_callVi (As := [.int ((41 : Int32)), .int ((7 : Int32))]) (rest := []) cx w hkn hl.1 (k_X12_eatAs hG hL0 hK0 y8) (cwV 2 hts gX12_isPaintLine_X12_eatAs rfl rfl rfl (by decide +kernel) ⟨Nat.le_of_ble_eq_true rfl, Nat.le_of_ble_eq_true rfl⟩) hL0 hK0 (by decide) rfl rfl rfl (Nat.le_of_ble_eq_true rfl) dX12_isPaintLine_26 (fun H locs w => ?_)
    refine lv_if_eq (tgt := 47) hx hb dX12_isPaintLine_29 (by decide) (fun k9 => ?_) (fun k9 => ?_)
    · have h := x_t h k9
      exact b_X12_isPaintLine_47 cx hkn hL0 hK0 M6 H locs ls h w (lv_sub hl [] rfl)
    · have h := x_f h k9
      refine lv_aload_n hx hb dX12_isPaintLine_32 rfl (lv_at hl 0 rfl) ?_
      refine lv_bipush (v := (41 : Int32)) hx hb dX12_isPaintLine_33 (by decide) ?_
      refine lv_bipush (v := (8 : Int32)) hx hb dX12_isPaintLine_35 (by decide) ?_
      obtain ⟨M10, r11, y12, h⟩ := x_cl h
      refine r_callVi (As := [.int ((41 : Int32)), .int ((8 : Int32))]) (rest := []) cx w hkn hl.1 (k_X12_eatAs hG hL0 hK0 y12) (cwV 2 hts gX12_isPaintLine_X12_eatAs rfl rfl rfl (by decide +kernel) ⟨Nat.le_of_ble_eq_true rfl, Nat.le_of_ble_eq_true rfl⟩) hL0 hK0 (by decide) rfl rfl rfl (Nat.le_of_ble_eq_true rfl) dX12_isPaintLine_37 (fun H locs w => ?_)
      refine lv_if_eq (tgt := 47) hx hb dX12_isPaintLine_40 (by decide) (fun k13 => ?_) (fun k13 => ?_)
      · have h := x_t h k13
        exact b_X12_isPaintLine_47 cx hkn hL0 hK0 M10 H locs ls h w (lv_sub hl [] rfl)
      · have h := x_f h k13
        refine lv_iconst (v := (1 : Int32)) hx hb dX12_isPaintLine_43 (by decide) ?_
        refine lv_goto (tgt := 48) hx hb dX12_isPaintLine_44 (by decide) ?_
        obtain ⟨z14, h⟩ := x_ck h
        exact r_zret cx w z14 h dX12_isPaintLine_48
-- X12_isRuleLine
theorem wi_X12_isRuleLine_X12 : ∀ w ∈ wsX120, w ∈ wsX12_isRuleLine := by decide +kernel
abbrev rmX12_isRuleLine : Room := { frames := 3, cells := 0, slots := 0, locals := 67 }
def m_X12_isRuleLine_40 (G : gS) (a0 : Nat)  (M : mS)  : Option (mS × Int32) := o_ck ((0 : Int32) = 0 ∨ (0 : Int32) = 1) (some (M, (0 : Int32)))
def m_X12_isRuleLine_42 (G : gS) (a0 : Nat)  : Nat → mS → Option (mS × Int32)
  | 0, _ => none
  | n + 1, M => o_cl (m_X12_isWordOf G M a0 (1 : Int32) (4 : Int32)) (fun M1 r2 => (if r2 = 0 then o_ck ((1 : Int32) = 0 ∨ (1 : Int32) = 1) (some (M1, (1 : Int32))) else o_cl (m_X12_eatOne G M1 a0 (1 : Int32) (4 : Int32) (3 : Int32)) (fun M6 r7 => m_X12_isRuleLine_42 G a0 n M6)))
def m_X12_isRuleLine (G : gS) (M : mS) (a0 : Nat) : Option (mS × Int32) := o_wI M a0 9 ((mI M a0 9) + (1 : Int32)) (fun M1 => o_cl (m_X12_eatAs G M1 a0 (40 : Int32) (1 : Int32)) (fun M2 r3 => (if r3 = 0 then m_X12_isRuleLine_40 G a0 M2 else o_cl (m_X12_eatOne G M2 a0 (1 : Int32) (4 : Int32) (3 : Int32)) (fun M6 r7 => (if r7 = 0 then m_X12_isRuleLine_40 G a0 M6 else o_cl (m_X12_eatOne G M6 a0 (1 : Int32) (4 : Int32) (3 : Int32)) (fun M10 r11 => (if r11 = 0 then m_X12_isRuleLine_40 G a0 M10 else m_X12_isRuleLine_42 G a0 fu M10)))))))
set_option maxHeartbeats 4000000 in
set_option maxRecDepth 100000 in
theorem b_X12_isRuleLine_40 {p : Program} {e : Env} {s : State} {m : MethodId} {args : Array Value} {below : List Frame} {meth : Method} {c : Code} {A : Nat → Prop} {l : Launch} {D : va_G} {cy : cyS} {G : gS} (cx : cX p s m args meth c cX12_isRuleLine RX12 1 (some .boolean) wsX12_isRuleLine D cy G A) {k0 n0 : Nat} (hkn : k0 ≤ (rmX12_isRuleLine).cells ∧ n0 ≤ (rmX12_isRuleLine).slots) {M' : mS} {r : Int32} {a0 : Nat} (hL0 : a0 ∈ gL G) (hK0 : gK G a0 = 11)  : ∀ (M : mS) (H : Heap) (locs : List Loc) (ls : Array Slot), m_X12_isRuleLine_40 G a0 M = some (M', r) → wd D cy G M A s.heap H locs → lv_has ls 1 [] → W p l e rmX12_isRuleLine s m args below meth c H locs k0 n0 (MQ below (va_Qi (fun (r' : Int32) (_ : Unit) => r' = r) (fun _ t => wOut D cy G M' t) A) args s k0 n0 A) (F0 m 40 ls []) := by
  obtain ⟨hx, hb, hml, hown, hts, hr, hlocks, hK, hA, hG, hsx⟩ := id cx
  intro M H locs ls h w hl
  unfold m_X12_isRuleLine_40 at h
  refine lv_iconst (v := (0 : Int32)) hx hb dX12_isRuleLine_40 (by decide) ?_
  obtain ⟨z1, h⟩ := x_ck h
  exact r_zret cx w z1 h dX12_isRuleLine_41
set_option maxHeartbeats 4000000 in
set_option maxRecDepth 100000 in
theorem b_X12_isRuleLine_42 {p : Program} {e : Env} {s : State} {m : MethodId} {args : Array Value} {below : List Frame} {meth : Method} {c : Code} {A : Nat → Prop} {l : Launch} {D : va_G} {cy : cyS} {G : gS} (cx : cX p s m args meth c cX12_isRuleLine RX12 1 (some .boolean) wsX12_isRuleLine D cy G A) {k0 n0 : Nat} (hkn : k0 ≤ (rmX12_isRuleLine).cells ∧ n0 ≤ (rmX12_isRuleLine).slots) {M' : mS} {r : Int32} {a0 : Nat} (hL0 : a0 ∈ gL G) (hK0 : gK G a0 = 11)  : ∀ (n : Nat), ∀ (M : mS) (H : Heap) (locs : List Loc) (ls : Array Slot), m_X12_isRuleLine_42 G a0 n M = some (M', r) → wd D cy G M A s.heap H locs → lv_has ls 1 [(0, .ref a0)] → W p l e rmX12_isRuleLine s m args below meth c H locs k0 n0 (MQ below (va_Qi (fun (r' : Int32) (_ : Unit) => r' = r) (fun _ t => wOut D cy G M' t) A) args s k0 n0 A) (F0 m 42 ls []) := by
  obtain ⟨hx, hb, hml, hown, hts, hr, hlocks, hK, hA, hG, hsx⟩ := id cx
  intro n
  induction n with
  | zero =>
    intro M H locs ls h w hl
    have h : none = some _ := h
    cases h
  | succ n ih =>
    intro M H locs ls h w hl
    rw [m_X12_isRuleLine_42] at h
    refine lv_aload_n hx hb dX12_isRuleLine_42 rfl (lv_at hl 0 rfl) ?_
    refine lv_iconst (v := (1 : Int32)) hx hb dX12_isRuleLine_43 (by decide) ?_
    refine lv_iconst (v := (4 : Int32)) hx hb dX12_isRuleLine_44 (by decide) ?_
    obtain ⟨M1, r2, y3, h⟩ := x_cl h
    refine r_callVi (As := [.int ((1 : Int32)), .int ((4 : Int32))]) (rest := []) cx w hkn hl.1 (k_X12_isWordOf hG hL0 hK0 y3) (cwV 2 hts gX12_isRuleLine_X12_isWordOf rfl rfl rfl (by decide +kernel) ⟨Nat.le_of_ble_eq_true rfl, Nat.le_of_ble_eq_true rfl⟩) hL0 hK0 (by decide) rfl rfl rfl (Nat.le_of_ble_eq_true rfl) dX12_isRuleLine_45 (fun H locs w => ?_)
    refine lv_if_eq (tgt := 62) hx hb dX12_isRuleLine_48 (by decide) (fun k4 => ?_) (fun k4 => ?_)
    · have h := x_t h k4
      refine lv_iconst (v := (1 : Int32)) hx hb dX12_isRuleLine_62 (by decide) ?_
      obtain ⟨z5, h⟩ := x_ck h
      exact r_zret cx w z5 h dX12_isRuleLine_63
    · have h := x_f h k4
      refine lv_aload_n hx hb dX12_isRuleLine_51 rfl (lv_at hl 0 rfl) ?_
      refine lv_iconst (v := (1 : Int32)) hx hb dX12_isRuleLine_52 (by decide) ?_
      refine lv_iconst (v := (4 : Int32)) hx hb dX12_isRuleLine_53 (by decide) ?_
      refine lv_iconst (v := (3 : Int32)) hx hb dX12_isRuleLine_54 (by decide) ?_
      obtain ⟨M6, r7, y8, h⟩ := x_cl h
      refine r_callVi (As := [.int ((1 : Int32)), .int ((4 : Int32)), .int ((3 : Int32))]) (rest := []) cx w hkn hl.1 (k_X12_eatOne hG hL0 hK0 y8) (cwV 3 hts gX12_isRuleLine_X12_eatOne rfl rfl rfl (by decide +kernel) ⟨Nat.le_of_ble_eq_true rfl, Nat.le_of_ble_eq_true rfl⟩) hL0 hK0 (by decide) rfl rfl rfl (Nat.le_of_ble_eq_true rfl) dX12_isRuleLine_55 (fun H locs w => ?_)
      refine lv_pop hx hb dX12_isRuleLine_58 rfl ?_
      refine lv_goto (tgt := 42) hx hb dX12_isRuleLine_59 (by decide) ?_
      exact ih M6 H locs ls h w (lv_sub hl [0] rfl)
set_option maxHeartbeats 4000000 in
set_option maxRecDepth 100000 in
theorem k_X12_isRuleLine {l : Launch} {D : va_G} {cy : cyS} {G : gS} {M M' : mS} {r : Int32} {a0 : Nat} (hG : wt G) (hL0 : a0 ∈ gL G) (hK0 : gK G a0 = 11) (h : m_X12_isRuleLine G M a0 = some (M', r)) : ctI l yX12_isRuleLine wsX12_isRuleLine rmX12_isRuleLine D cy G M [.ref a0] M' r := by
  unfold m_X12_isRuleLine at h
  refine ctI_of (cc := cX12_isRuleLine) (nL := 1) (ret := (some .boolean)) (lv := [(0, .ref a0)]) hG (by decide) rfl ⟨rfl, rfl⟩ (Nat.le_of_ble_eq_true rfl) rfl ?_
  intro p e s m args below meth c A ls cx w hl
  obtain ⟨hx, hb, hml, hown, hts, hr, hlocks, hK, hA, -, hsx⟩ := id cx
  have hkn : 0 ≤ (rmX12_isRuleLine).cells ∧ 0 ≤ (rmX12_isRuleLine).slots := ⟨Nat.zero_le _, Nat.zero_le _⟩
  refine lv_aload_n hx hb dX12_isRuleLine_0 rfl (lv_at hl 0 rfl) ?_
  refine lv_dup hx hb dX12_isRuleLine_1 rfl ?_
  refine r_getI (k := 9) (v := .int (mI M a0 9)) cx w hL0 hK0 (by decide) rfl wi_X12_isRuleLine_X12 (by decide) rfl (List.mem_of_getElem? (i := 1) rfl) dX12_isRuleLine_2 ?_
  refine lv_iconst (v := (1 : Int32)) hx hb dX12_isRuleLine_5 (by decide) ?_
  refine lv_iadd hx hb dX12_isRuleLine_6 ?_
  obtain ⟨M1, eM1, h⟩ := x_wI h
  refine r_putI (k := 9) (ty := .int) cx w tyX12 tyX12_ok nmX12 hL0 hK0 (by decide) rfl wi_X12_isRuleLine_X12 (by decide) rfl rfl rfl rfl st_11_9 (ln_11 _ _ (by decide)) (List.mem_of_getElem? (i := 1) rfl) dX12_isRuleLine_7 eM1 (fun H locs w => ?_)
  refine lv_aload_n hx hb dX12_isRuleLine_10 rfl (lv_at hl 0 rfl) ?_
  refine lv_bipush (v := (40 : Int32)) hx hb dX12_isRuleLine_11 (by decide) ?_
  refine lv_iconst (v := (1 : Int32)) hx hb dX12_isRuleLine_13 (by decide) ?_
  obtain ⟨M2, r3, y4, h⟩ := x_cl h
  refine r_callVi (As := [.int ((40 : Int32)), .int ((1 : Int32))]) (rest := []) cx w hkn hl.1 (k_X12_eatAs hG hL0 hK0 y4) (cwV 2 hts gX12_isRuleLine_X12_eatAs rfl rfl rfl (by decide +kernel) ⟨Nat.le_of_ble_eq_true rfl, Nat.le_of_ble_eq_true rfl⟩) hL0 hK0 (by decide) rfl rfl rfl (Nat.le_of_ble_eq_true rfl) dX12_isRuleLine_14 (fun H locs w => ?_)
  refine lv_if_eq (tgt := 40) hx hb dX12_isRuleLine_17 (by decide) (fun k5 => ?_) (fun k5 => ?_)
  · have h := x_t h k5
    exact b_X12_isRuleLine_40 cx hkn hL0 hK0 M2 H locs ls h w (lv_sub hl [] rfl)
  · have h := x_f h k5
    refine lv_aload_n hx hb dX12_isRuleLine_20 rfl (lv_at hl 0 rfl) ?_
    refine lv_iconst (v := (1 : Int32)) hx hb dX12_isRuleLine_21 (by decide) ?_
    refine lv_iconst (v := (4 : Int32)) hx hb dX12_isRuleLine_22 (by decide) ?_
    refine lv_iconst (v := (3 : Int32)) hx hb dX12_isRuleLine_23 (by decide) ?_
    obtain ⟨M6, r7, y8, h⟩ := x_cl h
    refine r_callVi (As := [.int ((1 : Int32)), .int ((4 : Int32)), .int ((3 : Int32))]) (rest := []) cx w hkn hl.1 (k_X12_eatOne hG hL0 hK0 y8) (cwV 3 hts gX12_isRuleLine_X12_eatOne rfl rfl rfl (by decide +kernel) ⟨Nat.le_of_ble_eq_true rfl, Nat.le_of_ble_eq_true rfl⟩) hL0 hK0 (by decide) rfl rfl rfl (Nat.le_of_ble_eq_true rfl) dX12_isRuleLine_24 (fun H locs w => ?_)
    refine lv_if_eq (tgt := 40) hx hb dX12_isRuleLine_27 (by decide) (fun k9 => ?_) (fun k9 => ?_)
    · have h := x_t h k9
      exact b_X12_isRuleLine_40 cx hkn hL0 hK0 M6 H locs ls h w (lv_sub hl [] rfl)
    · have h := x_f h k9
      refine lv_aload_n hx hb dX12_isRuleLine_30 rfl (lv_at hl 0 rfl) ?_
      refine lv_iconst (v := (1 : Int32)) hx hb dX12_isRuleLine_31 (by decide) ?_
      refine lv_iconst (v := (4 : Int32)) hx hb dX12_isRuleLine_32 (by decide) ?_
      refine lv_iconst (v := (3 : Int32)) hx hb dX12_isRuleLine_33 (by decide) ?_
      obtain ⟨M10, r11, y12, h⟩ := x_cl h
      refine r_callVi (As := [.int ((1 : Int32)), .int ((4 : Int32)), .int ((3 : Int32))]) (rest := []) cx w hkn hl.1 (k_X12_eatOne hG hL0 hK0 y12) (cwV 3 hts gX12_isRuleLine_X12_eatOne rfl rfl rfl (by decide +kernel) ⟨Nat.le_of_ble_eq_true rfl, Nat.le_of_ble_eq_true rfl⟩) hL0 hK0 (by decide) rfl rfl rfl (Nat.le_of_ble_eq_true rfl) dX12_isRuleLine_34 (fun H locs w => ?_)
      refine lv_if_ne (tgt := 42) hx hb dX12_isRuleLine_37 (by decide) (fun k13 => ?_) (fun k13 => ?_)
      · have h := x_f h k13
        exact b_X12_isRuleLine_42 cx hkn hL0 hK0 fu M10 H locs ls h w (lv_sub hl [0] rfl)
      · have h := x_t h k13
        exact b_X12_isRuleLine_40 cx hkn hL0 hK0 M10 H locs ls h w (lv_sub hl [] rfl)
-- X12_isPlan
abbrev rmX12_isPlan : Room := { frames := 136, cells := 0, slots := 0, locals := 7851 }
def m_X12_isPlan_74 (G : gS) (a0 : Nat)  (M : mS)  : Option (mS × Int32) := o_ck ((0 : Int32) = 0 ∨ (0 : Int32) = 1) (some (M, (0 : Int32)))
def m_X12_isPlan_60 (G : gS) (a0 : Nat) (kb0 : mS → Option (mS × Int32)) (M : mS) (s0 : Int32) : Option (mS × Int32) := (if s0 = 0 then m_X12_isPlan_74 G a0 M else o_cl (m_X12_eatSign G M a0 (59 : Int32)) (fun M2 r3 => (if r3 = 0 then m_X12_isPlan_74 G a0 M2 else kb0 M2)))
def m_X12_isPlan_0 (G : gS) (a0 : Nat)  : Nat → mS → Option (mS × Int32)
  | 0, _ => none
  | n + 1, M => o_cl (m_X12_is G M a0 (900 : Int32)) (fun M1 r2 => (if r2 = 0 then o_cl (m_X12_is G M1 a0 (0 : Int32)) (fun M6 r7 => (if r7 = 0 then o_cl (m_X12_is G M6 a0 (5 : Int32)) (fun M10 r11 => (if r11 = 0 then o_cl (m_X12_is G M10 a0 (13 : Int32)) (fun M14 r15 => (if r15 = 0 then o_cl (m_X12_isOrderLine G M14 a0) (fun M18 r19 => m_X12_isPlan_60 G a0 (fun M => m_X12_isPlan_0 G a0 n M) M18 r19) else o_cl (m_X12_isPaintLine G M14 a0) (fun M21 r22 => m_X12_isPlan_60 G a0 (fun M => m_X12_isPlan_0 G a0 n M) M21 r22))) else o_cl (m_X12_isAntLine G M10 a0) (fun M24 r25 => m_X12_isPlan_60 G a0 (fun M => m_X12_isPlan_0 G a0 n M) M24 r25))) else o_cl (m_X12_isRuleLine G M6 a0) (fun M27 r28 => m_X12_isPlan_60 G a0 (fun M => m_X12_isPlan_0 G a0 n M) M27 r28))) else o_ck ((1 : Int32) = 0 ∨ (1 : Int32) = 1) (some (M1, (1 : Int32)))))
def m_X12_isPlan (G : gS) (M : mS) (a0 : Nat) : Option (mS × Int32) := m_X12_isPlan_0 G a0 fu M
set_option maxHeartbeats 4000000 in
set_option maxRecDepth 100000 in
theorem b_X12_isPlan_74 {p : Program} {e : Env} {s : State} {m : MethodId} {args : Array Value} {below : List Frame} {meth : Method} {c : Code} {A : Nat → Prop} {l : Launch} {D : va_G} {cy : cyS} {G : gS} (cx : cX p s m args meth c cX12_isPlan RX12 2 (some .boolean) wsX12_isPlan D cy G A) {k0 n0 : Nat} (hkn : k0 ≤ (rmX12_isPlan).cells ∧ n0 ≤ (rmX12_isPlan).slots) {M' : mS} {r : Int32} {a0 : Nat} (hL0 : a0 ∈ gL G) (hK0 : gK G a0 = 11)  : ∀ (M : mS) (H : Heap) (locs : List Loc) (ls : Array Slot), m_X12_isPlan_74 G a0 M = some (M', r) → wd D cy G M A s.heap H locs → lv_has ls 2 [] → W p l e rmX12_isPlan s m args below meth c H locs k0 n0 (MQ below (va_Qi (fun (r' : Int32) (_ : Unit) => r' = r) (fun _ t => wOut D cy G M' t) A) args s k0 n0 A) (F0 m 74 ls []) := by
  obtain ⟨hx, hb, hml, hown, hts, hr, hlocks, hK, hA, hG, hsx⟩ := id cx
  intro M H locs ls h w hl
  unfold m_X12_isPlan_74 at h
  refine lv_iconst (v := (0 : Int32)) hx hb dX12_isPlan_74 (by decide) ?_
  obtain ⟨z1, h⟩ := x_ck h
  exact r_zret cx w z1 h dX12_isPlan_75
set_option maxHeartbeats 4000000 in
set_option maxRecDepth 100000 in
theorem b_X12_isPlan_60 {p : Program} {e : Env} {s : State} {m : MethodId} {args : Array Value} {below : List Frame} {meth : Method} {c : Code} {A : Nat → Prop} {l : Launch} {D : va_G} {cy : cyS} {G : gS} (cx : cX p s m args meth c cX12_isPlan RX12 2 (some .boolean) wsX12_isPlan D cy G A) {k0 n0 : Nat} (hkn : k0 ≤ (rmX12_isPlan).cells ∧ n0 ≤ (rmX12_isPlan).slots) {M' : mS} {r : Int32} {a0 : Nat} (hL0 : a0 ∈ gL G) (hK0 : gK G a0 = 11) {kb0 : mS → Option (mS × Int32)} (hkb0 : ∀ (M : mS) (H : Heap) (locs : List Loc) (ls : Array Slot), kb0 M = some (M', r) → wd D cy G M A s.heap H locs → lv_has ls 2 [(0, .ref a0)] → W p l e rmX12_isPlan s m args below meth c H locs k0 n0 (MQ below (va_Qi (fun (r' : Int32) (_ : Unit) => r' = r) (fun _ t => wOut D cy G M' t) A) args s k0 n0 A) (F0 m 0 ls [])) : ∀ (M : mS) (s0 : Int32) (H : Heap) (locs : List Loc) (ls : Array Slot), m_X12_isPlan_60 G a0 kb0 M s0 = some (M', r) → wd D cy G M A s.heap H locs → lv_has ls 2 [(0, .ref a0)] → W p l e rmX12_isPlan s m args below meth c H locs k0 n0 (MQ below (va_Qi (fun (r' : Int32) (_ : Unit) => r' = r) (fun _ t => wOut D cy G M' t) A) args s k0 n0 A) (F0 m 60 ls [.int s0]) := by
  obtain ⟨hx, hb, hml, hown, hts, hr, hlocks, hK, hA, hG, hsx⟩ := id cx
  intro M s0 H locs ls h w hl
  unfold m_X12_isPlan_60 at h
  refine lv_istore_n (lv' := [(1, .int s0), (0, .ref a0)]) hx hb dX12_isPlan_60 rfl hl (by decide) rfl (fun ls hl => ?_)
  refine lv_iload_n hx hb dX12_isPlan_61 rfl (lv_at hl 0 rfl) ?_
  refine lv_if_eq (tgt := 74) hx hb dX12_isPlan_62 (by decide) (fun k1 => ?_) (fun k1 => ?_)
  · have h := x_t h k1
    exact b_X12_isPlan_74 cx hkn hL0 hK0 M H locs ls h w (lv_sub hl [] rfl)
  · have h := x_f h k1
    refine lv_aload_n hx hb dX12_isPlan_65 rfl (lv_at hl 1 rfl) ?_
    refine lv_bipush (v := (59 : Int32)) hx hb dX12_isPlan_66 (by decide) ?_
    obtain ⟨M2, r3, y4, h⟩ := x_cl h
    refine r_callVi (As := [.int ((59 : Int32))]) (rest := []) cx w hkn hl.1 (k_X12_eatSign hG hL0 hK0 y4) (cwV 1 hts gX12_isPlan_X12_eatSign rfl rfl rfl (by decide +kernel) ⟨Nat.le_of_ble_eq_true rfl, Nat.le_of_ble_eq_true rfl⟩) hL0 hK0 (by decide) rfl rfl rfl (Nat.le_of_ble_eq_true rfl) dX12_isPlan_68 (fun H locs w => ?_)
    refine lv_if_ne (tgt := 76) hx hb dX12_isPlan_71 (by decide) (fun k5 => ?_) (fun k5 => ?_)
    · have h := x_f h k5
      refine lv_goto (tgt := 0) hx hb dX12_isPlan_76 (by decide) ?_
      exact hkb0 M2 H locs ls h w (lv_sub hl [1] rfl)
    · have h := x_t h k5
      exact b_X12_isPlan_74 cx hkn hL0 hK0 M2 H locs ls h w (lv_sub hl [] rfl)
set_option maxHeartbeats 4000000 in
set_option maxRecDepth 100000 in
theorem b_X12_isPlan_0 {p : Program} {e : Env} {s : State} {m : MethodId} {args : Array Value} {below : List Frame} {meth : Method} {c : Code} {A : Nat → Prop} {l : Launch} {D : va_G} {cy : cyS} {G : gS} (cx : cX p s m args meth c cX12_isPlan RX12 2 (some .boolean) wsX12_isPlan D cy G A) {k0 n0 : Nat} (hkn : k0 ≤ (rmX12_isPlan).cells ∧ n0 ≤ (rmX12_isPlan).slots) {M' : mS} {r : Int32} {a0 : Nat} (hL0 : a0 ∈ gL G) (hK0 : gK G a0 = 11)  : ∀ (n : Nat), ∀ (M : mS) (H : Heap) (locs : List Loc) (ls : Array Slot), m_X12_isPlan_0 G a0 n M = some (M', r) → wd D cy G M A s.heap H locs → lv_has ls 2 [(0, .ref a0)] → W p l e rmX12_isPlan s m args below meth c H locs k0 n0 (MQ below (va_Qi (fun (r' : Int32) (_ : Unit) => r' = r) (fun _ t => wOut D cy G M' t) A) args s k0 n0 A) (F0 m 0 ls []) := by
  obtain ⟨hx, hb, hml, hown, hts, hr, hlocks, hK, hA, hG, hsx⟩ := id cx
  intro n
  induction n with
  | zero =>
    intro M H locs ls h w hl
    have h : none = some _ := h
    cases h
  | succ n ih =>
    intro M H locs ls h w hl
    rw [m_X12_isPlan_0] at h
    refine lv_aload_n hx hb dX12_isPlan_0 rfl (lv_at hl 0 rfl) ?_
    refine lv_sipush (v := (900 : Int32)) hx hb dX12_isPlan_1 (by decide) ?_
    obtain ⟨M1, r2, y3, h⟩ := x_cl h
    refine r_callVi (As := [.int ((900 : Int32))]) (rest := []) cx w hkn hl.1 (k_X12_is hG hL0 hK0 y3) (cwV 1 hts gX12_isPlan_X12_is rfl rfl rfl (by decide +kernel) ⟨Nat.le_of_ble_eq_true rfl, Nat.le_of_ble_eq_true rfl⟩) hL0 hK0 (by decide) rfl rfl rfl (Nat.le_of_ble_eq_true rfl) dX12_isPlan_4 (fun H locs w => ?_)
    refine lv_if_ne (tgt := 79) hx hb dX12_isPlan_7 (by decide) (fun k4 => ?_) (fun k4 => ?_)
    · have h := x_f h k4
      refine lv_iconst (v := (1 : Int32)) hx hb dX12_isPlan_79 (by decide) ?_
      obtain ⟨z5, h⟩ := x_ck h
      exact r_zret cx w z5 h dX12_isPlan_80
    · have h := x_t h k4
      refine lv_aload_n hx hb dX12_isPlan_10 rfl (lv_at hl 0 rfl) ?_
      refine lv_iconst (v := (0 : Int32)) hx hb dX12_isPlan_11 (by decide) ?_
      obtain ⟨M6, r7, y8, h⟩ := x_cl h
      refine r_callVi (As := [.int ((0 : Int32))]) (rest := []) cx w hkn hl.1 (k_X12_is hG hL0 hK0 y8) (cwV 1 hts gX12_isPlan_X12_is rfl rfl rfl (by decide +kernel) ⟨Nat.le_of_ble_eq_true rfl, Nat.le_of_ble_eq_true rfl⟩) hL0 hK0 (by decide) rfl rfl rfl (Nat.le_of_ble_eq_true rfl) dX12_isPlan_12 (fun H locs w => ?_)
      refine lv_if_eq (tgt := 25) hx hb dX12_isPlan_15 (by decide) (fun k9 => ?_) (fun k9 => ?_)
      · have h := x_t h k9
        refine lv_aload_n hx hb dX12_isPlan_25 rfl (lv_at hl 0 rfl) ?_
        refine lv_iconst (v := (5 : Int32)) hx hb dX12_isPlan_26 (by decide) ?_
        obtain ⟨M10, r11, y12, h⟩ := x_cl h
        refine r_callVi (As := [.int ((5 : Int32))]) (rest := []) cx w hkn hl.1 (k_X12_is hG hL0 hK0 y12) (cwV 1 hts gX12_isPlan_X12_is rfl rfl rfl (by decide +kernel) ⟨Nat.le_of_ble_eq_true rfl, Nat.le_of_ble_eq_true rfl⟩) hL0 hK0 (by decide) rfl rfl rfl (Nat.le_of_ble_eq_true rfl) dX12_isPlan_27 (fun H locs w => ?_)
        refine lv_if_eq (tgt := 40) hx hb dX12_isPlan_30 (by decide) (fun k13 => ?_) (fun k13 => ?_)
        · have h := x_t h k13
          refine lv_aload_n hx hb dX12_isPlan_40 rfl (lv_at hl 0 rfl) ?_
          refine lv_bipush (v := (13 : Int32)) hx hb dX12_isPlan_41 (by decide) ?_
          obtain ⟨M14, r15, y16, h⟩ := x_cl h
          refine r_callVi (As := [.int ((13 : Int32))]) (rest := []) cx w hkn hl.1 (k_X12_is hG hL0 hK0 y16) (cwV 1 hts gX12_isPlan_X12_is rfl rfl rfl (by decide +kernel) ⟨Nat.le_of_ble_eq_true rfl, Nat.le_of_ble_eq_true rfl⟩) hL0 hK0 (by decide) rfl rfl rfl (Nat.le_of_ble_eq_true rfl) dX12_isPlan_43 (fun H locs w => ?_)
          refine lv_if_eq (tgt := 56) hx hb dX12_isPlan_46 (by decide) (fun k17 => ?_) (fun k17 => ?_)
          · have h := x_t h k17
            refine lv_aload_n hx hb dX12_isPlan_56 rfl (lv_at hl 0 rfl) ?_
            obtain ⟨M18, r19, y20, h⟩ := x_cl h
            refine r_callVi (As := []) (rest := []) cx w hkn hl.1 (k_X12_isOrderLine hG hL0 hK0 y20) (cwV 0 hts gX12_isPlan_X12_isOrderLine rfl rfl rfl (by decide +kernel) ⟨Nat.le_of_ble_eq_true rfl, Nat.le_of_ble_eq_true rfl⟩) hL0 hK0 (by decide) rfl rfl rfl (Nat.le_of_ble_eq_true rfl) dX12_isPlan_57 (fun H locs w => ?_)
            exact b_X12_isPlan_60 cx hkn hL0 hK0 (hkb0 := ih) M18 r19 H locs ls h w (lv_sub hl [0] rfl)
          · have h := x_f h k17
            refine lv_aload_n hx hb dX12_isPlan_49 rfl (lv_at hl 0 rfl) ?_
            obtain ⟨M21, r22, y23, h⟩ := x_cl h
            refine r_callVi (As := []) (rest := []) cx w hkn hl.1 (k_X12_isPaintLine hG hL0 hK0 y23) (cwV 0 hts gX12_isPlan_X12_isPaintLine rfl rfl rfl (by decide +kernel) ⟨Nat.le_of_ble_eq_true rfl, Nat.le_of_ble_eq_true rfl⟩) hL0 hK0 (by decide) rfl rfl rfl (Nat.le_of_ble_eq_true rfl) dX12_isPlan_50 (fun H locs w => ?_)
            refine lv_goto (tgt := 60) hx hb dX12_isPlan_53 (by decide) ?_
            exact b_X12_isPlan_60 cx hkn hL0 hK0 (hkb0 := ih) M21 r22 H locs ls h w (lv_sub hl [0] rfl)
        · have h := x_f h k13
          refine lv_aload_n hx hb dX12_isPlan_33 rfl (lv_at hl 0 rfl) ?_
          obtain ⟨M24, r25, y26, h⟩ := x_cl h
          refine r_callVi (As := []) (rest := []) cx w hkn hl.1 (k_X12_isAntLine hG hL0 hK0 y26) (cwV 0 hts gX12_isPlan_X12_isAntLine rfl rfl rfl (by decide +kernel) ⟨Nat.le_of_ble_eq_true rfl, Nat.le_of_ble_eq_true rfl⟩) hL0 hK0 (by decide) rfl rfl rfl (Nat.le_of_ble_eq_true rfl) dX12_isPlan_34 (fun H locs w => ?_)
          refine lv_goto (tgt := 60) hx hb dX12_isPlan_37 (by decide) ?_
          exact b_X12_isPlan_60 cx hkn hL0 hK0 (hkb0 := ih) M24 r25 H locs ls h w (lv_sub hl [0] rfl)
      · have h := x_f h k9
        refine lv_aload_n hx hb dX12_isPlan_18 rfl (lv_at hl 0 rfl) ?_
        obtain ⟨M27, r28, y29, h⟩ := x_cl h
        refine r_callVi (As := []) (rest := []) cx w hkn hl.1 (k_X12_isRuleLine hG hL0 hK0 y29) (cwV 0 hts gX12_isPlan_X12_isRuleLine rfl rfl rfl (by decide +kernel) ⟨Nat.le_of_ble_eq_true rfl, Nat.le_of_ble_eq_true rfl⟩) hL0 hK0 (by decide) rfl rfl rfl (Nat.le_of_ble_eq_true rfl) dX12_isPlan_19 (fun H locs w => ?_)
        refine lv_goto (tgt := 60) hx hb dX12_isPlan_22 (by decide) ?_
        exact b_X12_isPlan_60 cx hkn hL0 hK0 (hkb0 := ih) M27 r28 H locs ls h w (lv_sub hl [0] rfl)
set_option maxHeartbeats 4000000 in
set_option maxRecDepth 100000 in
theorem k_X12_isPlan {l : Launch} {D : va_G} {cy : cyS} {G : gS} {M M' : mS} {r : Int32} {a0 : Nat} (hG : wt G) (hL0 : a0 ∈ gL G) (hK0 : gK G a0 = 11) (h : m_X12_isPlan G M a0 = some (M', r)) : ctI l yX12_isPlan wsX12_isPlan rmX12_isPlan D cy G M [.ref a0] M' r := by
  unfold m_X12_isPlan at h
  refine ctI_of (cc := cX12_isPlan) (nL := 2) (ret := (some .boolean)) (lv := [(0, .ref a0)]) hG (by decide) rfl ⟨rfl, rfl⟩ (Nat.le_of_ble_eq_true rfl) rfl ?_
  intro p e s m args below meth c A ls cx w hl
  obtain ⟨hx, hb, hml, hown, hts, hr, hlocks, hK, hA, -, hsx⟩ := id cx
  have hkn : 0 ≤ (rmX12_isPlan).cells ∧ 0 ≤ (rmX12_isPlan).slots := ⟨Nat.zero_le _, Nat.zero_le _⟩
  exact b_X12_isPlan_0 cx hkn hL0 hK0 fu M s.heap [] ls h w (lv_sub hl [0] rfl)
-- X12_isStone
abbrev rmX12_isStone : Room := { frames := 1, cells := 0, slots := 0, locals := 22 }
def m_X12_isStone_24 (G : gS) (c0 : Int32) (c1 : Int32)  (M : mS)  : Option (mS × Int32) := o_ck ((0 : Int32) = 0 ∨ (0 : Int32) = 1) (some (M, (0 : Int32)))
def m_X12_isStone (G : gS) (M : mS) (c0 : Int32) (c1 : Int32) : Option (mS × Int32) := o_cl (m_X12_isIn G M c0 (0 : Int32) (63 : Int32)) (fun M1 r2 => (if r2 = 0 then m_X12_isStone_24 G c0 c1 M1 else o_cl (m_X12_isIn G M1 c1 (0 : Int32) (63 : Int32)) (fun M5 r6 => (if r6 = 0 then m_X12_isStone_24 G c0 c1 M5 else o_ck ((1 : Int32) = 0 ∨ (1 : Int32) = 1) (some (M5, (1 : Int32)))))))
set_option maxHeartbeats 4000000 in
set_option maxRecDepth 100000 in
theorem b_X12_isStone_24 {p : Program} {e : Env} {s : State} {m : MethodId} {args : Array Value} {below : List Frame} {meth : Method} {c : Code} {A : Nat → Prop} {l : Launch} {D : va_G} {cy : cyS} {G : gS} (cx : cX p s m args meth c cX12_isStone RX12 2 (some .boolean) wsX12_isStone D cy G A) {k0 n0 : Nat} (hkn : k0 ≤ (rmX12_isStone).cells ∧ n0 ≤ (rmX12_isStone).slots) {M' : mS} {r : Int32} {c0 : Int32} {c1 : Int32}   : ∀ (M : mS) (H : Heap) (locs : List Loc) (ls : Array Slot), m_X12_isStone_24 G c0 c1 M = some (M', r) → wd D cy G M A s.heap H locs → lv_has ls 2 [] → W p l e rmX12_isStone s m args below meth c H locs k0 n0 (MQ below (va_Qi (fun (r' : Int32) (_ : Unit) => r' = r) (fun _ t => wOut D cy G M' t) A) args s k0 n0 A) (F0 m 24 ls []) := by
  obtain ⟨hx, hb, hml, hown, hts, hr, hlocks, hK, hA, hG, hsx⟩ := id cx
  intro M H locs ls h w hl
  unfold m_X12_isStone_24 at h
  refine lv_iconst (v := (0 : Int32)) hx hb dX12_isStone_24 (by decide) ?_
  obtain ⟨z1, h⟩ := x_ck h
  exact r_zret cx w z1 h dX12_isStone_25
set_option maxHeartbeats 4000000 in
set_option maxRecDepth 100000 in
theorem k_X12_isStone {l : Launch} {D : va_G} {cy : cyS} {G : gS} {M M' : mS} {r : Int32} {c0 : Int32} {c1 : Int32} (hG : wt G)  (h : m_X12_isStone G M c0 c1 = some (M', r)) : ctI l yX12_isStone wsX12_isStone rmX12_isStone D cy G M [.int c0, .int c1] M' r := by
  unfold m_X12_isStone at h
  refine ctI_of (cc := cX12_isStone) (nL := 2) (ret := (some .boolean)) (lv := [(0, .int c0), (1, .int c1)]) hG (by decide) rfl ⟨rfl, rfl⟩ (Nat.le_of_ble_eq_true rfl) rfl ?_
  intro p e s m args below meth c A ls cx w hl
  obtain ⟨hx, hb, hml, hown, hts, hr, hlocks, hK, hA, -, hsx⟩ := id cx
  have hkn : 0 ≤ (rmX12_isStone).cells ∧ 0 ≤ (rmX12_isStone).slots := ⟨Nat.zero_le _, Nat.zero_le _⟩
  refine lv_iload_n hx hb dX12_isStone_0 rfl (lv_at hl 0 rfl) ?_
  refine lv_iconst (v := (0 : Int32)) hx hb dX12_isStone_1 (by decide) ?_
  refine lv_bipush (v := (63 : Int32)) hx hb dX12_isStone_2 (by decide) ?_
  obtain ⟨M1, r2, y3, h⟩ := x_cl h
  refine r_callSi (As := [.int c0, .int ((0 : Int32)), .int ((63 : Int32))]) (rest := []) cx w hkn hl.1 (k_X12_isIn hG y3) (va_cwS 3 hts gX12_isStone_X12_isIn rfl rfl rfl (by decide +kernel) ⟨Nat.le_of_ble_eq_true rfl, Nat.le_of_ble_eq_true rfl⟩) rfl rfl (Nat.le_of_ble_eq_true rfl) dX12_isStone_4 (fun H locs w => ?_)
  refine lv_if_eq (tgt := 24) hx hb dX12_isStone_7 (by decide) (fun k4 => ?_) (fun k4 => ?_)
  · have h := x_t h k4
    exact b_X12_isStone_24 cx hkn M1 H locs ls h w (lv_sub hl [] rfl)
  · have h := x_f h k4
    refine lv_iload_n hx hb dX12_isStone_10 rfl (lv_at hl 1 rfl) ?_
    refine lv_iconst (v := (0 : Int32)) hx hb dX12_isStone_11 (by decide) ?_
    refine lv_bipush (v := (63 : Int32)) hx hb dX12_isStone_12 (by decide) ?_
    obtain ⟨M5, r6, y7, h⟩ := x_cl h
    refine r_callSi (As := [.int c1, .int ((0 : Int32)), .int ((63 : Int32))]) (rest := []) cx w hkn hl.1 (k_X12_isIn hG y7) (va_cwS 3 hts gX12_isStone_X12_isIn rfl rfl rfl (by decide +kernel) ⟨Nat.le_of_ble_eq_true rfl, Nat.le_of_ble_eq_true rfl⟩) rfl rfl (Nat.le_of_ble_eq_true rfl) dX12_isStone_14 (fun H locs w => ?_)
    refine lv_if_eq (tgt := 24) hx hb dX12_isStone_17 (by decide) (fun k8 => ?_) (fun k8 => ?_)
    · have h := x_t h k8
      exact b_X12_isStone_24 cx hkn M5 H locs ls h w (lv_sub hl [] rfl)
    · have h := x_f h k8
      refine lv_iconst (v := (1 : Int32)) hx hb dX12_isStone_20 (by decide) ?_
      refine lv_goto (tgt := 25) hx hb dX12_isStone_21 (by decide) ?_
      obtain ⟨z9, h⟩ := x_ck h
      exact r_zret cx w z9 h dX12_isStone_25
-- X12_paint
theorem wi_X12_paint_X11 : ∀ w ∈ wsX110, w ∈ wsX12_paint := by decide +kernel
theorem wi_X12_paint_X12 : ∀ w ∈ wsX120, w ∈ wsX12_paint := by decide +kernel
abbrev rmX12_paint : Room := { frames := 2, cells := 0, slots := 0, locals := 43 }
def m_X12_paint (G : gS) (M : mS) (a0 : Nat) (c1 : Int32) (c2 : Int32) (c3 : Int32) : Option (mS × Int32) := o_wI M a0 0 (0 : Int32) (fun M1 => o_cl (m_X12_isStone G M1 c1 c2) (fun M2 r3 => (if r3 = 0 then o_cl (m_X12_no G M2 a0 (1 : Int32)) (fun M21 r22 => some (M21, r22)) else o_cl (m_X12_isIn G M2 c3 (0 : Int32) (5 : Int32)) (fun M6 r7 => (if r7 = 0 then o_cl (m_X12_no G M6 a0 (2 : Int32)) (fun M18 r19 => some (M18, r19)) else o_rf (gP G a0 13) (fun q10 => o_rf (gP G q10 4) (fun q11 => o_ix (((64 : Int32) * c2) + c1) (gN G q11) (o_bd ((mI M6 q11 (Int32.toNatClampNeg (((64 : Int32) * c2) + c1)))) (fun x13 => o_rf (gP G a0 13) (fun q14 => o_cl (m_X11_paint G M6 q14 (((64 : Int32) * c2) + c1) c3) (fun M15 r16 => some (M15, x13))))))))))))
set_option maxHeartbeats 4000000 in
set_option maxRecDepth 100000 in
theorem k_X12_paint {l : Launch} {D : va_G} {cy : cyS} {G : gS} {M M' : mS} {r : Int32} {a0 : Nat} {c1 : Int32} {c2 : Int32} {c3 : Int32} (hG : wt G) (hL0 : a0 ∈ gL G) (hK0 : gK G a0 = 11) (h : m_X12_paint G M a0 c1 c2 c3 = some (M', r)) : ctI l yX12_paint wsX12_paint rmX12_paint D cy G M [.ref a0, .int c1, .int c2, .int c3] M' r := by
  unfold m_X12_paint at h
  refine ctI_of (cc := cX12_paint) (nL := 5) (ret := (some .int)) (lv := [(0, .ref a0), (1, .int c1), (2, .int c2), (3, .int c3)]) hG (by decide) rfl ⟨rfl, rfl⟩ (Nat.le_of_ble_eq_true rfl) rfl ?_
  intro p e s m args below meth c A ls cx w hl
  obtain ⟨hx, hb, hml, hown, hts, hr, hlocks, hK, hA, -, hsx⟩ := id cx
  have hkn : 0 ≤ (rmX12_paint).cells ∧ 0 ≤ (rmX12_paint).slots := ⟨Nat.zero_le _, Nat.zero_le _⟩
  refine lv_aload_n hx hb dX12_paint_0 rfl (lv_at hl 0 rfl) ?_
  refine lv_iconst (v := (0 : Int32)) hx hb dX12_paint_1 (by decide) ?_
  obtain ⟨M1, eM1, h⟩ := x_wI h
  refine r_putI (k := 0) (ty := .int) cx w tyX12 tyX12_ok nmX12 hL0 hK0 (by decide) rfl wi_X12_paint_X12 (by decide) rfl rfl rfl rfl st_11_0 (ln_11 _ _ (by decide)) (List.mem_of_getElem? (i := 1) rfl) dX12_paint_2 eM1 (fun H locs w => ?_)
  refine lv_iload_n hx hb dX12_paint_5 rfl (lv_at hl 1 rfl) ?_
  refine lv_iload_n hx hb dX12_paint_6 rfl (lv_at hl 2 rfl) ?_
  obtain ⟨M2, r3, y4, h⟩ := x_cl h
  refine r_callSi (As := [.int c1, .int c2]) (rest := []) cx w hkn hl.1 (k_X12_isStone hG y4) (va_cwS 2 hts gX12_paint_X12_isStone rfl rfl rfl (by decide +kernel) ⟨Nat.le_of_ble_eq_true rfl, Nat.le_of_ble_eq_true rfl⟩) rfl rfl (Nat.le_of_ble_eq_true rfl) dX12_paint_7 (fun H locs w => ?_)
  refine lv_if_ne (tgt := 19) hx hb dX12_paint_10 (by decide) (fun k5 => ?_) (fun k5 => ?_)
  · have h := x_f h k5
    refine lv_iload_n hx hb dX12_paint_19 rfl (lv_at hl 3 rfl) ?_
    refine lv_iconst (v := (0 : Int32)) hx hb dX12_paint_20 (by decide) ?_
    refine lv_iconst (v := (5 : Int32)) hx hb dX12_paint_21 (by decide) ?_
    obtain ⟨M6, r7, y8, h⟩ := x_cl h
    refine r_callSi (As := [.int c3, .int ((0 : Int32)), .int ((5 : Int32))]) (rest := []) cx w hkn hl.1 (k_X12_isIn hG y8) (va_cwS 3 hts gX12_paint_X12_isIn rfl rfl rfl (by decide +kernel) ⟨Nat.le_of_ble_eq_true rfl, Nat.le_of_ble_eq_true rfl⟩) rfl rfl (Nat.le_of_ble_eq_true rfl) dX12_paint_22 (fun H locs w => ?_)
    refine lv_if_ne (tgt := 34) hx hb dX12_paint_25 (by decide) (fun k9 => ?_) (fun k9 => ?_)
    · have h := x_f h k9
      refine lv_aload_n hx hb dX12_paint_34 rfl (lv_at hl 0 rfl) ?_
      obtain ⟨q10, eq10, h⟩ := x_rf h
      obtain ⟨hLq10, hKq10⟩ := wt_q hG hL0 hK0 eq10
      have hKq10 : gK G q10 = 10 := hKq10
      refine r_getR (k := 13) cx w hL0 hK0 (by decide) rfl wi_X12_paint_X12 (by decide) rfl eq10 (List.mem_of_getElem? (i := 2) rfl) dX12_paint_35 ?_
      obtain ⟨q11, eq11, h⟩ := x_rf h
      obtain ⟨hLq11, hKq11⟩ := wt_q hG hLq10 hKq10 eq11
      have hKq11 : gK G q11 = 12 := hKq11
      refine r_getRN (k := 4) cx w hLq10 hKq10 (by decide) rfl wi_X12_paint_X11 (by decide) rfl eq11 (nwF cx (q := (RX12, 321, "FlagAntsModel$State", "colours", "[I", "FlagAntsModel")) (List.mem_of_getElem? (i := 23) rfl)) dX12_paint_38 ?_
      refine lv_bipush (v := (64 : Int32)) hx hb dX12_paint_41 (by decide) ?_
      refine lv_iload_n hx hb dX12_paint_43 rfl (lv_at hl 2 rfl) ?_
      refine lv_imul hx hb dX12_paint_44 ?_
      refine lv_iload_n hx hb dX12_paint_45 rfl (lv_at hl 1 rfl) ?_
      refine lv_iadd hx hb dX12_paint_46 ?_
      obtain ⟨z12, h⟩ := x_ix h
      refine r_iald cx w hLq11 hKq11 z12 dX12_paint_47 ?_
      obtain ⟨x13, ex13, h⟩ := x_bd h
      refine r_topI ex13 ?_
      refine lv_istore (lv' := [(4, .int x13), (0, .ref a0), (1, .int c1), (2, .int c2), (3, .int c3)]) hx hb dX12_paint_48 hl (by decide) rfl (fun ls hl => ?_)
      refine lv_aload_n hx hb dX12_paint_50 rfl (lv_at hl 1 rfl) ?_
      obtain ⟨q14, eq14, h⟩ := x_rf h
      obtain ⟨hLq14, hKq14⟩ := wt_q hG hL0 hK0 eq14
      have hKq14 : gK G q14 = 10 := hKq14
      refine r_getR (k := 13) cx w hL0 hK0 (by decide) rfl wi_X12_paint_X12 (by decide) rfl eq14 (List.mem_of_getElem? (i := 2) rfl) dX12_paint_51 ?_
      refine lv_bipush (v := (64 : Int32)) hx hb dX12_paint_54 (by decide) ?_
      refine lv_iload_n hx hb dX12_paint_56 rfl (lv_at hl 3 rfl) ?_
      refine lv_imul hx hb dX12_paint_57 ?_
      refine lv_iload_n hx hb dX12_paint_58 rfl (lv_at hl 2 rfl) ?_
      refine lv_iadd hx hb dX12_paint_59 ?_
      refine lv_iload_n hx hb dX12_paint_60 rfl (lv_at hl 4 rfl) ?_
      obtain ⟨M15, r16, y17, h⟩ := x_cl h
      refine r_callVv (As := [.int ((((64 : Int32) * c2) + c1)), .int c3]) (rest := []) cx w hkn hl.1 (k_X11_paint hG hLq14 hKq14 y17) (cwV 2 hts gX12_paint_X11_paint rfl rfl rfl (by decide +kernel) ⟨Nat.le_of_ble_eq_true rfl, Nat.le_of_ble_eq_true rfl⟩) hLq14 hKq14 (by decide) rfl rfl rfl (Nat.le_of_ble_eq_true rfl) dX12_paint_61 (fun H locs w => ?_)
      refine lv_iload hx hb dX12_paint_64 (lv_at hl 0 rfl) ?_
      exact r_iret cx w h dX12_paint_66
    · have h := x_t h k9
      refine lv_aload_n hx hb dX12_paint_28 rfl (lv_at hl 0 rfl) ?_
      refine lv_iconst (v := (2 : Int32)) hx hb dX12_paint_29 (by decide) ?_
      obtain ⟨M18, r19, y20, h⟩ := x_cl h
      refine r_callVi (As := [.int ((2 : Int32))]) (rest := []) cx w hkn hl.1 (k_X12_no hG hL0 hK0 y20) (cwV 1 hts gX12_paint_X12_no rfl rfl rfl (by decide +kernel) ⟨Nat.le_of_ble_eq_true rfl, Nat.le_of_ble_eq_true rfl⟩) hL0 hK0 (by decide) rfl rfl rfl (Nat.le_of_ble_eq_true rfl) dX12_paint_30 (fun H locs w => ?_)
      exact r_iret cx w h dX12_paint_33
  · have h := x_t h k5
    refine lv_aload_n hx hb dX12_paint_13 rfl (lv_at hl 0 rfl) ?_
    refine lv_iconst (v := (1 : Int32)) hx hb dX12_paint_14 (by decide) ?_
    obtain ⟨M21, r22, y23, h⟩ := x_cl h
    refine r_callVi (As := [.int ((1 : Int32))]) (rest := []) cx w hkn hl.1 (k_X12_no hG hL0 hK0 y23) (cwV 1 hts gX12_paint_X12_no rfl rfl rfl (by decide +kernel) ⟨Nat.le_of_ble_eq_true rfl, Nat.le_of_ble_eq_true rfl⟩) hL0 hK0 (by decide) rfl rfl rfl (Nat.le_of_ble_eq_true rfl) dX12_paint_15 (fun H locs w => ?_)
    exact r_iret cx w h dX12_paint_18
-- X12_pass
theorem wi_X12_pass_X12 : ∀ w ∈ wsX120, w ∈ wsX12_pass := by decide +kernel
abbrev rmX12_pass : Room := { frames := 6, cells := 0, slots := 0, locals := 151 }
def m_X12_pass (G : gS) (M : mS) (a0 : Nat) (c1 : Int32) : Option (mS × Int32) := o_wI M a0 0 (0 : Int32) (fun M1 => o_cl (m_X12_isIn G M1 c1 (1 : Int32) (1000 : Int32)) (fun M2 r3 => (if r3 = 0 then o_cl (m_X12_no G M2 a0 (1 : Int32)) (fun M18 r19 => some (M18, r19)) else o_rf (gP G a0 13) (fun q6 => o_cl (m_X11_dark G M2 q6) (fun M7 r8 => o_rf (gP G a0 13) (fun q10 => o_cl (m_X11_pass_ G M7 q10 c1) (fun M11 r12 => o_ck (r12 ∈ gL G ∧ gK G r12 = 10) (o_cl (m_X11_dark G M11 r12) (fun M15 r16 => some (M15, (r16 - r8)))))))))))
set_option maxHeartbeats 4000000 in
set_option maxRecDepth 100000 in
theorem k_X12_pass {l : Launch} {D : va_G} {cy : cyS} {G : gS} {M M' : mS} {r : Int32} {a0 : Nat} {c1 : Int32} (hG : wt G) (hL0 : a0 ∈ gL G) (hK0 : gK G a0 = 11) (h : m_X12_pass G M a0 c1 = some (M', r)) : ctI l yX12_pass wsX12_pass rmX12_pass D cy G M [.ref a0, .int c1] M' r := by
  unfold m_X12_pass at h
  refine ctI_of (cc := cX12_pass) (nL := 3) (ret := (some .int)) (lv := [(0, .ref a0), (1, .int c1)]) hG (by decide) rfl ⟨rfl, rfl⟩ (Nat.le_of_ble_eq_true rfl) rfl ?_
  intro p e s m args below meth c A ls cx w hl
  obtain ⟨hx, hb, hml, hown, hts, hr, hlocks, hK, hA, -, hsx⟩ := id cx
  have hkn : 0 ≤ (rmX12_pass).cells ∧ 0 ≤ (rmX12_pass).slots := ⟨Nat.zero_le _, Nat.zero_le _⟩
  refine lv_aload_n hx hb dX12_pass_0 rfl (lv_at hl 0 rfl) ?_
  refine lv_iconst (v := (0 : Int32)) hx hb dX12_pass_1 (by decide) ?_
  obtain ⟨M1, eM1, h⟩ := x_wI h
  refine r_putI (k := 0) (ty := .int) cx w tyX12 tyX12_ok nmX12 hL0 hK0 (by decide) rfl wi_X12_pass_X12 (by decide) rfl rfl rfl rfl st_11_0 (ln_11 _ _ (by decide)) (List.mem_of_getElem? (i := 1) rfl) dX12_pass_2 eM1 (fun H locs w => ?_)
  refine lv_iload_n hx hb dX12_pass_5 rfl (lv_at hl 1 rfl) ?_
  refine lv_iconst (v := (1 : Int32)) hx hb dX12_pass_6 (by decide) ?_
  refine lv_sipush (v := (1000 : Int32)) hx hb dX12_pass_7 (by decide) ?_
  obtain ⟨M2, r3, y4, h⟩ := x_cl h
  refine r_callSi (As := [.int c1, .int ((1 : Int32)), .int ((1000 : Int32))]) (rest := []) cx w hkn hl.1 (k_X12_isIn hG y4) (va_cwS 3 hts gX12_pass_X12_isIn rfl rfl rfl (by decide +kernel) ⟨Nat.le_of_ble_eq_true rfl, Nat.le_of_ble_eq_true rfl⟩) rfl rfl (Nat.le_of_ble_eq_true rfl) dX12_pass_10 (fun H locs w => ?_)
  refine lv_if_ne (tgt := 22) hx hb dX12_pass_13 (by decide) (fun k5 => ?_) (fun k5 => ?_)
  · have h := x_f h k5
    refine lv_aload_n hx hb dX12_pass_22 rfl (lv_at hl 0 rfl) ?_
    obtain ⟨q6, eq6, h⟩ := x_rf h
    obtain ⟨hLq6, hKq6⟩ := wt_q hG hL0 hK0 eq6
    have hKq6 : gK G q6 = 10 := hKq6
    refine r_getR (k := 13) cx w hL0 hK0 (by decide) rfl wi_X12_pass_X12 (by decide) rfl eq6 (List.mem_of_getElem? (i := 2) rfl) dX12_pass_23 ?_
    obtain ⟨M7, r8, y9, h⟩ := x_cl h
    refine r_callVi (As := []) (rest := []) cx w hkn hl.1 (k_X11_dark hG hLq6 hKq6 y9) (cwV 0 hts gX12_pass_X11_dark rfl rfl rfl (by decide +kernel) ⟨Nat.le_of_ble_eq_true rfl, Nat.le_of_ble_eq_true rfl⟩) hLq6 hKq6 (by decide) rfl rfl rfl (Nat.le_of_ble_eq_true rfl) dX12_pass_26 (fun H locs w => ?_)
    refine lv_istore_n (lv' := [(2, .int r8), (0, .ref a0), (1, .int c1)]) hx hb dX12_pass_29 rfl hl (by decide) rfl (fun ls hl => ?_)
    refine lv_aload_n hx hb dX12_pass_30 rfl (lv_at hl 1 rfl) ?_
    obtain ⟨q10, eq10, h⟩ := x_rf h
    obtain ⟨hLq10, hKq10⟩ := wt_q hG hL0 hK0 eq10
    have hKq10 : gK G q10 = 10 := hKq10
    refine r_getR (k := 13) cx w hL0 hK0 (by decide) rfl wi_X12_pass_X12 (by decide) rfl eq10 (List.mem_of_getElem? (i := 2) rfl) dX12_pass_31 ?_
    refine lv_iload_n hx hb dX12_pass_34 rfl (lv_at hl 2 rfl) ?_
    obtain ⟨M11, r12, y13, h⟩ := x_cl h
    refine r_callVr (As := [.int c1]) (rest := []) cx w hkn hl.1 (k_X11_pass_ hG hLq10 hKq10 y13) (cwV 1 hts gX12_pass_X11_pass_ rfl rfl rfl (by decide +kernel) ⟨Nat.le_of_ble_eq_true rfl, Nat.le_of_ble_eq_true rfl⟩) hLq10 hKq10 (by decide) rfl rfl rfl (Nat.le_of_ble_eq_true rfl) dX12_pass_35 (fun H locs w => ?_)
    obtain ⟨⟨hLr12, hKr12⟩, h⟩ := x_ck h
    obtain ⟨M15, r16, y17, h⟩ := x_cl h
    refine r_callVi (As := []) (rest := []) cx w hkn hl.1 (k_X11_dark hG hLr12 hKr12 y17) (cwV 0 hts gX12_pass_X11_dark rfl rfl rfl (by decide +kernel) ⟨Nat.le_of_ble_eq_true rfl, Nat.le_of_ble_eq_true rfl⟩) hLr12 hKr12 (by decide) rfl rfl rfl (Nat.le_of_ble_eq_true rfl) dX12_pass_38 (fun H locs w => ?_)
    refine lv_iload_n hx hb dX12_pass_41 rfl (lv_at hl 0 rfl) ?_
    refine lv_isub hx hb dX12_pass_42 ?_
    exact r_iret cx w h dX12_pass_43
  · have h := x_t h k5
    refine lv_aload_n hx hb dX12_pass_16 rfl (lv_at hl 0 rfl) ?_
    refine lv_iconst (v := (1 : Int32)) hx hb dX12_pass_17 (by decide) ?_
    obtain ⟨M18, r19, y20, h⟩ := x_cl h
    refine r_callVi (As := [.int ((1 : Int32))]) (rest := []) cx w hkn hl.1 (k_X12_no hG hL0 hK0 y20) (cwV 1 hts gX12_pass_X12_no rfl rfl rfl (by decide +kernel) ⟨Nat.le_of_ble_eq_true rfl, Nat.le_of_ble_eq_true rfl⟩) hL0 hK0 (by decide) rfl rfl rfl (Nat.le_of_ble_eq_true rfl) dX12_pass_18 (fun H locs w => ?_)
    exact r_iret cx w h dX12_pass_21
-- X12_place_
theorem wi_X12_place__X11 : ∀ w ∈ wsX110, w ∈ wsX12_place_ := by decide +kernel
theorem wi_X12_place__X12 : ∀ w ∈ wsX120, w ∈ wsX12_place_ := by decide +kernel
abbrev rmX12_place_ : Room := { frames := 2, cells := 0, slots := 0, locals := 43 }
def m_X12_place__21 (G : gS) (a0 : Nat) (c1 : Int32) (c2 : Int32) (c3 : Int32)  (M : mS)  : Option (mS × Int32) := o_cl (m_X12_no G M a0 (1 : Int32)) (fun M1 r2 => some (M1, r2))
def m_X12_place_ (G : gS) (M : mS) (a0 : Nat) (c1 : Int32) (c2 : Int32) (c3 : Int32) : Option (mS × Int32) := o_wI M a0 0 (0 : Int32) (fun M1 => o_cl (m_X12_isAnt G M1 a0 c1) (fun M2 r3 => (if r3 = 0 then m_X12_place__21 G a0 c1 c2 c3 M2 else o_cl (m_X12_isStone G M2 c2 c3) (fun M6 r7 => (if r7 = 0 then m_X12_place__21 G a0 c1 c2 c3 M6 else o_rf (gP G a0 13) (fun q10 => o_rf (gP G q10 7) (fun q11 => o_ix c1 (gN G q11) (o_rf (gP G a0 13) (fun q13 => o_rf (gP G q13 6) (fun q14 => o_ix c1 (gN G q14) (o_bd ((((64 : Int32) * (mI M6 q11 (Int32.toNatClampNeg c1))) + (mI M6 q14 (Int32.toNatClampNeg c1)))) (fun x16 => o_rf (gP G a0 13) (fun q17 => o_rf (gP G q17 6) (fun q18 => o_ix c1 (gN G q18) (o_wI M6 q18 (Int32.toNatClampNeg c1) c2 (fun M20 => o_rf (gP G a0 13) (fun q21 => o_rf (gP G q21 7) (fun q22 => o_ix c1 (gN G q22) (o_wI M20 q22 (Int32.toNatClampNeg c1) c3 (fun M24 => o_rf (gP G a0 13) (fun q25 => o_cl (m_X11_forget G M24 q25 c1) (fun M26 r27 => some (M26, x16)))))))))))))))))))))))
set_option maxHeartbeats 4000000 in
set_option maxRecDepth 100000 in
theorem b_X12_place__21 {p : Program} {e : Env} {s : State} {m : MethodId} {args : Array Value} {below : List Frame} {meth : Method} {c : Code} {A : Nat → Prop} {l : Launch} {D : va_G} {cy : cyS} {G : gS} (cx : cX p s m args meth c cX12_place_ RX12 5 (some .int) wsX12_place_ D cy G A) {k0 n0 : Nat} (hkn : k0 ≤ (rmX12_place_).cells ∧ n0 ≤ (rmX12_place_).slots) {M' : mS} {r : Int32} {a0 : Nat} {c1 : Int32} {c2 : Int32} {c3 : Int32} (hL0 : a0 ∈ gL G) (hK0 : gK G a0 = 11)  : ∀ (M : mS) (H : Heap) (locs : List Loc) (ls : Array Slot), m_X12_place__21 G a0 c1 c2 c3 M = some (M', r) → wd D cy G M A s.heap H locs → lv_has ls 5 [(0, .ref a0)] → W p l e rmX12_place_ s m args below meth c H locs k0 n0 (MQ below (va_Qi (fun (r' : Int32) (_ : Unit) => r' = r) (fun _ t => wOut D cy G M' t) A) args s k0 n0 A) (F0 m 21 ls []) := by
  obtain ⟨hx, hb, hml, hown, hts, hr, hlocks, hK, hA, hG, hsx⟩ := id cx
  intro M H locs ls h w hl
  unfold m_X12_place__21 at h
  refine lv_aload_n hx hb dX12_place__21 rfl (lv_at hl 0 rfl) ?_
  refine lv_iconst (v := (1 : Int32)) hx hb dX12_place__22 (by decide) ?_
  obtain ⟨M1, r2, y3, h⟩ := x_cl h
  refine r_callVi (As := [.int ((1 : Int32))]) (rest := []) cx w hkn hl.1 (k_X12_no hG hL0 hK0 y3) (cwV 1 hts gX12_place__X12_no rfl rfl rfl (by decide +kernel) ⟨Nat.le_of_ble_eq_true rfl, Nat.le_of_ble_eq_true rfl⟩) hL0 hK0 (by decide) rfl rfl rfl (Nat.le_of_ble_eq_true rfl) dX12_place__23 (fun H locs w => ?_)
  exact r_iret cx w h dX12_place__26
set_option maxHeartbeats 4000000 in
set_option maxRecDepth 100000 in
theorem k_X12_place_ {l : Launch} {D : va_G} {cy : cyS} {G : gS} {M M' : mS} {r : Int32} {a0 : Nat} {c1 : Int32} {c2 : Int32} {c3 : Int32} (hG : wt G) (hL0 : a0 ∈ gL G) (hK0 : gK G a0 = 11) (h : m_X12_place_ G M a0 c1 c2 c3 = some (M', r)) : ctI l yX12_place_ wsX12_place_ rmX12_place_ D cy G M [.ref a0, .int c1, .int c2, .int c3] M' r := by
  unfold m_X12_place_ at h
  refine ctI_of (cc := cX12_place_) (nL := 5) (ret := (some .int)) (lv := [(0, .ref a0), (1, .int c1), (2, .int c2), (3, .int c3)]) hG (by decide) rfl ⟨rfl, rfl⟩ (Nat.le_of_ble_eq_true rfl) rfl ?_
  intro p e s m args below meth c A ls cx w hl
  obtain ⟨hx, hb, hml, hown, hts, hr, hlocks, hK, hA, -, hsx⟩ := id cx
  have hkn : 0 ≤ (rmX12_place_).cells ∧ 0 ≤ (rmX12_place_).slots := ⟨Nat.zero_le _, Nat.zero_le _⟩
  refine lv_aload_n hx hb dX12_place__0 rfl (lv_at hl 0 rfl) ?_
  refine lv_iconst (v := (0 : Int32)) hx hb dX12_place__1 (by decide) ?_
  obtain ⟨M1, eM1, h⟩ := x_wI h
  refine r_putI (k := 0) (ty := .int) cx w tyX12 tyX12_ok nmX12 hL0 hK0 (by decide) rfl wi_X12_place__X12 (by decide) rfl rfl rfl rfl st_11_0 (ln_11 _ _ (by decide)) (List.mem_of_getElem? (i := 1) rfl) dX12_place__2 eM1 (fun H locs w => ?_)
  refine lv_aload_n hx hb dX12_place__5 rfl (lv_at hl 0 rfl) ?_
  refine lv_iload_n hx hb dX12_place__6 rfl (lv_at hl 1 rfl) ?_
  obtain ⟨M2, r3, y4, h⟩ := x_cl h
  refine r_callVi (As := [.int c1]) (rest := []) cx w hkn hl.1 (k_X12_isAnt hG hL0 hK0 y4) (cwV 1 hts gX12_place__X12_isAnt rfl rfl rfl (by decide +kernel) ⟨Nat.le_of_ble_eq_true rfl, Nat.le_of_ble_eq_true rfl⟩) hL0 hK0 (by decide) rfl rfl rfl (Nat.le_of_ble_eq_true rfl) dX12_place__7 (fun H locs w => ?_)
  refine lv_if_eq (tgt := 21) hx hb dX12_place__10 (by decide) (fun k5 => ?_) (fun k5 => ?_)
  · have h := x_t h k5
    exact b_X12_place__21 cx hkn hL0 hK0 M2 H locs ls h w (lv_sub hl [0] rfl)
  · have h := x_f h k5
    refine lv_iload_n hx hb dX12_place__13 rfl (lv_at hl 2 rfl) ?_
    refine lv_iload_n hx hb dX12_place__14 rfl (lv_at hl 3 rfl) ?_
    obtain ⟨M6, r7, y8, h⟩ := x_cl h
    refine r_callSi (As := [.int c2, .int c3]) (rest := []) cx w hkn hl.1 (k_X12_isStone hG y8) (va_cwS 2 hts gX12_place__X12_isStone rfl rfl rfl (by decide +kernel) ⟨Nat.le_of_ble_eq_true rfl, Nat.le_of_ble_eq_true rfl⟩) rfl rfl (Nat.le_of_ble_eq_true rfl) dX12_place__15 (fun H locs w => ?_)
    refine lv_if_ne (tgt := 27) hx hb dX12_place__18 (by decide) (fun k9 => ?_) (fun k9 => ?_)
    · have h := x_f h k9
      refine lv_bipush (v := (64 : Int32)) hx hb dX12_place__27 (by decide) ?_
      refine lv_aload_n hx hb dX12_place__29 rfl (lv_at hl 0 rfl) ?_
      obtain ⟨q10, eq10, h⟩ := x_rf h
      obtain ⟨hLq10, hKq10⟩ := wt_q hG hL0 hK0 eq10
      have hKq10 : gK G q10 = 10 := hKq10
      refine r_getR (k := 13) cx w hL0 hK0 (by decide) rfl wi_X12_place__X12 (by decide) rfl eq10 (List.mem_of_getElem? (i := 2) rfl) dX12_place__30 ?_
      obtain ⟨q11, eq11, h⟩ := x_rf h
      obtain ⟨hLq11, hKq11⟩ := wt_q hG hLq10 hKq10 eq11
      have hKq11 : gK G q11 = 12 := hKq11
      refine r_getRN (k := 7) cx w hLq10 hKq10 (by decide) rfl wi_X12_place__X11 (by decide) rfl eq11 (nwF cx (q := (RX12, 329, "FlagAntsModel$State", "row", "[I", "FlagAntsModel")) (List.mem_of_getElem? (i := 26) rfl)) dX12_place__33 ?_
      refine lv_iload_n hx hb dX12_place__36 rfl (lv_at hl 1 rfl) ?_
      obtain ⟨z12, h⟩ := x_ix h
      refine r_iald cx w hLq11 hKq11 z12 dX12_place__37 ?_
      refine lv_imul hx hb dX12_place__38 ?_
      refine lv_aload_n hx hb dX12_place__39 rfl (lv_at hl 0 rfl) ?_
      obtain ⟨q13, eq13, h⟩ := x_rf h
      obtain ⟨hLq13, hKq13⟩ := wt_q hG hL0 hK0 eq13
      have hKq13 : gK G q13 = 10 := hKq13
      refine r_getR (k := 13) cx w hL0 hK0 (by decide) rfl wi_X12_place__X12 (by decide) rfl eq13 (List.mem_of_getElem? (i := 2) rfl) dX12_place__40 ?_
      obtain ⟨q14, eq14, h⟩ := x_rf h
      obtain ⟨hLq14, hKq14⟩ := wt_q hG hLq13 hKq13 eq14
      have hKq14 : gK G q14 = 12 := hKq14
      refine r_getRN (k := 6) cx w hLq13 hKq13 (by decide) rfl wi_X12_place__X11 (by decide) rfl eq14 (nwF cx (q := (RX12, 328, "FlagAntsModel$State", "column", "[I", "FlagAntsModel")) (List.mem_of_getElem? (i := 25) rfl)) dX12_place__43 ?_
      refine lv_iload_n hx hb dX12_place__46 rfl (lv_at hl 1 rfl) ?_
      obtain ⟨z15, h⟩ := x_ix h
      refine r_iald cx w hLq14 hKq14 z15 dX12_place__47 ?_
      refine lv_iadd hx hb dX12_place__48 ?_
      obtain ⟨x16, ex16, h⟩ := x_bd h
      refine r_topI ex16 ?_
      refine lv_istore (lv' := [(4, .int x16), (0, .ref a0), (1, .int c1), (2, .int c2), (3, .int c3)]) hx hb dX12_place__49 hl (by decide) rfl (fun ls hl => ?_)
      refine lv_aload_n hx hb dX12_place__51 rfl (lv_at hl 1 rfl) ?_
      obtain ⟨q17, eq17, h⟩ := x_rf h
      obtain ⟨hLq17, hKq17⟩ := wt_q hG hL0 hK0 eq17
      have hKq17 : gK G q17 = 10 := hKq17
      refine r_getR (k := 13) cx w hL0 hK0 (by decide) rfl wi_X12_place__X12 (by decide) rfl eq17 (List.mem_of_getElem? (i := 2) rfl) dX12_place__52 ?_
      obtain ⟨q18, eq18, h⟩ := x_rf h
      obtain ⟨hLq18, hKq18⟩ := wt_q hG hLq17 hKq17 eq18
      have hKq18 : gK G q18 = 12 := hKq18
      refine r_getRN (k := 6) cx w hLq17 hKq17 (by decide) rfl wi_X12_place__X11 (by decide) rfl eq18 (nwF cx (q := (RX12, 328, "FlagAntsModel$State", "column", "[I", "FlagAntsModel")) (List.mem_of_getElem? (i := 25) rfl)) dX12_place__55 ?_
      refine lv_iload_n hx hb dX12_place__58 rfl (lv_at hl 2 rfl) ?_
      refine lv_iload_n hx hb dX12_place__59 rfl (lv_at hl 3 rfl) ?_
      obtain ⟨z19, h⟩ := x_ix h
      obtain ⟨M20, eM20, h⟩ := x_wI h
      refine r_iast cx w hLq18 hKq18 z19 dX12_place__60 eM20 (fun H locs w => ?_)
      refine lv_aload_n hx hb dX12_place__61 rfl (lv_at hl 1 rfl) ?_
      obtain ⟨q21, eq21, h⟩ := x_rf h
      obtain ⟨hLq21, hKq21⟩ := wt_q hG hL0 hK0 eq21
      have hKq21 : gK G q21 = 10 := hKq21
      refine r_getR (k := 13) cx w hL0 hK0 (by decide) rfl wi_X12_place__X12 (by decide) rfl eq21 (List.mem_of_getElem? (i := 2) rfl) dX12_place__62 ?_
      obtain ⟨q22, eq22, h⟩ := x_rf h
      obtain ⟨hLq22, hKq22⟩ := wt_q hG hLq21 hKq21 eq22
      have hKq22 : gK G q22 = 12 := hKq22
      refine r_getRN (k := 7) cx w hLq21 hKq21 (by decide) rfl wi_X12_place__X11 (by decide) rfl eq22 (nwF cx (q := (RX12, 329, "FlagAntsModel$State", "row", "[I", "FlagAntsModel")) (List.mem_of_getElem? (i := 26) rfl)) dX12_place__65 ?_
      refine lv_iload_n hx hb dX12_place__68 rfl (lv_at hl 2 rfl) ?_
      refine lv_iload_n hx hb dX12_place__69 rfl (lv_at hl 4 rfl) ?_
      obtain ⟨z23, h⟩ := x_ix h
      obtain ⟨M24, eM24, h⟩ := x_wI h
      refine r_iast cx w hLq22 hKq22 z23 dX12_place__70 eM24 (fun H locs w => ?_)
      refine lv_aload_n hx hb dX12_place__71 rfl (lv_at hl 1 rfl) ?_
      obtain ⟨q25, eq25, h⟩ := x_rf h
      obtain ⟨hLq25, hKq25⟩ := wt_q hG hL0 hK0 eq25
      have hKq25 : gK G q25 = 10 := hKq25
      refine r_getR (k := 13) cx w hL0 hK0 (by decide) rfl wi_X12_place__X12 (by decide) rfl eq25 (List.mem_of_getElem? (i := 2) rfl) dX12_place__72 ?_
      refine lv_iload_n hx hb dX12_place__75 rfl (lv_at hl 2 rfl) ?_
      obtain ⟨M26, r27, y28, h⟩ := x_cl h
      refine r_callVv (As := [.int c1]) (rest := []) cx w hkn hl.1 (k_X11_forget hG hLq25 hKq25 y28) (cwV 1 hts gX12_place__X11_forget rfl rfl rfl (by decide +kernel) ⟨Nat.le_of_ble_eq_true rfl, Nat.le_of_ble_eq_true rfl⟩) hLq25 hKq25 (by decide) rfl rfl rfl (Nat.le_of_ble_eq_true rfl) dX12_place__76 (fun H locs w => ?_)
      refine lv_iload hx hb dX12_place__79 (lv_at hl 0 rfl) ?_
      exact r_iret cx w h dX12_place__81
    · have h := x_t h k9
      exact b_X12_place__21 cx hkn hL0 hK0 M6 H locs ls h w (lv_sub hl [0] rfl)
-- X12_row
theorem wi_X12_row_X11 : ∀ w ∈ wsX110, w ∈ wsX12_row := by decide +kernel
theorem wi_X12_row_X12 : ∀ w ∈ wsX120, w ∈ wsX12_row := by decide +kernel
abbrev rmX12_row : Room := { frames := 1, cells := 0, slots := 0, locals := 22 }
def m_X12_row (G : gS) (M : mS) (a0 : Nat) (c1 : Int32) : Option (mS × Int32) := o_wI M a0 0 (0 : Int32) (fun M1 => o_cl (m_X12_isIn G M1 c1 (0 : Int32) (63 : Int32)) (fun M2 r3 => (if r3 = 0 then o_cl (m_X12_no G M2 a0 (1 : Int32)) (fun M6 r7 => some (M6, r7)) else o_rf (gP G a0 13) (fun q9 => o_rf (gP G q9 5) (fun q10 => o_ix c1 (gN G q10) (some (M2, (mI M2 q10 (Int32.toNatClampNeg c1)))))))))
set_option maxHeartbeats 4000000 in
set_option maxRecDepth 100000 in
theorem k_X12_row {l : Launch} {D : va_G} {cy : cyS} {G : gS} {M M' : mS} {r : Int32} {a0 : Nat} {c1 : Int32} (hG : wt G) (hL0 : a0 ∈ gL G) (hK0 : gK G a0 = 11) (h : m_X12_row G M a0 c1 = some (M', r)) : ctI l yX12_row wsX12_row rmX12_row D cy G M [.ref a0, .int c1] M' r := by
  unfold m_X12_row at h
  refine ctI_of (cc := cX12_row) (nL := 2) (ret := (some .int)) (lv := [(0, .ref a0), (1, .int c1)]) hG (by decide) rfl ⟨rfl, rfl⟩ (Nat.le_of_ble_eq_true rfl) rfl ?_
  intro p e s m args below meth c A ls cx w hl
  obtain ⟨hx, hb, hml, hown, hts, hr, hlocks, hK, hA, -, hsx⟩ := id cx
  have hkn : 0 ≤ (rmX12_row).cells ∧ 0 ≤ (rmX12_row).slots := ⟨Nat.zero_le _, Nat.zero_le _⟩
  refine lv_aload_n hx hb dX12_row_0 rfl (lv_at hl 0 rfl) ?_
  refine lv_iconst (v := (0 : Int32)) hx hb dX12_row_1 (by decide) ?_
  obtain ⟨M1, eM1, h⟩ := x_wI h
  refine r_putI (k := 0) (ty := .int) cx w tyX12 tyX12_ok nmX12 hL0 hK0 (by decide) rfl wi_X12_row_X12 (by decide) rfl rfl rfl rfl st_11_0 (ln_11 _ _ (by decide)) (List.mem_of_getElem? (i := 1) rfl) dX12_row_2 eM1 (fun H locs w => ?_)
  refine lv_iload_n hx hb dX12_row_5 rfl (lv_at hl 1 rfl) ?_
  refine lv_iconst (v := (0 : Int32)) hx hb dX12_row_6 (by decide) ?_
  refine lv_bipush (v := (63 : Int32)) hx hb dX12_row_7 (by decide) ?_
  obtain ⟨M2, r3, y4, h⟩ := x_cl h
  refine r_callSi (As := [.int c1, .int ((0 : Int32)), .int ((63 : Int32))]) (rest := []) cx w hkn hl.1 (k_X12_isIn hG y4) (va_cwS 3 hts gX12_row_X12_isIn rfl rfl rfl (by decide +kernel) ⟨Nat.le_of_ble_eq_true rfl, Nat.le_of_ble_eq_true rfl⟩) rfl rfl (Nat.le_of_ble_eq_true rfl) dX12_row_9 (fun H locs w => ?_)
  refine lv_if_eq (tgt := 27) hx hb dX12_row_12 (by decide) (fun k5 => ?_) (fun k5 => ?_)
  · have h := x_t h k5
    refine lv_aload_n hx hb dX12_row_27 rfl (lv_at hl 0 rfl) ?_
    refine lv_iconst (v := (1 : Int32)) hx hb dX12_row_28 (by decide) ?_
    obtain ⟨M6, r7, y8, h⟩ := x_cl h
    refine r_callVi (As := [.int ((1 : Int32))]) (rest := []) cx w hkn hl.1 (k_X12_no hG hL0 hK0 y8) (cwV 1 hts gX12_row_X12_no rfl rfl rfl (by decide +kernel) ⟨Nat.le_of_ble_eq_true rfl, Nat.le_of_ble_eq_true rfl⟩) hL0 hK0 (by decide) rfl rfl rfl (Nat.le_of_ble_eq_true rfl) dX12_row_29 (fun H locs w => ?_)
    exact r_iret cx w h dX12_row_32
  · have h := x_f h k5
    refine lv_aload_n hx hb dX12_row_15 rfl (lv_at hl 0 rfl) ?_
    obtain ⟨q9, eq9, h⟩ := x_rf h
    obtain ⟨hLq9, hKq9⟩ := wt_q hG hL0 hK0 eq9
    have hKq9 : gK G q9 = 10 := hKq9
    refine r_getR (k := 13) cx w hL0 hK0 (by decide) rfl wi_X12_row_X12 (by decide) rfl eq9 (List.mem_of_getElem? (i := 2) rfl) dX12_row_16 ?_
    obtain ⟨q10, eq10, h⟩ := x_rf h
    obtain ⟨hLq10, hKq10⟩ := wt_q hG hLq9 hKq9 eq10
    have hKq10 : gK G q10 = 12 := hKq10
    refine r_getRN (k := 5) cx w hLq9 hKq9 (by decide) rfl wi_X12_row_X11 (by decide) rfl eq10 (nwF cx (q := (RX12, 325, "FlagAntsModel$State", "darkIn", "[I", "FlagAntsModel")) (List.mem_of_getElem? (i := 24) rfl)) dX12_row_19 ?_
    refine lv_iload_n hx hb dX12_row_22 rfl (lv_at hl 1 rfl) ?_
    obtain ⟨z11, h⟩ := x_ix h
    refine r_iald cx w hLq10 hKq10 z11 dX12_row_23 ?_
    refine lv_goto (tgt := 32) hx hb dX12_row_24 (by decide) ?_
    exact r_iret cx w h dX12_row_32
-- X12_stone
theorem wi_X12_stone_X11 : ∀ w ∈ wsX110, w ∈ wsX12_stone := by decide +kernel
theorem wi_X12_stone_X12 : ∀ w ∈ wsX120, w ∈ wsX12_stone := by decide +kernel
abbrev rmX12_stone : Room := { frames := 2, cells := 0, slots := 0, locals := 43 }
def m_X12_stone (G : gS) (M : mS) (a0 : Nat) (c1 : Int32) (c2 : Int32) : Option (mS × Int32) := o_wI M a0 0 (0 : Int32) (fun M1 => o_cl (m_X12_isStone G M1 c1 c2) (fun M2 r3 => (if r3 = 0 then o_cl (m_X12_no G M2 a0 (1 : Int32)) (fun M6 r7 => some (M6, r7)) else o_rf (gP G a0 13) (fun q9 => o_rf (gP G q9 4) (fun q10 => o_ix (((64 : Int32) * c2) + c1) (gN G q10) (some (M2, (mI M2 q10 (Int32.toNatClampNeg (((64 : Int32) * c2) + c1))))))))))
set_option maxHeartbeats 4000000 in
set_option maxRecDepth 100000 in
theorem k_X12_stone {l : Launch} {D : va_G} {cy : cyS} {G : gS} {M M' : mS} {r : Int32} {a0 : Nat} {c1 : Int32} {c2 : Int32} (hG : wt G) (hL0 : a0 ∈ gL G) (hK0 : gK G a0 = 11) (h : m_X12_stone G M a0 c1 c2 = some (M', r)) : ctI l yX12_stone wsX12_stone rmX12_stone D cy G M [.ref a0, .int c1, .int c2] M' r := by
  unfold m_X12_stone at h
  refine ctI_of (cc := cX12_stone) (nL := 3) (ret := (some .int)) (lv := [(0, .ref a0), (1, .int c1), (2, .int c2)]) hG (by decide) rfl ⟨rfl, rfl⟩ (Nat.le_of_ble_eq_true rfl) rfl ?_
  intro p e s m args below meth c A ls cx w hl
  obtain ⟨hx, hb, hml, hown, hts, hr, hlocks, hK, hA, -, hsx⟩ := id cx
  have hkn : 0 ≤ (rmX12_stone).cells ∧ 0 ≤ (rmX12_stone).slots := ⟨Nat.zero_le _, Nat.zero_le _⟩
  refine lv_aload_n hx hb dX12_stone_0 rfl (lv_at hl 0 rfl) ?_
  refine lv_iconst (v := (0 : Int32)) hx hb dX12_stone_1 (by decide) ?_
  obtain ⟨M1, eM1, h⟩ := x_wI h
  refine r_putI (k := 0) (ty := .int) cx w tyX12 tyX12_ok nmX12 hL0 hK0 (by decide) rfl wi_X12_stone_X12 (by decide) rfl rfl rfl rfl st_11_0 (ln_11 _ _ (by decide)) (List.mem_of_getElem? (i := 1) rfl) dX12_stone_2 eM1 (fun H locs w => ?_)
  refine lv_iload_n hx hb dX12_stone_5 rfl (lv_at hl 1 rfl) ?_
  refine lv_iload_n hx hb dX12_stone_6 rfl (lv_at hl 2 rfl) ?_
  obtain ⟨M2, r3, y4, h⟩ := x_cl h
  refine r_callSi (As := [.int c1, .int c2]) (rest := []) cx w hkn hl.1 (k_X12_isStone hG y4) (va_cwS 2 hts gX12_stone_X12_isStone rfl rfl rfl (by decide +kernel) ⟨Nat.le_of_ble_eq_true rfl, Nat.le_of_ble_eq_true rfl⟩) rfl rfl (Nat.le_of_ble_eq_true rfl) dX12_stone_7 (fun H locs w => ?_)
  refine lv_if_eq (tgt := 30) hx hb dX12_stone_10 (by decide) (fun k5 => ?_) (fun k5 => ?_)
  · have h := x_t h k5
    refine lv_aload_n hx hb dX12_stone_30 rfl (lv_at hl 0 rfl) ?_
    refine lv_iconst (v := (1 : Int32)) hx hb dX12_stone_31 (by decide) ?_
    obtain ⟨M6, r7, y8, h⟩ := x_cl h
    refine r_callVi (As := [.int ((1 : Int32))]) (rest := []) cx w hkn hl.1 (k_X12_no hG hL0 hK0 y8) (cwV 1 hts gX12_stone_X12_no rfl rfl rfl (by decide +kernel) ⟨Nat.le_of_ble_eq_true rfl, Nat.le_of_ble_eq_true rfl⟩) hL0 hK0 (by decide) rfl rfl rfl (Nat.le_of_ble_eq_true rfl) dX12_stone_32 (fun H locs w => ?_)
    exact r_iret cx w h dX12_stone_35
  · have h := x_f h k5
    refine lv_aload_n hx hb dX12_stone_13 rfl (lv_at hl 0 rfl) ?_
    obtain ⟨q9, eq9, h⟩ := x_rf h
    obtain ⟨hLq9, hKq9⟩ := wt_q hG hL0 hK0 eq9
    have hKq9 : gK G q9 = 10 := hKq9
    refine r_getR (k := 13) cx w hL0 hK0 (by decide) rfl wi_X12_stone_X12 (by decide) rfl eq9 (List.mem_of_getElem? (i := 2) rfl) dX12_stone_14 ?_
    obtain ⟨q10, eq10, h⟩ := x_rf h
    obtain ⟨hLq10, hKq10⟩ := wt_q hG hLq9 hKq9 eq10
    have hKq10 : gK G q10 = 12 := hKq10
    refine r_getRN (k := 4) cx w hLq9 hKq9 (by decide) rfl wi_X12_stone_X11 (by decide) rfl eq10 (nwF cx (q := (RX12, 321, "FlagAntsModel$State", "colours", "[I", "FlagAntsModel")) (List.mem_of_getElem? (i := 23) rfl)) dX12_stone_17 ?_
    refine lv_bipush (v := (64 : Int32)) hx hb dX12_stone_20 (by decide) ?_
    refine lv_iload_n hx hb dX12_stone_22 rfl (lv_at hl 2 rfl) ?_
    refine lv_imul hx hb dX12_stone_23 ?_
    refine lv_iload_n hx hb dX12_stone_24 rfl (lv_at hl 1 rfl) ?_
    refine lv_iadd hx hb dX12_stone_25 ?_
    obtain ⟨z11, h⟩ := x_ix h
    refine r_iald cx w hLq10 hKq10 z11 dX12_stone_26 ?_
    refine lv_goto (tgt := 35) hx hb dX12_stone_27 (by decide) ?_
    exact r_iret cx w h dX12_stone_35
-- X12_thrown
theorem wi_X12_thrown_X12 : ∀ w ∈ wsX120, w ∈ wsX12_thrown := by decide +kernel
abbrev rmX12_thrown : Room := { frames := 0, cells := 0, slots := 0, locals := 0 }
def m_X12_thrown (G : gS) (M : mS) (a0 : Nat) : Option (mS × Int32) := some (M, (mI M a0 0))
set_option maxHeartbeats 4000000 in
set_option maxRecDepth 100000 in
theorem k_X12_thrown {l : Launch} {D : va_G} {cy : cyS} {G : gS} {M M' : mS} {r : Int32} {a0 : Nat} (hG : wt G) (hL0 : a0 ∈ gL G) (hK0 : gK G a0 = 11) (h : m_X12_thrown G M a0 = some (M', r)) : ctI l yX12_thrown wsX12_thrown rmX12_thrown D cy G M [.ref a0] M' r := by
  unfold m_X12_thrown at h
  refine ctI_of (cc := cX12_thrown) (nL := 1) (ret := (some .int)) (lv := [(0, .ref a0)]) hG (by decide) rfl ⟨rfl, rfl⟩ (Nat.le_of_ble_eq_true rfl) rfl ?_
  intro p e s m args below meth c A ls cx w hl
  obtain ⟨hx, hb, hml, hown, hts, hr, hlocks, hK, hA, -, hsx⟩ := id cx
  have hkn : 0 ≤ (rmX12_thrown).cells ∧ 0 ≤ (rmX12_thrown).slots := ⟨Nat.zero_le _, Nat.zero_le _⟩
  refine lv_aload_n hx hb dX12_thrown_0 rfl (lv_at hl 0 rfl) ?_
  refine r_getI (k := 0) (v := .int (mI M a0 0)) cx w hL0 hK0 (by decide) rfl wi_X12_thrown_X12 (by decide) rfl (List.mem_of_getElem? (i := 1) rfl) dX12_thrown_1 ?_
  exact r_iret cx w h dX12_thrown_4
-- X12_trim
theorem wi_X12_trim_X12 : ∀ w ∈ wsX120, w ∈ wsX12_trim := by decide +kernel
abbrev rmX12_trim : Room := { frames := 1, cells := 0, slots := 0, locals := 22 }
def m_X12_trim (G : gS) (M : mS) (a0 : Nat) (c1 : Int32) : Option (mS × Int32) := o_wI M a0 0 (0 : Int32) (fun M1 => o_cl (m_X12_isIn G M1 c1 (0 : Int32) (mI M1 a0 2)) (fun M2 r3 => (if r3 = 0 then o_cl (m_X12_no G M2 a0 (1 : Int32)) (fun M7 r8 => some (M7, r8)) else o_wI M2 a0 2 c1 (fun M6 => some (M6, c1)))))
set_option maxHeartbeats 4000000 in
set_option maxRecDepth 100000 in
theorem k_X12_trim {l : Launch} {D : va_G} {cy : cyS} {G : gS} {M M' : mS} {r : Int32} {a0 : Nat} {c1 : Int32} (hG : wt G) (hL0 : a0 ∈ gL G) (hK0 : gK G a0 = 11) (h : m_X12_trim G M a0 c1 = some (M', r)) : ctI l yX12_trim wsX12_trim rmX12_trim D cy G M [.ref a0, .int c1] M' r := by
  unfold m_X12_trim at h
  refine ctI_of (cc := cX12_trim) (nL := 2) (ret := (some .int)) (lv := [(0, .ref a0), (1, .int c1)]) hG (by decide) rfl ⟨rfl, rfl⟩ (Nat.le_of_ble_eq_true rfl) rfl ?_
  intro p e s m args below meth c A ls cx w hl
  obtain ⟨hx, hb, hml, hown, hts, hr, hlocks, hK, hA, -, hsx⟩ := id cx
  have hkn : 0 ≤ (rmX12_trim).cells ∧ 0 ≤ (rmX12_trim).slots := ⟨Nat.zero_le _, Nat.zero_le _⟩
  refine lv_aload_n hx hb dX12_trim_0 rfl (lv_at hl 0 rfl) ?_
  refine lv_iconst (v := (0 : Int32)) hx hb dX12_trim_1 (by decide) ?_
  obtain ⟨M1, eM1, h⟩ := x_wI h
  refine r_putI (k := 0) (ty := .int) cx w tyX12 tyX12_ok nmX12 hL0 hK0 (by decide) rfl wi_X12_trim_X12 (by decide) rfl rfl rfl rfl st_11_0 (ln_11 _ _ (by decide)) (List.mem_of_getElem? (i := 1) rfl) dX12_trim_2 eM1 (fun H locs w => ?_)
  refine lv_iload_n hx hb dX12_trim_5 rfl (lv_at hl 1 rfl) ?_
  refine lv_iconst (v := (0 : Int32)) hx hb dX12_trim_6 (by decide) ?_
  refine lv_aload_n hx hb dX12_trim_7 rfl (lv_at hl 0 rfl) ?_
  refine r_getI (k := 2) (v := .int (mI M1 a0 2)) cx w hL0 hK0 (by decide) rfl wi_X12_trim_X12 (by decide) rfl (List.mem_of_getElem? (i := 2) rfl) dX12_trim_8 ?_
  obtain ⟨M2, r3, y4, h⟩ := x_cl h
  refine r_callSi (As := [.int c1, .int ((0 : Int32)), .int ((mI M1 a0 2))]) (rest := []) cx w hkn hl.1 (k_X12_isIn hG y4) (va_cwS 3 hts gX12_trim_X12_isIn rfl rfl rfl (by decide +kernel) ⟨Nat.le_of_ble_eq_true rfl, Nat.le_of_ble_eq_true rfl⟩) rfl rfl (Nat.le_of_ble_eq_true rfl) dX12_trim_11 (fun H locs w => ?_)
  refine lv_if_ne (tgt := 23) hx hb dX12_trim_14 (by decide) (fun k5 => ?_) (fun k5 => ?_)
  · have h := x_f h k5
    refine lv_aload_n hx hb dX12_trim_23 rfl (lv_at hl 0 rfl) ?_
    refine lv_iload_n hx hb dX12_trim_24 rfl (lv_at hl 1 rfl) ?_
    obtain ⟨M6, eM6, h⟩ := x_wI h
    refine r_putI (k := 2) (ty := .int) cx w tyX12 tyX12_ok nmX12 hL0 hK0 (by decide) rfl wi_X12_trim_X12 (by decide) rfl rfl rfl rfl st_11_2 (ln_11 _ _ (by decide)) (List.mem_of_getElem? (i := 2) rfl) dX12_trim_25 eM6 (fun H locs w => ?_)
    refine lv_iload_n hx hb dX12_trim_28 rfl (lv_at hl 1 rfl) ?_
    exact r_iret cx w h dX12_trim_29
  · have h := x_t h k5
    refine lv_aload_n hx hb dX12_trim_17 rfl (lv_at hl 0 rfl) ?_
    refine lv_iconst (v := (1 : Int32)) hx hb dX12_trim_18 (by decide) ?_
    obtain ⟨M7, r8, y9, h⟩ := x_cl h
    refine r_callVi (As := [.int ((1 : Int32))]) (rest := []) cx w hkn hl.1 (k_X12_no hG hL0 hK0 y9) (cwV 1 hts gX12_trim_X12_no rfl rfl rfl (by decide +kernel) ⟨Nat.le_of_ble_eq_true rfl, Nat.le_of_ble_eq_true rfl⟩) hL0 hK0 (by decide) rfl rfl rfl (Nat.le_of_ble_eq_true rfl) dX12_trim_19 (fun H locs w => ?_)
    exact r_iret cx w h dX12_trim_22
-- X12_turn
theorem wi_X12_turn_X10 : ∀ w ∈ wsX100, w ∈ wsX12_turn := by decide +kernel
theorem wi_X12_turn_X12 : ∀ w ∈ wsX120, w ∈ wsX12_turn := by decide +kernel
abbrev rmX12_turn : Room := { frames := 1, cells := 0, slots := 0, locals := 22 }
def m_X12_turn_58 (G : gS) (a0 : Nat) (c1 : Int32) (c2 : Int32)  (M : mS)  : Option (mS × Int32) := o_cl (m_X12_no G M a0 (1 : Int32)) (fun M1 r2 => some (M1, r2))
def m_X12_turn (G : gS) (M : mS) (a0 : Nat) (c1 : Int32) (c2 : Int32) : Option (mS × Int32) := o_wI M a0 0 (0 : Int32) (fun M1 => o_rf (gP G a0 11) (fun q2 => o_cl (m_X12_isIn G M1 c1 (0 : Int32) ((mI M1 q2 0) - (1 : Int32))) (fun M3 r4 => (if r4 = 0 then m_X12_turn_58 G a0 c1 c2 M3 else o_cl (m_X12_isIn G M3 c2 (0 : Int32) (5 : Int32)) (fun M7 r8 => (if r8 = 0 then m_X12_turn_58 G a0 c1 c2 M7 else o_rf (gP G a0 11) (fun q11 => o_rf (gP G q11 2) (fun q12 => o_rf (gP G a0 11) (fun q13 => o_rf (gP G q13 1) (fun q14 => o_ix c1 (gN G q14) (o_ck (¬ (mI M7 q14 (Int32.toNatClampNeg c1)) = 0) (o_ix (((6 : Int32) * c1) + (c2 - c2 / (mI M7 q14 (Int32.toNatClampNeg c1)) * (mI M7 q14 (Int32.toNatClampNeg c1)))) (gN G q12) (some (M7, (mI M7 q12 (Int32.toNatClampNeg (((6 : Int32) * c1) + (c2 - c2 / (mI M7 q14 (Int32.toNatClampNeg c1)) * (mI M7 q14 (Int32.toNatClampNeg c1))))))))))))))))))))
set_option maxHeartbeats 4000000 in
set_option maxRecDepth 100000 in
theorem b_X12_turn_58 {p : Program} {e : Env} {s : State} {m : MethodId} {args : Array Value} {below : List Frame} {meth : Method} {c : Code} {A : Nat → Prop} {l : Launch} {D : va_G} {cy : cyS} {G : gS} (cx : cX p s m args meth c cX12_turn RX12 3 (some .int) wsX12_turn D cy G A) {k0 n0 : Nat} (hkn : k0 ≤ (rmX12_turn).cells ∧ n0 ≤ (rmX12_turn).slots) {M' : mS} {r : Int32} {a0 : Nat} {c1 : Int32} {c2 : Int32} (hL0 : a0 ∈ gL G) (hK0 : gK G a0 = 11)  : ∀ (M : mS) (H : Heap) (locs : List Loc) (ls : Array Slot), m_X12_turn_58 G a0 c1 c2 M = some (M', r) → wd D cy G M A s.heap H locs → lv_has ls 3 [(0, .ref a0)] → W p l e rmX12_turn s m args below meth c H locs k0 n0 (MQ below (va_Qi (fun (r' : Int32) (_ : Unit) => r' = r) (fun _ t => wOut D cy G M' t) A) args s k0 n0 A) (F0 m 58 ls []) := by
  obtain ⟨hx, hb, hml, hown, hts, hr, hlocks, hK, hA, hG, hsx⟩ := id cx
  intro M H locs ls h w hl
  unfold m_X12_turn_58 at h
  refine lv_aload_n hx hb dX12_turn_58 rfl (lv_at hl 0 rfl) ?_
  refine lv_iconst (v := (1 : Int32)) hx hb dX12_turn_59 (by decide) ?_
  obtain ⟨M1, r2, y3, h⟩ := x_cl h
  refine r_callVi (As := [.int ((1 : Int32))]) (rest := []) cx w hkn hl.1 (k_X12_no hG hL0 hK0 y3) (cwV 1 hts gX12_turn_X12_no rfl rfl rfl (by decide +kernel) ⟨Nat.le_of_ble_eq_true rfl, Nat.le_of_ble_eq_true rfl⟩) hL0 hK0 (by decide) rfl rfl rfl (Nat.le_of_ble_eq_true rfl) dX12_turn_60 (fun H locs w => ?_)
  exact r_iret cx w h dX12_turn_63
set_option maxHeartbeats 4000000 in
set_option maxRecDepth 100000 in
theorem k_X12_turn {l : Launch} {D : va_G} {cy : cyS} {G : gS} {M M' : mS} {r : Int32} {a0 : Nat} {c1 : Int32} {c2 : Int32} (hG : wt G) (hL0 : a0 ∈ gL G) (hK0 : gK G a0 = 11) (h : m_X12_turn G M a0 c1 c2 = some (M', r)) : ctI l yX12_turn wsX12_turn rmX12_turn D cy G M [.ref a0, .int c1, .int c2] M' r := by
  unfold m_X12_turn at h
  refine ctI_of (cc := cX12_turn) (nL := 3) (ret := (some .int)) (lv := [(0, .ref a0), (1, .int c1), (2, .int c2)]) hG (by decide) rfl ⟨rfl, rfl⟩ (Nat.le_of_ble_eq_true rfl) rfl ?_
  intro p e s m args below meth c A ls cx w hl
  obtain ⟨hx, hb, hml, hown, hts, hr, hlocks, hK, hA, -, hsx⟩ := id cx
  have hkn : 0 ≤ (rmX12_turn).cells ∧ 0 ≤ (rmX12_turn).slots := ⟨Nat.zero_le _, Nat.zero_le _⟩
  refine lv_aload_n hx hb dX12_turn_0 rfl (lv_at hl 0 rfl) ?_
  refine lv_iconst (v := (0 : Int32)) hx hb dX12_turn_1 (by decide) ?_
  obtain ⟨M1, eM1, h⟩ := x_wI h
  refine r_putI (k := 0) (ty := .int) cx w tyX12 tyX12_ok nmX12 hL0 hK0 (by decide) rfl wi_X12_turn_X12 (by decide) rfl rfl rfl rfl st_11_0 (ln_11 _ _ (by decide)) (List.mem_of_getElem? (i := 1) rfl) dX12_turn_2 eM1 (fun H locs w => ?_)
  refine lv_iload_n hx hb dX12_turn_5 rfl (lv_at hl 1 rfl) ?_
  refine lv_iconst (v := (0 : Int32)) hx hb dX12_turn_6 (by decide) ?_
  refine lv_aload_n hx hb dX12_turn_7 rfl (lv_at hl 0 rfl) ?_
  obtain ⟨q2, eq2, h⟩ := x_rf h
  obtain ⟨hLq2, hKq2⟩ := wt_q hG hL0 hK0 eq2
  have hKq2 : gK G q2 = 9 := hKq2
  refine r_getR (k := 11) cx w hL0 hK0 (by decide) rfl wi_X12_turn_X12 (by decide) rfl eq2 (List.mem_of_getElem? (i := 2) rfl) dX12_turn_8 ?_
  refine r_getIN (k := 0) (v := .int (mI M1 q2 0)) cx w hLq2 hKq2 (by decide) rfl wi_X12_turn_X10 (by decide) rfl (nwF cx (q := (RX12, 220, "FlagAntsModel$Plan", "rules", "I", "FlagAntsModel")) (List.mem_of_getElem? (i := 8) rfl)) dX12_turn_11 ?_
  refine lv_iconst (v := (1 : Int32)) hx hb dX12_turn_14 (by decide) ?_
  refine lv_isub hx hb dX12_turn_15 ?_
  obtain ⟨M3, r4, y5, h⟩ := x_cl h
  refine r_callSi (As := [.int c1, .int ((0 : Int32)), .int (((mI M1 q2 0) - (1 : Int32)))]) (rest := []) cx w hkn hl.1 (k_X12_isIn hG y5) (va_cwS 3 hts gX12_turn_X12_isIn rfl rfl rfl (by decide +kernel) ⟨Nat.le_of_ble_eq_true rfl, Nat.le_of_ble_eq_true rfl⟩) rfl rfl (Nat.le_of_ble_eq_true rfl) dX12_turn_16 (fun H locs w => ?_)
  refine lv_if_eq (tgt := 58) hx hb dX12_turn_19 (by decide) (fun k6 => ?_) (fun k6 => ?_)
  · have h := x_t h k6
    exact b_X12_turn_58 cx hkn hL0 hK0 M3 H locs ls h w (lv_sub hl [0] rfl)
  · have h := x_f h k6
    refine lv_iload_n hx hb dX12_turn_22 rfl (lv_at hl 2 rfl) ?_
    refine lv_iconst (v := (0 : Int32)) hx hb dX12_turn_23 (by decide) ?_
    refine lv_iconst (v := (5 : Int32)) hx hb dX12_turn_24 (by decide) ?_
    obtain ⟨M7, r8, y9, h⟩ := x_cl h
    refine r_callSi (As := [.int c2, .int ((0 : Int32)), .int ((5 : Int32))]) (rest := []) cx w hkn hl.1 (k_X12_isIn hG y9) (va_cwS 3 hts gX12_turn_X12_isIn rfl rfl rfl (by decide +kernel) ⟨Nat.le_of_ble_eq_true rfl, Nat.le_of_ble_eq_true rfl⟩) rfl rfl (Nat.le_of_ble_eq_true rfl) dX12_turn_25 (fun H locs w => ?_)
    refine lv_if_eq (tgt := 58) hx hb dX12_turn_28 (by decide) (fun k10 => ?_) (fun k10 => ?_)
    · have h := x_t h k10
      exact b_X12_turn_58 cx hkn hL0 hK0 M7 H locs ls h w (lv_sub hl [0] rfl)
    · have h := x_f h k10
      refine lv_aload_n hx hb dX12_turn_31 rfl (lv_at hl 0 rfl) ?_
      obtain ⟨q11, eq11, h⟩ := x_rf h
      obtain ⟨hLq11, hKq11⟩ := wt_q hG hL0 hK0 eq11
      have hKq11 : gK G q11 = 9 := hKq11
      refine r_getR (k := 11) cx w hL0 hK0 (by decide) rfl wi_X12_turn_X12 (by decide) rfl eq11 (List.mem_of_getElem? (i := 2) rfl) dX12_turn_32 ?_
      obtain ⟨q12, eq12, h⟩ := x_rf h
      obtain ⟨hLq12, hKq12⟩ := wt_q hG hLq11 hKq11 eq12
      have hKq12 : gK G q12 = 12 := hKq12
      refine r_getRN (k := 2) cx w hLq11 hKq11 (by decide) rfl wi_X12_turn_X10 (by decide) rfl eq12 (nwF cx (q := (RX12, 230, "FlagAntsModel$Plan", "turn", "[I", "FlagAntsModel")) (List.mem_of_getElem? (i := 10) rfl)) dX12_turn_35 ?_
      refine lv_bipush (v := (6 : Int32)) hx hb dX12_turn_38 (by decide) ?_
      refine lv_iload_n hx hb dX12_turn_40 rfl (lv_at hl 1 rfl) ?_
      refine lv_imul hx hb dX12_turn_41 ?_
      refine lv_iload_n hx hb dX12_turn_42 rfl (lv_at hl 2 rfl) ?_
      refine lv_aload_n hx hb dX12_turn_43 rfl (lv_at hl 0 rfl) ?_
      obtain ⟨q13, eq13, h⟩ := x_rf h
      obtain ⟨hLq13, hKq13⟩ := wt_q hG hL0 hK0 eq13
      have hKq13 : gK G q13 = 9 := hKq13
      refine r_getR (k := 11) cx w hL0 hK0 (by decide) rfl wi_X12_turn_X12 (by decide) rfl eq13 (List.mem_of_getElem? (i := 2) rfl) dX12_turn_44 ?_
      obtain ⟨q14, eq14, h⟩ := x_rf h
      obtain ⟨hLq14, hKq14⟩ := wt_q hG hLq13 hKq13 eq14
      have hKq14 : gK G q14 = 12 := hKq14
      refine r_getRN (k := 1) cx w hLq13 hKq13 (by decide) rfl wi_X12_turn_X10 (by decide) rfl eq14 (nwF cx (q := (RX12, 227, "FlagAntsModel$Plan", "turns", "[I", "FlagAntsModel")) (List.mem_of_getElem? (i := 9) rfl)) dX12_turn_47 ?_
      refine lv_iload_n hx hb dX12_turn_50 rfl (lv_at hl 1 rfl) ?_
      obtain ⟨z15, h⟩ := x_ix h
      refine r_iald cx w hLq14 hKq14 z15 dX12_turn_51 ?_
      obtain ⟨z16, h⟩ := x_ck h
      refine lv_irem hx hb dX12_turn_52 z16 ?_
      refine lv_iadd hx hb dX12_turn_53 ?_
      obtain ⟨z17, h⟩ := x_ix h
      refine r_iald cx w hLq12 hKq12 z17 dX12_turn_54 ?_
      refine lv_goto (tgt := 63) hx hb dX12_turn_55 (by decide) ?_
      exact r_iret cx w h dX12_turn_63
-- X12_until
theorem wi_X12_until_X11 : ∀ w ∈ wsX110, w ∈ wsX12_until := by decide +kernel
theorem wi_X12_until_X12 : ∀ w ∈ wsX120, w ∈ wsX12_until := by decide +kernel
abbrev rmX12_until : Room := { frames := 5, cells := 0, slots := 0, locals := 129 }
def m_X12_until_21 (G : gS) (a0 : Nat) (c1 : Int32) (c2 : Int32) (c3 : Int32)  (M : mS)  : Option (mS × Int32) := o_cl (m_X12_no G M a0 (1 : Int32)) (fun M1 r2 => some (M1, r2))
def m_X12_until_79 (G : gS) (a0 : Nat) (c1 : Int32) (c2 : Int32) (c3 : Int32) (kb42 : mS → Int32 → Option (mS × Int32)) (M : mS) (v4 : Int32) : Option (mS × Int32) := o_rf (gP G a0 14) (fun q1 => o_cl (m_X11_pass G M q1) (fun M2 r3 => o_bd (v4 + 1 : Int32) (fun x5 => kb42 M2 x5)))
def m_X12_until_42 (G : gS) (a0 : Nat) (c1 : Int32) (c2 : Int32) (c3 : Int32)  : Nat → mS → Int32 → Option (mS × Int32)
  | 0, _, _ => none
  | n + 1, M, v4 => (if (2000 : Int32) < v4 then some (M, (-1 : Int32)) else o_rf (gP G a0 14) (fun q2 => o_rf (gP G q2 6) (fun q3 => o_ix c1 (gN G q3) ((if (mI M q3 (Int32.toNatClampNeg c1)) = c2 then o_rf (gP G a0 14) (fun q6 => o_rf (gP G q6 7) (fun q7 => o_ix c1 (gN G q7) ((if (mI M q7 (Int32.toNatClampNeg c1)) = c3 then some (M, v4) else m_X12_until_79 G a0 c1 c2 c3 (fun M v4 => m_X12_until_42 G a0 c1 c2 c3 n M v4) M v4)))) else m_X12_until_79 G a0 c1 c2 c3 (fun M v4 => m_X12_until_42 G a0 c1 c2 c3 n M v4) M v4)))))
def m_X12_until (G : gS) (M : mS) (a0 : Nat) (c1 : Int32) (c2 : Int32) (c3 : Int32) : Option (mS × Int32) := o_wI M a0 0 (0 : Int32) (fun M1 => o_cl (m_X12_isAnt G M1 a0 c1) (fun M2 r3 => (if r3 = 0 then m_X12_until_21 G a0 c1 c2 c3 M2 else o_cl (m_X12_isStone G M2 c2 c3) (fun M6 r7 => (if r7 = 0 then m_X12_until_21 G a0 c1 c2 c3 M6 else o_rf (gP G a0 14) (fun q10 => o_rf (gP G a0 13) (fun q11 => o_cl (m_X11_become G M6 q10 q11) (fun M12 r13 => o_ck (r13 ∈ gL G ∧ gK G r13 = 10) (m_X12_until_42 G a0 c1 c2 c3 fu M12 ((0 : Int32)))))))))))
set_option maxHeartbeats 4000000 in
set_option maxRecDepth 100000 in
theorem b_X12_until_21 {p : Program} {e : Env} {s : State} {m : MethodId} {args : Array Value} {below : List Frame} {meth : Method} {c : Code} {A : Nat → Prop} {l : Launch} {D : va_G} {cy : cyS} {G : gS} (cx : cX p s m args meth c cX12_until RX12 5 (some .int) wsX12_until D cy G A) {k0 n0 : Nat} (hkn : k0 ≤ (rmX12_until).cells ∧ n0 ≤ (rmX12_until).slots) {M' : mS} {r : Int32} {a0 : Nat} {c1 : Int32} {c2 : Int32} {c3 : Int32} (hL0 : a0 ∈ gL G) (hK0 : gK G a0 = 11)  : ∀ (M : mS) (H : Heap) (locs : List Loc) (ls : Array Slot), m_X12_until_21 G a0 c1 c2 c3 M = some (M', r) → wd D cy G M A s.heap H locs → lv_has ls 5 [(0, .ref a0)] → W p l e rmX12_until s m args below meth c H locs k0 n0 (MQ below (va_Qi (fun (r' : Int32) (_ : Unit) => r' = r) (fun _ t => wOut D cy G M' t) A) args s k0 n0 A) (F0 m 21 ls []) := by
  obtain ⟨hx, hb, hml, hown, hts, hr, hlocks, hK, hA, hG, hsx⟩ := id cx
  intro M H locs ls h w hl
  unfold m_X12_until_21 at h
  refine lv_aload_n hx hb dX12_until_21 rfl (lv_at hl 0 rfl) ?_
  refine lv_iconst (v := (1 : Int32)) hx hb dX12_until_22 (by decide) ?_
  obtain ⟨M1, r2, y3, h⟩ := x_cl h
  refine r_callVi (As := [.int ((1 : Int32))]) (rest := []) cx w hkn hl.1 (k_X12_no hG hL0 hK0 y3) (cwV 1 hts gX12_until_X12_no rfl rfl rfl (by decide +kernel) ⟨Nat.le_of_ble_eq_true rfl, Nat.le_of_ble_eq_true rfl⟩) hL0 hK0 (by decide) rfl rfl rfl (Nat.le_of_ble_eq_true rfl) dX12_until_23 (fun H locs w => ?_)
  exact r_iret cx w h dX12_until_26
set_option maxHeartbeats 4000000 in
set_option maxRecDepth 100000 in
theorem b_X12_until_79 {p : Program} {e : Env} {s : State} {m : MethodId} {args : Array Value} {below : List Frame} {meth : Method} {c : Code} {A : Nat → Prop} {l : Launch} {D : va_G} {cy : cyS} {G : gS} (cx : cX p s m args meth c cX12_until RX12 5 (some .int) wsX12_until D cy G A) {k0 n0 : Nat} (hkn : k0 ≤ (rmX12_until).cells ∧ n0 ≤ (rmX12_until).slots) {M' : mS} {r : Int32} {a0 : Nat} {c1 : Int32} {c2 : Int32} {c3 : Int32} (hL0 : a0 ∈ gL G) (hK0 : gK G a0 = 11) {kb42 : mS → Int32 → Option (mS × Int32)} (hkb42 : ∀ (M : mS) (v4 : Int32) (H : Heap) (locs : List Loc) (ls : Array Slot), kb42 M v4 = some (M', r) → wd D cy G M A s.heap H locs → lv_has ls 5 [(0, .ref a0), (1, .int c1), (2, .int c2), (3, .int c3), (4, .int v4)] → W p l e rmX12_until s m args below meth c H locs k0 n0 (MQ below (va_Qi (fun (r' : Int32) (_ : Unit) => r' = r) (fun _ t => wOut D cy G M' t) A) args s k0 n0 A) (F0 m 42 ls [])) : ∀ (M : mS) (v4 : Int32) (H : Heap) (locs : List Loc) (ls : Array Slot), m_X12_until_79 G a0 c1 c2 c3 kb42 M v4 = some (M', r) → wd D cy G M A s.heap H locs → lv_has ls 5 [(0, .ref a0), (1, .int c1), (2, .int c2), (3, .int c3), (4, .int v4)] → W p l e rmX12_until s m args below meth c H locs k0 n0 (MQ below (va_Qi (fun (r' : Int32) (_ : Unit) => r' = r) (fun _ t => wOut D cy G M' t) A) args s k0 n0 A) (F0 m 79 ls []) := by
  obtain ⟨hx, hb, hml, hown, hts, hr, hlocks, hK, hA, hG, hsx⟩ := id cx
  intro M v4 H locs ls h w hl
  unfold m_X12_until_79 at h
  refine lv_aload_n hx hb dX12_until_79 rfl (lv_at hl 0 rfl) ?_
  obtain ⟨q1, eq1, h⟩ := x_rf h
  obtain ⟨hLq1, hKq1⟩ := wt_q hG hL0 hK0 eq1
  have hKq1 : gK G q1 = 10 := hKq1
  refine r_getR (k := 14) cx w hL0 hK0 (by decide) rfl wi_X12_until_X12 (by decide) rfl eq1 (List.mem_of_getElem? (i := 2) rfl) dX12_until_80 ?_
  obtain ⟨M2, r3, y4, h⟩ := x_cl h
  refine r_callVv (As := []) (rest := []) cx w hkn hl.1 (k_X11_pass hG hLq1 hKq1 y4) (cwV 0 hts gX12_until_X11_pass rfl rfl rfl (by decide +kernel) ⟨Nat.le_of_ble_eq_true rfl, Nat.le_of_ble_eq_true rfl⟩) hLq1 hKq1 (by decide) rfl rfl rfl (Nat.le_of_ble_eq_true rfl) dX12_until_83 (fun H locs w => ?_)
  obtain ⟨x5, ex5, h⟩ := x_bd h
  refine lv_iinc (v := x5) (lv' := [(4, .int x5), (0, .ref a0), (1, .int c1), (2, .int c2), (3, .int c3)]) hx hb dX12_until_86 hl (k := 4) rfl (by rw [ex5]; rfl) (by decide) rfl (fun ls hl => ?_)
  refine lv_goto (tgt := 42) hx hb dX12_until_89 (by decide) ?_
  exact hkb42 M2 x5 H locs ls h w (lv_sub hl [1, 2, 3, 4, 0] rfl)
set_option maxHeartbeats 4000000 in
set_option maxRecDepth 100000 in
theorem b_X12_until_42 {p : Program} {e : Env} {s : State} {m : MethodId} {args : Array Value} {below : List Frame} {meth : Method} {c : Code} {A : Nat → Prop} {l : Launch} {D : va_G} {cy : cyS} {G : gS} (cx : cX p s m args meth c cX12_until RX12 5 (some .int) wsX12_until D cy G A) {k0 n0 : Nat} (hkn : k0 ≤ (rmX12_until).cells ∧ n0 ≤ (rmX12_until).slots) {M' : mS} {r : Int32} {a0 : Nat} {c1 : Int32} {c2 : Int32} {c3 : Int32} (hL0 : a0 ∈ gL G) (hK0 : gK G a0 = 11)  : ∀ (n : Nat), ∀ (M : mS) (v4 : Int32) (H : Heap) (locs : List Loc) (ls : Array Slot), m_X12_until_42 G a0 c1 c2 c3 n M v4 = some (M', r) → wd D cy G M A s.heap H locs → lv_has ls 5 [(0, .ref a0), (1, .int c1), (2, .int c2), (3, .int c3), (4, .int v4)] → W p l e rmX12_until s m args below meth c H locs k0 n0 (MQ below (va_Qi (fun (r' : Int32) (_ : Unit) => r' = r) (fun _ t => wOut D cy G M' t) A) args s k0 n0 A) (F0 m 42 ls []) := by
  obtain ⟨hx, hb, hml, hown, hts, hr, hlocks, hK, hA, hG, hsx⟩ := id cx
  intro n
  induction n with
  | zero =>
    intro M v4 H locs ls h w hl
    have h : none = some _ := h
    cases h
  | succ n ih =>
    intro M v4 H locs ls h w hl
    rw [m_X12_until_42] at h
    refine lv_iload hx hb dX12_until_42 (lv_at hl 4 rfl) ?_
    refine lv_sipush (v := (2000 : Int32)) hx hb dX12_until_44 (by decide) ?_
    refine lv_icmp_gt (tgt := 92) hx hb dX12_until_47 (by decide) (fun k1 => ?_) (fun k1 => ?_)
    · have h := x_t h k1
      refine lv_iconst (v := (-1 : Int32)) hx hb dX12_until_92 (by decide) ?_
      exact r_iret cx w h dX12_until_93
    · have h := x_f h k1
      refine lv_aload_n hx hb dX12_until_50 rfl (lv_at hl 0 rfl) ?_
      obtain ⟨q2, eq2, h⟩ := x_rf h
      obtain ⟨hLq2, hKq2⟩ := wt_q hG hL0 hK0 eq2
      have hKq2 : gK G q2 = 10 := hKq2
      refine r_getR (k := 14) cx w hL0 hK0 (by decide) rfl wi_X12_until_X12 (by decide) rfl eq2 (List.mem_of_getElem? (i := 2) rfl) dX12_until_51 ?_
      obtain ⟨q3, eq3, h⟩ := x_rf h
      obtain ⟨hLq3, hKq3⟩ := wt_q hG hLq2 hKq2 eq3
      have hKq3 : gK G q3 = 12 := hKq3
      refine r_getRN (k := 6) cx w hLq2 hKq2 (by decide) rfl wi_X12_until_X11 (by decide) rfl eq3 (nwF cx (q := (RX12, 328, "FlagAntsModel$State", "column", "[I", "FlagAntsModel")) (List.mem_of_getElem? (i := 25) rfl)) dX12_until_54 ?_
      refine lv_iload_n hx hb dX12_until_57 rfl (lv_at hl 1 rfl) ?_
      obtain ⟨z4, h⟩ := x_ix h
      refine r_iald cx w hLq3 hKq3 z4 dX12_until_58 ?_
      refine lv_iload_n hx hb dX12_until_59 rfl (lv_at hl 2 rfl) ?_
      refine lv_icmp_ne (tgt := 79) hx hb dX12_until_60 (by decide) (fun k5 => ?_) (fun k5 => ?_)
      · have h := x_f h k5
        exact b_X12_until_79 cx hkn hL0 hK0 (hkb42 := ih) M v4 H locs ls h w (lv_sub hl [0, 1, 2, 3, 4] rfl)
      · have h := x_t h k5
        refine lv_aload_n hx hb dX12_until_63 rfl (lv_at hl 0 rfl) ?_
        obtain ⟨q6, eq6, h⟩ := x_rf h
        obtain ⟨hLq6, hKq6⟩ := wt_q hG hL0 hK0 eq6
        have hKq6 : gK G q6 = 10 := hKq6
        refine r_getR (k := 14) cx w hL0 hK0 (by decide) rfl wi_X12_until_X12 (by decide) rfl eq6 (List.mem_of_getElem? (i := 2) rfl) dX12_until_64 ?_
        obtain ⟨q7, eq7, h⟩ := x_rf h
        obtain ⟨hLq7, hKq7⟩ := wt_q hG hLq6 hKq6 eq7
        have hKq7 : gK G q7 = 12 := hKq7
        refine r_getRN (k := 7) cx w hLq6 hKq6 (by decide) rfl wi_X12_until_X11 (by decide) rfl eq7 (nwF cx (q := (RX12, 329, "FlagAntsModel$State", "row", "[I", "FlagAntsModel")) (List.mem_of_getElem? (i := 26) rfl)) dX12_until_67 ?_
        refine lv_iload_n hx hb dX12_until_70 rfl (lv_at hl 1 rfl) ?_
        obtain ⟨z8, h⟩ := x_ix h
        refine r_iald cx w hLq7 hKq7 z8 dX12_until_71 ?_
        refine lv_iload_n hx hb dX12_until_72 rfl (lv_at hl 3 rfl) ?_
        refine lv_icmp_ne (tgt := 79) hx hb dX12_until_73 (by decide) (fun k9 => ?_) (fun k9 => ?_)
        · have h := x_f h k9
          exact b_X12_until_79 cx hkn hL0 hK0 (hkb42 := ih) M v4 H locs ls h w (lv_sub hl [0, 1, 2, 3, 4] rfl)
        · have h := x_t h k9
          refine lv_iload hx hb dX12_until_76 (lv_at hl 4 rfl) ?_
          exact r_iret cx w h dX12_until_78
set_option maxHeartbeats 4000000 in
set_option maxRecDepth 100000 in
theorem k_X12_until {l : Launch} {D : va_G} {cy : cyS} {G : gS} {M M' : mS} {r : Int32} {a0 : Nat} {c1 : Int32} {c2 : Int32} {c3 : Int32} (hG : wt G) (hL0 : a0 ∈ gL G) (hK0 : gK G a0 = 11) (h : m_X12_until G M a0 c1 c2 c3 = some (M', r)) : ctI l yX12_until wsX12_until rmX12_until D cy G M [.ref a0, .int c1, .int c2, .int c3] M' r := by
  unfold m_X12_until at h
  refine ctI_of (cc := cX12_until) (nL := 5) (ret := (some .int)) (lv := [(0, .ref a0), (1, .int c1), (2, .int c2), (3, .int c3)]) hG (by decide) rfl ⟨rfl, rfl⟩ (Nat.le_of_ble_eq_true rfl) rfl ?_
  intro p e s m args below meth c A ls cx w hl
  obtain ⟨hx, hb, hml, hown, hts, hr, hlocks, hK, hA, -, hsx⟩ := id cx
  have hkn : 0 ≤ (rmX12_until).cells ∧ 0 ≤ (rmX12_until).slots := ⟨Nat.zero_le _, Nat.zero_le _⟩
  refine lv_aload_n hx hb dX12_until_0 rfl (lv_at hl 0 rfl) ?_
  refine lv_iconst (v := (0 : Int32)) hx hb dX12_until_1 (by decide) ?_
  obtain ⟨M1, eM1, h⟩ := x_wI h
  refine r_putI (k := 0) (ty := .int) cx w tyX12 tyX12_ok nmX12 hL0 hK0 (by decide) rfl wi_X12_until_X12 (by decide) rfl rfl rfl rfl st_11_0 (ln_11 _ _ (by decide)) (List.mem_of_getElem? (i := 1) rfl) dX12_until_2 eM1 (fun H locs w => ?_)
  refine lv_aload_n hx hb dX12_until_5 rfl (lv_at hl 0 rfl) ?_
  refine lv_iload_n hx hb dX12_until_6 rfl (lv_at hl 1 rfl) ?_
  obtain ⟨M2, r3, y4, h⟩ := x_cl h
  refine r_callVi (As := [.int c1]) (rest := []) cx w hkn hl.1 (k_X12_isAnt hG hL0 hK0 y4) (cwV 1 hts gX12_until_X12_isAnt rfl rfl rfl (by decide +kernel) ⟨Nat.le_of_ble_eq_true rfl, Nat.le_of_ble_eq_true rfl⟩) hL0 hK0 (by decide) rfl rfl rfl (Nat.le_of_ble_eq_true rfl) dX12_until_7 (fun H locs w => ?_)
  refine lv_if_eq (tgt := 21) hx hb dX12_until_10 (by decide) (fun k5 => ?_) (fun k5 => ?_)
  · have h := x_t h k5
    exact b_X12_until_21 cx hkn hL0 hK0 M2 H locs ls h w (lv_sub hl [0] rfl)
  · have h := x_f h k5
    refine lv_iload_n hx hb dX12_until_13 rfl (lv_at hl 2 rfl) ?_
    refine lv_iload_n hx hb dX12_until_14 rfl (lv_at hl 3 rfl) ?_
    obtain ⟨M6, r7, y8, h⟩ := x_cl h
    refine r_callSi (As := [.int c2, .int c3]) (rest := []) cx w hkn hl.1 (k_X12_isStone hG y8) (va_cwS 2 hts gX12_until_X12_isStone rfl rfl rfl (by decide +kernel) ⟨Nat.le_of_ble_eq_true rfl, Nat.le_of_ble_eq_true rfl⟩) rfl rfl (Nat.le_of_ble_eq_true rfl) dX12_until_15 (fun H locs w => ?_)
    refine lv_if_ne (tgt := 27) hx hb dX12_until_18 (by decide) (fun k9 => ?_) (fun k9 => ?_)
    · have h := x_f h k9
      refine lv_aload_n hx hb dX12_until_27 rfl (lv_at hl 0 rfl) ?_
      obtain ⟨q10, eq10, h⟩ := x_rf h
      obtain ⟨hLq10, hKq10⟩ := wt_q hG hL0 hK0 eq10
      have hKq10 : gK G q10 = 10 := hKq10
      refine r_getR (k := 14) cx w hL0 hK0 (by decide) rfl wi_X12_until_X12 (by decide) rfl eq10 (List.mem_of_getElem? (i := 2) rfl) dX12_until_28 ?_
      refine lv_aload_n hx hb dX12_until_31 rfl (lv_at hl 0 rfl) ?_
      obtain ⟨q11, eq11, h⟩ := x_rf h
      obtain ⟨hLq11, hKq11⟩ := wt_q hG hL0 hK0 eq11
      have hKq11 : gK G q11 = 10 := hKq11
      refine r_getR (k := 13) cx w hL0 hK0 (by decide) rfl wi_X12_until_X12 (by decide) rfl eq11 (List.mem_of_getElem? (i := 3) rfl) dX12_until_32 ?_
      obtain ⟨M12, r13, y14, h⟩ := x_cl h
      refine r_callVr (As := [.ref q11]) (rest := []) cx w hkn hl.1 (k_X11_become hG hLq10 hKq10 hLq11 hKq11 y14) (cwV 1 hts gX12_until_X11_become rfl rfl rfl (by decide +kernel) ⟨Nat.le_of_ble_eq_true rfl, Nat.le_of_ble_eq_true rfl⟩) hLq10 hKq10 (by decide) rfl rfl rfl (Nat.le_of_ble_eq_true rfl) dX12_until_35 (fun H locs w => ?_)
      obtain ⟨⟨hLr13, hKr13⟩, h⟩ := x_ck h
      refine lv_pop hx hb dX12_until_38 rfl ?_
      refine lv_iconst (v := (0 : Int32)) hx hb dX12_until_39 (by decide) ?_
      refine lv_istore (lv' := [(4, .int ((0 : Int32))), (0, .ref a0), (1, .int c1), (2, .int c2), (3, .int c3)]) hx hb dX12_until_40 hl (by decide) rfl (fun ls hl => ?_)
      exact b_X12_until_42 cx hkn hL0 hK0 fu M12 ((0 : Int32)) H locs ls h w (lv_sub hl [1, 2, 3, 4, 0] rfl)
    · have h := x_t h k9
      exact b_X12_until_21 cx hkn hL0 hK0 M6 H locs ls h w (lv_sub hl [0] rfl)
-- X12_wash
theorem wi_X12_wash_X12 : ∀ w ∈ wsX120, w ∈ wsX12_wash := by decide +kernel
abbrev rmX12_wash : Room := { frames := 2, cells := 0, slots := 0, locals := 47 }
def m_X12_wash (G : gS) (M : mS) (a0 : Nat) (c1 : Int32) (c2 : Int32) : Option (mS × Int32) := o_wI M a0 0 (0 : Int32) (fun M1 => o_cl (m_X12_isStone G M1 c1 c2) (fun M2 r3 => (if r3 = 0 then o_cl (m_X12_no G M2 a0 (1 : Int32)) (fun M14 r15 => some (M14, r15)) else (if c1 ≤ c2 then o_rf (gP G a0 13) (fun q7 => o_cl (m_X11_wash G M2 q7 c1 c2) (fun M8 r9 => some (M8, r9))) else o_cl (m_X12_no G M2 a0 (2 : Int32)) (fun M11 r12 => some (M11, r12))))))
set_option maxHeartbeats 4000000 in
set_option maxRecDepth 100000 in
theorem k_X12_wash {l : Launch} {D : va_G} {cy : cyS} {G : gS} {M M' : mS} {r : Int32} {a0 : Nat} {c1 : Int32} {c2 : Int32} (hG : wt G) (hL0 : a0 ∈ gL G) (hK0 : gK G a0 = 11) (h : m_X12_wash G M a0 c1 c2 = some (M', r)) : ctI l yX12_wash wsX12_wash rmX12_wash D cy G M [.ref a0, .int c1, .int c2] M' r := by
  unfold m_X12_wash at h
  refine ctI_of (cc := cX12_wash) (nL := 3) (ret := (some .int)) (lv := [(0, .ref a0), (1, .int c1), (2, .int c2)]) hG (by decide) rfl ⟨rfl, rfl⟩ (Nat.le_of_ble_eq_true rfl) rfl ?_
  intro p e s m args below meth c A ls cx w hl
  obtain ⟨hx, hb, hml, hown, hts, hr, hlocks, hK, hA, -, hsx⟩ := id cx
  have hkn : 0 ≤ (rmX12_wash).cells ∧ 0 ≤ (rmX12_wash).slots := ⟨Nat.zero_le _, Nat.zero_le _⟩
  refine lv_aload_n hx hb dX12_wash_0 rfl (lv_at hl 0 rfl) ?_
  refine lv_iconst (v := (0 : Int32)) hx hb dX12_wash_1 (by decide) ?_
  obtain ⟨M1, eM1, h⟩ := x_wI h
  refine r_putI (k := 0) (ty := .int) cx w tyX12 tyX12_ok nmX12 hL0 hK0 (by decide) rfl wi_X12_wash_X12 (by decide) rfl rfl rfl rfl st_11_0 (ln_11 _ _ (by decide)) (List.mem_of_getElem? (i := 1) rfl) dX12_wash_2 eM1 (fun H locs w => ?_)
  refine lv_iload_n hx hb dX12_wash_5 rfl (lv_at hl 1 rfl) ?_
  refine lv_iload_n hx hb dX12_wash_6 rfl (lv_at hl 2 rfl) ?_
  obtain ⟨M2, r3, y4, h⟩ := x_cl h
  refine r_callSi (As := [.int c1, .int c2]) (rest := []) cx w hkn hl.1 (k_X12_isStone hG y4) (va_cwS 2 hts gX12_wash_X12_isStone rfl rfl rfl (by decide +kernel) ⟨Nat.le_of_ble_eq_true rfl, Nat.le_of_ble_eq_true rfl⟩) rfl rfl (Nat.le_of_ble_eq_true rfl) dX12_wash_7 (fun H locs w => ?_)
  refine lv_if_ne (tgt := 19) hx hb dX12_wash_10 (by decide) (fun k5 => ?_) (fun k5 => ?_)
  · have h := x_f h k5
    refine lv_iload_n hx hb dX12_wash_19 rfl (lv_at hl 1 rfl) ?_
    refine lv_iload_n hx hb dX12_wash_20 rfl (lv_at hl 2 rfl) ?_
    refine lv_icmp_le (tgt := 32) hx hb dX12_wash_21 (by decide) (fun k6 => ?_) (fun k6 => ?_)
    · have h := x_t h k6
      refine lv_aload_n hx hb dX12_wash_32 rfl (lv_at hl 0 rfl) ?_
      obtain ⟨q7, eq7, h⟩ := x_rf h
      obtain ⟨hLq7, hKq7⟩ := wt_q hG hL0 hK0 eq7
      have hKq7 : gK G q7 = 10 := hKq7
      refine r_getR (k := 13) cx w hL0 hK0 (by decide) rfl wi_X12_wash_X12 (by decide) rfl eq7 (List.mem_of_getElem? (i := 2) rfl) dX12_wash_33 ?_
      refine lv_iload_n hx hb dX12_wash_36 rfl (lv_at hl 1 rfl) ?_
      refine lv_iload_n hx hb dX12_wash_37 rfl (lv_at hl 2 rfl) ?_
      obtain ⟨M8, r9, y10, h⟩ := x_cl h
      refine r_callVi (As := [.int c1, .int c2]) (rest := []) cx w hkn hl.1 (k_X11_wash hG hLq7 hKq7 y10) (cwV 2 hts gX12_wash_X11_wash rfl rfl rfl (by decide +kernel) ⟨Nat.le_of_ble_eq_true rfl, Nat.le_of_ble_eq_true rfl⟩) hLq7 hKq7 (by decide) rfl rfl rfl (Nat.le_of_ble_eq_true rfl) dX12_wash_38 (fun H locs w => ?_)
      exact r_iret cx w h dX12_wash_41
    · have h := x_f h k6
      refine lv_aload_n hx hb dX12_wash_24 rfl (lv_at hl 0 rfl) ?_
      refine lv_iconst (v := (2 : Int32)) hx hb dX12_wash_25 (by decide) ?_
      obtain ⟨M11, r12, y13, h⟩ := x_cl h
      refine r_callVi (As := [.int ((2 : Int32))]) (rest := []) cx w hkn hl.1 (k_X12_no hG hL0 hK0 y13) (cwV 1 hts gX12_wash_X12_no rfl rfl rfl (by decide +kernel) ⟨Nat.le_of_ble_eq_true rfl, Nat.le_of_ble_eq_true rfl⟩) hL0 hK0 (by decide) rfl rfl rfl (Nat.le_of_ble_eq_true rfl) dX12_wash_26 (fun H locs w => ?_)
      refine lv_goto (tgt := 41) hx hb dX12_wash_29 (by decide) ?_
      exact r_iret cx w h dX12_wash_41
  · have h := x_t h k5
    refine lv_aload_n hx hb dX12_wash_13 rfl (lv_at hl 0 rfl) ?_
    refine lv_iconst (v := (1 : Int32)) hx hb dX12_wash_14 (by decide) ?_
    obtain ⟨M14, r15, y16, h⟩ := x_cl h
    refine r_callVi (As := [.int ((1 : Int32))]) (rest := []) cx w hkn hl.1 (k_X12_no hG hL0 hK0 y16) (cwV 1 hts gX12_wash_X12_no rfl rfl rfl (by decide +kernel) ⟨Nat.le_of_ble_eq_true rfl, Nat.le_of_ble_eq_true rfl⟩) hL0 hK0 (by decide) rfl rfl rfl (Nat.le_of_ble_eq_true rfl) dX12_wash_15 (fun H locs w => ?_)
    exact r_iret cx w h dX12_wash_18
