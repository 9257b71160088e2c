-- X12_place
theorem wi_X12_place_X10 : ∀ w ∈ wsX100, w ∈ wsX12_place := by decide +kernel
theorem wi_X12_place_X12 : ∀ w ∈ wsX120, w ∈ wsX12_place := by decide +kernel
abbrev rmX12_place : Room := { frames := 2, cells := 0, slots := 0, locals := 46 }
def m_X12_place (G : gS) (M : mS) (a0 : Nat) (c1 : Int32) : Option (mS × Int32) := o_rf (gP G a0 12) (fun q1 => o_rf (gP G q1 5) (fun q2 => o_rf (gP G a0 12) (fun q3 => o_cl (m_X12_numberAt G M a0 c1) (fun M4 r5 => o_ix (mI M q3 4) (gN G q2) (o_wI M4 q2 (Int32.toNatClampNeg (mI M q3 4)) r5 (fun M8 => o_rf (gP G a0 12) (fun q9 => o_wI M8 q9 4 ((mI M8 q9 4) + (1 : Int32)) (fun M10 => o_cl (m_X12_inRange G M10 a0 c1 (0 : Int32) (63 : Int32)) (fun M11 r12 => some (M11, r12))))))))))
set_option maxHeartbeats 4000000 in
set_option maxRecDepth 100000 in
theorem k_X12_place {l : Launch} {D : va_G} {cy : cyS} {G : gS} {M M' : mS} {r : Int32} {a0 : Nat} {c1 : Int32} (hG : wt G) (hL0 : a0 ∈ gL G) (hK0 : gK G a0 = 11) (h : m_X12_place G M a0 c1 = some (M', r)) : ctI l yX12_place wsX12_place rmX12_place D cy G M [.ref a0, .int c1] M' r := by
  unfold m_X12_place at h
  refine ctI_of (cc := cX12_place) (nL := 2) (ret := (some .int)) (lv := [(0, .ref a0), (1, .int c1)]) hG (by decide) rfl ⟨rfl, rfl⟩ (Nat.le_of_ble_eq_true rfl) rfl ?_
  intro p e s m args below meth c A ls cx w hl
  obtain ⟨hx, hb, hml, hown, hts, hr, hlocks, hK, hA, -, hsx⟩ := id cx
  have hkn : 0 ≤ (rmX12_place).cells ∧ 0 ≤ (rmX12_place).slots := ⟨Nat.zero_le _, Nat.zero_le _⟩
  refine lv_aload_n hx hb dX12_place_0 rfl (lv_at hl 0 rfl) ?_
  obtain ⟨q1, eq1, h⟩ := x_rf h
  obtain ⟨hLq1, hKq1⟩ := wt_q hG hL0 hK0 eq1
  have hKq1 : gK G q1 = 9 := hKq1
  refine r_getR (k := 12) cx w hL0 hK0 (by decide) rfl wi_X12_place_X12 (by decide) rfl eq1 (List.mem_of_getElem? (i := 1) rfl) dX12_place_1 ?_
  obtain ⟨q2, eq2, h⟩ := x_rf h
  obtain ⟨hLq2, hKq2⟩ := wt_q hG hLq1 hKq1 eq2
  have hKq2 : gK G q2 = 12 := hKq2
  refine r_getRN (k := 5) cx w hLq1 hKq1 (by decide) rfl wi_X12_place_X10 (by decide) rfl eq2 (nwF cx (q := (RX12, 241, "FlagAntsModel$Plan", "line", "[I", "FlagAntsModel")) (List.mem_of_getElem? (i := 14) rfl)) dX12_place_4 ?_
  refine lv_aload_n hx hb dX12_place_7 rfl (lv_at hl 0 rfl) ?_
  obtain ⟨q3, eq3, h⟩ := x_rf h
  obtain ⟨hLq3, hKq3⟩ := wt_q hG hL0 hK0 eq3
  have hKq3 : gK G q3 = 9 := hKq3
  refine r_getR (k := 12) cx w hL0 hK0 (by decide) rfl wi_X12_place_X12 (by decide) rfl eq3 (List.mem_of_getElem? (i := 1) rfl) dX12_place_8 ?_
  refine r_getIN (k := 4) (v := .int (mI M q3 4)) cx w hLq3 hKq3 (by decide) rfl wi_X12_place_X10 (by decide) rfl (nwF cx (q := (RX12, 233, "FlagAntsModel$Plan", "told", "I", "FlagAntsModel")) (List.mem_of_getElem? (i := 11) rfl)) dX12_place_11 ?_
  refine lv_aload_n hx hb dX12_place_14 rfl (lv_at hl 0 rfl) ?_
  refine lv_iload_n hx hb dX12_place_15 rfl (lv_at hl 1 rfl) ?_
  obtain ⟨M4, r5, y6, h⟩ := x_cl h
  refine r_callVi (As := [.int c1]) (rest := [.int ((mI M q3 4)), .ref q2]) cx w hkn hl.1 (k_X12_numberAt hG hL0 hK0 y6) (cwV 1 hts gX12_place_X12_numberAt rfl rfl rfl (by decide +kernel) ⟨Nat.le_of_ble_eq_true rfl, Nat.le_of_ble_eq_true rfl⟩) hL0 hK0 (by decide) rfl rfl rfl (Nat.le_of_ble_eq_true rfl) dX12_place_16 (fun H locs w => ?_)
  obtain ⟨z7, h⟩ := x_ix h
  obtain ⟨M8, eM8, h⟩ := x_wI h
  refine r_iast cx w hLq2 hKq2 z7 dX12_place_19 eM8 (fun H locs w => ?_)
  refine lv_aload_n hx hb dX12_place_20 rfl (lv_at hl 0 rfl) ?_
  obtain ⟨q9, eq9, h⟩ := x_rf h
  obtain ⟨hLq9, hKq9⟩ := wt_q hG hL0 hK0 eq9
  have hKq9 : gK G q9 = 9 := hKq9
  refine r_getR (k := 12) cx w hL0 hK0 (by decide) rfl wi_X12_place_X12 (by decide) rfl eq9 (List.mem_of_getElem? (i := 1) rfl) dX12_place_21 ?_
  refine lv_dup hx hb dX12_place_24 rfl ?_
  refine r_getIN (k := 4) (v := .int (mI M8 q9 4)) cx w hLq9 hKq9 (by decide) rfl wi_X12_place_X10 (by decide) rfl (nwF cx (q := (RX12, 233, "FlagAntsModel$Plan", "told", "I", "FlagAntsModel")) (List.mem_of_getElem? (i := 11) rfl)) dX12_place_25 ?_
  refine lv_iconst (v := (1 : Int32)) hx hb dX12_place_28 (by decide) ?_
  refine lv_iadd hx hb dX12_place_29 ?_
  obtain ⟨M10, eM10, h⟩ := x_wI h
  refine r_putIN (k := 4) (ty := .int) cx w tyX10 tyX10_ok nmX10 hLq9 hKq9 (by decide) rfl wi_X12_place_X10 (by decide) rfl rfl rfl rfl st_9_4 (ln_9 _ _ (by decide)) (nwF cx (q := (RX12, 233, "FlagAntsModel$Plan", "told", "I", "FlagAntsModel")) (List.mem_of_getElem? (i := 11) rfl)) dX12_place_30 eM10 (fun H locs w => ?_)
  refine lv_aload_n hx hb dX12_place_33 rfl (lv_at hl 0 rfl) ?_
  refine lv_iload_n hx hb dX12_place_34 rfl (lv_at hl 1 rfl) ?_
  refine lv_iconst (v := (0 : Int32)) hx hb dX12_place_35 (by decide) ?_
  refine lv_bipush (v := (63 : Int32)) hx hb dX12_place_36 (by decide) ?_
  obtain ⟨M11, r12, y13, h⟩ := x_cl h
  refine r_callVi (As := [.int c1, .int ((0 : Int32)), .int ((63 : Int32))]) (rest := []) cx w hkn hl.1 (k_X12_inRange hG hL0 hK0 y13) (cwV 3 hts gX12_place_X12_inRange rfl rfl rfl (by decide +kernel) ⟨Nat.le_of_ble_eq_true rfl, Nat.le_of_ble_eq_true rfl⟩) hL0 hK0 (by decide) rfl rfl rfl (Nat.le_of_ble_eq_true rfl) dX12_place_38 (fun H locs w => ?_)
  exact r_iret cx w h dX12_place_41
-- X12_antPlace
theorem wi_X12_antPlace_X10 : ∀ w ∈ wsX100, w ∈ wsX12_antPlace := by decide +kernel
theorem wi_X12_antPlace_X12 : ∀ w ∈ wsX120, w ∈ wsX12_antPlace := by decide +kernel
abbrev rmX12_antPlace : Room := { frames := 3, cells := 0, slots := 0, locals := 67 }
def m_X12_antPlace_72 (G : gS) (a0 : Nat) (c1 : Int32)  (M : mS) (v2 : Int32) (s0 : Nat) (s1 : Int32) (s2 : Int32) : Option (mS × Int32) := o_ix s1 (gN G s0) (o_wI M s0 (Int32.toNatClampNeg s1) s2 (fun M2 => some (M2, v2)))
def m_X12_antPlace (G : gS) (M : mS) (a0 : Nat) (c1 : Int32) : Option (mS × Int32) := o_cl (m_X12_place G M a0 c1) (fun M1 r2 => o_rf (gP G a0 12) (fun q4 => o_rf (gP G q4 7) (fun q5 => o_rf (gP G a0 12) (fun q6 => o_rf (gP G a0 12) (fun q7 => o_rf (gP G q7 5) (fun q8 => o_ix (0 : Int32) (gN G q8) (o_ix ((mI M1 q6 3) - (1 : Int32)) (gN G q5) (o_wI M1 q5 (Int32.toNatClampNeg ((mI M1 q6 3) - (1 : Int32))) (mI M1 q8 (Int32.toNatClampNeg (0 : Int32))) (fun M11 => o_rf (gP G a0 12) (fun q12 => o_rf (gP G q12 8) (fun q13 => o_rf (gP G a0 12) (fun q14 => o_rf (gP G a0 12) (fun q15 => (if (mI M11 q15 4) ≤ (1 : Int32) then m_X12_antPlace_72 G a0 c1 M11 r2 q13 (((mI M11 q14 3) - (1 : Int32))) ((0 : Int32)) else o_rf (gP G a0 12) (fun q17 => o_rf (gP G q17 5) (fun q18 => o_ix (1 : Int32) (gN G q18) (m_X12_antPlace_72 G a0 c1 M11 r2 q13 (((mI M11 q14 3) - (1 : Int32))) ((mI M11 q18 (Int32.toNatClampNeg (1 : Int32)))))))))))))))))))))
set_option maxHeartbeats 4000000 in
set_option maxRecDepth 100000 in
theorem b_X12_antPlace_72 {p : Program} {e : Env} {s : State} {m : MethodId} {args : Array Value} {below : List Frame} {meth : Method} {c : Code} {A : Nat → Prop} {l : Launch} {D : va_G} {cy : cyS} {G : gS} (cx : cX p s m args meth c cX12_antPlace RX12 3 (some .int) wsX12_antPlace D cy G A) {k0 n0 : Nat} (hkn : k0 ≤ (rmX12_antPlace).cells ∧ n0 ≤ (rmX12_antPlace).slots) {M' : mS} {r : Int32} {a0 : Nat} {c1 : Int32} (hL0 : a0 ∈ gL G) (hK0 : gK G a0 = 11)  : ∀ (M : mS) (v2 : Int32) (s0 : Nat) (s1 : Int32) (s2 : Int32) (H : Heap) (locs : List Loc) (ls : Array Slot), s0 ∈ gL G → gK G s0 = 12 → m_X12_antPlace_72 G a0 c1 M v2 s0 s1 s2 = some (M', r) → wd D cy G M A s.heap H locs → lv_has ls 3 [(2, .int v2)] → W p l e rmX12_antPlace s m args below meth c H locs k0 n0 (MQ below (va_Qi (fun (r' : Int32) (_ : Unit) => r' = r) (fun _ t => wOut D cy G M' t) A) args s k0 n0 A) (F0 m 72 ls [.int s2, .int s1, .ref s0]) := by
  obtain ⟨hx, hb, hml, hown, hts, hr, hlocks, hK, hA, hG, hsx⟩ := id cx
  intro M v2 s0 s1 s2 H locs ls sL0 sK0 h w hl
  unfold m_X12_antPlace_72 at h
  obtain ⟨z1, h⟩ := x_ix h
  obtain ⟨M2, eM2, h⟩ := x_wI h
  refine r_iast cx w sL0 sK0 z1 dX12_antPlace_72 eM2 (fun H locs w => ?_)
  refine lv_iload_n hx hb dX12_antPlace_73 rfl (lv_at hl 0 rfl) ?_
  exact r_iret cx w h dX12_antPlace_74
set_option maxHeartbeats 4000000 in
set_option maxRecDepth 100000 in
theorem k_X12_antPlace {l : Launch} {D : va_G} {cy : cyS} {G : gS} {M M' : mS} {r : Int32} {a0 : Nat} {c1 : Int32} (hG : wt G) (hL0 : a0 ∈ gL G) (hK0 : gK G a0 = 11) (h : m_X12_antPlace G M a0 c1 = some (M', r)) : ctI l yX12_antPlace wsX12_antPlace rmX12_antPlace D cy G M [.ref a0, .int c1] M' r := by
  unfold m_X12_antPlace at h
  refine ctI_of (cc := cX12_antPlace) (nL := 3) (ret := (some .int)) (lv := [(0, .ref a0), (1, .int c1)]) hG (by decide) rfl ⟨rfl, rfl⟩ (Nat.le_of_ble_eq_true rfl) rfl ?_
  intro p e s m args below meth c A ls cx w hl
  obtain ⟨hx, hb, hml, hown, hts, hr, hlocks, hK, hA, -, hsx⟩ := id cx
  have hkn : 0 ≤ (rmX12_antPlace).cells ∧ 0 ≤ (rmX12_antPlace).slots := ⟨Nat.zero_le _, Nat.zero_le _⟩
  refine lv_aload_n hx hb dX12_antPlace_0 rfl (lv_at hl 0 rfl) ?_
  refine lv_iload_n hx hb dX12_antPlace_1 rfl (lv_at hl 1 rfl) ?_
  obtain ⟨M1, r2, y3, h⟩ := x_cl h
  refine r_callVi (As := [.int c1]) (rest := []) cx w hkn hl.1 (k_X12_place hG hL0 hK0 y3) (cwV 1 hts gX12_antPlace_X12_place rfl rfl rfl (by decide +kernel) ⟨Nat.le_of_ble_eq_true rfl, Nat.le_of_ble_eq_true rfl⟩) hL0 hK0 (by decide) rfl rfl rfl (Nat.le_of_ble_eq_true rfl) dX12_antPlace_2 (fun H locs w => ?_)
  refine lv_istore_n (lv' := [(2, .int r2), (0, .ref a0), (1, .int c1)]) hx hb dX12_antPlace_5 rfl hl (by decide) rfl (fun ls hl => ?_)
  refine lv_aload_n hx hb dX12_antPlace_6 rfl (lv_at hl 1 rfl) ?_
  obtain ⟨q4, eq4, h⟩ := x_rf h
  obtain ⟨hLq4, hKq4⟩ := wt_q hG hL0 hK0 eq4
  have hKq4 : gK G q4 = 9 := hKq4
  refine r_getR (k := 12) cx w hL0 hK0 (by decide) rfl wi_X12_antPlace_X12 (by decide) rfl eq4 (List.mem_of_getElem? (i := 1) rfl) dX12_antPlace_7 ?_
  obtain ⟨q5, eq5, h⟩ := x_rf h
  obtain ⟨hLq5, hKq5⟩ := wt_q hG hLq4 hKq4 eq5
  have hKq5 : gK G q5 = 12 := hKq5
  refine r_getRN (k := 7) cx w hLq4 hKq4 (by decide) rfl wi_X12_antPlace_X10 (by decide) rfl eq5 (nwF cx (q := (RX12, 250, "FlagAntsModel$Plan", "column", "[I", "FlagAntsModel")) (List.mem_of_getElem? (i := 15) rfl)) dX12_antPlace_10 ?_
  refine lv_aload_n hx hb dX12_antPlace_13 rfl (lv_at hl 1 rfl) ?_
  obtain ⟨q6, eq6, h⟩ := x_rf h
  obtain ⟨hLq6, hKq6⟩ := wt_q hG hL0 hK0 eq6
  have hKq6 : gK G q6 = 9 := hKq6
  refine r_getR (k := 12) cx w hL0 hK0 (by decide) rfl wi_X12_antPlace_X12 (by decide) rfl eq6 (List.mem_of_getElem? (i := 1) rfl) dX12_antPlace_14 ?_
  refine r_getIN (k := 3) (v := .int (mI M1 q6 3)) cx w hLq6 hKq6 (by decide) rfl wi_X12_antPlace_X10 (by decide) rfl (nwF cx (q := (RX12, 64, "FlagAntsModel$Plan", "ants", "I", "FlagAntsModel")) (List.mem_of_getElem? (i := 0) rfl)) dX12_antPlace_17 ?_
  refine lv_iconst (v := (1 : Int32)) hx hb dX12_antPlace_20 (by decide) ?_
  refine lv_isub hx hb dX12_antPlace_21 ?_
  refine lv_aload_n hx hb dX12_antPlace_22 rfl (lv_at hl 1 rfl) ?_
  obtain ⟨q7, eq7, h⟩ := x_rf h
  obtain ⟨hLq7, hKq7⟩ := wt_q hG hL0 hK0 eq7
  have hKq7 : gK G q7 = 9 := hKq7
  refine r_getR (k := 12) cx w hL0 hK0 (by decide) rfl wi_X12_antPlace_X12 (by decide) rfl eq7 (List.mem_of_getElem? (i := 1) rfl) dX12_antPlace_23 ?_
  obtain ⟨q8, eq8, h⟩ := x_rf h
  obtain ⟨hLq8, hKq8⟩ := wt_q hG hLq7 hKq7 eq8
  have hKq8 : gK G q8 = 12 := hKq8
  refine r_getRN (k := 5) cx w hLq7 hKq7 (by decide) rfl wi_X12_antPlace_X10 (by decide) rfl eq8 (nwF cx (q := (RX12, 241, "FlagAntsModel$Plan", "line", "[I", "FlagAntsModel")) (List.mem_of_getElem? (i := 14) rfl)) dX12_antPlace_26 ?_
  refine lv_iconst (v := (0 : Int32)) hx hb dX12_antPlace_29 (by decide) ?_
  obtain ⟨z9, h⟩ := x_ix h
  refine r_iald cx w hLq8 hKq8 z9 dX12_antPlace_30 ?_
  obtain ⟨z10, h⟩ := x_ix h
  obtain ⟨M11, eM11, h⟩ := x_wI h
  refine r_iast cx w hLq5 hKq5 z10 dX12_antPlace_31 eM11 (fun H locs w => ?_)
  refine lv_aload_n hx hb dX12_antPlace_32 rfl (lv_at hl 1 rfl) ?_
  obtain ⟨q12, eq12, h⟩ := x_rf h
  obtain ⟨hLq12, hKq12⟩ := wt_q hG hL0 hK0 eq12
  have hKq12 : gK G q12 = 9 := hKq12
  refine r_getR (k := 12) cx w hL0 hK0 (by decide) rfl wi_X12_antPlace_X12 (by decide) rfl eq12 (List.mem_of_getElem? (i := 1) rfl) dX12_antPlace_33 ?_
  obtain ⟨q13, eq13, h⟩ := x_rf h
  obtain ⟨hLq13, hKq13⟩ := wt_q hG hLq12 hKq12 eq13
  have hKq13 : gK G q13 = 12 := hKq13
  refine r_getRN (k := 8) cx w hLq12 hKq12 (by decide) rfl wi_X12_antPlace_X10 (by decide) rfl eq13 (nwF cx (q := (RX12, 253, "FlagAntsModel$Plan", "row", "[I", "FlagAntsModel")) (List.mem_of_getElem? (i := 16) rfl)) dX12_antPlace_36 ?_
  refine lv_aload_n hx hb dX12_antPlace_39 rfl (lv_at hl 1 rfl) ?_
  obtain ⟨q14, eq14, h⟩ := x_rf h
  obtain ⟨hLq14, hKq14⟩ := wt_q hG hL0 hK0 eq14
  have hKq14 : gK G q14 = 9 := hKq14
  refine r_getR (k := 12) cx w hL0 hK0 (by decide) rfl wi_X12_antPlace_X12 (by decide) rfl eq14 (List.mem_of_getElem? (i := 1) rfl) dX12_antPlace_40 ?_
  refine r_getIN (k := 3) (v := .int (mI M11 q14 3)) cx w hLq14 hKq14 (by decide) rfl wi_X12_antPlace_X10 (by decide) rfl (nwF cx (q := (RX12, 64, "FlagAntsModel$Plan", "ants", "I", "FlagAntsModel")) (List.mem_of_getElem? (i := 0) rfl)) dX12_antPlace_43 ?_
  refine lv_iconst (v := (1 : Int32)) hx hb dX12_antPlace_46 (by decide) ?_
  refine lv_isub hx hb dX12_antPlace_47 ?_
  refine lv_aload_n hx hb dX12_antPlace_48 rfl (lv_at hl 1 rfl) ?_
  obtain ⟨q15, eq15, h⟩ := x_rf h
  obtain ⟨hLq15, hKq15⟩ := wt_q hG hL0 hK0 eq15
  have hKq15 : gK G q15 = 9 := hKq15
  refine r_getR (k := 12) cx w hL0 hK0 (by decide) rfl wi_X12_antPlace_X12 (by decide) rfl eq15 (List.mem_of_getElem? (i := 1) rfl) dX12_antPlace_49 ?_
  refine r_getIN (k := 4) (v := .int (mI M11 q15 4)) cx w hLq15 hKq15 (by decide) rfl wi_X12_antPlace_X10 (by decide) rfl (nwF cx (q := (RX12, 233, "FlagAntsModel$Plan", "told", "I", "FlagAntsModel")) (List.mem_of_getElem? (i := 11) rfl)) dX12_antPlace_52 ?_
  refine lv_iconst (v := (1 : Int32)) hx hb dX12_antPlace_55 (by decide) ?_
  refine lv_icmp_le (tgt := 71) hx hb dX12_antPlace_56 (by decide) (fun k16 => ?_) (fun k16 => ?_)
  · have h := x_t h k16
    refine lv_iconst (v := (0 : Int32)) hx hb dX12_antPlace_71 (by decide) ?_
    exact b_X12_antPlace_72 cx hkn hL0 hK0 M11 r2 q13 (((mI M11 q14 3) - (1 : Int32))) ((0 : Int32)) H locs ls hLq13 hKq13 h w (lv_sub hl [0] rfl)
  · have h := x_f h k16
    refine lv_aload_n hx hb dX12_antPlace_59 rfl (lv_at hl 1 rfl) ?_
    obtain ⟨q17, eq17, h⟩ := x_rf h
    obtain ⟨hLq17, hKq17⟩ := wt_q hG hL0 hK0 eq17
    have hKq17 : gK G q17 = 9 := hKq17
    refine r_getR (k := 12) cx w hL0 hK0 (by decide) rfl wi_X12_antPlace_X12 (by decide) rfl eq17 (List.mem_of_getElem? (i := 1) rfl) dX12_antPlace_60 ?_
    obtain ⟨q18, eq18, h⟩ := x_rf h
    obtain ⟨hLq18, hKq18⟩ := wt_q hG hLq17 hKq17 eq18
    have hKq18 : gK G q18 = 12 := hKq18
    refine r_getRN (k := 5) cx w hLq17 hKq17 (by decide) rfl wi_X12_antPlace_X10 (by decide) rfl eq18 (nwF cx (q := (RX12, 241, "FlagAntsModel$Plan", "line", "[I", "FlagAntsModel")) (List.mem_of_getElem? (i := 14) rfl)) dX12_antPlace_63 ?_
    refine lv_iconst (v := (1 : Int32)) hx hb dX12_antPlace_66 (by decide) ?_
    obtain ⟨z19, h⟩ := x_ix h
    refine r_iald cx w hLq18 hKq18 z19 dX12_antPlace_67 ?_
    refine lv_goto (tgt := 72) hx hb dX12_antPlace_68 (by decide) ?_
    exact b_X12_antPlace_72 cx hkn hL0 hK0 M11 r2 q13 (((mI M11 q14 3) - (1 : Int32))) ((mI M11 q18 (Int32.toNatClampNeg (1 : Int32)))) H locs ls hLq13 hKq13 h w (lv_sub hl [0] rfl)
-- X12_painted
theorem wi_X12_painted_X10 : ∀ w ∈ wsX100, w ∈ wsX12_painted := by decide +kernel
theorem wi_X12_painted_X12 : ∀ w ∈ wsX120, w ∈ wsX12_painted := by decide +kernel
abbrev rmX12_painted : Room := { frames := 2, cells := 0, slots := 0, locals := 46 }
def m_X12_painted_55 (G : gS) (a0 : Nat) (c1 : Int32)  (M : mS) (v2 : Int32) : Option (mS × Int32) := some (M, v2)
def m_X12_painted (G : gS) (M : mS) (a0 : Nat) (c1 : Int32) : Option (mS × Int32) := o_cl (m_X12_inRange G M a0 c1 (0 : Int32) (5 : Int32)) (fun M1 r2 => o_rf (gP G a0 12) (fun q4 => o_wI M1 q4 4 (0 : Int32) (fun M5 => (if r2 = 0 then o_rf (gP G a0 12) (fun q7 => o_rf (gP G q7 10) (fun q8 => o_rf (gP G a0 12) (fun q9 => o_rf (gP G q9 5) (fun q10 => o_ix (1 : Int32) (gN G q10) (o_rf (gP G a0 12) (fun q12 => o_rf (gP G q12 5) (fun q13 => o_ix (0 : Int32) (gN G q13) (o_cl (m_X12_numberAt G M5 a0 c1) (fun M15 r16 => o_ix (((64 : Int32) * (mI M5 q10 (Int32.toNatClampNeg (1 : Int32)))) + (mI M5 q13 (Int32.toNatClampNeg (0 : Int32)))) (gN G q8) (o_wI M15 q8 (Int32.toNatClampNeg (((64 : Int32) * (mI M5 q10 (Int32.toNatClampNeg (1 : Int32)))) + (mI M5 q13 (Int32.toNatClampNeg (0 : Int32))))) r16 (fun M19 => m_X12_painted_55 G a0 c1 M19 r2))))))))))) else m_X12_painted_55 G a0 c1 M5 r2))))
set_option maxHeartbeats 4000000 in
set_option maxRecDepth 100000 in
theorem b_X12_painted_55 {p : Program} {e : Env} {s : State} {m : MethodId} {args : Array Value} {below : List Frame} {meth : Method} {c : Code} {A : Nat → Prop} {l : Launch} {D : va_G} {cy : cyS} {G : gS} (cx : cX p s m args meth c cX12_painted RX12 3 (some .int) wsX12_painted D cy G A) {k0 n0 : Nat} (hkn : k0 ≤ (rmX12_painted).cells ∧ n0 ≤ (rmX12_painted).slots) {M' : mS} {r : Int32} {a0 : Nat} {c1 : Int32} (hL0 : a0 ∈ gL G) (hK0 : gK G a0 = 11)  : ∀ (M : mS) (v2 : Int32) (H : Heap) (locs : List Loc) (ls : Array Slot), m_X12_painted_55 G a0 c1 M v2 = some (M', r) → wd D cy G M A s.heap H locs → lv_has ls 3 [(2, .int v2)] → W p l e rmX12_painted s m args below meth c H locs k0 n0 (MQ below (va_Qi (fun (r' : Int32) (_ : Unit) => r' = r) (fun _ t => wOut D cy G M' t) A) args s k0 n0 A) (F0 m 55 ls []) := by
  obtain ⟨hx, hb, hml, hown, hts, hr, hlocks, hK, hA, hG, hsx⟩ := id cx
  intro M v2 H locs ls h w hl
  unfold m_X12_painted_55 at h
  refine lv_iload_n hx hb dX12_painted_55 rfl (lv_at hl 0 rfl) ?_
  exact r_iret cx w h dX12_painted_56
set_option maxHeartbeats 4000000 in
set_option maxRecDepth 100000 in
theorem k_X12_painted {l : Launch} {D : va_G} {cy : cyS} {G : gS} {M M' : mS} {r : Int32} {a0 : Nat} {c1 : Int32} (hG : wt G) (hL0 : a0 ∈ gL G) (hK0 : gK G a0 = 11) (h : m_X12_painted G M a0 c1 = some (M', r)) : ctI l yX12_painted wsX12_painted rmX12_painted D cy G M [.ref a0, .int c1] M' r := by
  unfold m_X12_painted at h
  refine ctI_of (cc := cX12_painted) (nL := 3) (ret := (some .int)) (lv := [(0, .ref a0), (1, .int c1)]) hG (by decide) rfl ⟨rfl, rfl⟩ (Nat.le_of_ble_eq_true rfl) rfl ?_
  intro p e s m args below meth c A ls cx w hl
  obtain ⟨hx, hb, hml, hown, hts, hr, hlocks, hK, hA, -, hsx⟩ := id cx
  have hkn : 0 ≤ (rmX12_painted).cells ∧ 0 ≤ (rmX12_painted).slots := ⟨Nat.zero_le _, Nat.zero_le _⟩
  refine lv_aload_n hx hb dX12_painted_0 rfl (lv_at hl 0 rfl) ?_
  refine lv_iload_n hx hb dX12_painted_1 rfl (lv_at hl 1 rfl) ?_
  refine lv_iconst (v := (0 : Int32)) hx hb dX12_painted_2 (by decide) ?_
  refine lv_iconst (v := (5 : Int32)) hx hb dX12_painted_3 (by decide) ?_
  obtain ⟨M1, r2, y3, h⟩ := x_cl h
  refine r_callVi (As := [.int c1, .int ((0 : Int32)), .int ((5 : Int32))]) (rest := []) cx w hkn hl.1 (k_X12_inRange hG hL0 hK0 y3) (cwV 3 hts gX12_painted_X12_inRange rfl rfl rfl (by decide +kernel) ⟨Nat.le_of_ble_eq_true rfl, Nat.le_of_ble_eq_true rfl⟩) hL0 hK0 (by decide) rfl rfl rfl (Nat.le_of_ble_eq_true rfl) dX12_painted_4 (fun H locs w => ?_)
  refine lv_istore_n (lv' := [(2, .int r2), (0, .ref a0), (1, .int c1)]) hx hb dX12_painted_7 rfl hl (by decide) rfl (fun ls hl => ?_)
  refine lv_aload_n hx hb dX12_painted_8 rfl (lv_at hl 1 rfl) ?_
  obtain ⟨q4, eq4, h⟩ := x_rf h
  obtain ⟨hLq4, hKq4⟩ := wt_q hG hL0 hK0 eq4
  have hKq4 : gK G q4 = 9 := hKq4
  refine r_getR (k := 12) cx w hL0 hK0 (by decide) rfl wi_X12_painted_X12 (by decide) rfl eq4 (List.mem_of_getElem? (i := 1) rfl) dX12_painted_9 ?_
  refine lv_iconst (v := (0 : Int32)) hx hb dX12_painted_12 (by decide) ?_
  obtain ⟨M5, eM5, h⟩ := x_wI h
  refine r_putIN (k := 4) (ty := .int) cx w tyX10 tyX10_ok nmX10 hLq4 hKq4 (by decide) rfl wi_X12_painted_X10 (by decide) rfl rfl rfl rfl st_9_4 (ln_9 _ _ (by decide)) (nwF cx (q := (RX12, 233, "FlagAntsModel$Plan", "told", "I", "FlagAntsModel")) (List.mem_of_getElem? (i := 11) rfl)) dX12_painted_13 eM5 (fun H locs w => ?_)
  refine lv_iload_n hx hb dX12_painted_16 rfl (lv_at hl 0 rfl) ?_
  refine lv_if_ne (tgt := 55) hx hb dX12_painted_17 (by decide) (fun k6 => ?_) (fun k6 => ?_)
  · have h := x_f h k6
    exact b_X12_painted_55 cx hkn hL0 hK0 M5 r2 H locs ls h w (lv_sub hl [0] rfl)
  · have h := x_t h k6
    refine lv_aload_n hx hb dX12_painted_20 rfl (lv_at hl 1 rfl) ?_
    obtain ⟨q7, eq7, h⟩ := x_rf h
    obtain ⟨hLq7, hKq7⟩ := wt_q hG hL0 hK0 eq7
    have hKq7 : gK G q7 = 9 := hKq7
    refine r_getR (k := 12) cx w hL0 hK0 (by decide) rfl wi_X12_painted_X12 (by decide) rfl eq7 (List.mem_of_getElem? (i := 1) rfl) dX12_painted_21 ?_
    obtain ⟨q8, eq8, h⟩ := x_rf h
    obtain ⟨hLq8, hKq8⟩ := wt_q hG hLq7 hKq7 eq8
    have hKq8 : gK G q8 = 12 := hKq8
    refine r_getRN (k := 10) cx w hLq7 hKq7 (by decide) rfl wi_X12_painted_X10 (by decide) rfl eq8 (nwF cx (q := (RX12, 256, "FlagAntsModel$Plan", "colours", "[I", "FlagAntsModel")) (List.mem_of_getElem? (i := 17) rfl)) dX12_painted_24 ?_
    refine lv_bipush (v := (64 : Int32)) hx hb dX12_painted_27 (by decide) ?_
    refine lv_aload_n hx hb dX12_painted_29 rfl (lv_at hl 1 rfl) ?_
    obtain ⟨q9, eq9, h⟩ := x_rf h
    obtain ⟨hLq9, hKq9⟩ := wt_q hG hL0 hK0 eq9
    have hKq9 : gK G q9 = 9 := hKq9
    refine r_getR (k := 12) cx w hL0 hK0 (by decide) rfl wi_X12_painted_X12 (by decide) rfl eq9 (List.mem_of_getElem? (i := 1) rfl) dX12_painted_30 ?_
    obtain ⟨q10, eq10, h⟩ := x_rf h
    obtain ⟨hLq10, hKq10⟩ := wt_q hG hLq9 hKq9 eq10
    have hKq10 : gK G q10 = 12 := hKq10
    refine r_getRN (k := 5) cx w hLq9 hKq9 (by decide) rfl wi_X12_painted_X10 (by decide) rfl eq10 (nwF cx (q := (RX12, 241, "FlagAntsModel$Plan", "line", "[I", "FlagAntsModel")) (List.mem_of_getElem? (i := 14) rfl)) dX12_painted_33 ?_
    refine lv_iconst (v := (1 : Int32)) hx hb dX12_painted_36 (by decide) ?_
    obtain ⟨z11, h⟩ := x_ix h
    refine r_iald cx w hLq10 hKq10 z11 dX12_painted_37 ?_
    refine lv_imul hx hb dX12_painted_38 ?_
    refine lv_aload_n hx hb dX12_painted_39 rfl (lv_at hl 1 rfl) ?_
    obtain ⟨q12, eq12, h⟩ := x_rf h
    obtain ⟨hLq12, hKq12⟩ := wt_q hG hL0 hK0 eq12
    have hKq12 : gK G q12 = 9 := hKq12
    refine r_getR (k := 12) cx w hL0 hK0 (by decide) rfl wi_X12_painted_X12 (by decide) rfl eq12 (List.mem_of_getElem? (i := 1) rfl) dX12_painted_40 ?_
    obtain ⟨q13, eq13, h⟩ := x_rf h
    obtain ⟨hLq13, hKq13⟩ := wt_q hG hLq12 hKq12 eq13
    have hKq13 : gK G q13 = 12 := hKq13
    refine r_getRN (k := 5) cx w hLq12 hKq12 (by decide) rfl wi_X12_painted_X10 (by decide) rfl eq13 (nwF cx (q := (RX12, 241, "FlagAntsModel$Plan", "line", "[I", "FlagAntsModel")) (List.mem_of_getElem? (i := 14) rfl)) dX12_painted_43 ?_
    refine lv_iconst (v := (0 : Int32)) hx hb dX12_painted_46 (by decide) ?_
    obtain ⟨z14, h⟩ := x_ix h
    refine r_iald cx w hLq13 hKq13 z14 dX12_painted_47 ?_
    refine lv_iadd hx hb dX12_painted_48 ?_
    refine lv_aload_n hx hb dX12_painted_49 rfl (lv_at hl 1 rfl) ?_
    refine lv_iload_n hx hb dX12_painted_50 rfl (lv_at hl 2 rfl) ?_
    obtain ⟨M15, r16, y17, h⟩ := x_cl h
    refine r_callVi (As := [.int c1]) (rest := [.int ((((64 : Int32) * (mI M5 q10 (Int32.toNatClampNeg (1 : Int32)))) + (mI M5 q13 (Int32.toNatClampNeg (0 : Int32))))), .ref q8]) cx w hkn hl.1 (k_X12_numberAt hG hL0 hK0 y17) (cwV 1 hts gX12_painted_X12_numberAt rfl rfl rfl (by decide +kernel) ⟨Nat.le_of_ble_eq_true rfl, Nat.le_of_ble_eq_true rfl⟩) hL0 hK0 (by decide) rfl rfl rfl (Nat.le_of_ble_eq_true rfl) dX12_painted_51 (fun H locs w => ?_)
    obtain ⟨z18, h⟩ := x_ix h
    obtain ⟨M19, eM19, h⟩ := x_wI h
    refine r_iast cx w hLq8 hKq8 z18 dX12_painted_54 eM19 (fun H locs w => ?_)
    exact b_X12_painted_55 cx hkn hL0 hK0 M19 r2 H locs ls h w (lv_sub hl [0] rfl)
-- X12_order
theorem wi_X12_order_X10 : ∀ w ∈ wsX100, w ∈ wsX12_order := by decide +kernel
theorem wi_X12_order_X12 : ∀ w ∈ wsX120, w ∈ wsX12_order := by decide +kernel
abbrev rmX12_order : Room := { frames := 0, cells := 0, slots := 0, locals := 0 }
def m_X12_order (G : gS) (M : mS) (a0 : Nat) (c1 : Int32) : Option (mS × Int32) := o_rf (gP G a0 12) (fun q1 => (if (mI M q1 11) = (20 : Int32) then some (M, (4 : Int32)) else o_rf (gP G a0 12) (fun q3 => o_rf (gP G q3 13) (fun q4 => o_rf (gP G a0 12) (fun q5 => o_rf (gP G a0 4) (fun q6 => o_ix c1 (gN G q6) (o_ix (mI M q5 11) (gN G q4) (o_wI M q4 (Int32.toNatClampNeg (mI M q5 11)) (mI M q6 (Int32.toNatClampNeg c1)) (fun M9 => o_rf (gP G a0 12) (fun q10 => o_wI M9 q10 11 ((mI M9 q10 11) + (1 : Int32)) (fun M11 => some (M11, (0 : Int32)))))))))))))
set_option maxHeartbeats 4000000 in
set_option maxRecDepth 100000 in
theorem k_X12_order {l : Launch} {D : va_G} {cy : cyS} {G : gS} {M M' : mS} {r : Int32} {a0 : Nat} {c1 : Int32} (hG : wt G) (hL0 : a0 ∈ gL G) (hK0 : gK G a0 = 11) (h : m_X12_order G M a0 c1 = some (M', r)) : ctI l yX12_order wsX12_order rmX12_order D cy G M [.ref a0, .int c1] M' r := by
  unfold m_X12_order at h
  refine ctI_of (cc := cX12_order) (nL := 2) (ret := (some .int)) (lv := [(0, .ref a0), (1, .int c1)]) hG (by decide) rfl ⟨rfl, rfl⟩ (Nat.le_of_ble_eq_true rfl) rfl ?_
  intro p e s m args below meth c A ls cx w hl
  obtain ⟨hx, hb, hml, hown, hts, hr, hlocks, hK, hA, -, hsx⟩ := id cx
  have hkn : 0 ≤ (rmX12_order).cells ∧ 0 ≤ (rmX12_order).slots := ⟨Nat.zero_le _, Nat.zero_le _⟩
  refine lv_aload_n hx hb dX12_order_0 rfl (lv_at hl 0 rfl) ?_
  obtain ⟨q1, eq1, h⟩ := x_rf h
  obtain ⟨hLq1, hKq1⟩ := wt_q hG hL0 hK0 eq1
  have hKq1 : gK G q1 = 9 := hKq1
  refine r_getR (k := 12) cx w hL0 hK0 (by decide) rfl wi_X12_order_X12 (by decide) rfl eq1 (List.mem_of_getElem? (i := 1) rfl) dX12_order_1 ?_
  refine r_getIN (k := 11) (v := .int (mI M q1 11)) cx w hLq1 hKq1 (by decide) rfl wi_X12_order_X10 (by decide) rfl (nwF cx (q := (RX12, 235, "FlagAntsModel$Plan", "orders", "I", "FlagAntsModel")) (List.mem_of_getElem? (i := 12) rfl)) dX12_order_4 ?_
  refine lv_bipush (v := (20 : Int32)) hx hb dX12_order_7 (by decide) ?_
  refine lv_icmp_ne (tgt := 14) hx hb dX12_order_9 (by decide) (fun k2 => ?_) (fun k2 => ?_)
  · have h := x_f h k2
    refine lv_aload_n hx hb dX12_order_14 rfl (lv_at hl 0 rfl) ?_
    obtain ⟨q3, eq3, h⟩ := x_rf h
    obtain ⟨hLq3, hKq3⟩ := wt_q hG hL0 hK0 eq3
    have hKq3 : gK G q3 = 9 := hKq3
    refine r_getR (k := 12) cx w hL0 hK0 (by decide) rfl wi_X12_order_X12 (by decide) rfl eq3 (List.mem_of_getElem? (i := 1) rfl) dX12_order_15 ?_
    obtain ⟨q4, eq4, h⟩ := x_rf h
    obtain ⟨hLq4, hKq4⟩ := wt_q hG hLq3 hKq3 eq4
    have hKq4 : gK G q4 = 12 := hKq4
    refine r_getRN (k := 13) cx w hLq3 hKq3 (by decide) rfl wi_X12_order_X10 (by decide) rfl eq4 (nwF cx (q := (RX12, 238, "FlagAntsModel$Plan", "does", "[I", "FlagAntsModel")) (List.mem_of_getElem? (i := 13) rfl)) dX12_order_18 ?_
    refine lv_aload_n hx hb dX12_order_21 rfl (lv_at hl 0 rfl) ?_
    obtain ⟨q5, eq5, h⟩ := x_rf h
    obtain ⟨hLq5, hKq5⟩ := wt_q hG hL0 hK0 eq5
    have hKq5 : gK G q5 = 9 := hKq5
    refine r_getR (k := 12) cx w hL0 hK0 (by decide) rfl wi_X12_order_X12 (by decide) rfl eq5 (List.mem_of_getElem? (i := 1) rfl) dX12_order_22 ?_
    refine r_getIN (k := 11) (v := .int (mI M q5 11)) cx w hLq5 hKq5 (by decide) rfl wi_X12_order_X10 (by decide) rfl (nwF cx (q := (RX12, 235, "FlagAntsModel$Plan", "orders", "I", "FlagAntsModel")) (List.mem_of_getElem? (i := 12) rfl)) dX12_order_25 ?_
    refine lv_aload_n hx hb dX12_order_28 rfl (lv_at hl 0 rfl) ?_
    obtain ⟨q6, eq6, h⟩ := x_rf h
    obtain ⟨hLq6, hKq6⟩ := wt_q hG hL0 hK0 eq6
    have hKq6 : gK G q6 = 12 := hKq6
    refine r_getR (k := 4) cx w hL0 hK0 (by decide) rfl wi_X12_order_X12 (by decide) rfl eq6 (List.mem_of_getElem? (i := 2) rfl) dX12_order_29 ?_
    refine lv_iload_n hx hb dX12_order_32 rfl (lv_at hl 1 rfl) ?_
    obtain ⟨z7, h⟩ := x_ix h
    refine r_iald cx w hLq6 hKq6 z7 dX12_order_33 ?_
    obtain ⟨z8, h⟩ := x_ix h
    obtain ⟨M9, eM9, h⟩ := x_wI h
    refine r_iast cx w hLq4 hKq4 z8 dX12_order_34 eM9 (fun H locs w => ?_)
    refine lv_aload_n hx hb dX12_order_35 rfl (lv_at hl 0 rfl) ?_
    obtain ⟨q10, eq10, h⟩ := x_rf h
    obtain ⟨hLq10, hKq10⟩ := wt_q hG hL0 hK0 eq10
    have hKq10 : gK G q10 = 9 := hKq10
    refine r_getR (k := 12) cx w hL0 hK0 (by decide) rfl wi_X12_order_X12 (by decide) rfl eq10 (List.mem_of_getElem? (i := 1) rfl) dX12_order_36 ?_
    refine lv_dup hx hb dX12_order_39 rfl ?_
    refine r_getIN (k := 11) (v := .int (mI M9 q10 11)) cx w hLq10 hKq10 (by decide) rfl wi_X12_order_X10 (by decide) rfl (nwF cx (q := (RX12, 235, "FlagAntsModel$Plan", "orders", "I", "FlagAntsModel")) (List.mem_of_getElem? (i := 12) rfl)) dX12_order_40 ?_
    refine lv_iconst (v := (1 : Int32)) hx hb dX12_order_43 (by decide) ?_
    refine lv_iadd hx hb dX12_order_44 ?_
    obtain ⟨M11, eM11, h⟩ := x_wI h
    refine r_putIN (k := 11) (ty := .int) cx w tyX10 tyX10_ok nmX10 hLq10 hKq10 (by decide) rfl wi_X12_order_X10 (by decide) rfl rfl rfl rfl st_9_11 (ln_9 _ _ (by decide)) (nwF cx (q := (RX12, 235, "FlagAntsModel$Plan", "orders", "I", "FlagAntsModel")) (List.mem_of_getElem? (i := 12) rfl)) dX12_order_45 eM11 (fun H locs w => ?_)
    refine lv_iconst (v := (0 : Int32)) hx hb dX12_order_48 (by decide) ?_
    exact r_iret cx w h dX12_order_49
  · have h := x_t h k2
    refine lv_iconst (v := (4 : Int32)) hx hb dX12_order_12 (by decide) ?_
    exact r_iret cx w h dX12_order_13
-- X12_errorOf
theorem wi_X12_errorOf_X10 : ∀ w ∈ wsX100, w ∈ wsX12_errorOf := by decide +kernel
theorem wi_X12_errorOf_X12 : ∀ w ∈ wsX120, w ∈ wsX12_errorOf := by decide +kernel
abbrev rmX12_errorOf : Room := { frames := 4, cells := 0, slots := 0, locals := 94 }
def m_X12_errorOf (G : gS) (M : mS) (a0 : Nat) (c1 : Int32) : Option (mS × Int32) := o_rf (gP G a0 12) (fun q1 => o_rf (gP G a0 7) (fun q2 => o_ix c1 (gN G q2) ((if (mI M q2 (Int32.toNatClampNeg c1)) = 1 then o_cl (m_X12_newRule G M a0 c1) (fun M5 r6 => some (M5, r6)) else if (mI M q2 (Int32.toNatClampNeg c1)) = 2 then o_cl (m_X12_newAnt G M a0 c1) (fun M9 r10 => some (M9, r10)) else if (mI M q2 (Int32.toNatClampNeg c1)) = 3 then o_cl (m_X12_newTurn G M a0 c1) (fun M13 r14 => some (M13, r14)) else if (mI M q2 (Int32.toNatClampNeg c1)) = 4 then o_rf (gP G q1 6) (fun q17 => o_cl (m_X12_named G M a0 c1 q17 ((mI M q1 3) - (1 : Int32)) (1 : Int32)) (fun M18 r19 => some (M18, r19))) else if (mI M q2 (Int32.toNatClampNeg c1)) = 5 then o_cl (m_X12_antPlace G M a0 c1) (fun M22 r23 => some (M22, r23)) else if (mI M q2 (Int32.toNatClampNeg c1)) = 6 then o_rf (gP G q1 9) (fun q26 => o_rf (gP G a0 4) (fun q27 => o_ix c1 (gN G q27) (o_ix ((mI M q1 3) - (1 : Int32)) (gN G q26) (o_wI M q26 (Int32.toNatClampNeg ((mI M q1 3) - (1 : Int32))) ((mI M q27 (Int32.toNatClampNeg c1)) - (9 : Int32)) (fun M30 => o_wI M30 q1 4 (0 : Int32) (fun M31 => some (M31, (0 : Int32)))))))) else if (mI M q2 (Int32.toNatClampNeg c1)) = 7 then o_cl (m_X12_place G M a0 c1) (fun M33 r34 => some (M33, r34)) else if (mI M q2 (Int32.toNatClampNeg c1)) = 8 then o_cl (m_X12_painted G M a0 c1) (fun M37 r38 => some (M37, r38)) else if (mI M q2 (Int32.toNatClampNeg c1)) = 9 then o_cl (m_X12_order G M a0 c1) (fun M41 r42 => some (M41, r42)) else if (mI M q2 (Int32.toNatClampNeg c1)) = 10 then o_rf (gP G q1 14) (fun q45 => o_cl (m_X12_numberAt G M a0 c1) (fun M46 r47 => o_ix ((mI M q1 11) - (1 : Int32)) (gN G q45) (o_wI M46 q45 (Int32.toNatClampNeg ((mI M q1 11) - (1 : Int32))) r47 (fun M50 => o_cl (m_X12_inRange G M50 a0 c1 (0 : Int32) (63 : Int32)) (fun M51 r52 => some (M51, r52)))))) else if (mI M q2 (Int32.toNatClampNeg c1)) = 11 then o_rf (gP G q1 15) (fun q55 => o_cl (m_X12_numberAt G M a0 c1) (fun M56 r57 => o_ix ((mI M q1 11) - (1 : Int32)) (gN G q55) (o_wI M56 q55 (Int32.toNatClampNeg ((mI M q1 11) - (1 : Int32))) r57 (fun M60 => o_rf (gP G q1 14) (fun q61 => o_ix ((mI M60 q1 11) - (1 : Int32)) (gN G q61) (o_cl (m_X12_inRange G M60 a0 c1 (mI M60 q61 (Int32.toNatClampNeg ((mI M60 q1 11) - (1 : Int32)))) (63 : Int32)) (fun M63 r64 => some (M63, r64)))))))) else if (mI M q2 (Int32.toNatClampNeg c1)) = 12 then o_rf (gP G q1 14) (fun q67 => o_cl (m_X12_named G M a0 c1 q67 ((mI M q1 11) - (1 : Int32)) (2 : Int32)) (fun M68 r69 => some (M68, r69))) else if (mI M q2 (Int32.toNatClampNeg c1)) = 13 then o_rf (gP G q1 15) (fun q72 => o_rf (gP G a0 4) (fun q73 => o_ix c1 (gN G q73) (o_ix ((mI M q1 11) - (1 : Int32)) (gN G q72) (o_wI M q72 (Int32.toNatClampNeg ((mI M q1 11) - (1 : Int32))) ((mI M q73 (Int32.toNatClampNeg c1)) - (9 : Int32)) (fun M76 => some (M76, (0 : Int32))))))) else if (mI M q2 (Int32.toNatClampNeg c1)) = 14 then o_cl (m_X12_look G M a0 c1 (2 : Int32)) (fun M78 r79 => some (M78, r79)) else some (M, (0 : Int32))))))
set_option maxHeartbeats 4000000 in
set_option maxRecDepth 100000 in
theorem k_X12_errorOf {l : Launch} {D : va_G} {cy : cyS} {G : gS} {M M' : mS} {r : Int32} {a0 : Nat} {c1 : Int32} (hG : wt G) (hL0 : a0 ∈ gL G) (hK0 : gK G a0 = 11) (h : m_X12_errorOf G M a0 c1 = some (M', r)) : ctI l yX12_errorOf wsX12_errorOf rmX12_errorOf D cy G M [.ref a0, .int c1] M' r := by
  unfold m_X12_errorOf at h
  refine ctI_of (cc := cX12_errorOf) (nL := 3) (ret := (some .int)) (lv := [(0, .ref a0), (1, .int c1)]) hG (by decide) rfl ⟨rfl, rfl⟩ (Nat.le_of_ble_eq_true rfl) rfl ?_
  intro p e s m args below meth c A ls cx w hl
  obtain ⟨hx, hb, hml, hown, hts, hr, hlocks, hK, hA, -, hsx⟩ := id cx
  have hkn : 0 ≤ (rmX12_errorOf).cells ∧ 0 ≤ (rmX12_errorOf).slots := ⟨Nat.zero_le _, Nat.zero_le _⟩
  refine lv_aload_n hx hb dX12_errorOf_0 rfl (lv_at hl 0 rfl) ?_
  obtain ⟨q1, eq1, h⟩ := x_rf h
  obtain ⟨hLq1, hKq1⟩ := wt_q hG hL0 hK0 eq1
  have hKq1 : gK G q1 = 9 := hKq1
  refine r_getR (k := 12) cx w hL0 hK0 (by decide) rfl wi_X12_errorOf_X12 (by decide) rfl eq1 (List.mem_of_getElem? (i := 1) rfl) dX12_errorOf_1 ?_
  refine lv_astore_n (lv' := [(2, .ref q1), (0, .ref a0), (1, .int c1)]) hx hb dX12_errorOf_4 rfl hl (by decide) rfl (fun ls hl => ?_)
  refine lv_aload_n hx hb dX12_errorOf_5 rfl (lv_at hl 1 rfl) ?_
  obtain ⟨q2, eq2, h⟩ := x_rf h
  obtain ⟨hLq2, hKq2⟩ := wt_q hG hL0 hK0 eq2
  have hKq2 : gK G q2 = 12 := hKq2
  refine r_getR (k := 7) cx w hL0 hK0 (by decide) rfl wi_X12_errorOf_X12 (by decide) rfl eq2 (List.mem_of_getElem? (i := 2) rfl) dX12_errorOf_6 ?_
  refine lv_iload_n hx hb dX12_errorOf_9 rfl (lv_at hl 2 rfl) ?_
  obtain ⟨z3, h⟩ := x_ix h
  refine r_iald cx w hLq2 hKq2 z3 dX12_errorOf_10 ?_
  rcases Decidable.em ((mI M q2 (Int32.toNatClampNeg c1)) = 1) with k4 | k4
  · have h := x_t h k4
    rw [k4]
    refine lv_tableIn (tgt := 80) hx hb dX12_errorOf_11 (by decide) (by decide) rfl (by decide) ?_
    refine lv_aload_n hx hb dX12_errorOf_80 rfl (lv_at hl 1 rfl) ?_
    refine lv_iload_n hx hb dX12_errorOf_81 rfl (lv_at hl 2 rfl) ?_
    obtain ⟨M5, r6, y7, h⟩ := x_cl h
    refine r_callVi (As := [.int c1]) (rest := []) cx w hkn hl.1 (k_X12_newRule hG hL0 hK0 y7) (cwV 1 hts gX12_errorOf_X12_newRule rfl rfl rfl (by decide +kernel) ⟨Nat.le_of_ble_eq_true rfl, Nat.le_of_ble_eq_true rfl⟩) hL0 hK0 (by decide) rfl rfl rfl (Nat.le_of_ble_eq_true rfl) dX12_errorOf_82 (fun H locs w => ?_)
    exact r_iret cx w h dX12_errorOf_85
  · have h := x_f h k4
    rcases Decidable.em ((mI M q2 (Int32.toNatClampNeg c1)) = 2) with k8 | k8
    · have h := x_t h k8
      rw [k8]
      refine lv_tableIn (tgt := 92) hx hb dX12_errorOf_11 (by decide) (by decide) rfl (by decide) ?_
      refine lv_aload_n hx hb dX12_errorOf_92 rfl (lv_at hl 1 rfl) ?_
      refine lv_iload_n hx hb dX12_errorOf_93 rfl (lv_at hl 2 rfl) ?_
      obtain ⟨M9, r10, y11, h⟩ := x_cl h
      refine r_callVi (As := [.int c1]) (rest := []) cx w hkn hl.1 (k_X12_newAnt hG hL0 hK0 y11) (cwV 1 hts gX12_errorOf_X12_newAnt rfl rfl rfl (by decide +kernel) ⟨Nat.le_of_ble_eq_true rfl, Nat.le_of_ble_eq_true rfl⟩) hL0 hK0 (by decide) rfl rfl rfl (Nat.le_of_ble_eq_true rfl) dX12_errorOf_94 (fun H locs w => ?_)
      exact r_iret cx w h dX12_errorOf_97
    · have h := x_f h k8
      rcases Decidable.em ((mI M q2 (Int32.toNatClampNeg c1)) = 3) with k12 | k12
      · have h := x_t h k12
        rw [k12]
        refine lv_tableIn (tgt := 86) hx hb dX12_errorOf_11 (by decide) (by decide) rfl (by decide) ?_
        refine lv_aload_n hx hb dX12_errorOf_86 rfl (lv_at hl 1 rfl) ?_
        refine lv_iload_n hx hb dX12_errorOf_87 rfl (lv_at hl 2 rfl) ?_
        obtain ⟨M13, r14, y15, h⟩ := x_cl h
        refine r_callVi (As := [.int c1]) (rest := []) cx w hkn hl.1 (k_X12_newTurn hG hL0 hK0 y15) (cwV 1 hts gX12_errorOf_X12_newTurn rfl rfl rfl (by decide +kernel) ⟨Nat.le_of_ble_eq_true rfl, Nat.le_of_ble_eq_true rfl⟩) hL0 hK0 (by decide) rfl rfl rfl (Nat.le_of_ble_eq_true rfl) dX12_errorOf_88 (fun H locs w => ?_)
        exact r_iret cx w h dX12_errorOf_91
      · have h := x_f h k12
        rcases Decidable.em ((mI M q2 (Int32.toNatClampNeg c1)) = 4) with k16 | k16
        · have h := x_t h k16
          rw [k16]
          refine lv_tableIn (tgt := 98) hx hb dX12_errorOf_11 (by decide) (by decide) rfl (by decide) ?_
          refine lv_aload_n hx hb dX12_errorOf_98 rfl (lv_at hl 1 rfl) ?_
          refine lv_iload_n hx hb dX12_errorOf_99 rfl (lv_at hl 2 rfl) ?_
          refine lv_aload_n hx hb dX12_errorOf_100 rfl (lv_at hl 0 rfl) ?_
          obtain ⟨q17, eq17, h⟩ := x_rf h
          obtain ⟨hLq17, hKq17⟩ := wt_q hG hLq1 hKq1 eq17
          have hKq17 : gK G q17 = 12 := hKq17
          refine r_getRN (k := 6) cx w hLq1 hKq1 (by decide) rfl wi_X12_errorOf_X10 (by decide) rfl eq17 (nwF cx (q := (RX12, 271, "FlagAntsModel$Plan", "rule", "[I", "FlagAntsModel")) (List.mem_of_getElem? (i := 18) rfl)) dX12_errorOf_101 ?_
          refine lv_aload_n hx hb dX12_errorOf_104 rfl (lv_at hl 0 rfl) ?_
          refine r_getIN (k := 3) (v := .int (mI M q1 3)) cx w hLq1 hKq1 (by decide) rfl wi_X12_errorOf_X10 (by decide) rfl (nwF cx (q := (RX12, 64, "FlagAntsModel$Plan", "ants", "I", "FlagAntsModel")) (List.mem_of_getElem? (i := 0) rfl)) dX12_errorOf_105 ?_
          refine lv_iconst (v := (1 : Int32)) hx hb dX12_errorOf_108 (by decide) ?_
          refine lv_isub hx hb dX12_errorOf_109 ?_
          refine lv_iconst (v := (1 : Int32)) hx hb dX12_errorOf_110 (by decide) ?_
          obtain ⟨M18, r19, y20, h⟩ := x_cl h
          refine r_callVi (As := [.int c1, .ref q17, .int (((mI M q1 3) - (1 : Int32))), .int ((1 : Int32))]) (rest := []) cx w hkn hl.1 (k_X12_named hG hL0 hK0 hLq17 hKq17 y20) (cwV 4 hts gX12_errorOf_X12_named rfl rfl rfl (by decide +kernel) ⟨Nat.le_of_ble_eq_true rfl, Nat.le_of_ble_eq_true rfl⟩) hL0 hK0 (by decide) rfl rfl rfl (Nat.le_of_ble_eq_true rfl) dX12_errorOf_111 (fun H locs w => ?_)
          exact r_iret cx w h dX12_errorOf_114
        · have h := x_f h k16
          rcases Decidable.em ((mI M q2 (Int32.toNatClampNeg c1)) = 5) with k21 | k21
          · have h := x_t h k21
            rw [k21]
            refine lv_tableIn (tgt := 115) hx hb dX12_errorOf_11 (by decide) (by decide) rfl (by decide) ?_
            refine lv_aload_n hx hb dX12_errorOf_115 rfl (lv_at hl 1 rfl) ?_
            refine lv_iload_n hx hb dX12_errorOf_116 rfl (lv_at hl 2 rfl) ?_
            obtain ⟨M22, r23, y24, h⟩ := x_cl h
            refine r_callVi (As := [.int c1]) (rest := []) cx w hkn hl.1 (k_X12_antPlace hG hL0 hK0 y24) (cwV 1 hts gX12_errorOf_X12_antPlace rfl rfl rfl (by decide +kernel) ⟨Nat.le_of_ble_eq_true rfl, Nat.le_of_ble_eq_true rfl⟩) hL0 hK0 (by decide) rfl rfl rfl (Nat.le_of_ble_eq_true rfl) dX12_errorOf_117 (fun H locs w => ?_)
            exact r_iret cx w h dX12_errorOf_120
          · have h := x_f h k21
            rcases Decidable.em ((mI M q2 (Int32.toNatClampNeg c1)) = 6) with k25 | k25
            · have h := x_t h k25
              rw [k25]
              refine lv_tableIn (tgt := 121) hx hb dX12_errorOf_11 (by decide) (by decide) rfl (by decide) ?_
              refine lv_aload_n hx hb dX12_errorOf_121 rfl (lv_at hl 0 rfl) ?_
              obtain ⟨q26, eq26, h⟩ := x_rf h
              obtain ⟨hLq26, hKq26⟩ := wt_q hG hLq1 hKq1 eq26
              have hKq26 : gK G q26 = 12 := hKq26
              refine r_getRN (k := 9) cx w hLq1 hKq1 (by decide) rfl wi_X12_errorOf_X10 (by decide) rfl eq26 (nwF cx (q := (RX12, 281, "FlagAntsModel$Plan", "side", "[I", "FlagAntsModel")) (List.mem_of_getElem? (i := 19) rfl)) dX12_errorOf_122 ?_
              refine lv_aload_n hx hb dX12_errorOf_125 rfl (lv_at hl 0 rfl) ?_
              refine r_getIN (k := 3) (v := .int (mI M q1 3)) cx w hLq1 hKq1 (by decide) rfl wi_X12_errorOf_X10 (by decide) rfl (nwF cx (q := (RX12, 64, "FlagAntsModel$Plan", "ants", "I", "FlagAntsModel")) (List.mem_of_getElem? (i := 0) rfl)) dX12_errorOf_126 ?_
              refine lv_iconst (v := (1 : Int32)) hx hb dX12_errorOf_129 (by decide) ?_
              refine lv_isub hx hb dX12_errorOf_130 ?_
              refine lv_aload_n hx hb dX12_errorOf_131 rfl (lv_at hl 1 rfl) ?_
              obtain ⟨q27, eq27, h⟩ := x_rf h
              obtain ⟨hLq27, hKq27⟩ := wt_q hG hL0 hK0 eq27
              have hKq27 : gK G q27 = 12 := hKq27
              refine r_getR (k := 4) cx w hL0 hK0 (by decide) rfl wi_X12_errorOf_X12 (by decide) rfl eq27 (List.mem_of_getElem? (i := 3) rfl) dX12_errorOf_132 ?_
              refine lv_iload_n hx hb dX12_errorOf_135 rfl (lv_at hl 2 rfl) ?_
              obtain ⟨z28, h⟩ := x_ix h
              refine r_iald cx w hLq27 hKq27 z28 dX12_errorOf_136 ?_
              refine lv_bipush (v := (9 : Int32)) hx hb dX12_errorOf_137 (by decide) ?_
              refine lv_isub hx hb dX12_errorOf_139 ?_
              obtain ⟨z29, h⟩ := x_ix h
              obtain ⟨M30, eM30, h⟩ := x_wI h
              refine r_iast cx w hLq26 hKq26 z29 dX12_errorOf_140 eM30 (fun H locs w => ?_)
              refine lv_aload_n hx hb dX12_errorOf_141 rfl (lv_at hl 0 rfl) ?_
              refine lv_iconst (v := (0 : Int32)) hx hb dX12_errorOf_142 (by decide) ?_
              obtain ⟨M31, eM31, h⟩ := x_wI h
              refine r_putIN (k := 4) (ty := .int) cx w tyX10 tyX10_ok nmX10 hLq1 hKq1 (by decide) rfl wi_X12_errorOf_X10 (by decide) rfl rfl rfl rfl st_9_4 (ln_9 _ _ (by decide)) (nwF cx (q := (RX12, 233, "FlagAntsModel$Plan", "told", "I", "FlagAntsModel")) (List.mem_of_getElem? (i := 11) rfl)) dX12_errorOf_143 eM31 (fun H locs w => ?_)
              refine lv_iconst (v := (0 : Int32)) hx hb dX12_errorOf_146 (by decide) ?_
              exact r_iret cx w h dX12_errorOf_147
            · have h := x_f h k25
              rcases Decidable.em ((mI M q2 (Int32.toNatClampNeg c1)) = 7) with k32 | k32
              · have h := x_t h k32
                rw [k32]
                refine lv_tableIn (tgt := 148) hx hb dX12_errorOf_11 (by decide) (by decide) rfl (by decide) ?_
                refine lv_aload_n hx hb dX12_errorOf_148 rfl (lv_at hl 1 rfl) ?_
                refine lv_iload_n hx hb dX12_errorOf_149 rfl (lv_at hl 2 rfl) ?_
                obtain ⟨M33, r34, y35, h⟩ := x_cl h
                refine r_callVi (As := [.int c1]) (rest := []) cx w hkn hl.1 (k_X12_place hG hL0 hK0 y35) (cwV 1 hts gX12_errorOf_X12_place rfl rfl rfl (by decide +kernel) ⟨Nat.le_of_ble_eq_true rfl, Nat.le_of_ble_eq_true rfl⟩) hL0 hK0 (by decide) rfl rfl rfl (Nat.le_of_ble_eq_true rfl) dX12_errorOf_150 (fun H locs w => ?_)
                exact r_iret cx w h dX12_errorOf_153
              · have h := x_f h k32
                rcases Decidable.em ((mI M q2 (Int32.toNatClampNeg c1)) = 8) with k36 | k36
                · have h := x_t h k36
                  rw [k36]
                  refine lv_tableIn (tgt := 154) hx hb dX12_errorOf_11 (by decide) (by decide) rfl (by decide) ?_
                  refine lv_aload_n hx hb dX12_errorOf_154 rfl (lv_at hl 1 rfl) ?_
                  refine lv_iload_n hx hb dX12_errorOf_155 rfl (lv_at hl 2 rfl) ?_
                  obtain ⟨M37, r38, y39, h⟩ := x_cl h
                  refine r_callVi (As := [.int c1]) (rest := []) cx w hkn hl.1 (k_X12_painted hG hL0 hK0 y39) (cwV 1 hts gX12_errorOf_X12_painted rfl rfl rfl (by decide +kernel) ⟨Nat.le_of_ble_eq_true rfl, Nat.le_of_ble_eq_true rfl⟩) hL0 hK0 (by decide) rfl rfl rfl (Nat.le_of_ble_eq_true rfl) dX12_errorOf_156 (fun H locs w => ?_)
                  exact r_iret cx w h dX12_errorOf_159
                · have h := x_f h k36
                  rcases Decidable.em ((mI M q2 (Int32.toNatClampNeg c1)) = 9) with k40 | k40
                  · have h := x_t h k40
                    rw [k40]
                    refine lv_tableIn (tgt := 160) hx hb dX12_errorOf_11 (by decide) (by decide) rfl (by decide) ?_
                    refine lv_aload_n hx hb dX12_errorOf_160 rfl (lv_at hl 1 rfl) ?_
                    refine lv_iload_n hx hb dX12_errorOf_161 rfl (lv_at hl 2 rfl) ?_
                    obtain ⟨M41, r42, y43, h⟩ := x_cl h
                    refine r_callVi (As := [.int c1]) (rest := []) cx w hkn hl.1 (k_X12_order hG hL0 hK0 y43) (cwV 1 hts gX12_errorOf_X12_order rfl rfl rfl (by decide +kernel) ⟨Nat.le_of_ble_eq_true rfl, Nat.le_of_ble_eq_true rfl⟩) hL0 hK0 (by decide) rfl rfl rfl (Nat.le_of_ble_eq_true rfl) dX12_errorOf_162 (fun H locs w => ?_)
                    exact r_iret cx w h dX12_errorOf_165
                  · have h := x_f h k40
                    rcases Decidable.em ((mI M q2 (Int32.toNatClampNeg c1)) = 10) with k44 | k44
                    · have h := x_t h k44
                      rw [k44]
                      refine lv_tableIn (tgt := 166) hx hb dX12_errorOf_11 (by decide) (by decide) rfl (by decide) ?_
                      refine lv_aload_n hx hb dX12_errorOf_166 rfl (lv_at hl 0 rfl) ?_
                      obtain ⟨q45, eq45, h⟩ := x_rf h
                      obtain ⟨hLq45, hKq45⟩ := wt_q hG hLq1 hKq1 eq45
                      have hKq45 : gK G q45 = 12 := hKq45
                      refine r_getRN (k := 14) cx w hLq1 hKq1 (by decide) rfl wi_X12_errorOf_X10 (by decide) rfl eq45 (nwF cx (q := (RX12, 290, "FlagAntsModel$Plan", "one", "[I", "FlagAntsModel")) (List.mem_of_getElem? (i := 20) rfl)) dX12_errorOf_167 ?_
                      refine lv_aload_n hx hb dX12_errorOf_170 rfl (lv_at hl 0 rfl) ?_
                      refine r_getIN (k := 11) (v := .int (mI M q1 11)) cx w hLq1 hKq1 (by decide) rfl wi_X12_errorOf_X10 (by decide) rfl (nwF cx (q := (RX12, 235, "FlagAntsModel$Plan", "orders", "I", "FlagAntsModel")) (List.mem_of_getElem? (i := 12) rfl)) dX12_errorOf_171 ?_
                      refine lv_iconst (v := (1 : Int32)) hx hb dX12_errorOf_174 (by decide) ?_
                      refine lv_isub hx hb dX12_errorOf_175 ?_
                      refine lv_aload_n hx hb dX12_errorOf_176 rfl (lv_at hl 1 rfl) ?_
                      refine lv_iload_n hx hb dX12_errorOf_177 rfl (lv_at hl 2 rfl) ?_
                      obtain ⟨M46, r47, y48, h⟩ := x_cl h
                      refine r_callVi (As := [.int c1]) (rest := [.int (((mI M q1 11) - (1 : Int32))), .ref q45]) cx w hkn hl.1 (k_X12_numberAt hG hL0 hK0 y48) (cwV 1 hts gX12_errorOf_X12_numberAt rfl rfl rfl (by decide +kernel) ⟨Nat.le_of_ble_eq_true rfl, Nat.le_of_ble_eq_true rfl⟩) hL0 hK0 (by decide) rfl rfl rfl (Nat.le_of_ble_eq_true rfl) dX12_errorOf_178 (fun H locs w => ?_)
                      obtain ⟨z49, h⟩ := x_ix h
                      obtain ⟨M50, eM50, h⟩ := x_wI h
                      refine r_iast cx w hLq45 hKq45 z49 dX12_errorOf_181 eM50 (fun H locs w => ?_)
                      refine lv_aload_n hx hb dX12_errorOf_182 rfl (lv_at hl 1 rfl) ?_
                      refine lv_iload_n hx hb dX12_errorOf_183 rfl (lv_at hl 2 rfl) ?_
                      refine lv_iconst (v := (0 : Int32)) hx hb dX12_errorOf_184 (by decide) ?_
                      refine lv_bipush (v := (63 : Int32)) hx hb dX12_errorOf_185 (by decide) ?_
                      obtain ⟨M51, r52, y53, h⟩ := x_cl h
                      refine r_callVi (As := [.int c1, .int ((0 : Int32)), .int ((63 : Int32))]) (rest := []) cx w hkn hl.1 (k_X12_inRange hG hL0 hK0 y53) (cwV 3 hts gX12_errorOf_X12_inRange rfl rfl rfl (by decide +kernel) ⟨Nat.le_of_ble_eq_true rfl, Nat.le_of_ble_eq_true rfl⟩) hL0 hK0 (by decide) rfl rfl rfl (Nat.le_of_ble_eq_true rfl) dX12_errorOf_187 (fun H locs w => ?_)
                      exact r_iret cx w h dX12_errorOf_190
                    · have h := x_f h k44
                      rcases Decidable.em ((mI M q2 (Int32.toNatClampNeg c1)) = 11) with k54 | k54
                      · have h := x_t h k54
                        rw [k54]
                        refine lv_tableIn (tgt := 191) hx hb dX12_errorOf_11 (by decide) (by decide) rfl (by decide) ?_
                        refine lv_aload_n hx hb dX12_errorOf_191 rfl (lv_at hl 0 rfl) ?_
                        obtain ⟨q55, eq55, h⟩ := x_rf h
                        obtain ⟨hLq55, hKq55⟩ := wt_q hG hLq1 hKq1 eq55
                        have hKq55 : gK G q55 = 12 := hKq55
                        refine r_getRN (k := 15) cx w hLq1 hKq1 (by decide) rfl wi_X12_errorOf_X10 (by decide) rfl eq55 (nwF cx (q := (RX12, 293, "FlagAntsModel$Plan", "other", "[I", "FlagAntsModel")) (List.mem_of_getElem? (i := 21) rfl)) dX12_errorOf_192 ?_
                        refine lv_aload_n hx hb dX12_errorOf_195 rfl (lv_at hl 0 rfl) ?_
                        refine r_getIN (k := 11) (v := .int (mI M q1 11)) cx w hLq1 hKq1 (by decide) rfl wi_X12_errorOf_X10 (by decide) rfl (nwF cx (q := (RX12, 235, "FlagAntsModel$Plan", "orders", "I", "FlagAntsModel")) (List.mem_of_getElem? (i := 12) rfl)) dX12_errorOf_196 ?_
                        refine lv_iconst (v := (1 : Int32)) hx hb dX12_errorOf_199 (by decide) ?_
                        refine lv_isub hx hb dX12_errorOf_200 ?_
                        refine lv_aload_n hx hb dX12_errorOf_201 rfl (lv_at hl 1 rfl) ?_
                        refine lv_iload_n hx hb dX12_errorOf_202 rfl (lv_at hl 2 rfl) ?_
                        obtain ⟨M56, r57, y58, h⟩ := x_cl h
                        refine r_callVi (As := [.int c1]) (rest := [.int (((mI M q1 11) - (1 : Int32))), .ref q55]) cx w hkn hl.1 (k_X12_numberAt hG hL0 hK0 y58) (cwV 1 hts gX12_errorOf_X12_numberAt rfl rfl rfl (by decide +kernel) ⟨Nat.le_of_ble_eq_true rfl, Nat.le_of_ble_eq_true rfl⟩) hL0 hK0 (by decide) rfl rfl rfl (Nat.le_of_ble_eq_true rfl) dX12_errorOf_203 (fun H locs w => ?_)
                        obtain ⟨z59, h⟩ := x_ix h
                        obtain ⟨M60, eM60, h⟩ := x_wI h
                        refine r_iast cx w hLq55 hKq55 z59 dX12_errorOf_206 eM60 (fun H locs w => ?_)
                        refine lv_aload_n hx hb dX12_errorOf_207 rfl (lv_at hl 1 rfl) ?_
                        refine lv_iload_n hx hb dX12_errorOf_208 rfl (lv_at hl 2 rfl) ?_
                        refine lv_aload_n hx hb dX12_errorOf_209 rfl (lv_at hl 0 rfl) ?_
                        obtain ⟨q61, eq61, h⟩ := x_rf h
                        obtain ⟨hLq61, hKq61⟩ := wt_q hG hLq1 hKq1 eq61
                        have hKq61 : gK G q61 = 12 := hKq61
                        refine r_getRN (k := 14) cx w hLq1 hKq1 (by decide) rfl wi_X12_errorOf_X10 (by decide) rfl eq61 (nwF cx (q := (RX12, 290, "FlagAntsModel$Plan", "one", "[I", "FlagAntsModel")) (List.mem_of_getElem? (i := 20) rfl)) dX12_errorOf_210 ?_
                        refine lv_aload_n hx hb dX12_errorOf_213 rfl (lv_at hl 0 rfl) ?_
                        refine r_getIN (k := 11) (v := .int (mI M60 q1 11)) cx w hLq1 hKq1 (by decide) rfl wi_X12_errorOf_X10 (by decide) rfl (nwF cx (q := (RX12, 235, "FlagAntsModel$Plan", "orders", "I", "FlagAntsModel")) (List.mem_of_getElem? (i := 12) rfl)) dX12_errorOf_214 ?_
                        refine lv_iconst (v := (1 : Int32)) hx hb dX12_errorOf_217 (by decide) ?_
                        refine lv_isub hx hb dX12_errorOf_218 ?_
                        obtain ⟨z62, h⟩ := x_ix h
                        refine r_iald cx w hLq61 hKq61 z62 dX12_errorOf_219 ?_
                        refine lv_bipush (v := (63 : Int32)) hx hb dX12_errorOf_220 (by decide) ?_
                        obtain ⟨M63, r64, y65, h⟩ := x_cl h
                        refine r_callVi (As := [.int c1, .int ((mI M60 q61 (Int32.toNatClampNeg ((mI M60 q1 11) - (1 : Int32))))), .int ((63 : Int32))]) (rest := []) cx w hkn hl.1 (k_X12_inRange hG hL0 hK0 y65) (cwV 3 hts gX12_errorOf_X12_inRange rfl rfl rfl (by decide +kernel) ⟨Nat.le_of_ble_eq_true rfl, Nat.le_of_ble_eq_true rfl⟩) hL0 hK0 (by decide) rfl rfl rfl (Nat.le_of_ble_eq_true rfl) dX12_errorOf_222 (fun H locs w => ?_)
                        exact r_iret cx w h dX12_errorOf_225
                      · have h := x_f h k54
                        rcases Decidable.em ((mI M q2 (Int32.toNatClampNeg c1)) = 12) with k66 | k66
                        · have h := x_t h k66
                          rw [k66]
                          refine lv_tableIn (tgt := 226) hx hb dX12_errorOf_11 (by decide) (by decide) rfl (by decide) ?_
                          refine lv_aload_n hx hb dX12_errorOf_226 rfl (lv_at hl 1 rfl) ?_
                          refine lv_iload_n hx hb dX12_errorOf_227 rfl (lv_at hl 2 rfl) ?_
                          refine lv_aload_n hx hb dX12_errorOf_228 rfl (lv_at hl 0 rfl) ?_
                          obtain ⟨q67, eq67, h⟩ := x_rf h
                          obtain ⟨hLq67, hKq67⟩ := wt_q hG hLq1 hKq1 eq67
                          have hKq67 : gK G q67 = 12 := hKq67
                          refine r_getRN (k := 14) cx w hLq1 hKq1 (by decide) rfl wi_X12_errorOf_X10 (by decide) rfl eq67 (nwF cx (q := (RX12, 290, "FlagAntsModel$Plan", "one", "[I", "FlagAntsModel")) (List.mem_of_getElem? (i := 20) rfl)) dX12_errorOf_229 ?_
                          refine lv_aload_n hx hb dX12_errorOf_232 rfl (lv_at hl 0 rfl) ?_
                          refine r_getIN (k := 11) (v := .int (mI M q1 11)) cx w hLq1 hKq1 (by decide) rfl wi_X12_errorOf_X10 (by decide) rfl (nwF cx (q := (RX12, 235, "FlagAntsModel$Plan", "orders", "I", "FlagAntsModel")) (List.mem_of_getElem? (i := 12) rfl)) dX12_errorOf_233 ?_
                          refine lv_iconst (v := (1 : Int32)) hx hb dX12_errorOf_236 (by decide) ?_
                          refine lv_isub hx hb dX12_errorOf_237 ?_
                          refine lv_iconst (v := (2 : Int32)) hx hb dX12_errorOf_238 (by decide) ?_
                          obtain ⟨M68, r69, y70, h⟩ := x_cl h
                          refine r_callVi (As := [.int c1, .ref q67, .int (((mI M q1 11) - (1 : Int32))), .int ((2 : Int32))]) (rest := []) cx w hkn hl.1 (k_X12_named hG hL0 hK0 hLq67 hKq67 y70) (cwV 4 hts gX12_errorOf_X12_named rfl rfl rfl (by decide +kernel) ⟨Nat.le_of_ble_eq_true rfl, Nat.le_of_ble_eq_true rfl⟩) hL0 hK0 (by decide) rfl rfl rfl (Nat.le_of_ble_eq_true rfl) dX12_errorOf_239 (fun H locs w => ?_)
                          exact r_iret cx w h dX12_errorOf_242
                        · have h := x_f h k66
                          rcases Decidable.em ((mI M q2 (Int32.toNatClampNeg c1)) = 13) with k71 | k71
                          · have h := x_t h k71
                            rw [k71]
                            refine lv_tableIn (tgt := 243) hx hb dX12_errorOf_11 (by decide) (by decide) rfl (by decide) ?_
                            refine lv_aload_n hx hb dX12_errorOf_243 rfl (lv_at hl 0 rfl) ?_
                            obtain ⟨q72, eq72, h⟩ := x_rf h
                            obtain ⟨hLq72, hKq72⟩ := wt_q hG hLq1 hKq1 eq72
                            have hKq72 : gK G q72 = 12 := hKq72
                            refine r_getRN (k := 15) cx w hLq1 hKq1 (by decide) rfl wi_X12_errorOf_X10 (by decide) rfl eq72 (nwF cx (q := (RX12, 293, "FlagAntsModel$Plan", "other", "[I", "FlagAntsModel")) (List.mem_of_getElem? (i := 21) rfl)) dX12_errorOf_244 ?_
                            refine lv_aload_n hx hb dX12_errorOf_247 rfl (lv_at hl 0 rfl) ?_
                            refine r_getIN (k := 11) (v := .int (mI M q1 11)) cx w hLq1 hKq1 (by decide) rfl wi_X12_errorOf_X10 (by decide) rfl (nwF cx (q := (RX12, 235, "FlagAntsModel$Plan", "orders", "I", "FlagAntsModel")) (List.mem_of_getElem? (i := 12) rfl)) dX12_errorOf_248 ?_
                            refine lv_iconst (v := (1 : Int32)) hx hb dX12_errorOf_251 (by decide) ?_
                            refine lv_isub hx hb dX12_errorOf_252 ?_
                            refine lv_aload_n hx hb dX12_errorOf_253 rfl (lv_at hl 1 rfl) ?_
                            obtain ⟨q73, eq73, h⟩ := x_rf h
                            obtain ⟨hLq73, hKq73⟩ := wt_q hG hL0 hK0 eq73
                            have hKq73 : gK G q73 = 12 := hKq73
                            refine r_getR (k := 4) cx w hL0 hK0 (by decide) rfl wi_X12_errorOf_X12 (by decide) rfl eq73 (List.mem_of_getElem? (i := 3) rfl) dX12_errorOf_254 ?_
                            refine lv_iload_n hx hb dX12_errorOf_257 rfl (lv_at hl 2 rfl) ?_
                            obtain ⟨z74, h⟩ := x_ix h
                            refine r_iald cx w hLq73 hKq73 z74 dX12_errorOf_258 ?_
                            refine lv_bipush (v := (9 : Int32)) hx hb dX12_errorOf_259 (by decide) ?_
                            refine lv_isub hx hb dX12_errorOf_261 ?_
                            obtain ⟨z75, h⟩ := x_ix h
                            obtain ⟨M76, eM76, h⟩ := x_wI h
                            refine r_iast cx w hLq72 hKq72 z75 dX12_errorOf_262 eM76 (fun H locs w => ?_)
                            refine lv_iconst (v := (0 : Int32)) hx hb dX12_errorOf_263 (by decide) ?_
                            exact r_iret cx w h dX12_errorOf_264
                          · have h := x_f h k71
                            rcases Decidable.em ((mI M q2 (Int32.toNatClampNeg c1)) = 14) with k77 | k77
                            · have h := x_t h k77
                              rw [k77]
                              refine lv_tableIn (tgt := 265) hx hb dX12_errorOf_11 (by decide) (by decide) rfl (by decide) ?_
                              refine lv_aload_n hx hb dX12_errorOf_265 rfl (lv_at hl 1 rfl) ?_
                              refine lv_iload_n hx hb dX12_errorOf_266 rfl (lv_at hl 2 rfl) ?_
                              refine lv_iconst (v := (2 : Int32)) hx hb dX12_errorOf_267 (by decide) ?_
                              obtain ⟨M78, r79, y80, h⟩ := x_cl h
                              refine r_callVi (As := [.int c1, .int ((2 : Int32))]) (rest := []) cx w hkn hl.1 (k_X12_look hG hL0 hK0 y80) (cwV 2 hts gX12_errorOf_X12_look rfl rfl rfl (by decide +kernel) ⟨Nat.le_of_ble_eq_true rfl, Nat.le_of_ble_eq_true rfl⟩) hL0 hK0 (by decide) rfl rfl rfl (Nat.le_of_ble_eq_true rfl) dX12_errorOf_268 (fun H locs w => ?_)
                              exact r_iret cx w h dX12_errorOf_271
                            · have h := x_f h k77
                              refine lv_tableOut (tgt := 272) hx hb dX12_errorOf_11 (by have nk4 : Int32.toInt (mI M q2 (Int32.toNatClampNeg c1)) ≠ 1 := fun hh => k4 (Int32.toInt_inj.mp hh); have nk8 : Int32.toInt (mI M q2 (Int32.toNatClampNeg c1)) ≠ 2 := fun hh => k8 (Int32.toInt_inj.mp hh); have nk12 : Int32.toInt (mI M q2 (Int32.toNatClampNeg c1)) ≠ 3 := fun hh => k12 (Int32.toInt_inj.mp hh); have nk16 : Int32.toInt (mI M q2 (Int32.toNatClampNeg c1)) ≠ 4 := fun hh => k16 (Int32.toInt_inj.mp hh); have nk21 : Int32.toInt (mI M q2 (Int32.toNatClampNeg c1)) ≠ 5 := fun hh => k21 (Int32.toInt_inj.mp hh); have nk25 : Int32.toInt (mI M q2 (Int32.toNatClampNeg c1)) ≠ 6 := fun hh => k25 (Int32.toInt_inj.mp hh); have nk32 : Int32.toInt (mI M q2 (Int32.toNatClampNeg c1)) ≠ 7 := fun hh => k32 (Int32.toInt_inj.mp hh); have nk36 : Int32.toInt (mI M q2 (Int32.toNatClampNeg c1)) ≠ 8 := fun hh => k36 (Int32.toInt_inj.mp hh); have nk40 : Int32.toInt (mI M q2 (Int32.toNatClampNeg c1)) ≠ 9 := fun hh => k40 (Int32.toInt_inj.mp hh); have nk44 : Int32.toInt (mI M q2 (Int32.toNatClampNeg c1)) ≠ 10 := fun hh => k44 (Int32.toInt_inj.mp hh); have nk54 : Int32.toInt (mI M q2 (Int32.toNatClampNeg c1)) ≠ 11 := fun hh => k54 (Int32.toInt_inj.mp hh); have nk66 : Int32.toInt (mI M q2 (Int32.toNatClampNeg c1)) ≠ 12 := fun hh => k66 (Int32.toInt_inj.mp hh); have nk71 : Int32.toInt (mI M q2 (Int32.toNatClampNeg c1)) ≠ 13 := fun hh => k71 (Int32.toInt_inj.mp hh); have nk77 : Int32.toInt (mI M q2 (Int32.toNatClampNeg c1)) ≠ 14 := fun hh => k77 (Int32.toInt_inj.mp hh); omega) (by decide) ?_
                              refine lv_iconst (v := (0 : Int32)) hx hb dX12_errorOf_272 (by decide) ?_
                              exact r_iret cx w h dX12_errorOf_273
-- X12_errorAt
theorem wi_X12_errorAt_X12 : ∀ w ∈ wsX120, w ∈ wsX12_errorAt := by decide +kernel
abbrev rmX12_errorAt : Room := { frames := 0, cells := 0, slots := 0, locals := 0 }
def m_X12_errorAt (G : gS) (M : mS) (a0 : Nat) : Option (mS × Int32) := o_wI M a0 0 (0 : Int32) (fun M1 => some (M1, (mI M1 a0 3)))
set_option maxHeartbeats 4000000 in
set_option maxRecDepth 100000 in
theorem k_X12_errorAt {l : Launch} {D : va_G} {cy : cyS} {G : gS} {M M' : mS} {r : Int32} {a0 : Nat} (hG : wt G) (hL0 : a0 ∈ gL G) (hK0 : gK G a0 = 11) (h : m_X12_errorAt G M a0 = some (M', r)) : ctI l yX12_errorAt wsX12_errorAt rmX12_errorAt D cy G M [.ref a0] M' r := by
  unfold m_X12_errorAt at h
  refine ctI_of (cc := cX12_errorAt) (nL := 1) (ret := (some .int)) (lv := [(0, .ref a0)]) hG (by decide) rfl ⟨rfl, rfl⟩ (Nat.le_of_ble_eq_true rfl) rfl ?_
  intro p e s m args below meth c A ls cx w hl
  obtain ⟨hx, hb, hml, hown, hts, hr, hlocks, hK, hA, -, hsx⟩ := id cx
  have hkn : 0 ≤ (rmX12_errorAt).cells ∧ 0 ≤ (rmX12_errorAt).slots := ⟨Nat.zero_le _, Nat.zero_le _⟩
  refine lv_aload_n hx hb dX12_errorAt_0 rfl (lv_at hl 0 rfl) ?_
  refine lv_iconst (v := (0 : Int32)) hx hb dX12_errorAt_1 (by decide) ?_
  obtain ⟨M1, eM1, h⟩ := x_wI h
  refine r_putI (k := 0) (ty := .int) cx w tyX12 tyX12_ok nmX12 hL0 hK0 (by decide) rfl wi_X12_errorAt_X12 (by decide) rfl rfl rfl rfl st_11_0 (ln_11 _ _ (by decide)) (List.mem_of_getElem? (i := 1) rfl) dX12_errorAt_2 eM1 (fun H locs w => ?_)
  refine lv_aload_n hx hb dX12_errorAt_5 rfl (lv_at hl 0 rfl) ?_
  refine r_getI (k := 3) (v := .int (mI M1 a0 3)) cx w hL0 hK0 (by decide) rfl wi_X12_errorAt_X12 (by decide) rfl (List.mem_of_getElem? (i := 2) rfl) dX12_errorAt_6 ?_
  exact r_iret cx w h dX12_errorAt_9
-- X11_dark
theorem wi_X11_dark_X11 : ∀ w ∈ wsX110, w ∈ wsX11_dark := by decide +kernel
abbrev rmX11_dark : Room := { frames := 0, cells := 0, slots := 0, locals := 0 }
def m_X11_dark_13 (G : gS) (a0 : Nat)  : Nat → mS → Int32 → Nat → Int32 → Int32 → Option (mS × Int32)
  | 0, _, _, _, _, _ => none
  | n + 1, M, v1, v2, v3, v4 => (if v3 ≤ v4 then some (M, v1) else o_ix v4 (gN G v2) (o_bd ((mI M v2 (Int32.toNatClampNeg v4))) (fun x3 => o_bd ((v1 + x3)) (fun x4 => o_bd (v4 + 1 : Int32) (fun x5 => m_X11_dark_13 G a0 n M x4 v2 v3 x5)))))
def m_X11_dark (G : gS) (M : mS) (a0 : Nat) : Option (mS × Int32) := o_rf (gP G a0 5) (fun q1 => o_bd ((Int32.ofNat (gN G q1))) (fun x2 => m_X11_dark_13 G a0 fu M ((0 : Int32)) q1 x2 ((0 : Int32))))
set_option maxHeartbeats 4000000 in
set_option maxRecDepth 100000 in
theorem b_X11_dark_13 {p : Program} {e : Env} {s : State} {m : MethodId} {args : Array Value} {below : List Frame} {meth : Method} {c : Code} {A : Nat → Prop} {l : Launch} {D : va_G} {cy : cyS} {G : gS} (cx : cX p s m args meth c cX11_dark RX11 6 (some .int) wsX11_dark D cy G A) {k0 n0 : Nat} (hkn : k0 ≤ (rmX11_dark).cells ∧ n0 ≤ (rmX11_dark).slots) {M' : mS} {r : Int32} {a0 : Nat} (hL0 : a0 ∈ gL G) (hK0 : gK G a0 = 10)  : ∀ (n : Nat), ∀ (M : mS) (v1 : Int32) (v2 : Nat) (v3 : Int32) (v4 : Int32) (H : Heap) (locs : List Loc) (ls : Array Slot), v2 ∈ gL G → gK G v2 = 12 → m_X11_dark_13 G a0 n M v1 v2 v3 v4 = some (M', r) → wd D cy G M A s.heap H locs → lv_has ls 6 [(1, .int v1), (2, .ref v2), (3, .int v3), (4, .int v4)] → W p l e rmX11_dark s m args below meth c H locs k0 n0 (MQ below (va_Qi (fun (r' : Int32) (_ : Unit) => r' = r) (fun _ t => wOut D cy G M' t) A) args s k0 n0 A) (F0 m 13 ls []) := by
  obtain ⟨hx, hb, hml, hown, hts, hr, hlocks, hK, hA, hG, hsx⟩ := id cx
  intro n
  induction n with
  | zero =>
    intro M v1 v2 v3 v4 H locs ls gL2 gK2 h w hl
    have h : none = some _ := h
    cases h
  | succ n ih =>
    intro M v1 v2 v3 v4 H locs ls gL2 gK2 h w hl
    rw [m_X11_dark_13] at h
    refine lv_iload hx hb dX11_dark_13 (lv_at hl 3 rfl) ?_
    refine lv_iload_n hx hb dX11_dark_15 rfl (lv_at hl 2 rfl) ?_
    refine lv_icmp_ge (tgt := 36) hx hb dX11_dark_16 (by decide) (fun k1 => ?_) (fun k1 => ?_)
    · have h := x_t h k1
      refine lv_iload_n hx hb dX11_dark_36 rfl (lv_at hl 0 rfl) ?_
      exact r_iret cx w h dX11_dark_37
    · have h := x_f h k1
      refine lv_aload_n hx hb dX11_dark_19 rfl (lv_at hl 1 rfl) ?_
      refine lv_iload hx hb dX11_dark_20 (lv_at hl 3 rfl) ?_
      obtain ⟨z2, h⟩ := x_ix h
      refine r_iald cx w gL2 gK2 z2 dX11_dark_22 ?_
      obtain ⟨x3, ex3, h⟩ := x_bd h
      refine r_topI ex3 ?_
      refine lv_istore (lv' := [(5, .int x3), (1, .int v1), (2, .ref v2), (3, .int v3), (4, .int v4)]) hx hb dX11_dark_23 hl (by decide) rfl (fun ls hl => ?_)
      refine lv_iload_n hx hb dX11_dark_25 rfl (lv_at hl 1 rfl) ?_
      refine lv_iload hx hb dX11_dark_26 (lv_at hl 0 rfl) ?_
      refine lv_iadd hx hb dX11_dark_28 ?_
      obtain ⟨x4, ex4, h⟩ := x_bd h
      refine r_topI ex4 ?_
      refine lv_istore_n (lv' := [(1, .int x4), (5, .int x3), (2, .ref v2), (3, .int v3), (4, .int v4)]) hx hb dX11_dark_29 rfl hl (by decide) rfl (fun ls hl => ?_)
      obtain ⟨x5, ex5, h⟩ := x_bd h
      refine lv_iinc (v := x5) (lv' := [(4, .int x5), (1, .int x4), (5, .int x3), (2, .ref v2), (3, .int v3)]) hx hb dX11_dark_30 hl (k := 4) rfl (by rw [ex5]; rfl) (by decide) rfl (fun ls hl => ?_)
      refine lv_goto (tgt := 13) hx hb dX11_dark_33 (by decide) ?_
      exact ih M x4 v2 v3 x5 H locs ls gL2 gK2 h w (lv_sub hl [1, 3, 4, 0] rfl)
set_option maxHeartbeats 4000000 in
set_option maxRecDepth 100000 in
theorem k_X11_dark {l : Launch} {D : va_G} {cy : cyS} {G : gS} {M M' : mS} {r : Int32} {a0 : Nat} (hG : wt G) (hL0 : a0 ∈ gL G) (hK0 : gK G a0 = 10) (h : m_X11_dark G M a0 = some (M', r)) : ctI l yX11_dark wsX11_dark rmX11_dark D cy G M [.ref a0] M' r := by
  unfold m_X11_dark at h
  refine ctI_of (cc := cX11_dark) (nL := 6) (ret := (some .int)) (lv := [(0, .ref a0)]) hG (by decide) rfl ⟨rfl, rfl⟩ (Nat.le_of_ble_eq_true rfl) rfl ?_
  intro p e s m args below meth c A ls cx w hl
  obtain ⟨hx, hb, hml, hown, hts, hr, hlocks, hK, hA, -, hsx⟩ := id cx
  have hkn : 0 ≤ (rmX11_dark).cells ∧ 0 ≤ (rmX11_dark).slots := ⟨Nat.zero_le _, Nat.zero_le _⟩
  refine lv_iconst (v := (0 : Int32)) hx hb dX11_dark_0 (by decide) ?_
  refine lv_istore_n (lv' := [(1, .int ((0 : Int32))), (0, .ref a0)]) hx hb dX11_dark_1 rfl hl (by decide) rfl (fun ls hl => ?_)
  refine lv_aload_n hx hb dX11_dark_2 rfl (lv_at hl 1 rfl) ?_
  obtain ⟨q1, eq1, h⟩ := x_rf h
  obtain ⟨hLq1, hKq1⟩ := wt_q hG hL0 hK0 eq1
  have hKq1 : gK G q1 = 12 := hKq1
  refine r_getR (k := 5) cx w hL0 hK0 (by decide) rfl wi_X11_dark_X11 (by decide) rfl eq1 (List.mem_of_getElem? (i := 1) rfl) dX11_dark_3 ?_
  refine lv_astore_n (lv' := [(2, .ref q1), (1, .int ((0 : Int32))), (0, .ref a0)]) hx hb dX11_dark_6 rfl hl (by decide) rfl (fun ls hl => ?_)
  refine lv_aload_n hx hb dX11_dark_7 rfl (lv_at hl 0 rfl) ?_
  refine r_alen cx w hLq1 hKq1 (by decide) dX11_dark_8 ?_
  obtain ⟨x2, ex2, h⟩ := x_bd h
  refine r_topI ex2 ?_
  refine lv_istore_n (lv' := [(3, .int x2), (2, .ref q1), (1, .int ((0 : Int32))), (0, .ref a0)]) hx hb dX11_dark_9 rfl hl (by decide) rfl (fun ls hl => ?_)
  refine lv_iconst (v := (0 : Int32)) hx hb dX11_dark_10 (by decide) ?_
  refine lv_istore (lv' := [(4, .int ((0 : Int32))), (3, .int x2), (2, .ref q1), (1, .int ((0 : Int32))), (0, .ref a0)]) hx hb dX11_dark_11 hl (by decide) rfl (fun ls hl => ?_)
  exact b_X11_dark_13 cx hkn hL0 hK0 fu M ((0 : Int32)) q1 x2 ((0 : Int32)) s.heap [] ls hLq1 hKq1 h w (lv_sub hl [3, 2, 1, 0] rfl)
-- X11_sum
theorem wi_X11_sum_X11 : ∀ w ∈ wsX110, w ∈ wsX11_sum := by decide +kernel
abbrev rmX11_sum : Room := { frames := 0, cells := 0, slots := 0, locals := 0 }
def m_X11_sum_13 (G : gS) (a0 : Nat)  : Nat → mS → Int32 → Nat → Int32 → Int32 → Option (mS × Int32)
  | 0, _, _, _, _, _ => none
  | n + 1, M, v1, v2, v3, v4 => (if v3 ≤ v4 then some (M, v1) else o_ix v4 (gN G v2) (o_bd ((mI M v2 (Int32.toNatClampNeg v4))) (fun x3 => o_bd ((v1 + x3)) (fun x4 => o_bd (v4 + 1 : Int32) (fun x5 => m_X11_sum_13 G a0 n M x4 v2 v3 x5)))))
def m_X11_sum (G : gS) (M : mS) (a0 : Nat) : Option (mS × Int32) := o_rf (gP G a0 4) (fun q1 => o_bd ((Int32.ofNat (gN G q1))) (fun x2 => m_X11_sum_13 G a0 fu M ((0 : Int32)) q1 x2 ((0 : Int32))))
set_option maxHeartbeats 4000000 in
set_option maxRecDepth 100000 in
theorem b_X11_sum_13 {p : Program} {e : Env} {s : State} {m : MethodId} {args : Array Value} {below : List Frame} {meth : Method} {c : Code} {A : Nat → Prop} {l : Launch} {D : va_G} {cy : cyS} {G : gS} (cx : cX p s m args meth c cX11_sum RX11 6 (some .int) wsX11_sum D cy G A) {k0 n0 : Nat} (hkn : k0 ≤ (rmX11_sum).cells ∧ n0 ≤ (rmX11_sum).slots) {M' : mS} {r : Int32} {a0 : Nat} (hL0 : a0 ∈ gL G) (hK0 : gK G a0 = 10)  : ∀ (n : Nat), ∀ (M : mS) (v1 : Int32) (v2 : Nat) (v3 : Int32) (v4 : Int32) (H : Heap) (locs : List Loc) (ls : Array Slot), v2 ∈ gL G → gK G v2 = 12 → m_X11_sum_13 G a0 n M v1 v2 v3 v4 = some (M', r) → wd D cy G M A s.heap H locs → lv_has ls 6 [(1, .int v1), (2, .ref v2), (3, .int v3), (4, .int v4)] → W p l e rmX11_sum s m args below meth c H locs k0 n0 (MQ below (va_Qi (fun (r' : Int32) (_ : Unit) => r' = r) (fun _ t => wOut D cy G M' t) A) args s k0 n0 A) (F0 m 13 ls []) := by
  obtain ⟨hx, hb, hml, hown, hts, hr, hlocks, hK, hA, hG, hsx⟩ := id cx
  intro n
  induction n with
  | zero =>
    intro M v1 v2 v3 v4 H locs ls gL2 gK2 h w hl
    have h : none = some _ := h
    cases h
  | succ n ih =>
    intro M v1 v2 v3 v4 H locs ls gL2 gK2 h w hl
    rw [m_X11_sum_13] at h
    refine lv_iload hx hb dX11_sum_13 (lv_at hl 3 rfl) ?_
    refine lv_iload_n hx hb dX11_sum_15 rfl (lv_at hl 2 rfl) ?_
    refine lv_icmp_ge (tgt := 36) hx hb dX11_sum_16 (by decide) (fun k1 => ?_) (fun k1 => ?_)
    · have h := x_t h k1
      refine lv_iload_n hx hb dX11_sum_36 rfl (lv_at hl 0 rfl) ?_
      exact r_iret cx w h dX11_sum_37
    · have h := x_f h k1
      refine lv_aload_n hx hb dX11_sum_19 rfl (lv_at hl 1 rfl) ?_
      refine lv_iload hx hb dX11_sum_20 (lv_at hl 3 rfl) ?_
      obtain ⟨z2, h⟩ := x_ix h
      refine r_iald cx w gL2 gK2 z2 dX11_sum_22 ?_
      obtain ⟨x3, ex3, h⟩ := x_bd h
      refine r_topI ex3 ?_
      refine lv_istore (lv' := [(5, .int x3), (1, .int v1), (2, .ref v2), (3, .int v3), (4, .int v4)]) hx hb dX11_sum_23 hl (by decide) rfl (fun ls hl => ?_)
      refine lv_iload_n hx hb dX11_sum_25 rfl (lv_at hl 1 rfl) ?_
      refine lv_iload hx hb dX11_sum_26 (lv_at hl 0 rfl) ?_
      refine lv_iadd hx hb dX11_sum_28 ?_
      obtain ⟨x4, ex4, h⟩ := x_bd h
      refine r_topI ex4 ?_
      refine lv_istore_n (lv' := [(1, .int x4), (5, .int x3), (2, .ref v2), (3, .int v3), (4, .int v4)]) hx hb dX11_sum_29 rfl hl (by decide) rfl (fun ls hl => ?_)
      obtain ⟨x5, ex5, h⟩ := x_bd h
      refine lv_iinc (v := x5) (lv' := [(4, .int x5), (1, .int x4), (5, .int x3), (2, .ref v2), (3, .int v3)]) hx hb dX11_sum_30 hl (k := 4) rfl (by rw [ex5]; rfl) (by decide) rfl (fun ls hl => ?_)
      refine lv_goto (tgt := 13) hx hb dX11_sum_33 (by decide) ?_
      exact ih M x4 v2 v3 x5 H locs ls gL2 gK2 h w (lv_sub hl [1, 3, 4, 0] rfl)
set_option maxHeartbeats 4000000 in
set_option maxRecDepth 100000 in
theorem k_X11_sum {l : Launch} {D : va_G} {cy : cyS} {G : gS} {M M' : mS} {r : Int32} {a0 : Nat} (hG : wt G) (hL0 : a0 ∈ gL G) (hK0 : gK G a0 = 10) (h : m_X11_sum G M a0 = some (M', r)) : ctI l yX11_sum wsX11_sum rmX11_sum D cy G M [.ref a0] M' r := by
  unfold m_X11_sum at h
  refine ctI_of (cc := cX11_sum) (nL := 6) (ret := (some .int)) (lv := [(0, .ref a0)]) hG (by decide) rfl ⟨rfl, rfl⟩ (Nat.le_of_ble_eq_true rfl) rfl ?_
  intro p e s m args below meth c A ls cx w hl
  obtain ⟨hx, hb, hml, hown, hts, hr, hlocks, hK, hA, -, hsx⟩ := id cx
  have hkn : 0 ≤ (rmX11_sum).cells ∧ 0 ≤ (rmX11_sum).slots := ⟨Nat.zero_le _, Nat.zero_le _⟩
  refine lv_iconst (v := (0 : Int32)) hx hb dX11_sum_0 (by decide) ?_
  refine lv_istore_n (lv' := [(1, .int ((0 : Int32))), (0, .ref a0)]) hx hb dX11_sum_1 rfl hl (by decide) rfl (fun ls hl => ?_)
  refine lv_aload_n hx hb dX11_sum_2 rfl (lv_at hl 1 rfl) ?_
  obtain ⟨q1, eq1, h⟩ := x_rf h
  obtain ⟨hLq1, hKq1⟩ := wt_q hG hL0 hK0 eq1
  have hKq1 : gK G q1 = 12 := hKq1
  refine r_getR (k := 4) cx w hL0 hK0 (by decide) rfl wi_X11_sum_X11 (by decide) rfl eq1 (List.mem_of_getElem? (i := 1) rfl) dX11_sum_3 ?_
  refine lv_astore_n (lv' := [(2, .ref q1), (1, .int ((0 : Int32))), (0, .ref a0)]) hx hb dX11_sum_6 rfl hl (by decide) rfl (fun ls hl => ?_)
  refine lv_aload_n hx hb dX11_sum_7 rfl (lv_at hl 0 rfl) ?_
  refine r_alen cx w hLq1 hKq1 (by decide) dX11_sum_8 ?_
  obtain ⟨x2, ex2, h⟩ := x_bd h
  refine r_topI ex2 ?_
  refine lv_istore_n (lv' := [(3, .int x2), (2, .ref q1), (1, .int ((0 : Int32))), (0, .ref a0)]) hx hb dX11_sum_9 rfl hl (by decide) rfl (fun ls hl => ?_)
  refine lv_iconst (v := (0 : Int32)) hx hb dX11_sum_10 (by decide) ?_
  refine lv_istore (lv' := [(4, .int ((0 : Int32))), (3, .int x2), (2, .ref q1), (1, .int ((0 : Int32))), (0, .ref a0)]) hx hb dX11_sum_11 hl (by decide) rfl (fun ls hl => ?_)
  exact b_X11_sum_13 cx hkn hL0 hK0 fu M ((0 : Int32)) q1 x2 ((0 : Int32)) s.heap [] ls hLq1 hKq1 h w (lv_sub hl [3, 2, 1, 0] rfl)
-- X11_walkers
theorem wi_X11_walkers_X10 : ∀ w ∈ wsX100, w ∈ wsX11_walkers := by decide +kernel
theorem wi_X11_walkers_X11 : ∀ w ∈ wsX110, w ∈ wsX11_walkers := by decide +kernel
theorem wi_X11_walkers_X12 : ∀ w ∈ wsX120, w ∈ wsX11_walkers := by decide +kernel
abbrev rmX11_walkers : Room := { frames := 0, cells := 0, slots := 0, locals := 0 }
def m_X11_walkers_4 (G : gS) (a0 : Nat)  : Nat → mS → Int32 → Int32 → Option (mS × Int32)
  | 0, _, _, _ => none
  | n + 1, M, v1, v2 => o_rf (gP G a0 15) (fun q1 => o_rf (gP G q1 11) (fun q2 => (if (mI M q2 3) ≤ v2 then some (M, v1) else o_rf (gP G a0 9) (fun q4 => o_ix v2 (gN G q4) (o_bd ((v1 + ((1 : Int32) - (mI M q4 (Int32.toNatClampNeg v2))))) (fun x6 => o_bd (v2 + 1 : Int32) (fun x7 => m_X11_walkers_4 G a0 n M x6 x7)))))))
def m_X11_walkers (G : gS) (M : mS) (a0 : Nat) : Option (mS × Int32) := m_X11_walkers_4 G a0 fu M ((0 : Int32)) ((0 : Int32))
set_option maxHeartbeats 4000000 in
set_option maxRecDepth 100000 in
theorem b_X11_walkers_4 {p : Program} {e : Env} {s : State} {m : MethodId} {args : Array Value} {below : List Frame} {meth : Method} {c : Code} {A : Nat → Prop} {l : Launch} {D : va_G} {cy : cyS} {G : gS} (cx : cX p s m args meth c cX11_walkers RX11 3 (some .int) wsX11_walkers D cy G A) {k0 n0 : Nat} (hkn : k0 ≤ (rmX11_walkers).cells ∧ n0 ≤ (rmX11_walkers).slots) {M' : mS} {r : Int32} {a0 : Nat} (hL0 : a0 ∈ gL G) (hK0 : gK G a0 = 10)  : ∀ (n : Nat), ∀ (M : mS) (v1 : Int32) (v2 : Int32) (H : Heap) (locs : List Loc) (ls : Array Slot), m_X11_walkers_4 G a0 n M v1 v2 = some (M', r) → wd D cy G M A s.heap H locs → lv_has ls 3 [(0, .ref a0), (1, .int v1), (2, .int v2)] → W p l e rmX11_walkers s m args below meth c H locs k0 n0 (MQ below (va_Qi (fun (r' : Int32) (_ : Unit) => r' = r) (fun _ t => wOut D cy G M' t) A) args s k0 n0 A) (F0 m 4 ls []) := by
  obtain ⟨hx, hb, hml, hown, hts, hr, hlocks, hK, hA, hG, hsx⟩ := id cx
  intro n
  induction n with
  | zero =>
    intro M v1 v2 H locs ls h w hl
    have h : none = some _ := h
    cases h
  | succ n ih =>
    intro M v1 v2 H locs ls h w hl
    rw [m_X11_walkers_4] at h
    refine lv_iload_n hx hb dX11_walkers_4 rfl (lv_at hl 2 rfl) ?_
    refine lv_aload_n hx hb dX11_walkers_5 rfl (lv_at hl 0 rfl) ?_
    obtain ⟨q1, eq1, h⟩ := x_rf h
    obtain ⟨hLq1, hKq1⟩ := wt_q hG hL0 hK0 eq1
    have hKq1 : gK G q1 = 11 := hKq1
    refine r_getR (k := 15) cx w hL0 hK0 (by decide) rfl wi_X11_walkers_X11 (by decide) rfl eq1 (List.mem_of_getElem? (i := 1) rfl) dX11_walkers_6 ?_
    obtain ⟨q2, eq2, h⟩ := x_rf h
    obtain ⟨hLq2, hKq2⟩ := wt_q hG hLq1 hKq1 eq2
    have hKq2 : gK G q2 = 9 := hKq2
    refine r_getRN (k := 11) cx w hLq1 hKq1 (by decide) rfl wi_X11_walkers_X12 (by decide) rfl eq2 (nwF cx (q := (RX11, 72, "FlagAntsModel", "plan", "LFlagAntsModel$Plan;", "FlagAntsModel")) (List.mem_of_getElem? (i := 30) rfl)) dX11_walkers_9 ?_
    refine r_getIN (k := 3) (v := .int (mI M q2 3)) cx w hLq2 hKq2 (by decide) rfl wi_X11_walkers_X10 (by decide) rfl (nwF cx (q := (RX11, 106, "FlagAntsModel$Plan", "ants", "I", "FlagAntsModel")) (List.mem_of_getElem? (i := 38) rfl)) dX11_walkers_12 ?_
    refine lv_icmp_ge (tgt := 35) hx hb dX11_walkers_15 (by decide) (fun k3 => ?_) (fun k3 => ?_)
    · have h := x_t h k3
      refine lv_iload_n hx hb dX11_walkers_35 rfl (lv_at hl 1 rfl) ?_
      exact r_iret cx w h dX11_walkers_36
    · have h := x_f h k3
      refine lv_iload_n hx hb dX11_walkers_18 rfl (lv_at hl 1 rfl) ?_
      refine lv_iconst (v := (1 : Int32)) hx hb dX11_walkers_19 (by decide) ?_
      refine lv_aload_n hx hb dX11_walkers_20 rfl (lv_at hl 0 rfl) ?_
      obtain ⟨q4, eq4, h⟩ := x_rf h
      obtain ⟨hLq4, hKq4⟩ := wt_q hG hL0 hK0 eq4
      have hKq4 : gK G q4 = 12 := hKq4
      refine r_getR (k := 9) cx w hL0 hK0 (by decide) rfl wi_X11_walkers_X11 (by decide) rfl eq4 (List.mem_of_getElem? (i := 2) rfl) dX11_walkers_21 ?_
      refine lv_iload_n hx hb dX11_walkers_24 rfl (lv_at hl 2 rfl) ?_
      obtain ⟨z5, h⟩ := x_ix h
      refine r_iald cx w hLq4 hKq4 z5 dX11_walkers_25 ?_
      refine lv_isub hx hb dX11_walkers_26 ?_
      refine lv_iadd hx hb dX11_walkers_27 ?_
      obtain ⟨x6, ex6, h⟩ := x_bd h
      refine r_topI ex6 ?_
      refine lv_istore_n (lv' := [(1, .int x6), (0, .ref a0), (2, .int v2)]) hx hb dX11_walkers_28 rfl hl (by decide) rfl (fun ls hl => ?_)
      obtain ⟨x7, ex7, h⟩ := x_bd h
      refine lv_iinc (v := x7) (lv' := [(2, .int x7), (1, .int x6), (0, .ref a0)]) hx hb dX11_walkers_29 hl (k := 2) rfl (by rw [ex7]; rfl) (by decide) rfl (fun ls hl => ?_)
      refine lv_goto (tgt := 4) hx hb dX11_walkers_32 (by decide) ?_
      exact ih M x6 x7 H locs ls h w (lv_sub hl [2, 1, 0] rfl)
set_option maxHeartbeats 4000000 in
set_option maxRecDepth 100000 in
theorem k_X11_walkers {l : Launch} {D : va_G} {cy : cyS} {G : gS} {M M' : mS} {r : Int32} {a0 : Nat} (hG : wt G) (hL0 : a0 ∈ gL G) (hK0 : gK G a0 = 10) (h : m_X11_walkers G M a0 = some (M', r)) : ctI l yX11_walkers wsX11_walkers rmX11_walkers D cy G M [.ref a0] M' r := by
  unfold m_X11_walkers at h
  refine ctI_of (cc := cX11_walkers) (nL := 3) (ret := (some .int)) (lv := [(0, .ref a0)]) hG (by decide) rfl ⟨rfl, rfl⟩ (Nat.le_of_ble_eq_true rfl) rfl ?_
  intro p e s m args below meth c A ls cx w hl
  obtain ⟨hx, hb, hml, hown, hts, hr, hlocks, hK, hA, -, hsx⟩ := id cx
  have hkn : 0 ≤ (rmX11_walkers).cells ∧ 0 ≤ (rmX11_walkers).slots := ⟨Nat.zero_le _, Nat.zero_le _⟩
  refine lv_iconst (v := (0 : Int32)) hx hb dX11_walkers_0 (by decide) ?_
  refine lv_istore_n (lv' := [(1, .int ((0 : Int32))), (0, .ref a0)]) hx hb dX11_walkers_1 rfl hl (by decide) rfl (fun ls hl => ?_)
  refine lv_iconst (v := (0 : Int32)) hx hb dX11_walkers_2 (by decide) ?_
  refine lv_istore_n (lv' := [(2, .int ((0 : Int32))), (1, .int ((0 : Int32))), (0, .ref a0)]) hx hb dX11_walkers_3 rfl hl (by decide) rfl (fun ls hl => ?_)
  exact b_X11_walkers_4 cx hkn hL0 hK0 fu M ((0 : Int32)) ((0 : Int32)) s.heap [] ls h w (lv_sub hl [2, 1, 0] rfl)
-- X11_counted
theorem wi_X11_counted_X11 : ∀ w ∈ wsX110, w ∈ wsX11_counted := by decide +kernel
abbrev rmX11_counted : Room := { frames := 1, cells := 0, slots := 0, locals := 25 }
def m_X11_counted (G : gS) (M : mS) (a0 : Nat) (c1 : Int32) : Option (mS × Int32) := (if c1 = 4 then o_cl (m_X11_dark G M a0) (fun M2 r3 => some (M2, r3)) else if c1 = 5 then o_cl (m_X11_sum G M a0) (fun M6 r7 => some (M6, r7)) else if c1 = 6 then o_cl (m_X11_walkers G M a0) (fun M10 r11 => some (M10, r11)) else if c1 = 7 then some (M, (mI M a0 1)) else if c1 = 8 then some (M, (mI M a0 2)) else some (M, (mI M a0 3)))
set_option maxHeartbeats 4000000 in
set_option maxRecDepth 100000 in
theorem k_X11_counted {l : Launch} {D : va_G} {cy : cyS} {G : gS} {M M' : mS} {r : Int32} {a0 : Nat} {c1 : Int32} (hG : wt G) (hL0 : a0 ∈ gL G) (hK0 : gK G a0 = 10) (h : m_X11_counted G M a0 c1 = some (M', r)) : ctI l yX11_counted wsX11_counted rmX11_counted D cy G M [.ref a0, .int c1] M' r := by
  unfold m_X11_counted at h
  refine ctI_of (cc := cX11_counted) (nL := 2) (ret := (some .int)) (lv := [(0, .ref a0), (1, .int c1)]) hG (by decide) rfl ⟨rfl, rfl⟩ (Nat.le_of_ble_eq_true rfl) rfl ?_
  intro p e s m args below meth c A ls cx w hl
  obtain ⟨hx, hb, hml, hown, hts, hr, hlocks, hK, hA, -, hsx⟩ := id cx
  have hkn : 0 ≤ (rmX11_counted).cells ∧ 0 ≤ (rmX11_counted).slots := ⟨Nat.zero_le _, Nat.zero_le _⟩
  refine lv_iload_n hx hb dX11_counted_0 rfl (lv_at hl 1 rfl) ?_
  rcases Decidable.em (c1 = 4) with k1 | k1
  · have h := x_t h k1
    rw [k1]
    refine lv_tableIn (tgt := 36) hx hb dX11_counted_1 (by decide) (by decide) rfl (by decide) ?_
    refine lv_aload_n hx hb dX11_counted_36 rfl (lv_at hl 0 rfl) ?_
    obtain ⟨M2, r3, y4, h⟩ := x_cl h
    refine r_callVi (As := []) (rest := []) cx w hkn hl.1 (k_X11_dark hG hL0 hK0 y4) (cwV 0 hts gX11_counted_X11_dark rfl rfl rfl (by decide +kernel) ⟨Nat.le_of_ble_eq_true rfl, Nat.le_of_ble_eq_true rfl⟩) hL0 hK0 (by decide) rfl rfl rfl (Nat.le_of_ble_eq_true rfl) dX11_counted_37 (fun H locs w => ?_)
    exact r_iret cx w h dX11_counted_40
  · have h := x_f h k1
    rcases Decidable.em (c1 = 5) with k5 | k5
    · have h := x_t h k5
      rw [k5]
      refine lv_tableIn (tgt := 41) hx hb dX11_counted_1 (by decide) (by decide) rfl (by decide) ?_
      refine lv_aload_n hx hb dX11_counted_41 rfl (lv_at hl 0 rfl) ?_
      obtain ⟨M6, r7, y8, h⟩ := x_cl h
      refine r_callVi (As := []) (rest := []) cx w hkn hl.1 (k_X11_sum hG hL0 hK0 y8) (cwV 0 hts gX11_counted_X11_sum rfl rfl rfl (by decide +kernel) ⟨Nat.le_of_ble_eq_true rfl, Nat.le_of_ble_eq_true rfl⟩) hL0 hK0 (by decide) rfl rfl rfl (Nat.le_of_ble_eq_true rfl) dX11_counted_42 (fun H locs w => ?_)
      exact r_iret cx w h dX11_counted_45
    · have h := x_f h k5
      rcases Decidable.em (c1 = 6) with k9 | k9
      · have h := x_t h k9
        rw [k9]
        refine lv_tableIn (tgt := 46) hx hb dX11_counted_1 (by decide) (by decide) rfl (by decide) ?_
        refine lv_aload_n hx hb dX11_counted_46 rfl (lv_at hl 0 rfl) ?_
        obtain ⟨M10, r11, y12, h⟩ := x_cl h
        refine r_callVi (As := []) (rest := []) cx w hkn hl.1 (k_X11_walkers hG hL0 hK0 y12) (cwV 0 hts gX11_counted_X11_walkers rfl rfl rfl (by decide +kernel) ⟨Nat.le_of_ble_eq_true rfl, Nat.le_of_ble_eq_true rfl⟩) hL0 hK0 (by decide) rfl rfl rfl (Nat.le_of_ble_eq_true rfl) dX11_counted_47 (fun H locs w => ?_)
        exact r_iret cx w h dX11_counted_50
      · have h := x_f h k9
        rcases Decidable.em (c1 = 7) with k13 | k13
        · have h := x_t h k13
          rw [k13]
          refine lv_tableIn (tgt := 51) hx hb dX11_counted_1 (by decide) (by decide) rfl (by decide) ?_
          refine lv_aload_n hx hb dX11_counted_51 rfl (lv_at hl 0 rfl) ?_
          refine r_getI (k := 1) (v := .int (mI M a0 1)) cx w hL0 hK0 (by decide) rfl wi_X11_counted_X11 (by decide) rfl (List.mem_of_getElem? (i := 1) rfl) dX11_counted_52 ?_
          exact r_iret cx w h dX11_counted_55
        · have h := x_f h k13
          rcases Decidable.em (c1 = 8) with k14 | k14
          · have h := x_t h k14
            rw [k14]
            refine lv_tableIn (tgt := 56) hx hb dX11_counted_1 (by decide) (by decide) rfl (by decide) ?_
            refine lv_aload_n hx hb dX11_counted_56 rfl (lv_at hl 0 rfl) ?_
            refine r_getI (k := 2) (v := .int (mI M a0 2)) cx w hL0 hK0 (by decide) rfl wi_X11_counted_X11 (by decide) rfl (List.mem_of_getElem? (i := 2) rfl) dX11_counted_57 ?_
            exact r_iret cx w h dX11_counted_60
          · have h := x_f h k14
            refine lv_tableOut (tgt := 61) hx hb dX11_counted_1 (by have nk1 : Int32.toInt c1 ≠ 4 := fun hh => k1 (Int32.toInt_inj.mp hh); have nk5 : Int32.toInt c1 ≠ 5 := fun hh => k5 (Int32.toInt_inj.mp hh); have nk9 : Int32.toInt c1 ≠ 6 := fun hh => k9 (Int32.toInt_inj.mp hh); have nk13 : Int32.toInt c1 ≠ 7 := fun hh => k13 (Int32.toInt_inj.mp hh); have nk14 : Int32.toInt c1 ≠ 8 := fun hh => k14 (Int32.toInt_inj.mp hh); omega) (by decide) ?_
            refine lv_aload_n hx hb dX11_counted_61 rfl (lv_at hl 0 rfl) ?_
            refine r_getI (k := 3) (v := .int (mI M a0 3)) cx w hL0 hK0 (by decide) rfl wi_X11_counted_X11 (by decide) rfl (List.mem_of_getElem? (i := 3) rfl) dX11_counted_62 ?_
            exact r_iret cx w h dX11_counted_65
-- X12_isStone
abbrev rmX12_isStone : Room := { frames := 1, cells := 0, slots := 0, locals := 22 }
def m_X12_isStone_24 (G : gS) (c0 : Int32) (c1 : Int32)  (M : mS)  : Option (mS × Int32) := o_ck ((0 : Int32) = 0 ∨ (0 : Int32) = 1) (some (M, (0 : Int32)))
def m_X12_isStone (G : gS) (M : mS) (c0 : Int32) (c1 : Int32) : Option (mS × Int32) := o_cl (m_X12_isIn G M c0 (0 : Int32) (63 : Int32)) (fun M1 r2 => (if r2 = 0 then m_X12_isStone_24 G c0 c1 M1 else o_cl (m_X12_isIn G M1 c1 (0 : Int32) (63 : Int32)) (fun M5 r6 => (if r6 = 0 then m_X12_isStone_24 G c0 c1 M5 else o_ck ((1 : Int32) = 0 ∨ (1 : Int32) = 1) (some (M5, (1 : Int32)))))))
set_option maxHeartbeats 4000000 in
set_option maxRecDepth 100000 in
theorem b_X12_isStone_24 {p : Program} {e : Env} {s : State} {m : MethodId} {args : Array Value} {below : List Frame} {meth : Method} {c : Code} {A : Nat → Prop} {l : Launch} {D : va_G} {cy : cyS} {G : gS} (cx : cX p s m args meth c cX12_isStone RX12 2 (some .boolean) wsX12_isStone D cy G A) {k0 n0 : Nat} (hkn : k0 ≤ (rmX12_isStone).cells ∧ n0 ≤ (rmX12_isStone).slots) {M' : mS} {r : Int32} {c0 : Int32} {c1 : Int32}   : ∀ (M : mS) (H : Heap) (locs : List Loc) (ls : Array Slot), m_X12_isStone_24 G c0 c1 M = some (M', r) → wd D cy G M A s.heap H locs → lv_has ls 2 [] → W p l e rmX12_isStone s m args below meth c H locs k0 n0 (MQ below (va_Qi (fun (r' : Int32) (_ : Unit) => r' = r) (fun _ t => wOut D cy G M' t) A) args s k0 n0 A) (F0 m 24 ls []) := by
  obtain ⟨hx, hb, hml, hown, hts, hr, hlocks, hK, hA, hG, hsx⟩ := id cx
  intro M H locs ls h w hl
  unfold m_X12_isStone_24 at h
  refine lv_iconst (v := (0 : Int32)) hx hb dX12_isStone_24 (by decide) ?_
  obtain ⟨z1, h⟩ := x_ck h
  exact r_zret cx w z1 h dX12_isStone_25
set_option maxHeartbeats 4000000 in
set_option maxRecDepth 100000 in
theorem k_X12_isStone {l : Launch} {D : va_G} {cy : cyS} {G : gS} {M M' : mS} {r : Int32} {c0 : Int32} {c1 : Int32} (hG : wt G)  (h : m_X12_isStone G M c0 c1 = some (M', r)) : ctI l yX12_isStone wsX12_isStone rmX12_isStone D cy G M [.int c0, .int c1] M' r := by
  unfold m_X12_isStone at h
  refine ctI_of (cc := cX12_isStone) (nL := 2) (ret := (some .boolean)) (lv := [(0, .int c0), (1, .int c1)]) hG (by decide) rfl ⟨rfl, rfl⟩ (Nat.le_of_ble_eq_true rfl) rfl ?_
  intro p e s m args below meth c A ls cx w hl
  obtain ⟨hx, hb, hml, hown, hts, hr, hlocks, hK, hA, -, hsx⟩ := id cx
  have hkn : 0 ≤ (rmX12_isStone).cells ∧ 0 ≤ (rmX12_isStone).slots := ⟨Nat.zero_le _, Nat.zero_le _⟩
  refine lv_iload_n hx hb dX12_isStone_0 rfl (lv_at hl 0 rfl) ?_
  refine lv_iconst (v := (0 : Int32)) hx hb dX12_isStone_1 (by decide) ?_
  refine lv_bipush (v := (63 : Int32)) hx hb dX12_isStone_2 (by decide) ?_
  obtain ⟨M1, r2, y3, h⟩ := x_cl h
  refine r_callSi (As := [.int c0, .int ((0 : Int32)), .int ((63 : Int32))]) (rest := []) cx w hkn hl.1 (k_X12_isIn hG y3) (va_cwS 3 hts gX12_isStone_X12_isIn rfl rfl rfl (by decide +kernel) ⟨Nat.le_of_ble_eq_true rfl, Nat.le_of_ble_eq_true rfl⟩) rfl rfl (Nat.le_of_ble_eq_true rfl) dX12_isStone_4 (fun H locs w => ?_)
  refine lv_if_eq (tgt := 24) hx hb dX12_isStone_7 (by decide) (fun k4 => ?_) (fun k4 => ?_)
  · have h := x_t h k4
    exact b_X12_isStone_24 cx hkn M1 H locs ls h w (lv_sub hl [] rfl)
  · have h := x_f h k4
    refine lv_iload_n hx hb dX12_isStone_10 rfl (lv_at hl 1 rfl) ?_
    refine lv_iconst (v := (0 : Int32)) hx hb dX12_isStone_11 (by decide) ?_
    refine lv_bipush (v := (63 : Int32)) hx hb dX12_isStone_12 (by decide) ?_
    obtain ⟨M5, r6, y7, h⟩ := x_cl h
    refine r_callSi (As := [.int c1, .int ((0 : Int32)), .int ((63 : Int32))]) (rest := []) cx w hkn hl.1 (k_X12_isIn hG y7) (va_cwS 3 hts gX12_isStone_X12_isIn rfl rfl rfl (by decide +kernel) ⟨Nat.le_of_ble_eq_true rfl, Nat.le_of_ble_eq_true rfl⟩) rfl rfl (Nat.le_of_ble_eq_true rfl) dX12_isStone_14 (fun H locs w => ?_)
    refine lv_if_eq (tgt := 24) hx hb dX12_isStone_17 (by decide) (fun k8 => ?_) (fun k8 => ?_)
    · have h := x_t h k8
      exact b_X12_isStone_24 cx hkn M5 H locs ls h w (lv_sub hl [] rfl)
    · have h := x_f h k8
      refine lv_iconst (v := (1 : Int32)) hx hb dX12_isStone_20 (by decide) ?_
      refine lv_goto (tgt := 25) hx hb dX12_isStone_21 (by decide) ?_
      obtain ⟨z9, h⟩ := x_ck h
      exact r_zret cx w z9 h dX12_isStone_25
-- X12_stone
theorem wi_X12_stone_X11 : ∀ w ∈ wsX110, w ∈ wsX12_stone := by decide +kernel
theorem wi_X12_stone_X12 : ∀ w ∈ wsX120, w ∈ wsX12_stone := by decide +kernel
abbrev rmX12_stone : Room := { frames := 2, cells := 0, slots := 0, locals := 43 }
def m_X12_stone (G : gS) (M : mS) (a0 : Nat) (c1 : Int32) (c2 : Int32) : Option (mS × Int32) := o_wI M a0 0 (0 : Int32) (fun M1 => o_cl (m_X12_isStone G M1 c1 c2) (fun M2 r3 => (if r3 = 0 then o_cl (m_X12_no G M2 a0 (1 : Int32)) (fun M6 r7 => some (M6, r7)) else o_rf (gP G a0 13) (fun q9 => o_rf (gP G q9 4) (fun q10 => o_ix (((64 : Int32) * c2) + c1) (gN G q10) (some (M2, (mI M2 q10 (Int32.toNatClampNeg (((64 : Int32) * c2) + c1))))))))))
set_option maxHeartbeats 4000000 in
set_option maxRecDepth 100000 in
theorem k_X12_stone {l : Launch} {D : va_G} {cy : cyS} {G : gS} {M M' : mS} {r : Int32} {a0 : Nat} {c1 : Int32} {c2 : Int32} (hG : wt G) (hL0 : a0 ∈ gL G) (hK0 : gK G a0 = 11) (h : m_X12_stone G M a0 c1 c2 = some (M', r)) : ctI l yX12_stone wsX12_stone rmX12_stone D cy G M [.ref a0, .int c1, .int c2] M' r := by
  unfold m_X12_stone at h
  refine ctI_of (cc := cX12_stone) (nL := 3) (ret := (some .int)) (lv := [(0, .ref a0), (1, .int c1), (2, .int c2)]) hG (by decide) rfl ⟨rfl, rfl⟩ (Nat.le_of_ble_eq_true rfl) rfl ?_
  intro p e s m args below meth c A ls cx w hl
  obtain ⟨hx, hb, hml, hown, hts, hr, hlocks, hK, hA, -, hsx⟩ := id cx
  have hkn : 0 ≤ (rmX12_stone).cells ∧ 0 ≤ (rmX12_stone).slots := ⟨Nat.zero_le _, Nat.zero_le _⟩
  refine lv_aload_n hx hb dX12_stone_0 rfl (lv_at hl 0 rfl) ?_
  refine lv_iconst (v := (0 : Int32)) hx hb dX12_stone_1 (by decide) ?_
  obtain ⟨M1, eM1, h⟩ := x_wI h
  refine r_putI (k := 0) (ty := .int) cx w tyX12 tyX12_ok nmX12 hL0 hK0 (by decide) rfl wi_X12_stone_X12 (by decide) rfl rfl rfl rfl st_11_0 (ln_11 _ _ (by decide)) (List.mem_of_getElem? (i := 1) rfl) dX12_stone_2 eM1 (fun H locs w => ?_)
  refine lv_iload_n hx hb dX12_stone_5 rfl (lv_at hl 1 rfl) ?_
  refine lv_iload_n hx hb dX12_stone_6 rfl (lv_at hl 2 rfl) ?_
  obtain ⟨M2, r3, y4, h⟩ := x_cl h
  refine r_callSi (As := [.int c1, .int c2]) (rest := []) cx w hkn hl.1 (k_X12_isStone hG y4) (va_cwS 2 hts gX12_stone_X12_isStone rfl rfl rfl (by decide +kernel) ⟨Nat.le_of_ble_eq_true rfl, Nat.le_of_ble_eq_true rfl⟩) rfl rfl (Nat.le_of_ble_eq_true rfl) dX12_stone_7 (fun H locs w => ?_)
  refine lv_if_eq (tgt := 30) hx hb dX12_stone_10 (by decide) (fun k5 => ?_) (fun k5 => ?_)
  · have h := x_t h k5
    refine lv_aload_n hx hb dX12_stone_30 rfl (lv_at hl 0 rfl) ?_
    refine lv_iconst (v := (1 : Int32)) hx hb dX12_stone_31 (by decide) ?_
    obtain ⟨M6, r7, y8, h⟩ := x_cl h
    refine r_callVi (As := [.int ((1 : Int32))]) (rest := []) cx w hkn hl.1 (k_X12_no hG hL0 hK0 y8) (cwV 1 hts gX12_stone_X12_no rfl rfl rfl (by decide +kernel) ⟨Nat.le_of_ble_eq_true rfl, Nat.le_of_ble_eq_true rfl⟩) hL0 hK0 (by decide) rfl rfl rfl (Nat.le_of_ble_eq_true rfl) dX12_stone_32 (fun H locs w => ?_)
    exact r_iret cx w h dX12_stone_35
  · have h := x_f h k5
    refine lv_aload_n hx hb dX12_stone_13 rfl (lv_at hl 0 rfl) ?_
    obtain ⟨q9, eq9, h⟩ := x_rf h
    obtain ⟨hLq9, hKq9⟩ := wt_q hG hL0 hK0 eq9
    have hKq9 : gK G q9 = 10 := hKq9
    refine r_getR (k := 13) cx w hL0 hK0 (by decide) rfl wi_X12_stone_X12 (by decide) rfl eq9 (List.mem_of_getElem? (i := 2) rfl) dX12_stone_14 ?_
    obtain ⟨q10, eq10, h⟩ := x_rf h
    obtain ⟨hLq10, hKq10⟩ := wt_q hG hLq9 hKq9 eq10
    have hKq10 : gK G q10 = 12 := hKq10
    refine r_getRN (k := 4) cx w hLq9 hKq9 (by decide) rfl wi_X12_stone_X11 (by decide) rfl eq10 (nwF cx (q := (RX12, 321, "FlagAntsModel$State", "colours", "[I", "FlagAntsModel")) (List.mem_of_getElem? (i := 23) rfl)) dX12_stone_17 ?_
    refine lv_bipush (v := (64 : Int32)) hx hb dX12_stone_20 (by decide) ?_
    refine lv_iload_n hx hb dX12_stone_22 rfl (lv_at hl 2 rfl) ?_
    refine lv_imul hx hb dX12_stone_23 ?_
    refine lv_iload_n hx hb dX12_stone_24 rfl (lv_at hl 1 rfl) ?_
    refine lv_iadd hx hb dX12_stone_25 ?_
    obtain ⟨z11, h⟩ := x_ix h
    refine r_iald cx w hLq10 hKq10 z11 dX12_stone_26 ?_
    refine lv_goto (tgt := 35) hx hb dX12_stone_27 (by decide) ?_
    exact r_iret cx w h dX12_stone_35
-- X12_stonesOf
theorem wi_X12_stonesOf_X11 : ∀ w ∈ wsX110, w ∈ wsX12_stonesOf := by decide +kernel
theorem wi_X12_stonesOf_X12 : ∀ w ∈ wsX120, w ∈ wsX12_stonesOf := by decide +kernel
abbrev rmX12_stonesOf : Room := { frames := 0, cells := 0, slots := 0, locals := 0 }
def m_X12_stonesOf_42 (G : gS) (a0 : Nat) (c1 : Int32) (kb17 : mS → Int32 → Nat → Int32 → Int32 → Option (mS × Int32)) (M : mS) (v3 : Nat) (v4 : Int32) (v5 : Int32) (s0 : Int32) (s1 : Int32) : Option (mS × Int32) := o_bd ((s0 + s1)) (fun x1 => o_bd (v5 + 1 : Int32) (fun x2 => kb17 M x1 v3 v4 x2))
def m_X12_stonesOf_17 (G : gS) (a0 : Nat) (c1 : Int32)  : Nat → mS → Int32 → Nat → Int32 → Int32 → Option (mS × Int32)
  | 0, _, _, _, _, _ => none
  | n + 1, M, v2, v3, v4, v5 => (if v4 ≤ v5 then some (M, v2) else o_ix v5 (gN G v3) (o_bd ((mI M v3 (Int32.toNatClampNeg v5))) (fun x3 => (if x3 = c1 then m_X12_stonesOf_42 G a0 c1 (fun M v2 v3 v4 v5 => m_X12_stonesOf_17 G a0 c1 n M v2 v3 v4 v5) M v3 v4 v5 v2 ((1 : Int32)) else m_X12_stonesOf_42 G a0 c1 (fun M v2 v3 v4 v5 => m_X12_stonesOf_17 G a0 c1 n M v2 v3 v4 v5) M v3 v4 v5 v2 ((0 : Int32))))))
def m_X12_stonesOf (G : gS) (M : mS) (a0 : Nat) (c1 : Int32) : Option (mS × Int32) := o_rf (gP G a0 13) (fun q1 => o_rf (gP G q1 4) (fun q2 => o_bd ((Int32.ofNat (gN G q2))) (fun x3 => m_X12_stonesOf_17 G a0 c1 fu M ((0 : Int32)) q2 x3 ((0 : Int32)))))
set_option maxHeartbeats 4000000 in
set_option maxRecDepth 100000 in
theorem b_X12_stonesOf_42 {p : Program} {e : Env} {s : State} {m : MethodId} {args : Array Value} {below : List Frame} {meth : Method} {c : Code} {A : Nat → Prop} {l : Launch} {D : va_G} {cy : cyS} {G : gS} (cx : cX p s m args meth c cX12_stonesOf RX12 7 (some .int) wsX12_stonesOf D cy G A) {k0 n0 : Nat} (hkn : k0 ≤ (rmX12_stonesOf).cells ∧ n0 ≤ (rmX12_stonesOf).slots) {M' : mS} {r : Int32} {a0 : Nat} {c1 : Int32} (hL0 : a0 ∈ gL G) (hK0 : gK G a0 = 11) {kb17 : mS → Int32 → Nat → Int32 → Int32 → Option (mS × Int32)} (hkb17 : ∀ (M : mS) (v2 : Int32) (v3 : Nat) (v4 : Int32) (v5 : Int32) (H : Heap) (locs : List Loc) (ls : Array Slot), v3 ∈ gL G → gK G v3 = 12 → kb17 M v2 v3 v4 v5 = some (M', r) → wd D cy G M A s.heap H locs → lv_has ls 7 [(1, .int c1), (2, .int v2), (3, .ref v3), (4, .int v4), (5, .int v5)] → W p l e rmX12_stonesOf s m args below meth c H locs k0 n0 (MQ below (va_Qi (fun (r' : Int32) (_ : Unit) => r' = r) (fun _ t => wOut D cy G M' t) A) args s k0 n0 A) (F0 m 17 ls [])) : ∀ (M : mS) (v3 : Nat) (v4 : Int32) (v5 : Int32) (s0 : Int32) (s1 : Int32) (H : Heap) (locs : List Loc) (ls : Array Slot), v3 ∈ gL G → gK G v3 = 12 → m_X12_stonesOf_42 G a0 c1 kb17 M v3 v4 v5 s0 s1 = some (M', r) → wd D cy G M A s.heap H locs → lv_has ls 7 [(1, .int c1), (3, .ref v3), (4, .int v4), (5, .int v5)] → W p l e rmX12_stonesOf s m args below meth c H locs k0 n0 (MQ below (va_Qi (fun (r' : Int32) (_ : Unit) => r' = r) (fun _ t => wOut D cy G M' t) A) args s k0 n0 A) (F0 m 42 ls [.int s1, .int s0]) := by
  obtain ⟨hx, hb, hml, hown, hts, hr, hlocks, hK, hA, hG, hsx⟩ := id cx
  intro M v3 v4 v5 s0 s1 H locs ls gL3 gK3 h w hl
  unfold m_X12_stonesOf_42 at h
  refine lv_iadd hx hb dX12_stonesOf_42 ?_
  obtain ⟨x1, ex1, h⟩ := x_bd h
  refine r_topI ex1 ?_
  refine lv_istore_n (lv' := [(2, .int x1), (1, .int c1), (3, .ref v3), (4, .int v4), (5, .int v5)]) hx hb dX12_stonesOf_43 rfl hl (by decide) rfl (fun ls hl => ?_)
  obtain ⟨x2, ex2, h⟩ := x_bd h
  refine lv_iinc (v := x2) (lv' := [(5, .int x2), (2, .int x1), (1, .int c1), (3, .ref v3), (4, .int v4)]) hx hb dX12_stonesOf_44 hl (k := 4) rfl (by rw [ex2]; rfl) (by decide) rfl (fun ls hl => ?_)
  refine lv_goto (tgt := 17) hx hb dX12_stonesOf_47 (by decide) ?_
  exact hkb17 M x1 v3 v4 x2 H locs ls gL3 gK3 h w (lv_sub hl [2, 1, 3, 4, 0] rfl)
set_option maxHeartbeats 4000000 in
set_option maxRecDepth 100000 in
theorem b_X12_stonesOf_17 {p : Program} {e : Env} {s : State} {m : MethodId} {args : Array Value} {below : List Frame} {meth : Method} {c : Code} {A : Nat → Prop} {l : Launch} {D : va_G} {cy : cyS} {G : gS} (cx : cX p s m args meth c cX12_stonesOf RX12 7 (some .int) wsX12_stonesOf D cy G A) {k0 n0 : Nat} (hkn : k0 ≤ (rmX12_stonesOf).cells ∧ n0 ≤ (rmX12_stonesOf).slots) {M' : mS} {r : Int32} {a0 : Nat} {c1 : Int32} (hL0 : a0 ∈ gL G) (hK0 : gK G a0 = 11)  : ∀ (n : Nat), ∀ (M : mS) (v2 : Int32) (v3 : Nat) (v4 : Int32) (v5 : Int32) (H : Heap) (locs : List Loc) (ls : Array Slot), v3 ∈ gL G → gK G v3 = 12 → m_X12_stonesOf_17 G a0 c1 n M v2 v3 v4 v5 = some (M', r) → wd D cy G M A s.heap H locs → lv_has ls 7 [(1, .int c1), (2, .int v2), (3, .ref v3), (4, .int v4), (5, .int v5)] → W p l e rmX12_stonesOf s m args below meth c H locs k0 n0 (MQ below (va_Qi (fun (r' : Int32) (_ : Unit) => r' = r) (fun _ t => wOut D cy G M' t) A) args s k0 n0 A) (F0 m 17 ls []) := by
  obtain ⟨hx, hb, hml, hown, hts, hr, hlocks, hK, hA, hG, hsx⟩ := id cx
  intro n
  induction n with
  | zero =>
    intro M v2 v3 v4 v5 H locs ls gL3 gK3 h w hl
    have h : none = some _ := h
    cases h
  | succ n ih =>
    intro M v2 v3 v4 v5 H locs ls gL3 gK3 h w hl
    rw [m_X12_stonesOf_17] at h
    refine lv_iload hx hb dX12_stonesOf_17 (lv_at hl 4 rfl) ?_
    refine lv_iload hx hb dX12_stonesOf_19 (lv_at hl 3 rfl) ?_
    refine lv_icmp_ge (tgt := 50) hx hb dX12_stonesOf_21 (by decide) (fun k1 => ?_) (fun k1 => ?_)
    · have h := x_t h k1
      refine lv_iload_n hx hb dX12_stonesOf_50 rfl (lv_at hl 1 rfl) ?_
      exact r_iret cx w h dX12_stonesOf_51
    · have h := x_f h k1
      refine lv_aload_n hx hb dX12_stonesOf_24 rfl (lv_at hl 2 rfl) ?_
      refine lv_iload hx hb dX12_stonesOf_25 (lv_at hl 4 rfl) ?_
      obtain ⟨z2, h⟩ := x_ix h
      refine r_iald cx w gL3 gK3 z2 dX12_stonesOf_27 ?_
      obtain ⟨x3, ex3, h⟩ := x_bd h
      refine r_topI ex3 ?_
      refine lv_istore (lv' := [(6, .int x3), (1, .int c1), (2, .int v2), (3, .ref v3), (4, .int v4), (5, .int v5)]) hx hb dX12_stonesOf_28 hl (by decide) rfl (fun ls hl => ?_)
      refine lv_iload_n hx hb dX12_stonesOf_30 rfl (lv_at hl 2 rfl) ?_
      refine lv_iload hx hb dX12_stonesOf_31 (lv_at hl 0 rfl) ?_
      refine lv_iload_n hx hb dX12_stonesOf_33 rfl (lv_at hl 1 rfl) ?_
      refine lv_icmp_ne (tgt := 41) hx hb dX12_stonesOf_34 (by decide) (fun k4 => ?_) (fun k4 => ?_)
      · have h := x_f h k4
        refine lv_iconst (v := (0 : Int32)) hx hb dX12_stonesOf_41 (by decide) ?_
        exact b_X12_stonesOf_42 cx hkn hL0 hK0 (hkb17 := ih) M v3 v4 v5 v2 ((0 : Int32)) H locs ls gL3 gK3 h w (lv_sub hl [1, 3, 4, 5] rfl)
      · have h := x_t h k4
        refine lv_iconst (v := (1 : Int32)) hx hb dX12_stonesOf_37 (by decide) ?_
        refine lv_goto (tgt := 42) hx hb dX12_stonesOf_38 (by decide) ?_
        exact b_X12_stonesOf_42 cx hkn hL0 hK0 (hkb17 := ih) M v3 v4 v5 v2 ((1 : Int32)) H locs ls gL3 gK3 h w (lv_sub hl [1, 3, 4, 5] rfl)
set_option maxHeartbeats 4000000 in
set_option maxRecDepth 100000 in
theorem k_X12_stonesOf {l : Launch} {D : va_G} {cy : cyS} {G : gS} {M M' : mS} {r : Int32} {a0 : Nat} {c1 : Int32} (hG : wt G) (hL0 : a0 ∈ gL G) (hK0 : gK G a0 = 11) (h : m_X12_stonesOf G M a0 c1 = some (M', r)) : ctI l yX12_stonesOf wsX12_stonesOf rmX12_stonesOf D cy G M [.ref a0, .int c1] M' r := by
  unfold m_X12_stonesOf at h
  refine ctI_of (cc := cX12_stonesOf) (nL := 7) (ret := (some .int)) (lv := [(0, .ref a0), (1, .int c1)]) hG (by decide) rfl ⟨rfl, rfl⟩ (Nat.le_of_ble_eq_true rfl) rfl ?_
  intro p e s m args below meth c A ls cx w hl
  obtain ⟨hx, hb, hml, hown, hts, hr, hlocks, hK, hA, -, hsx⟩ := id cx
  have hkn : 0 ≤ (rmX12_stonesOf).cells ∧ 0 ≤ (rmX12_stonesOf).slots := ⟨Nat.zero_le _, Nat.zero_le _⟩
  refine lv_iconst (v := (0 : Int32)) hx hb dX12_stonesOf_0 (by decide) ?_
  refine lv_istore_n (lv' := [(2, .int ((0 : Int32))), (0, .ref a0), (1, .int c1)]) hx hb dX12_stonesOf_1 rfl hl (by decide) rfl (fun ls hl => ?_)
  refine lv_aload_n hx hb dX12_stonesOf_2 rfl (lv_at hl 1 rfl) ?_
  obtain ⟨q1, eq1, h⟩ := x_rf h
  obtain ⟨hLq1, hKq1⟩ := wt_q hG hL0 hK0 eq1
  have hKq1 : gK G q1 = 10 := hKq1
  refine r_getR (k := 13) cx w hL0 hK0 (by decide) rfl wi_X12_stonesOf_X12 (by decide) rfl eq1 (List.mem_of_getElem? (i := 1) rfl) dX12_stonesOf_3 ?_
  obtain ⟨q2, eq2, h⟩ := x_rf h
  obtain ⟨hLq2, hKq2⟩ := wt_q hG hLq1 hKq1 eq2
  have hKq2 : gK G q2 = 12 := hKq2
  refine r_getRN (k := 4) cx w hLq1 hKq1 (by decide) rfl wi_X12_stonesOf_X11 (by decide) rfl eq2 (nwF cx (q := (RX12, 321, "FlagAntsModel$State", "colours", "[I", "FlagAntsModel")) (List.mem_of_getElem? (i := 23) rfl)) dX12_stonesOf_6 ?_
  refine lv_astore_n (lv' := [(3, .ref q2), (2, .int ((0 : Int32))), (0, .ref a0), (1, .int c1)]) hx hb dX12_stonesOf_9 rfl hl (by decide) rfl (fun ls hl => ?_)
  refine lv_aload_n hx hb dX12_stonesOf_10 rfl (lv_at hl 0 rfl) ?_
  refine r_alen cx w hLq2 hKq2 (by decide) dX12_stonesOf_11 ?_
  obtain ⟨x3, ex3, h⟩ := x_bd h
  refine r_topI ex3 ?_
  refine lv_istore (lv' := [(4, .int x3), (3, .ref q2), (2, .int ((0 : Int32))), (0, .ref a0), (1, .int c1)]) hx hb dX12_stonesOf_12 hl (by decide) rfl (fun ls hl => ?_)
  refine lv_iconst (v := (0 : Int32)) hx hb dX12_stonesOf_14 (by decide) ?_
  refine lv_istore (lv' := [(5, .int ((0 : Int32))), (4, .int x3), (3, .ref q2), (2, .int ((0 : Int32))), (0, .ref a0), (1, .int c1)]) hx hb dX12_stonesOf_15 hl (by decide) rfl (fun ls hl => ?_)
  exact b_X12_stonesOf_17 cx hkn hL0 hK0 fu M ((0 : Int32)) q2 x3 ((0 : Int32)) s.heap [] ls hLq2 hKq2 h w (lv_sub hl [5, 3, 2, 1, 0] rfl)
-- X12_colour
theorem wi_X12_colour_X12 : ∀ w ∈ wsX120, w ∈ wsX12_colour := by decide +kernel
abbrev rmX12_colour : Room := { frames := 1, cells := 0, slots := 0, locals := 26 }
def m_X12_colour (G : gS) (M : mS) (a0 : Nat) (c1 : Int32) : Option (mS × Int32) := o_wI M a0 0 (0 : Int32) (fun M1 => o_cl (m_X12_isIn G M1 c1 (0 : Int32) (5 : Int32)) (fun M2 r3 => (if r3 = 0 then o_cl (m_X12_no G M2 a0 (1 : Int32)) (fun M6 r7 => some (M6, r7)) else o_cl (m_X12_stonesOf G M2 a0 c1) (fun M9 r10 => some (M9, r10)))))
set_option maxHeartbeats 4000000 in
set_option maxRecDepth 100000 in
theorem k_X12_colour {l : Launch} {D : va_G} {cy : cyS} {G : gS} {M M' : mS} {r : Int32} {a0 : Nat} {c1 : Int32} (hG : wt G) (hL0 : a0 ∈ gL G) (hK0 : gK G a0 = 11) (h : m_X12_colour G M a0 c1 = some (M', r)) : ctI l yX12_colour wsX12_colour rmX12_colour D cy G M [.ref a0, .int c1] M' r := by
  unfold m_X12_colour at h
  refine ctI_of (cc := cX12_colour) (nL := 2) (ret := (some .int)) (lv := [(0, .ref a0), (1, .int c1)]) hG (by decide) rfl ⟨rfl, rfl⟩ (Nat.le_of_ble_eq_true rfl) rfl ?_
  intro p e s m args below meth c A ls cx w hl
  obtain ⟨hx, hb, hml, hown, hts, hr, hlocks, hK, hA, -, hsx⟩ := id cx
  have hkn : 0 ≤ (rmX12_colour).cells ∧ 0 ≤ (rmX12_colour).slots := ⟨Nat.zero_le _, Nat.zero_le _⟩
  refine lv_aload_n hx hb dX12_colour_0 rfl (lv_at hl 0 rfl) ?_
  refine lv_iconst (v := (0 : Int32)) hx hb dX12_colour_1 (by decide) ?_
  obtain ⟨M1, eM1, h⟩ := x_wI h
  refine r_putI (k := 0) (ty := .int) cx w tyX12 tyX12_ok nmX12 hL0 hK0 (by decide) rfl wi_X12_colour_X12 (by decide) rfl rfl rfl rfl st_11_0 (ln_11 _ _ (by decide)) (List.mem_of_getElem? (i := 1) rfl) dX12_colour_2 eM1 (fun H locs w => ?_)
  refine lv_iload_n hx hb dX12_colour_5 rfl (lv_at hl 1 rfl) ?_
  refine lv_iconst (v := (0 : Int32)) hx hb dX12_colour_6 (by decide) ?_
  refine lv_iconst (v := (5 : Int32)) hx hb dX12_colour_7 (by decide) ?_
  obtain ⟨M2, r3, y4, h⟩ := x_cl h
  refine r_callSi (As := [.int c1, .int ((0 : Int32)), .int ((5 : Int32))]) (rest := []) cx w hkn hl.1 (k_X12_isIn hG y4) (va_cwS 3 hts gX12_colour_X12_isIn rfl rfl rfl (by decide +kernel) ⟨Nat.le_of_ble_eq_true rfl, Nat.le_of_ble_eq_true rfl⟩) rfl rfl (Nat.le_of_ble_eq_true rfl) dX12_colour_8 (fun H locs w => ?_)
  refine lv_if_eq (tgt := 22) hx hb dX12_colour_11 (by decide) (fun k5 => ?_) (fun k5 => ?_)
  · have h := x_t h k5
    refine lv_aload_n hx hb dX12_colour_22 rfl (lv_at hl 0 rfl) ?_
    refine lv_iconst (v := (1 : Int32)) hx hb dX12_colour_23 (by decide) ?_
    obtain ⟨M6, r7, y8, h⟩ := x_cl h
    refine r_callVi (As := [.int ((1 : Int32))]) (rest := []) cx w hkn hl.1 (k_X12_no hG hL0 hK0 y8) (cwV 1 hts gX12_colour_X12_no rfl rfl rfl (by decide +kernel) ⟨Nat.le_of_ble_eq_true rfl, Nat.le_of_ble_eq_true rfl⟩) hL0 hK0 (by decide) rfl rfl rfl (Nat.le_of_ble_eq_true rfl) dX12_colour_24 (fun H locs w => ?_)
    exact r_iret cx w h dX12_colour_27
  · have h := x_f h k5
    refine lv_aload_n hx hb dX12_colour_14 rfl (lv_at hl 0 rfl) ?_
    refine lv_iload_n hx hb dX12_colour_15 rfl (lv_at hl 1 rfl) ?_
    obtain ⟨M9, r10, y11, h⟩ := x_cl h
    refine r_callVi (As := [.int c1]) (rest := []) cx w hkn hl.1 (k_X12_stonesOf hG hL0 hK0 y11) (cwV 1 hts gX12_colour_X12_stonesOf rfl rfl rfl (by decide +kernel) ⟨Nat.le_of_ble_eq_true rfl, Nat.le_of_ble_eq_true rfl⟩) hL0 hK0 (by decide) rfl rfl rfl (Nat.le_of_ble_eq_true rfl) dX12_colour_16 (fun H locs w => ?_)
    refine lv_goto (tgt := 27) hx hb dX12_colour_19 (by decide) ?_
    exact r_iret cx w h dX12_colour_27
-- X12_row
theorem wi_X12_row_X11 : ∀ w ∈ wsX110, w ∈ wsX12_row := by decide +kernel
theorem wi_X12_row_X12 : ∀ w ∈ wsX120, w ∈ wsX12_row := by decide +kernel
abbrev rmX12_row : Room := { frames := 1, cells := 0, slots := 0, locals := 22 }
def m_X12_row (G : gS) (M : mS) (a0 : Nat) (c1 : Int32) : Option (mS × Int32) := o_wI M a0 0 (0 : Int32) (fun M1 => o_cl (m_X12_isIn G M1 c1 (0 : Int32) (63 : Int32)) (fun M2 r3 => (if r3 = 0 then o_cl (m_X12_no G M2 a0 (1 : Int32)) (fun M6 r7 => some (M6, r7)) else o_rf (gP G a0 13) (fun q9 => o_rf (gP G q9 5) (fun q10 => o_ix c1 (gN G q10) (some (M2, (mI M2 q10 (Int32.toNatClampNeg c1)))))))))
set_option maxHeartbeats 4000000 in
set_option maxRecDepth 100000 in
theorem k_X12_row {l : Launch} {D : va_G} {cy : cyS} {G : gS} {M M' : mS} {r : Int32} {a0 : Nat} {c1 : Int32} (hG : wt G) (hL0 : a0 ∈ gL G) (hK0 : gK G a0 = 11) (h : m_X12_row G M a0 c1 = some (M', r)) : ctI l yX12_row wsX12_row rmX12_row D cy G M [.ref a0, .int c1] M' r := by
  unfold m_X12_row at h
  refine ctI_of (cc := cX12_row) (nL := 2) (ret := (some .int)) (lv := [(0, .ref a0), (1, .int c1)]) hG (by decide) rfl ⟨rfl, rfl⟩ (Nat.le_of_ble_eq_true rfl) rfl ?_
  intro p e s m args below meth c A ls cx w hl
  obtain ⟨hx, hb, hml, hown, hts, hr, hlocks, hK, hA, -, hsx⟩ := id cx
  have hkn : 0 ≤ (rmX12_row).cells ∧ 0 ≤ (rmX12_row).slots := ⟨Nat.zero_le _, Nat.zero_le _⟩
  refine lv_aload_n hx hb dX12_row_0 rfl (lv_at hl 0 rfl) ?_
  refine lv_iconst (v := (0 : Int32)) hx hb dX12_row_1 (by decide) ?_
  obtain ⟨M1, eM1, h⟩ := x_wI h
  refine r_putI (k := 0) (ty := .int) cx w tyX12 tyX12_ok nmX12 hL0 hK0 (by decide) rfl wi_X12_row_X12 (by decide) rfl rfl rfl rfl st_11_0 (ln_11 _ _ (by decide)) (List.mem_of_getElem? (i := 1) rfl) dX12_row_2 eM1 (fun H locs w => ?_)
  refine lv_iload_n hx hb dX12_row_5 rfl (lv_at hl 1 rfl) ?_
  refine lv_iconst (v := (0 : Int32)) hx hb dX12_row_6 (by decide) ?_
  refine lv_bipush (v := (63 : Int32)) hx hb dX12_row_7 (by decide) ?_
  obtain ⟨M2, r3, y4, h⟩ := x_cl h
  refine r_callSi (As := [.int c1, .int ((0 : Int32)), .int ((63 : Int32))]) (rest := []) cx w hkn hl.1 (k_X12_isIn hG y4) (va_cwS 3 hts gX12_row_X12_isIn rfl rfl rfl (by decide +kernel) ⟨Nat.le_of_ble_eq_true rfl, Nat.le_of_ble_eq_true rfl⟩) rfl rfl (Nat.le_of_ble_eq_true rfl) dX12_row_9 (fun H locs w => ?_)
  refine lv_if_eq (tgt := 27) hx hb dX12_row_12 (by decide) (fun k5 => ?_) (fun k5 => ?_)
  · have h := x_t h k5
    refine lv_aload_n hx hb dX12_row_27 rfl (lv_at hl 0 rfl) ?_
    refine lv_iconst (v := (1 : Int32)) hx hb dX12_row_28 (by decide) ?_
    obtain ⟨M6, r7, y8, h⟩ := x_cl h
    refine r_callVi (As := [.int ((1 : Int32))]) (rest := []) cx w hkn hl.1 (k_X12_no hG hL0 hK0 y8) (cwV 1 hts gX12_row_X12_no rfl rfl rfl (by decide +kernel) ⟨Nat.le_of_ble_eq_true rfl, Nat.le_of_ble_eq_true rfl⟩) hL0 hK0 (by decide) rfl rfl rfl (Nat.le_of_ble_eq_true rfl) dX12_row_29 (fun H locs w => ?_)
    exact r_iret cx w h dX12_row_32
  · have h := x_f h k5
    refine lv_aload_n hx hb dX12_row_15 rfl (lv_at hl 0 rfl) ?_
    obtain ⟨q9, eq9, h⟩ := x_rf h
    obtain ⟨hLq9, hKq9⟩ := wt_q hG hL0 hK0 eq9
    have hKq9 : gK G q9 = 10 := hKq9
    refine r_getR (k := 13) cx w hL0 hK0 (by decide) rfl wi_X12_row_X12 (by decide) rfl eq9 (List.mem_of_getElem? (i := 2) rfl) dX12_row_16 ?_
    obtain ⟨q10, eq10, h⟩ := x_rf h
    obtain ⟨hLq10, hKq10⟩ := wt_q hG hLq9 hKq9 eq10
    have hKq10 : gK G q10 = 12 := hKq10
    refine r_getRN (k := 5) cx w hLq9 hKq9 (by decide) rfl wi_X12_row_X11 (by decide) rfl eq10 (nwF cx (q := (RX12, 325, "FlagAntsModel$State", "darkIn", "[I", "FlagAntsModel")) (List.mem_of_getElem? (i := 24) rfl)) dX12_row_19 ?_
    refine lv_iload_n hx hb dX12_row_22 rfl (lv_at hl 1 rfl) ?_
    obtain ⟨z11, h⟩ := x_ix h
    refine r_iald cx w hLq10 hKq10 z11 dX12_row_23 ?_
    refine lv_goto (tgt := 32) hx hb dX12_row_24 (by decide) ?_
    exact r_iret cx w h dX12_row_32
-- X12_turn
theorem wi_X12_turn_X10 : ∀ w ∈ wsX100, w ∈ wsX12_turn := by decide +kernel
theorem wi_X12_turn_X12 : ∀ w ∈ wsX120, w ∈ wsX12_turn := by decide +kernel
abbrev rmX12_turn : Room := { frames := 1, cells := 0, slots := 0, locals := 22 }
def m_X12_turn_58 (G : gS) (a0 : Nat) (c1 : Int32) (c2 : Int32)  (M : mS)  : Option (mS × Int32) := o_cl (m_X12_no G M a0 (1 : Int32)) (fun M1 r2 => some (M1, r2))
def m_X12_turn (G : gS) (M : mS) (a0 : Nat) (c1 : Int32) (c2 : Int32) : Option (mS × Int32) := o_wI M a0 0 (0 : Int32) (fun M1 => o_rf (gP G a0 11) (fun q2 => o_cl (m_X12_isIn G M1 c1 (0 : Int32) ((mI M1 q2 0) - (1 : Int32))) (fun M3 r4 => (if r4 = 0 then m_X12_turn_58 G a0 c1 c2 M3 else o_cl (m_X12_isIn G M3 c2 (0 : Int32) (5 : Int32)) (fun M7 r8 => (if r8 = 0 then m_X12_turn_58 G a0 c1 c2 M7 else o_rf (gP G a0 11) (fun q11 => o_rf (gP G q11 2) (fun q12 => o_rf (gP G a0 11) (fun q13 => o_rf (gP G q13 1) (fun q14 => o_ix c1 (gN G q14) (o_ck (¬ (mI M7 q14 (Int32.toNatClampNeg c1)) = 0) (o_ix (((6 : Int32) * c1) + (c2 - c2 / (mI M7 q14 (Int32.toNatClampNeg c1)) * (mI M7 q14 (Int32.toNatClampNeg c1)))) (gN G q12) (some (M7, (mI M7 q12 (Int32.toNatClampNeg (((6 : Int32) * c1) + (c2 - c2 / (mI M7 q14 (Int32.toNatClampNeg c1)) * (mI M7 q14 (Int32.toNatClampNeg c1))))))))))))))))))))
set_option maxHeartbeats 4000000 in
set_option maxRecDepth 100000 in
theorem b_X12_turn_58 {p : Program} {e : Env} {s : State} {m : MethodId} {args : Array Value} {below : List Frame} {meth : Method} {c : Code} {A : Nat → Prop} {l : Launch} {D : va_G} {cy : cyS} {G : gS} (cx : cX p s m args meth c cX12_turn RX12 3 (some .int) wsX12_turn D cy G A) {k0 n0 : Nat} (hkn : k0 ≤ (rmX12_turn).cells ∧ n0 ≤ (rmX12_turn).slots) {M' : mS} {r : Int32} {a0 : Nat} {c1 : Int32} {c2 : Int32} (hL0 : a0 ∈ gL G) (hK0 : gK G a0 = 11)  : ∀ (M : mS) (H : Heap) (locs : List Loc) (ls : Array Slot), m_X12_turn_58 G a0 c1 c2 M = some (M', r) → wd D cy G M A s.heap H locs → lv_has ls 3 [(0, .ref a0)] → W p l e rmX12_turn s m args below meth c H locs k0 n0 (MQ below (va_Qi (fun (r' : Int32) (_ : Unit) => r' = r) (fun _ t => wOut D cy G M' t) A) args s k0 n0 A) (F0 m 58 ls []) := by
  obtain ⟨hx, hb, hml, hown, hts, hr, hlocks, hK, hA, hG, hsx⟩ := id cx
  intro M H locs ls h w hl
  unfold m_X12_turn_58 at h
  refine lv_aload_n hx hb dX12_turn_58 rfl (lv_at hl 0 rfl) ?_
  refine lv_iconst (v := (1 : Int32)) hx hb dX12_turn_59 (by decide) ?_
  obtain ⟨M1, r2, y3, h⟩ := x_cl h
  refine r_callVi (As := [.int ((1 : Int32))]) (rest := []) cx w hkn hl.1 (k_X12_no hG hL0 hK0 y3) (cwV 1 hts gX12_turn_X12_no rfl rfl rfl (by decide +kernel) ⟨Nat.le_of_ble_eq_true rfl, Nat.le_of_ble_eq_true rfl⟩) hL0 hK0 (by decide) rfl rfl rfl (Nat.le_of_ble_eq_true rfl) dX12_turn_60 (fun H locs w => ?_)
  exact r_iret cx w h dX12_turn_63
set_option maxHeartbeats 4000000 in
set_option maxRecDepth 100000 in
theorem k_X12_turn {l : Launch} {D : va_G} {cy : cyS} {G : gS} {M M' : mS} {r : Int32} {a0 : Nat} {c1 : Int32} {c2 : Int32} (hG : wt G) (hL0 : a0 ∈ gL G) (hK0 : gK G a0 = 11) (h : m_X12_turn G M a0 c1 c2 = some (M', r)) : ctI l yX12_turn wsX12_turn rmX12_turn D cy G M [.ref a0, .int c1, .int c2] M' r := by
  unfold m_X12_turn at h
  refine ctI_of (cc := cX12_turn) (nL := 3) (ret := (some .int)) (lv := [(0, .ref a0), (1, .int c1), (2, .int c2)]) hG (by decide) rfl ⟨rfl, rfl⟩ (Nat.le_of_ble_eq_true rfl) rfl ?_
  intro p e s m args below meth c A ls cx w hl
  obtain ⟨hx, hb, hml, hown, hts, hr, hlocks, hK, hA, -, hsx⟩ := id cx
  have hkn : 0 ≤ (rmX12_turn).cells ∧ 0 ≤ (rmX12_turn).slots := ⟨Nat.zero_le _, Nat.zero_le _⟩
  refine lv_aload_n hx hb dX12_turn_0 rfl (lv_at hl 0 rfl) ?_
  refine lv_iconst (v := (0 : Int32)) hx hb dX12_turn_1 (by decide) ?_
  obtain ⟨M1, eM1, h⟩ := x_wI h
  refine r_putI (k := 0) (ty := .int) cx w tyX12 tyX12_ok nmX12 hL0 hK0 (by decide) rfl wi_X12_turn_X12 (by decide) rfl rfl rfl rfl st_11_0 (ln_11 _ _ (by decide)) (List.mem_of_getElem? (i := 1) rfl) dX12_turn_2 eM1 (fun H locs w => ?_)
  refine lv_iload_n hx hb dX12_turn_5 rfl (lv_at hl 1 rfl) ?_
  refine lv_iconst (v := (0 : Int32)) hx hb dX12_turn_6 (by decide) ?_
  refine lv_aload_n hx hb dX12_turn_7 rfl (lv_at hl 0 rfl) ?_
  obtain ⟨q2, eq2, h⟩ := x_rf h
  obtain ⟨hLq2, hKq2⟩ := wt_q hG hL0 hK0 eq2
  have hKq2 : gK G q2 = 9 := hKq2
  refine r_getR (k := 11) cx w hL0 hK0 (by decide) rfl wi_X12_turn_X12 (by decide) rfl eq2 (List.mem_of_getElem? (i := 2) rfl) dX12_turn_8 ?_
  refine r_getIN (k := 0) (v := .int (mI M1 q2 0)) cx w hLq2 hKq2 (by decide) rfl wi_X12_turn_X10 (by decide) rfl (nwF cx (q := (RX12, 220, "FlagAntsModel$Plan", "rules", "I", "FlagAntsModel")) (List.mem_of_getElem? (i := 8) rfl)) dX12_turn_11 ?_
  refine lv_iconst (v := (1 : Int32)) hx hb dX12_turn_14 (by decide) ?_
  refine lv_isub hx hb dX12_turn_15 ?_
  obtain ⟨M3, r4, y5, h⟩ := x_cl h
  refine r_callSi (As := [.int c1, .int ((0 : Int32)), .int (((mI M1 q2 0) - (1 : Int32)))]) (rest := []) cx w hkn hl.1 (k_X12_isIn hG y5) (va_cwS 3 hts gX12_turn_X12_isIn rfl rfl rfl (by decide +kernel) ⟨Nat.le_of_ble_eq_true rfl, Nat.le_of_ble_eq_true rfl⟩) rfl rfl (Nat.le_of_ble_eq_true rfl) dX12_turn_16 (fun H locs w => ?_)
  refine lv_if_eq (tgt := 58) hx hb dX12_turn_19 (by decide) (fun k6 => ?_) (fun k6 => ?_)
  · have h := x_t h k6
    exact b_X12_turn_58 cx hkn hL0 hK0 M3 H locs ls h w (lv_sub hl [0] rfl)
  · have h := x_f h k6
    refine lv_iload_n hx hb dX12_turn_22 rfl (lv_at hl 2 rfl) ?_
    refine lv_iconst (v := (0 : Int32)) hx hb dX12_turn_23 (by decide) ?_
    refine lv_iconst (v := (5 : Int32)) hx hb dX12_turn_24 (by decide) ?_
    obtain ⟨M7, r8, y9, h⟩ := x_cl h
    refine r_callSi (As := [.int c2, .int ((0 : Int32)), .int ((5 : Int32))]) (rest := []) cx w hkn hl.1 (k_X12_isIn hG y9) (va_cwS 3 hts gX12_turn_X12_isIn rfl rfl rfl (by decide +kernel) ⟨Nat.le_of_ble_eq_true rfl, Nat.le_of_ble_eq_true rfl⟩) rfl rfl (Nat.le_of_ble_eq_true rfl) dX12_turn_25 (fun H locs w => ?_)
    refine lv_if_eq (tgt := 58) hx hb dX12_turn_28 (by decide) (fun k10 => ?_) (fun k10 => ?_)
    · have h := x_t h k10
      exact b_X12_turn_58 cx hkn hL0 hK0 M7 H locs ls h w (lv_sub hl [0] rfl)
    · have h := x_f h k10
      refine lv_aload_n hx hb dX12_turn_31 rfl (lv_at hl 0 rfl) ?_
      obtain ⟨q11, eq11, h⟩ := x_rf h
      obtain ⟨hLq11, hKq11⟩ := wt_q hG hL0 hK0 eq11
      have hKq11 : gK G q11 = 9 := hKq11
      refine r_getR (k := 11) cx w hL0 hK0 (by decide) rfl wi_X12_turn_X12 (by decide) rfl eq11 (List.mem_of_getElem? (i := 2) rfl) dX12_turn_32 ?_
      obtain ⟨q12, eq12, h⟩ := x_rf h
      obtain ⟨hLq12, hKq12⟩ := wt_q hG hLq11 hKq11 eq12
      have hKq12 : gK G q12 = 12 := hKq12
      refine r_getRN (k := 2) cx w hLq11 hKq11 (by decide) rfl wi_X12_turn_X10 (by decide) rfl eq12 (nwF cx (q := (RX12, 230, "FlagAntsModel$Plan", "turn", "[I", "FlagAntsModel")) (List.mem_of_getElem? (i := 10) rfl)) dX12_turn_35 ?_
      refine lv_bipush (v := (6 : Int32)) hx hb dX12_turn_38 (by decide) ?_
      refine lv_iload_n hx hb dX12_turn_40 rfl (lv_at hl 1 rfl) ?_
      refine lv_imul hx hb dX12_turn_41 ?_
      refine lv_iload_n hx hb dX12_turn_42 rfl (lv_at hl 2 rfl) ?_
      refine lv_aload_n hx hb dX12_turn_43 rfl (lv_at hl 0 rfl) ?_
      obtain ⟨q13, eq13, h⟩ := x_rf h
      obtain ⟨hLq13, hKq13⟩ := wt_q hG hL0 hK0 eq13
      have hKq13 : gK G q13 = 9 := hKq13
      refine r_getR (k := 11) cx w hL0 hK0 (by decide) rfl wi_X12_turn_X12 (by decide) rfl eq13 (List.mem_of_getElem? (i := 2) rfl) dX12_turn_44 ?_
      obtain ⟨q14, eq14, h⟩ := x_rf h
      obtain ⟨hLq14, hKq14⟩ := wt_q hG hLq13 hKq13 eq14
      have hKq14 : gK G q14 = 12 := hKq14
      refine r_getRN (k := 1) cx w hLq13 hKq13 (by decide) rfl wi_X12_turn_X10 (by decide) rfl eq14 (nwF cx (q := (RX12, 227, "FlagAntsModel$Plan", "turns", "[I", "FlagAntsModel")) (List.mem_of_getElem? (i := 9) rfl)) dX12_turn_47 ?_
      refine lv_iload_n hx hb dX12_turn_50 rfl (lv_at hl 1 rfl) ?_
      obtain ⟨z15, h⟩ := x_ix h
      refine r_iald cx w hLq14 hKq14 z15 dX12_turn_51 ?_
      obtain ⟨z16, h⟩ := x_ck h
      refine lv_irem hx hb dX12_turn_52 z16 ?_
      refine lv_iadd hx hb dX12_turn_53 ?_
      obtain ⟨z17, h⟩ := x_ix h
      refine r_iald cx w hLq12 hKq12 z17 dX12_turn_54 ?_
      refine lv_goto (tgt := 63) hx hb dX12_turn_55 (by decide) ?_
      exact r_iret cx w h dX12_turn_63
-- X12_isAnt
theorem wi_X12_isAnt_X10 : ∀ w ∈ wsX100, w ∈ wsX12_isAnt := by decide +kernel
theorem wi_X12_isAnt_X12 : ∀ w ∈ wsX120, w ∈ wsX12_isAnt := by decide +kernel
abbrev rmX12_isAnt : Room := { frames := 1, cells := 0, slots := 0, locals := 22 }
def m_X12_isAnt (G : gS) (M : mS) (a0 : Nat) (c1 : Int32) : Option (mS × Int32) := o_rf (gP G a0 11) (fun q1 => o_cl (m_X12_isIn G M c1 (0 : Int32) ((mI M q1 3) - (1 : Int32))) (fun M2 r3 => o_ck (r3 = 0 ∨ r3 = 1) (some (M2, r3))))
set_option maxHeartbeats 4000000 in
set_option maxRecDepth 100000 in
theorem k_X12_isAnt {l : Launch} {D : va_G} {cy : cyS} {G : gS} {M M' : mS} {r : Int32} {a0 : Nat} {c1 : Int32} (hG : wt G) (hL0 : a0 ∈ gL G) (hK0 : gK G a0 = 11) (h : m_X12_isAnt G M a0 c1 = some (M', r)) : ctI l yX12_isAnt wsX12_isAnt rmX12_isAnt D cy G M [.ref a0, .int c1] M' r := by
  unfold m_X12_isAnt at h
  refine ctI_of (cc := cX12_isAnt) (nL := 2) (ret := (some .boolean)) (lv := [(0, .ref a0), (1, .int c1)]) hG (by decide) rfl ⟨rfl, rfl⟩ (Nat.le_of_ble_eq_true rfl) rfl ?_
  intro p e s m args below meth c A ls cx w hl
  obtain ⟨hx, hb, hml, hown, hts, hr, hlocks, hK, hA, -, hsx⟩ := id cx
  have hkn : 0 ≤ (rmX12_isAnt).cells ∧ 0 ≤ (rmX12_isAnt).slots := ⟨Nat.zero_le _, Nat.zero_le _⟩
  refine lv_iload_n hx hb dX12_isAnt_0 rfl (lv_at hl 1 rfl) ?_
  refine lv_iconst (v := (0 : Int32)) hx hb dX12_isAnt_1 (by decide) ?_
  refine lv_aload_n hx hb dX12_isAnt_2 rfl (lv_at hl 0 rfl) ?_
  obtain ⟨q1, eq1, h⟩ := x_rf h
  obtain ⟨hLq1, hKq1⟩ := wt_q hG hL0 hK0 eq1
  have hKq1 : gK G q1 = 9 := hKq1
  refine r_getR (k := 11) cx w hL0 hK0 (by decide) rfl wi_X12_isAnt_X12 (by decide) rfl eq1 (List.mem_of_getElem? (i := 1) rfl) dX12_isAnt_3 ?_
  refine r_getIN (k := 3) (v := .int (mI M q1 3)) cx w hLq1 hKq1 (by decide) rfl wi_X12_isAnt_X10 (by decide) rfl (nwF cx (q := (RX12, 64, "FlagAntsModel$Plan", "ants", "I", "FlagAntsModel")) (List.mem_of_getElem? (i := 0) rfl)) dX12_isAnt_6 ?_
  refine lv_iconst (v := (1 : Int32)) hx hb dX12_isAnt_9 (by decide) ?_
  refine lv_isub hx hb dX12_isAnt_10 ?_
  obtain ⟨M2, r3, y4, h⟩ := x_cl h
  refine r_callSi (As := [.int c1, .int ((0 : Int32)), .int (((mI M q1 3) - (1 : Int32)))]) (rest := []) cx w hkn hl.1 (k_X12_isIn hG y4) (va_cwS 3 hts gX12_isAnt_X12_isIn rfl rfl rfl (by decide +kernel) ⟨Nat.le_of_ble_eq_true rfl, Nat.le_of_ble_eq_true rfl⟩) rfl rfl (Nat.le_of_ble_eq_true rfl) dX12_isAnt_11 (fun H locs w => ?_)
  obtain ⟨z5, h⟩ := x_ck h
  exact r_zret cx w z5 h dX12_isAnt_14
-- X11_led
theorem wi_X11_led_X11 : ∀ w ∈ wsX110, w ∈ wsX11_led := by decide +kernel
abbrev rmX11_led : Room := { frames := 0, cells := 0, slots := 0, locals := 0 }
def m_X11_led_65 (G : gS) (a0 : Nat) (c1 : Int32) (c2 : Int32) (c3 : Int32) (kb6 : mS → Int32 → Int32 → Option (mS × Int32)) (M : mS) (v5 : Int32) (s0 : Int32) (s1 : Int32) : Option (mS × Int32) := o_bd ((s0 + s1)) (fun x1 => o_bd (v5 + 1 : Int32) (fun x2 => kb6 M x1 x2))
def m_X11_led_6 (G : gS) (a0 : Nat) (c1 : Int32) (c2 : Int32) (c3 : Int32)  : Nat → mS → Int32 → Int32 → Option (mS × Int32)
  | 0, _, _, _ => none
  | n + 1, M, v4, v5 => (if c2 < v5 then some (M, v4) else o_rf (gP G a0 12) (fun q2 => o_rf (gP G a0 11) (fun q3 => o_ix c1 (gN G q3) (o_ck (¬ (128 : Int32) = 0) (o_ix (((128 : Int32) * c1) + (((mI M q3 (Int32.toNatClampNeg c1)) - v5) - ((mI M q3 (Int32.toNatClampNeg c1)) - v5) / (128 : Int32) * (128 : Int32))) (gN G q2) (o_bd ((mI M q2 (Int32.toNatClampNeg (((128 : Int32) * c1) + (((mI M q3 (Int32.toNatClampNeg c1)) - v5) - ((mI M q3 (Int32.toNatClampNeg c1)) - v5) / (128 : Int32) * (128 : Int32)))))) (fun x7 => (if x7 = c3 then m_X11_led_65 G a0 c1 c2 c3 (fun M v4 v5 => m_X11_led_6 G a0 c1 c2 c3 n M v4 v5) M v5 v4 ((1 : Int32)) else o_ck (¬ (4 : Int32) = 0) ((if x7 = ((c3 + (2 : Int32)) - (c3 + (2 : Int32)) / (4 : Int32) * (4 : Int32)) then m_X11_led_65 G a0 c1 c2 c3 (fun M v4 v5 => m_X11_led_6 G a0 c1 c2 c3 n M v4 v5) M v5 v4 ((-1 : Int32)) else m_X11_led_65 G a0 c1 c2 c3 (fun M v4 v5 => m_X11_led_6 G a0 c1 c2 c3 n M v4 v5) M v5 v4 ((0 : Int32))))))))))))
def m_X11_led (G : gS) (M : mS) (a0 : Nat) (c1 : Int32) (c2 : Int32) (c3 : Int32) : Option (mS × Int32) := m_X11_led_6 G a0 c1 c2 c3 fu M ((0 : Int32)) ((1 : Int32))
set_option maxHeartbeats 4000000 in
set_option maxRecDepth 100000 in
theorem b_X11_led_65 {p : Program} {e : Env} {s : State} {m : MethodId} {args : Array Value} {below : List Frame} {meth : Method} {c : Code} {A : Nat → Prop} {l : Launch} {D : va_G} {cy : cyS} {G : gS} (cx : cX p s m args meth c cX11_led RX11 7 (some .int) wsX11_led D cy G A) {k0 n0 : Nat} (hkn : k0 ≤ (rmX11_led).cells ∧ n0 ≤ (rmX11_led).slots) {M' : mS} {r : Int32} {a0 : Nat} {c1 : Int32} {c2 : Int32} {c3 : Int32} (hL0 : a0 ∈ gL G) (hK0 : gK G a0 = 10) {kb6 : mS → Int32 → Int32 → Option (mS × Int32)} (hkb6 : ∀ (M : mS) (v4 : Int32) (v5 : Int32) (H : Heap) (locs : List Loc) (ls : Array Slot), kb6 M v4 v5 = some (M', r) → wd D cy G M A s.heap H locs → lv_has ls 7 [(0, .ref a0), (1, .int c1), (2, .int c2), (3, .int c3), (4, .int v4), (5, .int v5)] → W p l e rmX11_led s m args below meth c H locs k0 n0 (MQ below (va_Qi (fun (r' : Int32) (_ : Unit) => r' = r) (fun _ t => wOut D cy G M' t) A) args s k0 n0 A) (F0 m 6 ls [])) : ∀ (M : mS) (v5 : Int32) (s0 : Int32) (s1 : Int32) (H : Heap) (locs : List Loc) (ls : Array Slot), m_X11_led_65 G a0 c1 c2 c3 kb6 M v5 s0 s1 = some (M', r) → wd D cy G M A s.heap H locs → lv_has ls 7 [(0, .ref a0), (1, .int c1), (2, .int c2), (3, .int c3), (5, .int v5)] → W p l e rmX11_led s m args below meth c H locs k0 n0 (MQ below (va_Qi (fun (r' : Int32) (_ : Unit) => r' = r) (fun _ t => wOut D cy G M' t) A) args s k0 n0 A) (F0 m 65 ls [.int s1, .int s0]) := by
  obtain ⟨hx, hb, hml, hown, hts, hr, hlocks, hK, hA, hG, hsx⟩ := id cx
  intro M v5 s0 s1 H locs ls h w hl
  unfold m_X11_led_65 at h
  refine lv_iadd hx hb dX11_led_65 ?_
  obtain ⟨x1, ex1, h⟩ := x_bd h
  refine r_topI ex1 ?_
  refine lv_istore (lv' := [(4, .int x1), (0, .ref a0), (1, .int c1), (2, .int c2), (3, .int c3), (5, .int v5)]) hx hb dX11_led_66 hl (by decide) rfl (fun ls hl => ?_)
  obtain ⟨x2, ex2, h⟩ := x_bd h
  refine lv_iinc (v := x2) (lv' := [(5, .int x2), (4, .int x1), (0, .ref a0), (1, .int c1), (2, .int c2), (3, .int c3)]) hx hb dX11_led_68 hl (k := 5) rfl (by rw [ex2]; rfl) (by decide) rfl (fun ls hl => ?_)
  refine lv_goto (tgt := 6) hx hb dX11_led_71 (by decide) ?_
  exact hkb6 M x1 x2 H locs ls h w (lv_sub hl [2, 3, 4, 5, 1, 0] rfl)
set_option maxHeartbeats 4000000 in
set_option maxRecDepth 100000 in
theorem b_X11_led_6 {p : Program} {e : Env} {s : State} {m : MethodId} {args : Array Value} {below : List Frame} {meth : Method} {c : Code} {A : Nat → Prop} {l : Launch} {D : va_G} {cy : cyS} {G : gS} (cx : cX p s m args meth c cX11_led RX11 7 (some .int) wsX11_led D cy G A) {k0 n0 : Nat} (hkn : k0 ≤ (rmX11_led).cells ∧ n0 ≤ (rmX11_led).slots) {M' : mS} {r : Int32} {a0 : Nat} {c1 : Int32} {c2 : Int32} {c3 : Int32} (hL0 : a0 ∈ gL G) (hK0 : gK G a0 = 10)  : ∀ (n : Nat), ∀ (M : mS) (v4 : Int32) (v5 : Int32) (H : Heap) (locs : List Loc) (ls : Array Slot), m_X11_led_6 G a0 c1 c2 c3 n M v4 v5 = some (M', r) → wd D cy G M A s.heap H locs → lv_has ls 7 [(0, .ref a0), (1, .int c1), (2, .int c2), (3, .int c3), (4, .int v4), (5, .int v5)] → W p l e rmX11_led s m args below meth c H locs k0 n0 (MQ below (va_Qi (fun (r' : Int32) (_ : Unit) => r' = r) (fun _ t => wOut D cy G M' t) A) args s k0 n0 A) (F0 m 6 ls []) := by
  obtain ⟨hx, hb, hml, hown, hts, hr, hlocks, hK, hA, hG, hsx⟩ := id cx
  intro n
  induction n with
  | zero =>
    intro M v4 v5 H locs ls h w hl
    have h : none = some _ := h
    cases h
  | succ n ih =>
    intro M v4 v5 H locs ls h w hl
    rw [m_X11_led_6] at h
    refine lv_iload hx hb dX11_led_6 (lv_at hl 5 rfl) ?_
    refine lv_iload_n hx hb dX11_led_8 rfl (lv_at hl 2 rfl) ?_
    refine lv_icmp_gt (tgt := 74) hx hb dX11_led_9 (by decide) (fun k1 => ?_) (fun k1 => ?_)
    · have h := x_t h k1
      refine lv_iload hx hb dX11_led_74 (lv_at hl 4 rfl) ?_
      exact r_iret cx w h dX11_led_76
    · have h := x_f h k1
      refine lv_aload_n hx hb dX11_led_12 rfl (lv_at hl 0 rfl) ?_
      obtain ⟨q2, eq2, h⟩ := x_rf h
      obtain ⟨hLq2, hKq2⟩ := wt_q hG hL0 hK0 eq2
      have hKq2 : gK G q2 = 12 := hKq2
      refine r_getR (k := 12) cx w hL0 hK0 (by decide) rfl wi_X11_led_X11 (by decide) rfl eq2 (List.mem_of_getElem? (i := 1) rfl) dX11_led_13 ?_
      refine lv_sipush (v := (128 : Int32)) hx hb dX11_led_16 (by decide) ?_
      refine lv_iload_n hx hb dX11_led_19 rfl (lv_at hl 1 rfl) ?_
      refine lv_imul hx hb dX11_led_20 ?_
      refine lv_aload_n hx hb dX11_led_21 rfl (lv_at hl 0 rfl) ?_
      obtain ⟨q3, eq3, h⟩ := x_rf h
      obtain ⟨hLq3, hKq3⟩ := wt_q hG hL0 hK0 eq3
      have hKq3 : gK G q3 = 12 := hKq3
      refine r_getR (k := 11) cx w hL0 hK0 (by decide) rfl wi_X11_led_X11 (by decide) rfl eq3 (List.mem_of_getElem? (i := 2) rfl) dX11_led_22 ?_
      refine lv_iload_n hx hb dX11_led_25 rfl (lv_at hl 1 rfl) ?_
      obtain ⟨z4, h⟩ := x_ix h
      refine r_iald cx w hLq3 hKq3 z4 dX11_led_26 ?_
      refine lv_iload hx hb dX11_led_27 (lv_at hl 5 rfl) ?_
      refine lv_isub hx hb dX11_led_29 ?_
      refine lv_sipush (v := (128 : Int32)) hx hb dX11_led_30 (by decide) ?_
      obtain ⟨z5, h⟩ := x_ck h
      refine lv_irem hx hb dX11_led_33 z5 ?_
      refine lv_iadd hx hb dX11_led_34 ?_
      obtain ⟨z6, h⟩ := x_ix h
      refine r_iald cx w hLq2 hKq2 z6 dX11_led_35 ?_
      obtain ⟨x7, ex7, h⟩ := x_bd h
      refine r_topI ex7 ?_
      refine lv_istore (lv' := [(6, .int x7), (0, .ref a0), (1, .int c1), (2, .int c2), (3, .int c3), (4, .int v4), (5, .int v5)]) hx hb dX11_led_36 hl (by decide) rfl (fun ls hl => ?_)
      refine lv_iload hx hb dX11_led_38 (lv_at hl 5 rfl) ?_
      refine lv_iload hx hb dX11_led_40 (lv_at hl 0 rfl) ?_
      refine lv_iload_n hx hb dX11_led_42 rfl (lv_at hl 4 rfl) ?_
      refine lv_icmp_ne (tgt := 50) hx hb dX11_led_43 (by decide) (fun k8 => ?_) (fun k8 => ?_)
      · have h := x_f h k8
        refine lv_iload hx hb dX11_led_50 (lv_at hl 0 rfl) ?_
        refine lv_iload_n hx hb dX11_led_52 rfl (lv_at hl 4 rfl) ?_
        refine lv_iconst (v := (2 : Int32)) hx hb dX11_led_53 (by decide) ?_
        refine lv_iadd hx hb dX11_led_54 ?_
        refine lv_iconst (v := (4 : Int32)) hx hb dX11_led_55 (by decide) ?_
        obtain ⟨z9, h⟩ := x_ck h
        refine lv_irem hx hb dX11_led_56 z9 ?_
        refine lv_icmp_ne (tgt := 64) hx hb dX11_led_57 (by decide) (fun k10 => ?_) (fun k10 => ?_)
        · have h := x_f h k10
          refine lv_iconst (v := (0 : Int32)) hx hb dX11_led_64 (by decide) ?_
          exact b_X11_led_65 cx hkn hL0 hK0 (hkb6 := ih) M v5 v4 ((0 : Int32)) H locs ls h w (lv_sub hl [1, 2, 3, 4, 6] rfl)
        · have h := x_t h k10
          refine lv_iconst (v := (-1 : Int32)) hx hb dX11_led_60 (by decide) ?_
          refine lv_goto (tgt := 65) hx hb dX11_led_61 (by decide) ?_
          exact b_X11_led_65 cx hkn hL0 hK0 (hkb6 := ih) M v5 v4 ((-1 : Int32)) H locs ls h w (lv_sub hl [1, 2, 3, 4, 6] rfl)
      · have h := x_t h k8
        refine lv_iconst (v := (1 : Int32)) hx hb dX11_led_46 (by decide) ?_
        refine lv_goto (tgt := 65) hx hb dX11_led_47 (by decide) ?_
        exact b_X11_led_65 cx hkn hL0 hK0 (hkb6 := ih) M v5 v4 ((1 : Int32)) H locs ls h w (lv_sub hl [1, 2, 3, 4, 6] rfl)
set_option maxHeartbeats 4000000 in
set_option maxRecDepth 100000 in
theorem k_X11_led {l : Launch} {D : va_G} {cy : cyS} {G : gS} {M M' : mS} {r : Int32} {a0 : Nat} {c1 : Int32} {c2 : Int32} {c3 : Int32} (hG : wt G) (hL0 : a0 ∈ gL G) (hK0 : gK G a0 = 10) (h : m_X11_led G M a0 c1 c2 c3 = some (M', r)) : ctI l yX11_led wsX11_led rmX11_led D cy G M [.ref a0, .int c1, .int c2, .int c3] M' r := by
  unfold m_X11_led at h
  refine ctI_of (cc := cX11_led) (nL := 7) (ret := (some .int)) (lv := [(0, .ref a0), (1, .int c1), (2, .int c2), (3, .int c3)]) hG (by decide) rfl ⟨rfl, rfl⟩ (Nat.le_of_ble_eq_true rfl) rfl ?_
  intro p e s m args below meth c A ls cx w hl
  obtain ⟨hx, hb, hml, hown, hts, hr, hlocks, hK, hA, -, hsx⟩ := id cx
  have hkn : 0 ≤ (rmX11_led).cells ∧ 0 ≤ (rmX11_led).slots := ⟨Nat.zero_le _, Nat.zero_le _⟩
  refine lv_iconst (v := (0 : Int32)) hx hb dX11_led_0 (by decide) ?_
  refine lv_istore (lv' := [(4, .int ((0 : Int32))), (0, .ref a0), (1, .int c1), (2, .int c2), (3, .int c3)]) hx hb dX11_led_1 hl (by decide) rfl (fun ls hl => ?_)
  refine lv_iconst (v := (1 : Int32)) hx hb dX11_led_3 (by decide) ?_
  refine lv_istore (lv' := [(5, .int ((1 : Int32))), (4, .int ((0 : Int32))), (0, .ref a0), (1, .int c1), (2, .int c2), (3, .int c3)]) hx hb dX11_led_4 hl (by decide) rfl (fun ls hl => ?_)
  exact b_X11_led_6 cx hkn hL0 hK0 fu M ((0 : Int32)) ((1 : Int32)) s.heap [] ls h w (lv_sub hl [2, 3, 4, 5, 1, 0] rfl)
-- X11_period
theorem wi_X11_period_X11 : ∀ w ∈ wsX110, w ∈ wsX11_period := by decide +kernel
abbrev rmX11_period : Room := { frames := 1, cells := 0, slots := 0, locals := 26 }
def m_X11_period_47 (G : gS) (a0 : Nat) (c1 : Int32) (kb2 : mS → Int32 → Option (mS × Int32)) (M : mS) (v2 : Int32) : Option (mS × Int32) := o_bd (v2 + 1 : Int32) (fun x1 => kb2 M x1)
def m_X11_period_45 (G : gS) (a0 : Nat) (c1 : Int32)  (M : mS) (v2 : Int32) : Option (mS × Int32) := some (M, v2)
def m_X11_period_2 (G : gS) (a0 : Nat) (c1 : Int32)  : Nat → mS → Int32 → Option (mS × Int32)
  | 0, _, _ => none
  | n + 1, M, v2 => (if (120 : Int32) < v2 then some (M, (0 : Int32)) else o_rf (gP G a0 13) (fun q2 => o_ix (((121 : Int32) * c1) + v2) (gN G q2) ((if (mI M q2 (Int32.toNatClampNeg (((121 : Int32) * c1) + v2))) < ((2 : Int32) * v2) then m_X11_period_47 G a0 c1 (fun M v2 => m_X11_period_2 G a0 c1 n M v2) M v2 else o_cl (m_X11_led G M a0 c1 v2 (1 : Int32)) (fun M5 r6 => (if r6 = 0 then o_cl (m_X11_led G M5 a0 c1 v2 (2 : Int32)) (fun M9 r10 => (if r10 = 0 then m_X11_period_47 G a0 c1 (fun M v2 => m_X11_period_2 G a0 c1 n M v2) M9 v2 else m_X11_period_45 G a0 c1 M9 v2)) else m_X11_period_45 G a0 c1 M5 v2))))))
def m_X11_period (G : gS) (M : mS) (a0 : Nat) (c1 : Int32) : Option (mS × Int32) := m_X11_period_2 G a0 c1 fu M ((1 : Int32))
set_option maxHeartbeats 4000000 in
set_option maxRecDepth 100000 in
theorem b_X11_period_47 {p : Program} {e : Env} {s : State} {m : MethodId} {args : Array Value} {below : List Frame} {meth : Method} {c : Code} {A : Nat → Prop} {l : Launch} {D : va_G} {cy : cyS} {G : gS} (cx : cX p s m args meth c cX11_period RX11 3 (some .int) wsX11_period D cy G A) {k0 n0 : Nat} (hkn : k0 ≤ (rmX11_period).cells ∧ n0 ≤ (rmX11_period).slots) {M' : mS} {r : Int32} {a0 : Nat} {c1 : Int32} (hL0 : a0 ∈ gL G) (hK0 : gK G a0 = 10) {kb2 : mS → Int32 → Option (mS × Int32)} (hkb2 : ∀ (M : mS) (v2 : Int32) (H : Heap) (locs : List Loc) (ls : Array Slot), kb2 M v2 = some (M', r) → wd D cy G M A s.heap H locs → lv_has ls 3 [(0, .ref a0), (1, .int c1), (2, .int v2)] → W p l e rmX11_period s m args below meth c H locs k0 n0 (MQ below (va_Qi (fun (r' : Int32) (_ : Unit) => r' = r) (fun _ t => wOut D cy G M' t) A) args s k0 n0 A) (F0 m 2 ls [])) : ∀ (M : mS) (v2 : Int32) (H : Heap) (locs : List Loc) (ls : Array Slot), m_X11_period_47 G a0 c1 kb2 M v2 = some (M', r) → wd D cy G M A s.heap H locs → lv_has ls 3 [(0, .ref a0), (1, .int c1), (2, .int v2)] → W p l e rmX11_period s m args below meth c H locs k0 n0 (MQ below (va_Qi (fun (r' : Int32) (_ : Unit) => r' = r) (fun _ t => wOut D cy G M' t) A) args s k0 n0 A) (F0 m 47 ls []) := by
  obtain ⟨hx, hb, hml, hown, hts, hr, hlocks, hK, hA, hG, hsx⟩ := id cx
  intro M v2 H locs ls h w hl
  unfold m_X11_period_47 at h
  obtain ⟨x1, ex1, h⟩ := x_bd h
  refine lv_iinc (v := x1) (lv' := [(2, .int x1), (0, .ref a0), (1, .int c1)]) hx hb dX11_period_47 hl (k := 2) rfl (by rw [ex1]; rfl) (by decide) rfl (fun ls hl => ?_)
  refine lv_goto (tgt := 2) hx hb dX11_period_50 (by decide) ?_
  exact hkb2 M x1 H locs ls h w (lv_sub hl [1, 2, 0] rfl)
set_option maxHeartbeats 4000000 in
set_option maxRecDepth 100000 in
theorem b_X11_period_45 {p : Program} {e : Env} {s : State} {m : MethodId} {args : Array Value} {below : List Frame} {meth : Method} {c : Code} {A : Nat → Prop} {l : Launch} {D : va_G} {cy : cyS} {G : gS} (cx : cX p s m args meth c cX11_period RX11 3 (some .int) wsX11_period D cy G A) {k0 n0 : Nat} (hkn : k0 ≤ (rmX11_period).cells ∧ n0 ≤ (rmX11_period).slots) {M' : mS} {r : Int32} {a0 : Nat} {c1 : Int32} (hL0 : a0 ∈ gL G) (hK0 : gK G a0 = 10)  : ∀ (M : mS) (v2 : Int32) (H : Heap) (locs : List Loc) (ls : Array Slot), m_X11_period_45 G a0 c1 M v2 = some (M', r) → wd D cy G M A s.heap H locs → lv_has ls 3 [(2, .int v2)] → W p l e rmX11_period s m args below meth c H locs k0 n0 (MQ below (va_Qi (fun (r' : Int32) (_ : Unit) => r' = r) (fun _ t => wOut D cy G M' t) A) args s k0 n0 A) (F0 m 45 ls []) := by
  obtain ⟨hx, hb, hml, hown, hts, hr, hlocks, hK, hA, hG, hsx⟩ := id cx
  intro M v2 H locs ls h w hl
  unfold m_X11_period_45 at h
  refine lv_iload_n hx hb dX11_period_45 rfl (lv_at hl 0 rfl) ?_
  exact r_iret cx w h dX11_period_46
set_option maxHeartbeats 4000000 in
set_option maxRecDepth 100000 in
theorem b_X11_period_2 {p : Program} {e : Env} {s : State} {m : MethodId} {args : Array Value} {below : List Frame} {meth : Method} {c : Code} {A : Nat → Prop} {l : Launch} {D : va_G} {cy : cyS} {G : gS} (cx : cX p s m args meth c cX11_period RX11 3 (some .int) wsX11_period D cy G A) {k0 n0 : Nat} (hkn : k0 ≤ (rmX11_period).cells ∧ n0 ≤ (rmX11_period).slots) {M' : mS} {r : Int32} {a0 : Nat} {c1 : Int32} (hL0 : a0 ∈ gL G) (hK0 : gK G a0 = 10)  : ∀ (n : Nat), ∀ (M : mS) (v2 : Int32) (H : Heap) (locs : List Loc) (ls : Array Slot), m_X11_period_2 G a0 c1 n M v2 = some (M', r) → wd D cy G M A s.heap H locs → lv_has ls 3 [(0, .ref a0), (1, .int c1), (2, .int v2)] → W p l e rmX11_period s m args below meth c H locs k0 n0 (MQ below (va_Qi (fun (r' : Int32) (_ : Unit) => r' = r) (fun _ t => wOut D cy G M' t) A) args s k0 n0 A) (F0 m 2 ls []) := by
  obtain ⟨hx, hb, hml, hown, hts, hr, hlocks, hK, hA, hG, hsx⟩ := id cx
  intro n
  induction n with
  | zero =>
    intro M v2 H locs ls h w hl
    have h : none = some _ := h
    cases h
  | succ n ih =>
    intro M v2 H locs ls h w hl
    rw [m_X11_period_2] at h
    refine lv_iload_n hx hb dX11_period_2 rfl (lv_at hl 2 rfl) ?_
    refine lv_bipush (v := (120 : Int32)) hx hb dX11_period_3 (by decide) ?_
    refine lv_icmp_gt (tgt := 53) hx hb dX11_period_5 (by decide) (fun k1 => ?_) (fun k1 => ?_)
    · have h := x_t h k1
      refine lv_iconst (v := (0 : Int32)) hx hb dX11_period_53 (by decide) ?_
      exact r_iret cx w h dX11_period_54
    · have h := x_f h k1
      refine lv_aload_n hx hb dX11_period_8 rfl (lv_at hl 0 rfl) ?_
      obtain ⟨q2, eq2, h⟩ := x_rf h
      obtain ⟨hLq2, hKq2⟩ := wt_q hG hL0 hK0 eq2
      have hKq2 : gK G q2 = 12 := hKq2
      refine r_getR (k := 13) cx w hL0 hK0 (by decide) rfl wi_X11_period_X11 (by decide) rfl eq2 (List.mem_of_getElem? (i := 1) rfl) dX11_period_9 ?_
      refine lv_bipush (v := (121 : Int32)) hx hb dX11_period_12 (by decide) ?_
      refine lv_iload_n hx hb dX11_period_14 rfl (lv_at hl 1 rfl) ?_
      refine lv_imul hx hb dX11_period_15 ?_
      refine lv_iload_n hx hb dX11_period_16 rfl (lv_at hl 2 rfl) ?_
      refine lv_iadd hx hb dX11_period_17 ?_
      obtain ⟨z3, h⟩ := x_ix h
      refine r_iald cx w hLq2 hKq2 z3 dX11_period_18 ?_
      refine lv_iconst (v := (2 : Int32)) hx hb dX11_period_19 (by decide) ?_
      refine lv_iload_n hx hb dX11_period_20 rfl (lv_at hl 2 rfl) ?_
      refine lv_imul hx hb dX11_period_21 ?_
      refine lv_icmp_lt (tgt := 47) hx hb dX11_period_22 (by decide) (fun k4 => ?_) (fun k4 => ?_)
      · have h := x_t h k4
        exact b_X11_period_47 cx hkn hL0 hK0 (hkb2 := ih) M v2 H locs ls h w (lv_sub hl [0, 1, 2] rfl)
      · have h := x_f h k4
        refine lv_aload_n hx hb dX11_period_25 rfl (lv_at hl 0 rfl) ?_
        refine lv_iload_n hx hb dX11_period_26 rfl (lv_at hl 1 rfl) ?_
        refine lv_iload_n hx hb dX11_period_27 rfl (lv_at hl 2 rfl) ?_
        refine lv_iconst (v := (1 : Int32)) hx hb dX11_period_28 (by decide) ?_
        obtain ⟨M5, r6, y7, h⟩ := x_cl h
        refine r_callVi (As := [.int c1, .int v2, .int ((1 : Int32))]) (rest := []) cx w hkn hl.1 (k_X11_led hG hL0 hK0 y7) (cwV 3 hts gX11_period_X11_led rfl rfl rfl (by decide +kernel) ⟨Nat.le_of_ble_eq_true rfl, Nat.le_of_ble_eq_true rfl⟩) hL0 hK0 (by decide) rfl rfl rfl (Nat.le_of_ble_eq_true rfl) dX11_period_29 (fun H locs w => ?_)
        refine lv_if_ne (tgt := 45) hx hb dX11_period_32 (by decide) (fun k8 => ?_) (fun k8 => ?_)
        · have h := x_f h k8
          exact b_X11_period_45 cx hkn hL0 hK0 M5 v2 H locs ls h w (lv_sub hl [2] rfl)
        · have h := x_t h k8
          refine lv_aload_n hx hb dX11_period_35 rfl (lv_at hl 0 rfl) ?_
          refine lv_iload_n hx hb dX11_period_36 rfl (lv_at hl 1 rfl) ?_
          refine lv_iload_n hx hb dX11_period_37 rfl (lv_at hl 2 rfl) ?_
          refine lv_iconst (v := (2 : Int32)) hx hb dX11_period_38 (by decide) ?_
          obtain ⟨M9, r10, y11, h⟩ := x_cl h
          refine r_callVi (As := [.int c1, .int v2, .int ((2 : Int32))]) (rest := []) cx w hkn hl.1 (k_X11_led hG hL0 hK0 y11) (cwV 3 hts gX11_period_X11_led rfl rfl rfl (by decide +kernel) ⟨Nat.le_of_ble_eq_true rfl, Nat.le_of_ble_eq_true rfl⟩) hL0 hK0 (by decide) rfl rfl rfl (Nat.le_of_ble_eq_true rfl) dX11_period_39 (fun H locs w => ?_)
          refine lv_if_eq (tgt := 47) hx hb dX11_period_42 (by decide) (fun k12 => ?_) (fun k12 => ?_)
          · have h := x_t h k12
            exact b_X11_period_47 cx hkn hL0 hK0 (hkb2 := ih) M9 v2 H locs ls h w (lv_sub hl [0, 1, 2] rfl)
          · have h := x_f h k12
            exact b_X11_period_45 cx hkn hL0 hK0 M9 v2 H locs ls h w (lv_sub hl [2] rfl)
set_option maxHeartbeats 4000000 in
set_option maxRecDepth 100000 in
theorem k_X11_period {l : Launch} {D : va_G} {cy : cyS} {G : gS} {M M' : mS} {r : Int32} {a0 : Nat} {c1 : Int32} (hG : wt G) (hL0 : a0 ∈ gL G) (hK0 : gK G a0 = 10) (h : m_X11_period G M a0 c1 = some (M', r)) : ctI l yX11_period wsX11_period rmX11_period D cy G M [.ref a0, .int c1] M' r := by
  unfold m_X11_period at h
  refine ctI_of (cc := cX11_period) (nL := 3) (ret := (some .int)) (lv := [(0, .ref a0), (1, .int c1)]) hG (by decide) rfl ⟨rfl, rfl⟩ (Nat.le_of_ble_eq_true rfl) rfl ?_
  intro p e s m args below meth c A ls cx w hl
  obtain ⟨hx, hb, hml, hown, hts, hr, hlocks, hK, hA, -, hsx⟩ := id cx
  have hkn : 0 ≤ (rmX11_period).cells ∧ 0 ≤ (rmX11_period).slots := ⟨Nat.zero_le _, Nat.zero_le _⟩
  refine lv_iconst (v := (1 : Int32)) hx hb dX11_period_0 (by decide) ?_
  refine lv_istore_n (lv' := [(2, .int ((1 : Int32))), (0, .ref a0), (1, .int c1)]) hx hb dX11_period_1 rfl hl (by decide) rfl (fun ls hl => ?_)
  exact b_X11_period_2 cx hkn hL0 hK0 fu M ((1 : Int32)) s.heap [] ls h w (lv_sub hl [1, 2, 0] rfl)
-- X12_antTold
theorem wi_X12_antTold_X10 : ∀ w ∈ wsX100, w ∈ wsX12_antTold := by decide +kernel
theorem wi_X12_antTold_X11 : ∀ w ∈ wsX110, w ∈ wsX12_antTold := by decide +kernel
theorem wi_X12_antTold_X12 : ∀ w ∈ wsX120, w ∈ wsX12_antTold := by decide +kernel
abbrev rmX12_antTold : Room := { frames := 2, cells := 0, slots := 0, locals := 48 }
def m_X12_antTold (G : gS) (M : mS) (a0 : Nat) (c1 : Int32) (c2 : Int32) : Option (mS × Int32) := (if c2 = 0 then o_rf (gP G a0 11) (fun q2 => o_rf (gP G q2 6) (fun q3 => o_ix c1 (gN G q3) (some (M, (mI M q3 (Int32.toNatClampNeg c1)))))) else if c2 = 1 then o_rf (gP G a0 13) (fun q6 => o_rf (gP G q6 6) (fun q7 => o_ix c1 (gN G q7) (some (M, (mI M q7 (Int32.toNatClampNeg c1)))))) else if c2 = 2 then o_rf (gP G a0 13) (fun q10 => o_rf (gP G q10 7) (fun q11 => o_ix c1 (gN G q11) (some (M, (mI M q11 (Int32.toNatClampNeg c1)))))) else if c2 = 3 then o_rf (gP G a0 13) (fun q14 => o_rf (gP G q14 8) (fun q15 => o_ix c1 (gN G q15) (some (M, (mI M q15 (Int32.toNatClampNeg c1)))))) else if c2 = 4 then o_rf (gP G a0 13) (fun q18 => o_rf (gP G q18 9) (fun q19 => o_ix c1 (gN G q19) (some (M, ((1 : Int32) - (mI M q19 (Int32.toNatClampNeg c1))))))) else if c2 = 5 then o_rf (gP G a0 13) (fun q22 => o_rf (gP G q22 10) (fun q23 => o_ix c1 (gN G q23) (some (M, (mI M q23 (Int32.toNatClampNeg c1)))))) else if c2 = 6 then o_rf (gP G a0 13) (fun q26 => o_cl (m_X11_period G M q26 c1) (fun M27 r28 => some (M27, r28))) else o_rf (gP G a0 13) (fun q30 => o_rf (gP G a0 13) (fun q31 => o_cl (m_X11_period G M q31 c1) (fun M32 r33 => o_cl (m_X11_led G M32 q30 c1 r33 (c2 - (6 : Int32))) (fun M35 r36 => some (M35, r36))))))
set_option maxHeartbeats 4000000 in
set_option maxRecDepth 100000 in
theorem k_X12_antTold {l : Launch} {D : va_G} {cy : cyS} {G : gS} {M M' : mS} {r : Int32} {a0 : Nat} {c1 : Int32} {c2 : Int32} (hG : wt G) (hL0 : a0 ∈ gL G) (hK0 : gK G a0 = 11) (h : m_X12_antTold G M a0 c1 c2 = some (M', r)) : ctI l yX12_antTold wsX12_antTold rmX12_antTold D cy G M [.ref a0, .int c1, .int c2] M' r := by
  unfold m_X12_antTold at h
  refine ctI_of (cc := cX12_antTold) (nL := 3) (ret := (some .int)) (lv := [(0, .ref a0), (1, .int c1), (2, .int c2)]) hG (by decide) rfl ⟨rfl, rfl⟩ (Nat.le_of_ble_eq_true rfl) rfl ?_
  intro p e s m args below meth c A ls cx w hl
  obtain ⟨hx, hb, hml, hown, hts, hr, hlocks, hK, hA, -, hsx⟩ := id cx
  have hkn : 0 ≤ (rmX12_antTold).cells ∧ 0 ≤ (rmX12_antTold).slots := ⟨Nat.zero_le _, Nat.zero_le _⟩
  refine lv_iload_n hx hb dX12_antTold_0 rfl (lv_at hl 2 rfl) ?_
  rcases Decidable.em (c2 = 0) with k1 | k1
  · have h := x_t h k1
    rw [k1]
    refine lv_tableIn (tgt := 44) hx hb dX12_antTold_1 (by decide) (by decide) rfl (by decide) ?_
    refine lv_aload_n hx hb dX12_antTold_44 rfl (lv_at hl 0 rfl) ?_
    obtain ⟨q2, eq2, h⟩ := x_rf h
    obtain ⟨hLq2, hKq2⟩ := wt_q hG hL0 hK0 eq2
    have hKq2 : gK G q2 = 9 := hKq2
    refine r_getR (k := 11) cx w hL0 hK0 (by decide) rfl wi_X12_antTold_X12 (by decide) rfl eq2 (List.mem_of_getElem? (i := 1) rfl) dX12_antTold_45 ?_
    obtain ⟨q3, eq3, h⟩ := x_rf h
    obtain ⟨hLq3, hKq3⟩ := wt_q hG hLq2 hKq2 eq3
    have hKq3 : gK G q3 = 12 := hKq3
    refine r_getRN (k := 6) cx w hLq2 hKq2 (by decide) rfl wi_X12_antTold_X10 (by decide) rfl eq3 (nwF cx (q := (RX12, 271, "FlagAntsModel$Plan", "rule", "[I", "FlagAntsModel")) (List.mem_of_getElem? (i := 18) rfl)) dX12_antTold_48 ?_
    refine lv_iload_n hx hb dX12_antTold_51 rfl (lv_at hl 1 rfl) ?_
    obtain ⟨z4, h⟩ := x_ix h
    refine r_iald cx w hLq3 hKq3 z4 dX12_antTold_52 ?_
    exact r_iret cx w h dX12_antTold_53
  · have h := x_f h k1
    rcases Decidable.em (c2 = 1) with k5 | k5
    · have h := x_t h k5
      rw [k5]
      refine lv_tableIn (tgt := 54) hx hb dX12_antTold_1 (by decide) (by decide) rfl (by decide) ?_
      refine lv_aload_n hx hb dX12_antTold_54 rfl (lv_at hl 0 rfl) ?_
      obtain ⟨q6, eq6, h⟩ := x_rf h
      obtain ⟨hLq6, hKq6⟩ := wt_q hG hL0 hK0 eq6
      have hKq6 : gK G q6 = 10 := hKq6
      refine r_getR (k := 13) cx w hL0 hK0 (by decide) rfl wi_X12_antTold_X12 (by decide) rfl eq6 (List.mem_of_getElem? (i := 2) rfl) dX12_antTold_55 ?_
      obtain ⟨q7, eq7, h⟩ := x_rf h
      obtain ⟨hLq7, hKq7⟩ := wt_q hG hLq6 hKq6 eq7
      have hKq7 : gK G q7 = 12 := hKq7
      refine r_getRN (k := 6) cx w hLq6 hKq6 (by decide) rfl wi_X12_antTold_X11 (by decide) rfl eq7 (nwF cx (q := (RX12, 328, "FlagAntsModel$State", "column", "[I", "FlagAntsModel")) (List.mem_of_getElem? (i := 25) rfl)) dX12_antTold_58 ?_
      refine lv_iload_n hx hb dX12_antTold_61 rfl (lv_at hl 1 rfl) ?_
      obtain ⟨z8, h⟩ := x_ix h
      refine r_iald cx w hLq7 hKq7 z8 dX12_antTold_62 ?_
      exact r_iret cx w h dX12_antTold_63
    · have h := x_f h k5
      rcases Decidable.em (c2 = 2) with k9 | k9
      · have h := x_t h k9
        rw [k9]
        refine lv_tableIn (tgt := 64) hx hb dX12_antTold_1 (by decide) (by decide) rfl (by decide) ?_
        refine lv_aload_n hx hb dX12_antTold_64 rfl (lv_at hl 0 rfl) ?_
        obtain ⟨q10, eq10, h⟩ := x_rf h
        obtain ⟨hLq10, hKq10⟩ := wt_q hG hL0 hK0 eq10
        have hKq10 : gK G q10 = 10 := hKq10
        refine r_getR (k := 13) cx w hL0 hK0 (by decide) rfl wi_X12_antTold_X12 (by decide) rfl eq10 (List.mem_of_getElem? (i := 2) rfl) dX12_antTold_65 ?_
        obtain ⟨q11, eq11, h⟩ := x_rf h
        obtain ⟨hLq11, hKq11⟩ := wt_q hG hLq10 hKq10 eq11
        have hKq11 : gK G q11 = 12 := hKq11
        refine r_getRN (k := 7) cx w hLq10 hKq10 (by decide) rfl wi_X12_antTold_X11 (by decide) rfl eq11 (nwF cx (q := (RX12, 329, "FlagAntsModel$State", "row", "[I", "FlagAntsModel")) (List.mem_of_getElem? (i := 26) rfl)) dX12_antTold_68 ?_
        refine lv_iload_n hx hb dX12_antTold_71 rfl (lv_at hl 1 rfl) ?_
        obtain ⟨z12, h⟩ := x_ix h
        refine r_iald cx w hLq11 hKq11 z12 dX12_antTold_72 ?_
        exact r_iret cx w h dX12_antTold_73
      · have h := x_f h k9
        rcases Decidable.em (c2 = 3) with k13 | k13
        · have h := x_t h k13
          rw [k13]
          refine lv_tableIn (tgt := 74) hx hb dX12_antTold_1 (by decide) (by decide) rfl (by decide) ?_
          refine lv_aload_n hx hb dX12_antTold_74 rfl (lv_at hl 0 rfl) ?_
          obtain ⟨q14, eq14, h⟩ := x_rf h
          obtain ⟨hLq14, hKq14⟩ := wt_q hG hL0 hK0 eq14
          have hKq14 : gK G q14 = 10 := hKq14
          refine r_getR (k := 13) cx w hL0 hK0 (by decide) rfl wi_X12_antTold_X12 (by decide) rfl eq14 (List.mem_of_getElem? (i := 2) rfl) dX12_antTold_75 ?_
          obtain ⟨q15, eq15, h⟩ := x_rf h
          obtain ⟨hLq15, hKq15⟩ := wt_q hG hLq14 hKq14 eq15
          have hKq15 : gK G q15 = 12 := hKq15
          refine r_getRN (k := 8) cx w hLq14 hKq14 (by decide) rfl wi_X12_antTold_X11 (by decide) rfl eq15 (nwF cx (q := (RX12, 330, "FlagAntsModel$State", "side", "[I", "FlagAntsModel")) (List.mem_of_getElem? (i := 27) rfl)) dX12_antTold_78 ?_
          refine lv_iload_n hx hb dX12_antTold_81 rfl (lv_at hl 1 rfl) ?_
          obtain ⟨z16, h⟩ := x_ix h
          refine r_iald cx w hLq15 hKq15 z16 dX12_antTold_82 ?_
          exact r_iret cx w h dX12_antTold_83
        · have h := x_f h k13
          rcases Decidable.em (c2 = 4) with k17 | k17
          · have h := x_t h k17
            rw [k17]
            refine lv_tableIn (tgt := 84) hx hb dX12_antTold_1 (by decide) (by decide) rfl (by decide) ?_
            refine lv_iconst (v := (1 : Int32)) hx hb dX12_antTold_84 (by decide) ?_
            refine lv_aload_n hx hb dX12_antTold_85 rfl (lv_at hl 0 rfl) ?_
            obtain ⟨q18, eq18, h⟩ := x_rf h
            obtain ⟨hLq18, hKq18⟩ := wt_q hG hL0 hK0 eq18
            have hKq18 : gK G q18 = 10 := hKq18
            refine r_getR (k := 13) cx w hL0 hK0 (by decide) rfl wi_X12_antTold_X12 (by decide) rfl eq18 (List.mem_of_getElem? (i := 2) rfl) dX12_antTold_86 ?_
            obtain ⟨q19, eq19, h⟩ := x_rf h
            obtain ⟨hLq19, hKq19⟩ := wt_q hG hLq18 hKq18 eq19
            have hKq19 : gK G q19 = 12 := hKq19
            refine r_getRN (k := 9) cx w hLq18 hKq18 (by decide) rfl wi_X12_antTold_X11 (by decide) rfl eq19 (nwF cx (q := (RX12, 331, "FlagAntsModel$State", "rests", "[I", "FlagAntsModel")) (List.mem_of_getElem? (i := 28) rfl)) dX12_antTold_89 ?_
            refine lv_iload_n hx hb dX12_antTold_92 rfl (lv_at hl 1 rfl) ?_
            obtain ⟨z20, h⟩ := x_ix h
            refine r_iald cx w hLq19 hKq19 z20 dX12_antTold_93 ?_
            refine lv_isub hx hb dX12_antTold_94 ?_
            exact r_iret cx w h dX12_antTold_95
          · have h := x_f h k17
            rcases Decidable.em (c2 = 5) with k21 | k21
            · have h := x_t h k21
              rw [k21]
              refine lv_tableIn (tgt := 96) hx hb dX12_antTold_1 (by decide) (by decide) rfl (by decide) ?_
              refine lv_aload_n hx hb dX12_antTold_96 rfl (lv_at hl 0 rfl) ?_
              obtain ⟨q22, eq22, h⟩ := x_rf h
              obtain ⟨hLq22, hKq22⟩ := wt_q hG hL0 hK0 eq22
              have hKq22 : gK G q22 = 10 := hKq22
              refine r_getR (k := 13) cx w hL0 hK0 (by decide) rfl wi_X12_antTold_X12 (by decide) rfl eq22 (List.mem_of_getElem? (i := 2) rfl) dX12_antTold_97 ?_
              obtain ⟨q23, eq23, h⟩ := x_rf h
              obtain ⟨hLq23, hKq23⟩ := wt_q hG hLq22 hKq22 eq23
              have hKq23 : gK G q23 = 12 := hKq23
              refine r_getRN (k := 10) cx w hLq22 hKq22 (by decide) rfl wi_X12_antTold_X11 (by decide) rfl eq23 (nwF cx (q := (RX12, 334, "FlagAntsModel$State", "steps", "[I", "FlagAntsModel")) (List.mem_of_getElem? (i := 29) rfl)) dX12_antTold_100 ?_
              refine lv_iload_n hx hb dX12_antTold_103 rfl (lv_at hl 1 rfl) ?_
              obtain ⟨z24, h⟩ := x_ix h
              refine r_iald cx w hLq23 hKq23 z24 dX12_antTold_104 ?_
              exact r_iret cx w h dX12_antTold_105
            · have h := x_f h k21
              rcases Decidable.em (c2 = 6) with k25 | k25
              · have h := x_t h k25
                rw [k25]
                refine lv_tableIn (tgt := 106) hx hb dX12_antTold_1 (by decide) (by decide) rfl (by decide) ?_
                refine lv_aload_n hx hb dX12_antTold_106 rfl (lv_at hl 0 rfl) ?_
                obtain ⟨q26, eq26, h⟩ := x_rf h
                obtain ⟨hLq26, hKq26⟩ := wt_q hG hL0 hK0 eq26
                have hKq26 : gK G q26 = 10 := hKq26
                refine r_getR (k := 13) cx w hL0 hK0 (by decide) rfl wi_X12_antTold_X12 (by decide) rfl eq26 (List.mem_of_getElem? (i := 2) rfl) dX12_antTold_107 ?_
                refine lv_iload_n hx hb dX12_antTold_110 rfl (lv_at hl 1 rfl) ?_
                obtain ⟨M27, r28, y29, h⟩ := x_cl h
                refine r_callVi (As := [.int c1]) (rest := []) cx w hkn hl.1 (k_X11_period hG hLq26 hKq26 y29) (cwV 1 hts gX12_antTold_X11_period rfl rfl rfl (by decide +kernel) ⟨Nat.le_of_ble_eq_true rfl, Nat.le_of_ble_eq_true rfl⟩) hLq26 hKq26 (by decide) rfl rfl rfl (Nat.le_of_ble_eq_true rfl) dX12_antTold_111 (fun H locs w => ?_)
                exact r_iret cx w h dX12_antTold_114
              · have h := x_f h k25
                refine lv_tableOut (tgt := 115) hx hb dX12_antTold_1 (by have nk1 : Int32.toInt c2 ≠ 0 := fun hh => k1 (Int32.toInt_inj.mp hh); have nk5 : Int32.toInt c2 ≠ 1 := fun hh => k5 (Int32.toInt_inj.mp hh); have nk9 : Int32.toInt c2 ≠ 2 := fun hh => k9 (Int32.toInt_inj.mp hh); have nk13 : Int32.toInt c2 ≠ 3 := fun hh => k13 (Int32.toInt_inj.mp hh); have nk17 : Int32.toInt c2 ≠ 4 := fun hh => k17 (Int32.toInt_inj.mp hh); have nk21 : Int32.toInt c2 ≠ 5 := fun hh => k21 (Int32.toInt_inj.mp hh); have nk25 : Int32.toInt c2 ≠ 6 := fun hh => k25 (Int32.toInt_inj.mp hh); omega) (by decide) ?_
                refine lv_aload_n hx hb dX12_antTold_115 rfl (lv_at hl 0 rfl) ?_
                obtain ⟨q30, eq30, h⟩ := x_rf h
                obtain ⟨hLq30, hKq30⟩ := wt_q hG hL0 hK0 eq30
                have hKq30 : gK G q30 = 10 := hKq30
                refine r_getR (k := 13) cx w hL0 hK0 (by decide) rfl wi_X12_antTold_X12 (by decide) rfl eq30 (List.mem_of_getElem? (i := 2) rfl) dX12_antTold_116 ?_
                refine lv_iload_n hx hb dX12_antTold_119 rfl (lv_at hl 1 rfl) ?_
                refine lv_aload_n hx hb dX12_antTold_120 rfl (lv_at hl 0 rfl) ?_
                obtain ⟨q31, eq31, h⟩ := x_rf h
                obtain ⟨hLq31, hKq31⟩ := wt_q hG hL0 hK0 eq31
                have hKq31 : gK G q31 = 10 := hKq31
                refine r_getR (k := 13) cx w hL0 hK0 (by decide) rfl wi_X12_antTold_X12 (by decide) rfl eq31 (List.mem_of_getElem? (i := 2) rfl) dX12_antTold_121 ?_
                refine lv_iload_n hx hb dX12_antTold_124 rfl (lv_at hl 1 rfl) ?_
                obtain ⟨M32, r33, y34, h⟩ := x_cl h
                refine r_callVi (As := [.int c1]) (rest := [.int c1, .ref q30]) cx w hkn hl.1 (k_X11_period hG hLq31 hKq31 y34) (cwV 1 hts gX12_antTold_X11_period rfl rfl rfl (by decide +kernel) ⟨Nat.le_of_ble_eq_true rfl, Nat.le_of_ble_eq_true rfl⟩) hLq31 hKq31 (by decide) rfl rfl rfl (Nat.le_of_ble_eq_true rfl) dX12_antTold_125 (fun H locs w => ?_)
                refine lv_iload_n hx hb dX12_antTold_128 rfl (lv_at hl 2 rfl) ?_
                refine lv_bipush (v := (6 : Int32)) hx hb dX12_antTold_129 (by decide) ?_
                refine lv_isub hx hb dX12_antTold_131 ?_
                obtain ⟨M35, r36, y37, h⟩ := x_cl h
                refine r_callVi (As := [.int c1, .int r33, .int ((c2 - (6 : Int32)))]) (rest := []) cx w hkn hl.1 (k_X11_led hG hLq30 hKq30 y37) (cwV 3 hts gX12_antTold_X11_led rfl rfl rfl (by decide +kernel) ⟨Nat.le_of_ble_eq_true rfl, Nat.le_of_ble_eq_true rfl⟩) hLq30 hKq30 (by decide) rfl rfl rfl (Nat.le_of_ble_eq_true rfl) dX12_antTold_132 (fun H locs w => ?_)
                exact r_iret cx w h dX12_antTold_135
-- X12_ant
theorem wi_X12_ant_X12 : ∀ w ∈ wsX120, w ∈ wsX12_ant := by decide +kernel
abbrev rmX12_ant : Room := { frames := 3, cells := 0, slots := 0, locals := 70 }
def m_X12_ant_32 (G : gS) (a0 : Nat) (c1 : Int32) (c2 : Int32)  (M : mS)  : Option (mS × Int32) := o_cl (m_X12_no G M a0 (1 : Int32)) (fun M1 r2 => some (M1, r2))
def m_X12_ant (G : gS) (M : mS) (a0 : Nat) (c1 : Int32) (c2 : Int32) : Option (mS × Int32) := o_wI M a0 0 (0 : Int32) (fun M1 => o_cl (m_X12_isAnt G M1 a0 c1) (fun M2 r3 => (if r3 = 0 then m_X12_ant_32 G a0 c1 c2 M2 else o_cl (m_X12_isIn G M2 c2 (0 : Int32) (8 : Int32)) (fun M6 r7 => (if r7 = 0 then m_X12_ant_32 G a0 c1 c2 M6 else o_cl (m_X12_antTold G M6 a0 c1 c2) (fun M10 r11 => some (M10, r11)))))))
set_option maxHeartbeats 4000000 in
set_option maxRecDepth 100000 in
theorem b_X12_ant_32 {p : Program} {e : Env} {s : State} {m : MethodId} {args : Array Value} {below : List Frame} {meth : Method} {c : Code} {A : Nat → Prop} {l : Launch} {D : va_G} {cy : cyS} {G : gS} (cx : cX p s m args meth c cX12_ant RX12 3 (some .int) wsX12_ant D cy G A) {k0 n0 : Nat} (hkn : k0 ≤ (rmX12_ant).cells ∧ n0 ≤ (rmX12_ant).slots) {M' : mS} {r : Int32} {a0 : Nat} {c1 : Int32} {c2 : Int32} (hL0 : a0 ∈ gL G) (hK0 : gK G a0 = 11)  : ∀ (M : mS) (H : Heap) (locs : List Loc) (ls : Array Slot), m_X12_ant_32 G a0 c1 c2 M = some (M', r) → wd D cy G M A s.heap H locs → lv_has ls 3 [(0, .ref a0)] → W p l e rmX12_ant s m args below meth c H locs k0 n0 (MQ below (va_Qi (fun (r' : Int32) (_ : Unit) => r' = r) (fun _ t => wOut D cy G M' t) A) args s k0 n0 A) (F0 m 32 ls []) := by
  obtain ⟨hx, hb, hml, hown, hts, hr, hlocks, hK, hA, hG, hsx⟩ := id cx
  intro M H locs ls h w hl
  unfold m_X12_ant_32 at h
  refine lv_aload_n hx hb dX12_ant_32 rfl (lv_at hl 0 rfl) ?_
  refine lv_iconst (v := (1 : Int32)) hx hb dX12_ant_33 (by decide) ?_
  obtain ⟨M1, r2, y3, h⟩ := x_cl h
  refine r_callVi (As := [.int ((1 : Int32))]) (rest := []) cx w hkn hl.1 (k_X12_no hG hL0 hK0 y3) (cwV 1 hts gX12_ant_X12_no rfl rfl rfl (by decide +kernel) ⟨Nat.le_of_ble_eq_true rfl, Nat.le_of_ble_eq_true rfl⟩) hL0 hK0 (by decide) rfl rfl rfl (Nat.le_of_ble_eq_true rfl) dX12_ant_34 (fun H locs w => ?_)
  exact r_iret cx w h dX12_ant_37
set_option maxHeartbeats 4000000 in
set_option maxRecDepth 100000 in
theorem k_X12_ant {l : Launch} {D : va_G} {cy : cyS} {G : gS} {M M' : mS} {r : Int32} {a0 : Nat} {c1 : Int32} {c2 : Int32} (hG : wt G) (hL0 : a0 ∈ gL G) (hK0 : gK G a0 = 11) (h : m_X12_ant G M a0 c1 c2 = some (M', r)) : ctI l yX12_ant wsX12_ant rmX12_ant D cy G M [.ref a0, .int c1, .int c2] M' r := by
  unfold m_X12_ant at h
  refine ctI_of (cc := cX12_ant) (nL := 3) (ret := (some .int)) (lv := [(0, .ref a0), (1, .int c1), (2, .int c2)]) hG (by decide) rfl ⟨rfl, rfl⟩ (Nat.le_of_ble_eq_true rfl) rfl ?_
  intro p e s m args below meth c A ls cx w hl
  obtain ⟨hx, hb, hml, hown, hts, hr, hlocks, hK, hA, -, hsx⟩ := id cx
  have hkn : 0 ≤ (rmX12_ant).cells ∧ 0 ≤ (rmX12_ant).slots := ⟨Nat.zero_le _, Nat.zero_le _⟩
  refine lv_aload_n hx hb dX12_ant_0 rfl (lv_at hl 0 rfl) ?_
  refine lv_iconst (v := (0 : Int32)) hx hb dX12_ant_1 (by decide) ?_
  obtain ⟨M1, eM1, h⟩ := x_wI h
  refine r_putI (k := 0) (ty := .int) cx w tyX12 tyX12_ok nmX12 hL0 hK0 (by decide) rfl wi_X12_ant_X12 (by decide) rfl rfl rfl rfl st_11_0 (ln_11 _ _ (by decide)) (List.mem_of_getElem? (i := 1) rfl) dX12_ant_2 eM1 (fun H locs w => ?_)
  refine lv_aload_n hx hb dX12_ant_5 rfl (lv_at hl 0 rfl) ?_
  refine lv_iload_n hx hb dX12_ant_6 rfl (lv_at hl 1 rfl) ?_
  obtain ⟨M2, r3, y4, h⟩ := x_cl h
  refine r_callVi (As := [.int c1]) (rest := []) cx w hkn hl.1 (k_X12_isAnt hG hL0 hK0 y4) (cwV 1 hts gX12_ant_X12_isAnt rfl rfl rfl (by decide +kernel) ⟨Nat.le_of_ble_eq_true rfl, Nat.le_of_ble_eq_true rfl⟩) hL0 hK0 (by decide) rfl rfl rfl (Nat.le_of_ble_eq_true rfl) dX12_ant_7 (fun H locs w => ?_)
  refine lv_if_eq (tgt := 32) hx hb dX12_ant_10 (by decide) (fun k5 => ?_) (fun k5 => ?_)
  · have h := x_t h k5
    exact b_X12_ant_32 cx hkn hL0 hK0 M2 H locs ls h w (lv_sub hl [0] rfl)
  · have h := x_f h k5
    refine lv_iload_n hx hb dX12_ant_13 rfl (lv_at hl 2 rfl) ?_
    refine lv_iconst (v := (0 : Int32)) hx hb dX12_ant_14 (by decide) ?_
    refine lv_bipush (v := (8 : Int32)) hx hb dX12_ant_15 (by decide) ?_
    obtain ⟨M6, r7, y8, h⟩ := x_cl h
    refine r_callSi (As := [.int c2, .int ((0 : Int32)), .int ((8 : Int32))]) (rest := []) cx w hkn hl.1 (k_X12_isIn hG y8) (va_cwS 3 hts gX12_ant_X12_isIn rfl rfl rfl (by decide +kernel) ⟨Nat.le_of_ble_eq_true rfl, Nat.le_of_ble_eq_true rfl⟩) rfl rfl (Nat.le_of_ble_eq_true rfl) dX12_ant_17 (fun H locs w => ?_)
    refine lv_if_eq (tgt := 32) hx hb dX12_ant_20 (by decide) (fun k9 => ?_) (fun k9 => ?_)
    · have h := x_t h k9
      exact b_X12_ant_32 cx hkn hL0 hK0 M6 H locs ls h w (lv_sub hl [0] rfl)
    · have h := x_f h k9
      refine lv_aload_n hx hb dX12_ant_23 rfl (lv_at hl 0 rfl) ?_
      refine lv_iload_n hx hb dX12_ant_24 rfl (lv_at hl 1 rfl) ?_
      refine lv_iload_n hx hb dX12_ant_25 rfl (lv_at hl 2 rfl) ?_
      obtain ⟨M10, r11, y12, h⟩ := x_cl h
      refine r_callVi (As := [.int c1, .int c2]) (rest := []) cx w hkn hl.1 (k_X12_antTold hG hL0 hK0 y12) (cwV 2 hts gX12_ant_X12_antTold rfl rfl rfl (by decide +kernel) ⟨Nat.le_of_ble_eq_true rfl, Nat.le_of_ble_eq_true rfl⟩) hL0 hK0 (by decide) rfl rfl rfl (Nat.le_of_ble_eq_true rfl) dX12_ant_26 (fun H locs w => ?_)
      refine lv_goto (tgt := 37) hx hb dX12_ant_29 (by decide) ?_
      exact r_iret cx w h dX12_ant_37
-- X11_paint
theorem wi_X11_paint_X11 : ∀ w ∈ wsX110, w ∈ wsX11_paint := by decide +kernel
abbrev rmX11_paint : Room := { frames := 0, cells := 0, slots := 0, locals := 0 }
def m_X11_paint_33 (G : gS) (a0 : Nat) (c1 : Int32) (c2 : Int32)  (M : mS) (s0 : Nat) (s1 : Int32) (s2 : Int32) (s3 : Int32) (s4 : Int32) : Option (mS × Unit) := o_ix s1 (gN G s0) (o_wI M s0 (Int32.toNatClampNeg s1) (s2 + (s3 - s4)) (fun M2 => o_rf (gP G a0 4) (fun q3 => o_ix c1 (gN G q3) (o_wI M2 q3 (Int32.toNatClampNeg c1) c2 (fun M5 => some (M5, ()))))))
def m_X11_paint_19 (G : gS) (a0 : Nat) (c1 : Int32) (c2 : Int32)  (M : mS) (s0 : Nat) (s1 : Int32) (s2 : Int32) (s3 : Int32) : Option (mS × Unit) := o_rf (gP G a0 4) (fun q1 => o_ix c1 (gN G q1) ((if (mI M q1 (Int32.toNatClampNeg c1)) ≤ 0 then m_X11_paint_33 G a0 c1 c2 M s0 s1 s2 s3 ((0 : Int32)) else m_X11_paint_33 G a0 c1 c2 M s0 s1 s2 s3 ((1 : Int32)))))
def m_X11_paint (G : gS) (M : mS) (a0 : Nat) (c1 : Int32) (c2 : Int32) : Option (mS × Unit) := o_rf (gP G a0 5) (fun q1 => o_ck (¬ (64 : Int32) = 0) (o_ix (c1 / (64 : Int32)) (gN G q1) ((if c2 ≤ 0 then m_X11_paint_19 G a0 c1 c2 M q1 ((c1 / (64 : Int32))) ((mI M q1 (Int32.toNatClampNeg (c1 / (64 : Int32))))) ((0 : Int32)) else m_X11_paint_19 G a0 c1 c2 M q1 ((c1 / (64 : Int32))) ((mI M q1 (Int32.toNatClampNeg (c1 / (64 : Int32))))) ((1 : Int32))))))
set_option maxHeartbeats 4000000 in
set_option maxRecDepth 100000 in
theorem b_X11_paint_33 {p : Program} {e : Env} {s : State} {m : MethodId} {args : Array Value} {below : List Frame} {meth : Method} {c : Code} {A : Nat → Prop} {l : Launch} {D : va_G} {cy : cyS} {G : gS} (cx : cX p s m args meth c cX11_paint RX11 3 none wsX11_paint D cy G A) {k0 n0 : Nat} (hkn : k0 ≤ (rmX11_paint).cells ∧ n0 ≤ (rmX11_paint).slots) {M' : mS} {a0 : Nat} {c1 : Int32} {c2 : Int32} (hL0 : a0 ∈ gL G) (hK0 : gK G a0 = 10)  : ∀ (M : mS) (s0 : Nat) (s1 : Int32) (s2 : Int32) (s3 : Int32) (s4 : Int32) (H : Heap) (locs : List Loc) (ls : Array Slot), s0 ∈ gL G → gK G s0 = 12 → m_X11_paint_33 G a0 c1 c2 M s0 s1 s2 s3 s4 = some (M', ()) → wd D cy G M A s.heap H locs → lv_has ls 3 [(0, .ref a0), (1, .int c1), (2, .int c2)] → W p l e rmX11_paint s m args below meth c H locs k0 n0 (MQ below (va_Qv (fun (_ : Unit) => True) (fun _ t => wOut D cy G M' t) A) args s k0 n0 A) (F0 m 33 ls [.int s4, .int s3, .int s2, .int s1, .ref s0]) := by
  obtain ⟨hx, hb, hml, hown, hts, hr, hlocks, hK, hA, hG, hsx⟩ := id cx
  intro M s0 s1 s2 s3 s4 H locs ls sL0 sK0 h w hl
  unfold m_X11_paint_33 at h
  refine lv_isub hx hb dX11_paint_33 ?_
  refine lv_iadd hx hb dX11_paint_34 ?_
  obtain ⟨z1, h⟩ := x_ix h
  obtain ⟨M2, eM2, h⟩ := x_wI h
  refine r_iast cx w sL0 sK0 z1 dX11_paint_35 eM2 (fun H locs w => ?_)
  refine lv_aload_n hx hb dX11_paint_36 rfl (lv_at hl 0 rfl) ?_
  obtain ⟨q3, eq3, h⟩ := x_rf h
  obtain ⟨hLq3, hKq3⟩ := wt_q hG hL0 hK0 eq3
  have hKq3 : gK G q3 = 12 := hKq3
  refine r_getR (k := 4) cx w hL0 hK0 (by decide) rfl wi_X11_paint_X11 (by decide) rfl eq3 (List.mem_of_getElem? (i := 2) rfl) dX11_paint_37 ?_
  refine lv_iload_n hx hb dX11_paint_40 rfl (lv_at hl 1 rfl) ?_
  refine lv_iload_n hx hb dX11_paint_41 rfl (lv_at hl 2 rfl) ?_
  obtain ⟨z4, h⟩ := x_ix h
  obtain ⟨M5, eM5, h⟩ := x_wI h
  refine r_iast cx w hLq3 hKq3 z4 dX11_paint_42 eM5 (fun H locs w => ?_)
  exact r_vret cx w h dX11_paint_43
set_option maxHeartbeats 4000000 in
set_option maxRecDepth 100000 in
theorem b_X11_paint_19 {p : Program} {e : Env} {s : State} {m : MethodId} {args : Array Value} {below : List Frame} {meth : Method} {c : Code} {A : Nat → Prop} {l : Launch} {D : va_G} {cy : cyS} {G : gS} (cx : cX p s m args meth c cX11_paint RX11 3 none wsX11_paint D cy G A) {k0 n0 : Nat} (hkn : k0 ≤ (rmX11_paint).cells ∧ n0 ≤ (rmX11_paint).slots) {M' : mS} {a0 : Nat} {c1 : Int32} {c2 : Int32} (hL0 : a0 ∈ gL G) (hK0 : gK G a0 = 10)  : ∀ (M : mS) (s0 : Nat) (s1 : Int32) (s2 : Int32) (s3 : Int32) (H : Heap) (locs : List Loc) (ls : Array Slot), s0 ∈ gL G → gK G s0 = 12 → m_X11_paint_19 G a0 c1 c2 M s0 s1 s2 s3 = some (M', ()) → wd D cy G M A s.heap H locs → lv_has ls 3 [(0, .ref a0), (1, .int c1), (2, .int c2)] → W p l e rmX11_paint s m args below meth c H locs k0 n0 (MQ below (va_Qv (fun (_ : Unit) => True) (fun _ t => wOut D cy G M' t) A) args s k0 n0 A) (F0 m 19 ls [.int s3, .int s2, .int s1, .ref s0]) := by
  obtain ⟨hx, hb, hml, hown, hts, hr, hlocks, hK, hA, hG, hsx⟩ := id cx
  intro M s0 s1 s2 s3 H locs ls sL0 sK0 h w hl
  unfold m_X11_paint_19 at h
  refine lv_aload_n hx hb dX11_paint_19 rfl (lv_at hl 0 rfl) ?_
  obtain ⟨q1, eq1, h⟩ := x_rf h
  obtain ⟨hLq1, hKq1⟩ := wt_q hG hL0 hK0 eq1
  have hKq1 : gK G q1 = 12 := hKq1
  refine r_getR (k := 4) cx w hL0 hK0 (by decide) rfl wi_X11_paint_X11 (by decide) rfl eq1 (List.mem_of_getElem? (i := 2) rfl) dX11_paint_20 ?_
  refine lv_iload_n hx hb dX11_paint_23 rfl (lv_at hl 1 rfl) ?_
  obtain ⟨z2, h⟩ := x_ix h
  refine r_iald cx w hLq1 hKq1 z2 dX11_paint_24 ?_
  refine lv_if_le (tgt := 32) hx hb dX11_paint_25 (by decide) (fun k3 => ?_) (fun k3 => ?_)
  · have h := x_t h k3
    refine lv_iconst (v := (0 : Int32)) hx hb dX11_paint_32 (by decide) ?_
    exact b_X11_paint_33 cx hkn hL0 hK0 M s0 s1 s2 s3 ((0 : Int32)) H locs ls sL0 sK0 h w (lv_sub hl [0, 1, 2] rfl)
  · have h := x_f h k3
    refine lv_iconst (v := (1 : Int32)) hx hb dX11_paint_28 (by decide) ?_
    refine lv_goto (tgt := 33) hx hb dX11_paint_29 (by decide) ?_
    exact b_X11_paint_33 cx hkn hL0 hK0 M s0 s1 s2 s3 ((1 : Int32)) H locs ls sL0 sK0 h w (lv_sub hl [0, 1, 2] rfl)
set_option maxHeartbeats 4000000 in
set_option maxRecDepth 100000 in
theorem k_X11_paint {l : Launch} {D : va_G} {cy : cyS} {G : gS} {M M' : mS} {a0 : Nat} {c1 : Int32} {c2 : Int32} (hG : wt G) (hL0 : a0 ∈ gL G) (hK0 : gK G a0 = 10) (h : m_X11_paint G M a0 c1 c2 = some (M', ())) : ctV l yX11_paint wsX11_paint rmX11_paint D cy G M [.ref a0, .int c1, .int c2] M' := by
  unfold m_X11_paint at h
  refine ctV_of (cc := cX11_paint) (nL := 3) (ret := none) (lv := [(0, .ref a0), (1, .int c1), (2, .int c2)]) hG (by decide) rfl ⟨rfl, rfl⟩ (Nat.le_of_ble_eq_true rfl) rfl ?_
  intro p e s m args below meth c A ls cx w hl
  obtain ⟨hx, hb, hml, hown, hts, hr, hlocks, hK, hA, -, hsx⟩ := id cx
  have hkn : 0 ≤ (rmX11_paint).cells ∧ 0 ≤ (rmX11_paint).slots := ⟨Nat.zero_le _, Nat.zero_le _⟩
  refine lv_aload_n hx hb dX11_paint_0 rfl (lv_at hl 0 rfl) ?_
  obtain ⟨q1, eq1, h⟩ := x_rf h
  obtain ⟨hLq1, hKq1⟩ := wt_q hG hL0 hK0 eq1
  have hKq1 : gK G q1 = 12 := hKq1
  refine r_getR (k := 5) cx w hL0 hK0 (by decide) rfl wi_X11_paint_X11 (by decide) rfl eq1 (List.mem_of_getElem? (i := 1) rfl) dX11_paint_1 ?_
  refine lv_iload_n hx hb dX11_paint_4 rfl (lv_at hl 1 rfl) ?_
  refine lv_bipush (v := (64 : Int32)) hx hb dX11_paint_5 (by decide) ?_
  obtain ⟨z2, h⟩ := x_ck h
  refine lv_idiv hx hb dX11_paint_7 z2 ?_
  refine lv_dup2_11 hx hb dX11_paint_8 rfl rfl ?_
  obtain ⟨z3, h⟩ := x_ix h
  refine r_iald cx w hLq1 hKq1 z3 dX11_paint_9 ?_
  refine lv_iload_n hx hb dX11_paint_10 rfl (lv_at hl 2 rfl) ?_
  refine lv_if_le (tgt := 18) hx hb dX11_paint_11 (by decide) (fun k4 => ?_) (fun k4 => ?_)
  · have h := x_t h k4
    refine lv_iconst (v := (0 : Int32)) hx hb dX11_paint_18 (by decide) ?_
    exact b_X11_paint_19 cx hkn hL0 hK0 M q1 ((c1 / (64 : Int32))) ((mI M q1 (Int32.toNatClampNeg (c1 / (64 : Int32))))) ((0 : Int32)) s.heap [] ls hLq1 hKq1 h w (lv_sub hl [0, 1, 2] rfl)
  · have h := x_f h k4
    refine lv_iconst (v := (1 : Int32)) hx hb dX11_paint_14 (by decide) ?_
    refine lv_goto (tgt := 19) hx hb dX11_paint_15 (by decide) ?_
    exact b_X11_paint_19 cx hkn hL0 hK0 M q1 ((c1 / (64 : Int32))) ((mI M q1 (Int32.toNatClampNeg (c1 / (64 : Int32))))) ((1 : Int32)) s.heap [] ls hLq1 hKq1 h w (lv_sub hl [0, 1, 2] rfl)
-- X12_paint
theorem wi_X12_paint_X11 : ∀ w ∈ wsX110, w ∈ wsX12_paint := by decide +kernel
theorem wi_X12_paint_X12 : ∀ w ∈ wsX120, w ∈ wsX12_paint := by decide +kernel
abbrev rmX12_paint : Room := { frames := 2, cells := 0, slots := 0, locals := 43 }
def m_X12_paint (G : gS) (M : mS) (a0 : Nat) (c1 : Int32) (c2 : Int32) (c3 : Int32) : Option (mS × Int32) := o_wI M a0 0 (0 : Int32) (fun M1 => o_cl (m_X12_isStone G M1 c1 c2) (fun M2 r3 => (if r3 = 0 then o_cl (m_X12_no G M2 a0 (1 : Int32)) (fun M21 r22 => some (M21, r22)) else o_cl (m_X12_isIn G M2 c3 (0 : Int32) (5 : Int32)) (fun M6 r7 => (if r7 = 0 then o_cl (m_X12_no G M6 a0 (2 : Int32)) (fun M18 r19 => some (M18, r19)) else o_rf (gP G a0 13) (fun q10 => o_rf (gP G q10 4) (fun q11 => o_ix (((64 : Int32) * c2) + c1) (gN G q11) (o_bd ((mI M6 q11 (Int32.toNatClampNeg (((64 : Int32) * c2) + c1)))) (fun x13 => o_rf (gP G a0 13) (fun q14 => o_cl (m_X11_paint G M6 q14 (((64 : Int32) * c2) + c1) c3) (fun M15 r16 => some (M15, x13))))))))))))
set_option maxHeartbeats 4000000 in
set_option maxRecDepth 100000 in
theorem k_X12_paint {l : Launch} {D : va_G} {cy : cyS} {G : gS} {M M' : mS} {r : Int32} {a0 : Nat} {c1 : Int32} {c2 : Int32} {c3 : Int32} (hG : wt G) (hL0 : a0 ∈ gL G) (hK0 : gK G a0 = 11) (h : m_X12_paint G M a0 c1 c2 c3 = some (M', r)) : ctI l yX12_paint wsX12_paint rmX12_paint D cy G M [.ref a0, .int c1, .int c2, .int c3] M' r := by
  unfold m_X12_paint at h
  refine ctI_of (cc := cX12_paint) (nL := 5) (ret := (some .int)) (lv := [(0, .ref a0), (1, .int c1), (2, .int c2), (3, .int c3)]) hG (by decide) rfl ⟨rfl, rfl⟩ (Nat.le_of_ble_eq_true rfl) rfl ?_
  intro p e s m args below meth c A ls cx w hl
  obtain ⟨hx, hb, hml, hown, hts, hr, hlocks, hK, hA, -, hsx⟩ := id cx
  have hkn : 0 ≤ (rmX12_paint).cells ∧ 0 ≤ (rmX12_paint).slots := ⟨Nat.zero_le _, Nat.zero_le _⟩
  refine lv_aload_n hx hb dX12_paint_0 rfl (lv_at hl 0 rfl) ?_
  refine lv_iconst (v := (0 : Int32)) hx hb dX12_paint_1 (by decide) ?_
  obtain ⟨M1, eM1, h⟩ := x_wI h
  refine r_putI (k := 0) (ty := .int) cx w tyX12 tyX12_ok nmX12 hL0 hK0 (by decide) rfl wi_X12_paint_X12 (by decide) rfl rfl rfl rfl st_11_0 (ln_11 _ _ (by decide)) (List.mem_of_getElem? (i := 1) rfl) dX12_paint_2 eM1 (fun H locs w => ?_)
  refine lv_iload_n hx hb dX12_paint_5 rfl (lv_at hl 1 rfl) ?_
  refine lv_iload_n hx hb dX12_paint_6 rfl (lv_at hl 2 rfl) ?_
  obtain ⟨M2, r3, y4, h⟩ := x_cl h
  refine r_callSi (As := [.int c1, .int c2]) (rest := []) cx w hkn hl.1 (k_X12_isStone hG y4) (va_cwS 2 hts gX12_paint_X12_isStone rfl rfl rfl (by decide +kernel) ⟨Nat.le_of_ble_eq_true rfl, Nat.le_of_ble_eq_true rfl⟩) rfl rfl (Nat.le_of_ble_eq_true rfl) dX12_paint_7 (fun H locs w => ?_)
  refine lv_if_ne (tgt := 19) hx hb dX12_paint_10 (by decide) (fun k5 => ?_) (fun k5 => ?_)
  · have h := x_f h k5
    refine lv_iload_n hx hb dX12_paint_19 rfl (lv_at hl 3 rfl) ?_
    refine lv_iconst (v := (0 : Int32)) hx hb dX12_paint_20 (by decide) ?_
    refine lv_iconst (v := (5 : Int32)) hx hb dX12_paint_21 (by decide) ?_
    obtain ⟨M6, r7, y8, h⟩ := x_cl h
    refine r_callSi (As := [.int c3, .int ((0 : Int32)), .int ((5 : Int32))]) (rest := []) cx w hkn hl.1 (k_X12_isIn hG y8) (va_cwS 3 hts gX12_paint_X12_isIn rfl rfl rfl (by decide +kernel) ⟨Nat.le_of_ble_eq_true rfl, Nat.le_of_ble_eq_true rfl⟩) rfl rfl (Nat.le_of_ble_eq_true rfl) dX12_paint_22 (fun H locs w => ?_)
    refine lv_if_ne (tgt := 34) hx hb dX12_paint_25 (by decide) (fun k9 => ?_) (fun k9 => ?_)
    · have h := x_f h k9
      refine lv_aload_n hx hb dX12_paint_34 rfl (lv_at hl 0 rfl) ?_
      obtain ⟨q10, eq10, h⟩ := x_rf h
      obtain ⟨hLq10, hKq10⟩ := wt_q hG hL0 hK0 eq10
      have hKq10 : gK G q10 = 10 := hKq10
      refine r_getR (k := 13) cx w hL0 hK0 (by decide) rfl wi_X12_paint_X12 (by decide) rfl eq10 (List.mem_of_getElem? (i := 2) rfl) dX12_paint_35 ?_
      obtain ⟨q11, eq11, h⟩ := x_rf h
      obtain ⟨hLq11, hKq11⟩ := wt_q hG hLq10 hKq10 eq11
      have hKq11 : gK G q11 = 12 := hKq11
      refine r_getRN (k := 4) cx w hLq10 hKq10 (by decide) rfl wi_X12_paint_X11 (by decide) rfl eq11 (nwF cx (q := (RX12, 321, "FlagAntsModel$State", "colours", "[I", "FlagAntsModel")) (List.mem_of_getElem? (i := 23) rfl)) dX12_paint_38 ?_
      refine lv_bipush (v := (64 : Int32)) hx hb dX12_paint_41 (by decide) ?_
      refine lv_iload_n hx hb dX12_paint_43 rfl (lv_at hl 2 rfl) ?_
      refine lv_imul hx hb dX12_paint_44 ?_
      refine lv_iload_n hx hb dX12_paint_45 rfl (lv_at hl 1 rfl) ?_
      refine lv_iadd hx hb dX12_paint_46 ?_
      obtain ⟨z12, h⟩ := x_ix h
      refine r_iald cx w hLq11 hKq11 z12 dX12_paint_47 ?_
      obtain ⟨x13, ex13, h⟩ := x_bd h
      refine r_topI ex13 ?_
      refine lv_istore (lv' := [(4, .int x13), (0, .ref a0), (1, .int c1), (2, .int c2), (3, .int c3)]) hx hb dX12_paint_48 hl (by decide) rfl (fun ls hl => ?_)
      refine lv_aload_n hx hb dX12_paint_50 rfl (lv_at hl 1 rfl) ?_
      obtain ⟨q14, eq14, h⟩ := x_rf h
      obtain ⟨hLq14, hKq14⟩ := wt_q hG hL0 hK0 eq14
      have hKq14 : gK G q14 = 10 := hKq14
      refine r_getR (k := 13) cx w hL0 hK0 (by decide) rfl wi_X12_paint_X12 (by decide) rfl eq14 (List.mem_of_getElem? (i := 2) rfl) dX12_paint_51 ?_
      refine lv_bipush (v := (64 : Int32)) hx hb dX12_paint_54 (by decide) ?_
      refine lv_iload_n hx hb dX12_paint_56 rfl (lv_at hl 3 rfl) ?_
      refine lv_imul hx hb dX12_paint_57 ?_
      refine lv_iload_n hx hb dX12_paint_58 rfl (lv_at hl 2 rfl) ?_
      refine lv_iadd hx hb dX12_paint_59 ?_
      refine lv_iload_n hx hb dX12_paint_60 rfl (lv_at hl 4 rfl) ?_
      obtain ⟨M15, r16, y17, h⟩ := x_cl h
      refine r_callVv (As := [.int ((((64 : Int32) * c2) + c1)), .int c3]) (rest := []) cx w hkn hl.1 (k_X11_paint hG hLq14 hKq14 y17) (cwV 2 hts gX12_paint_X11_paint rfl rfl rfl (by decide +kernel) ⟨Nat.le_of_ble_eq_true rfl, Nat.le_of_ble_eq_true rfl⟩) hLq14 hKq14 (by decide) rfl rfl rfl (Nat.le_of_ble_eq_true rfl) dX12_paint_61 (fun H locs w => ?_)
      refine lv_iload hx hb dX12_paint_64 (lv_at hl 0 rfl) ?_
      exact r_iret cx w h dX12_paint_66
    · have h := x_t h k9
      refine lv_aload_n hx hb dX12_paint_28 rfl (lv_at hl 0 rfl) ?_
      refine lv_iconst (v := (2 : Int32)) hx hb dX12_paint_29 (by decide) ?_
      obtain ⟨M18, r19, y20, h⟩ := x_cl h
      refine r_callVi (As := [.int ((2 : Int32))]) (rest := []) cx w hkn hl.1 (k_X12_no hG hL0 hK0 y20) (cwV 1 hts gX12_paint_X12_no rfl rfl rfl (by decide +kernel) ⟨Nat.le_of_ble_eq_true rfl, Nat.le_of_ble_eq_true rfl⟩) hL0 hK0 (by decide) rfl rfl rfl (Nat.le_of_ble_eq_true rfl) dX12_paint_30 (fun H locs w => ?_)
      exact r_iret cx w h dX12_paint_33
  · have h := x_t h k5
    refine lv_aload_n hx hb dX12_paint_13 rfl (lv_at hl 0 rfl) ?_
    refine lv_iconst (v := (1 : Int32)) hx hb dX12_paint_14 (by decide) ?_
    obtain ⟨M21, r22, y23, h⟩ := x_cl h
    refine r_callVi (As := [.int ((1 : Int32))]) (rest := []) cx w hkn hl.1 (k_X12_no hG hL0 hK0 y23) (cwV 1 hts gX12_paint_X12_no rfl rfl rfl (by decide +kernel) ⟨Nat.le_of_ble_eq_true rfl, Nat.le_of_ble_eq_true rfl⟩) hL0 hK0 (by decide) rfl rfl rfl (Nat.le_of_ble_eq_true rfl) dX12_paint_15 (fun H locs w => ?_)
    exact r_iret cx w h dX12_paint_18
-- X11_wash
theorem wi_X11_wash_X11 : ∀ w ∈ wsX110, w ∈ wsX11_wash := by decide +kernel
abbrev rmX11_wash : Room := { frames := 1, cells := 0, slots := 0, locals := 22 }
def m_X11_wash_60 (G : gS) (a0 : Nat) (c1 : Int32) (c2 : Int32) (kb5 : mS → Int32 → Int32 → Option (mS × Int32)) (M : mS) (v3 : Int32) (v4 : Int32) : Option (mS × Int32) := o_bd (v4 + 1 : Int32) (fun x1 => kb5 M v3 x1)
def m_X11_wash_24 (G : gS) (a0 : Nat) (c1 : Int32) (c2 : Int32) (kb5 : mS → Int32 → Int32 → Option (mS × Int32)) : Nat → mS → Int32 → Int32 → Int32 → Option (mS × Int32)
  | 0, _, _, _, _ => none
  | n + 1, M, v3, v4, v5 => (if (64 : Int32) ≤ v5 then m_X11_wash_60 G a0 c1 c2 kb5 M v3 v4 else o_rf (gP G a0 5) (fun q2 => o_ix v4 (gN G q2) ((if (mI M q2 (Int32.toNatClampNeg v4)) ≤ 0 then m_X11_wash_60 G a0 c1 c2 kb5 M v3 v4 else o_cl (m_X11_paint G M a0 (((64 : Int32) * v4) + v5) (0 : Int32)) (fun M5 r6 => o_bd (v5 + 1 : Int32) (fun x8 => m_X11_wash_24 G a0 c1 c2 kb5 n M5 v3 v4 x8))))))
def m_X11_wash_5 (G : gS) (a0 : Nat) (c1 : Int32) (c2 : Int32)  : Nat → mS → Int32 → Int32 → Option (mS × Int32)
  | 0, _, _, _ => none
  | n + 1, M, v3, v4 => (if c2 < v4 then o_wI M a0 2 ((mI M a0 2) + v3) (fun M2 => some (M2, v3)) else o_rf (gP G a0 5) (fun q3 => o_ix v4 (gN G q3) (o_bd ((v3 + (mI M q3 (Int32.toNatClampNeg v4)))) (fun x5 => m_X11_wash_24 G a0 c1 c2 (fun M v3 v4 => m_X11_wash_5 G a0 c1 c2 n M v3 v4) fu M x5 v4 ((0 : Int32))))))
def m_X11_wash (G : gS) (M : mS) (a0 : Nat) (c1 : Int32) (c2 : Int32) : Option (mS × Int32) := m_X11_wash_5 G a0 c1 c2 fu M ((0 : Int32)) c1
set_option maxHeartbeats 4000000 in
set_option maxRecDepth 100000 in
theorem b_X11_wash_60 {p : Program} {e : Env} {s : State} {m : MethodId} {args : Array Value} {below : List Frame} {meth : Method} {c : Code} {A : Nat → Prop} {l : Launch} {D : va_G} {cy : cyS} {G : gS} (cx : cX p s m args meth c cX11_wash RX11 6 (some .int) wsX11_wash D cy G A) {k0 n0 : Nat} (hkn : k0 ≤ (rmX11_wash).cells ∧ n0 ≤ (rmX11_wash).slots) {M' : mS} {r : Int32} {a0 : Nat} {c1 : Int32} {c2 : Int32} (hL0 : a0 ∈ gL G) (hK0 : gK G a0 = 10) {kb5 : mS → Int32 → Int32 → Option (mS × Int32)} (hkb5 : ∀ (M : mS) (v3 : Int32) (v4 : Int32) (H : Heap) (locs : List Loc) (ls : Array Slot), kb5 M v3 v4 = some (M', r) → wd D cy G M A s.heap H locs → lv_has ls 6 [(0, .ref a0), (2, .int c2), (3, .int v3), (4, .int v4)] → W p l e rmX11_wash s m args below meth c H locs k0 n0 (MQ below (va_Qi (fun (r' : Int32) (_ : Unit) => r' = r) (fun _ t => wOut D cy G M' t) A) args s k0 n0 A) (F0 m 5 ls [])) : ∀ (M : mS) (v3 : Int32) (v4 : Int32) (H : Heap) (locs : List Loc) (ls : Array Slot), m_X11_wash_60 G a0 c1 c2 kb5 M v3 v4 = some (M', r) → wd D cy G M A s.heap H locs → lv_has ls 6 [(0, .ref a0), (2, .int c2), (3, .int v3), (4, .int v4)] → W p l e rmX11_wash s m args below meth c H locs k0 n0 (MQ below (va_Qi (fun (r' : Int32) (_ : Unit) => r' = r) (fun _ t => wOut D cy G M' t) A) args s k0 n0 A) (F0 m 60 ls []) := by
  obtain ⟨hx, hb, hml, hown, hts, hr, hlocks, hK, hA, hG, hsx⟩ := id cx
  intro M v3 v4 H locs ls h w hl
  unfold m_X11_wash_60 at h
  obtain ⟨x1, ex1, h⟩ := x_bd h
  refine lv_iinc (v := x1) (lv' := [(4, .int x1), (0, .ref a0), (2, .int c2), (3, .int v3)]) hx hb dX11_wash_60 hl (k := 3) rfl (by rw [ex1]; rfl) (by decide) rfl (fun ls hl => ?_)
  refine lv_goto (tgt := 5) hx hb dX11_wash_63 (by decide) ?_
  exact hkb5 M v3 x1 H locs ls h w (lv_sub hl [1, 2, 3, 0] rfl)
set_option maxHeartbeats 4000000 in
set_option maxRecDepth 100000 in
theorem b_X11_wash_24 {p : Program} {e : Env} {s : State} {m : MethodId} {args : Array Value} {below : List Frame} {meth : Method} {c : Code} {A : Nat → Prop} {l : Launch} {D : va_G} {cy : cyS} {G : gS} (cx : cX p s m args meth c cX11_wash RX11 6 (some .int) wsX11_wash D cy G A) {k0 n0 : Nat} (hkn : k0 ≤ (rmX11_wash).cells ∧ n0 ≤ (rmX11_wash).slots) {M' : mS} {r : Int32} {a0 : Nat} {c1 : Int32} {c2 : Int32} (hL0 : a0 ∈ gL G) (hK0 : gK G a0 = 10) {kb5 : mS → Int32 → Int32 → Option (mS × Int32)} (hkb5 : ∀ (M : mS) (v3 : Int32) (v4 : Int32) (H : Heap) (locs : List Loc) (ls : Array Slot), kb5 M v3 v4 = some (M', r) → wd D cy G M A s.heap H locs → lv_has ls 6 [(0, .ref a0), (2, .int c2), (3, .int v3), (4, .int v4)] → W p l e rmX11_wash s m args below meth c H locs k0 n0 (MQ below (va_Qi (fun (r' : Int32) (_ : Unit) => r' = r) (fun _ t => wOut D cy G M' t) A) args s k0 n0 A) (F0 m 5 ls [])) : ∀ (n : Nat), ∀ (M : mS) (v3 : Int32) (v4 : Int32) (v5 : Int32) (H : Heap) (locs : List Loc) (ls : Array Slot), m_X11_wash_24 G a0 c1 c2 kb5 n M v3 v4 v5 = some (M', r) → wd D cy G M A s.heap H locs → lv_has ls 6 [(0, .ref a0), (2, .int c2), (3, .int v3), (4, .int v4), (5, .int v5)] → W p l e rmX11_wash s m args below meth c H locs k0 n0 (MQ below (va_Qi (fun (r' : Int32) (_ : Unit) => r' = r) (fun _ t => wOut D cy G M' t) A) args s k0 n0 A) (F0 m 24 ls []) := by
  obtain ⟨hx, hb, hml, hown, hts, hr, hlocks, hK, hA, hG, hsx⟩ := id cx
  intro n
  induction n with
  | zero =>
    intro M v3 v4 v5 H locs ls h w hl
    have h : none = some _ := h
    cases h
  | succ n ih =>
    intro M v3 v4 v5 H locs ls h w hl
    rw [m_X11_wash_24] at h
    refine lv_iload hx hb dX11_wash_24 (lv_at hl 4 rfl) ?_
    refine lv_bipush (v := (64 : Int32)) hx hb dX11_wash_26 (by decide) ?_
    refine lv_icmp_ge (tgt := 60) hx hb dX11_wash_28 (by decide) (fun k1 => ?_) (fun k1 => ?_)
    · have h := x_t h k1
      exact b_X11_wash_60 cx hkn hL0 hK0 (hkb5 := hkb5) M v3 v4 H locs ls h w (lv_sub hl [0, 1, 2, 3] rfl)
    · have h := x_f h k1
      refine lv_aload_n hx hb dX11_wash_31 rfl (lv_at hl 0 rfl) ?_
      obtain ⟨q2, eq2, h⟩ := x_rf h
      obtain ⟨hLq2, hKq2⟩ := wt_q hG hL0 hK0 eq2
      have hKq2 : gK G q2 = 12 := hKq2
      refine r_getR (k := 5) cx w hL0 hK0 (by decide) rfl wi_X11_wash_X11 (by decide) rfl eq2 (List.mem_of_getElem? (i := 1) rfl) dX11_wash_32 ?_
      refine lv_iload hx hb dX11_wash_35 (lv_at hl 3 rfl) ?_
      obtain ⟨z3, h⟩ := x_ix h
      refine r_iald cx w hLq2 hKq2 z3 dX11_wash_37 ?_
      refine lv_if_le (tgt := 60) hx hb dX11_wash_38 (by decide) (fun k4 => ?_) (fun k4 => ?_)
      · have h := x_t h k4
        exact b_X11_wash_60 cx hkn hL0 hK0 (hkb5 := hkb5) M v3 v4 H locs ls h w (lv_sub hl [0, 1, 2, 3] rfl)
      · have h := x_f h k4
        refine lv_aload_n hx hb dX11_wash_41 rfl (lv_at hl 0 rfl) ?_
        refine lv_bipush (v := (64 : Int32)) hx hb dX11_wash_42 (by decide) ?_
        refine lv_iload hx hb dX11_wash_44 (lv_at hl 3 rfl) ?_
        refine lv_imul hx hb dX11_wash_46 ?_
        refine lv_iload hx hb dX11_wash_47 (lv_at hl 4 rfl) ?_
        refine lv_iadd hx hb dX11_wash_49 ?_
        refine lv_iconst (v := (0 : Int32)) hx hb dX11_wash_50 (by decide) ?_
        obtain ⟨M5, r6, y7, h⟩ := x_cl h
        refine r_callVv (As := [.int ((((64 : Int32) * v4) + v5)), .int ((0 : Int32))]) (rest := []) cx w hkn hl.1 (k_X11_paint hG hL0 hK0 y7) (cwV 2 hts gX11_wash_X11_paint rfl rfl rfl (by decide +kernel) ⟨Nat.le_of_ble_eq_true rfl, Nat.le_of_ble_eq_true rfl⟩) hL0 hK0 (by decide) rfl rfl rfl (Nat.le_of_ble_eq_true rfl) dX11_wash_51 (fun H locs w => ?_)
        obtain ⟨x8, ex8, h⟩ := x_bd h
        refine lv_iinc (v := x8) (lv' := [(5, .int x8), (0, .ref a0), (2, .int c2), (3, .int v3), (4, .int v4)]) hx hb dX11_wash_54 hl (k := 4) rfl (by rw [ex8]; rfl) (by decide) rfl (fun ls hl => ?_)
        refine lv_goto (tgt := 24) hx hb dX11_wash_57 (by decide) ?_
        exact ih M5 v3 v4 x8 H locs ls h w (lv_sub hl [1, 2, 3, 4, 0] rfl)
set_option maxHeartbeats 4000000 in
set_option maxRecDepth 100000 in
theorem b_X11_wash_5 {p : Program} {e : Env} {s : State} {m : MethodId} {args : Array Value} {below : List Frame} {meth : Method} {c : Code} {A : Nat → Prop} {l : Launch} {D : va_G} {cy : cyS} {G : gS} (cx : cX p s m args meth c cX11_wash RX11 6 (some .int) wsX11_wash D cy G A) {k0 n0 : Nat} (hkn : k0 ≤ (rmX11_wash).cells ∧ n0 ≤ (rmX11_wash).slots) {M' : mS} {r : Int32} {a0 : Nat} {c1 : Int32} {c2 : Int32} (hL0 : a0 ∈ gL G) (hK0 : gK G a0 = 10)  : ∀ (n : Nat), ∀ (M : mS) (v3 : Int32) (v4 : Int32) (H : Heap) (locs : List Loc) (ls : Array Slot), m_X11_wash_5 G a0 c1 c2 n M v3 v4 = some (M', r) → wd D cy G M A s.heap H locs → lv_has ls 6 [(0, .ref a0), (2, .int c2), (3, .int v3), (4, .int v4)] → W p l e rmX11_wash s m args below meth c H locs k0 n0 (MQ below (va_Qi (fun (r' : Int32) (_ : Unit) => r' = r) (fun _ t => wOut D cy G M' t) A) args s k0 n0 A) (F0 m 5 ls []) := by
  obtain ⟨hx, hb, hml, hown, hts, hr, hlocks, hK, hA, hG, hsx⟩ := id cx
  intro n
  induction n with
  | zero =>
    intro M v3 v4 H locs ls h w hl
    have h : none = some _ := h
    cases h
  | succ n ih =>
    intro M v3 v4 H locs ls h w hl
    rw [m_X11_wash_5] at h
    refine lv_iload hx hb dX11_wash_5 (lv_at hl 3 rfl) ?_
    refine lv_iload_n hx hb dX11_wash_7 rfl (lv_at hl 1 rfl) ?_
    refine lv_icmp_gt (tgt := 66) hx hb dX11_wash_8 (by decide) (fun k1 => ?_) (fun k1 => ?_)
    · have h := x_t h k1
      refine lv_aload_n hx hb dX11_wash_66 rfl (lv_at hl 0 rfl) ?_
      refine lv_dup hx hb dX11_wash_67 rfl ?_
      refine r_getI (k := 2) (v := .int (mI M a0 2)) cx w hL0 hK0 (by decide) rfl wi_X11_wash_X11 (by decide) rfl (List.mem_of_getElem? (i := 2) rfl) dX11_wash_68 ?_
      refine lv_iload_n hx hb dX11_wash_71 rfl (lv_at hl 2 rfl) ?_
      refine lv_iadd hx hb dX11_wash_72 ?_
      obtain ⟨M2, eM2, h⟩ := x_wI h
      refine r_putI (k := 2) (ty := .int) cx w tyX11 tyX11_ok nmX11 hL0 hK0 (by decide) rfl wi_X11_wash_X11 (by decide) rfl rfl rfl rfl st_10_2 (ln_10 _ _ (by decide)) (List.mem_of_getElem? (i := 2) rfl) dX11_wash_73 eM2 (fun H locs w => ?_)
      refine lv_iload_n hx hb dX11_wash_76 rfl (lv_at hl 2 rfl) ?_
      exact r_iret cx w h dX11_wash_77
    · have h := x_f h k1
      refine lv_iload_n hx hb dX11_wash_11 rfl (lv_at hl 2 rfl) ?_
      refine lv_aload_n hx hb dX11_wash_12 rfl (lv_at hl 0 rfl) ?_
      obtain ⟨q3, eq3, h⟩ := x_rf h
      obtain ⟨hLq3, hKq3⟩ := wt_q hG hL0 hK0 eq3
      have hKq3 : gK G q3 = 12 := hKq3
      refine r_getR (k := 5) cx w hL0 hK0 (by decide) rfl wi_X11_wash_X11 (by decide) rfl eq3 (List.mem_of_getElem? (i := 1) rfl) dX11_wash_13 ?_
      refine lv_iload hx hb dX11_wash_16 (lv_at hl 3 rfl) ?_
      obtain ⟨z4, h⟩ := x_ix h
      refine r_iald cx w hLq3 hKq3 z4 dX11_wash_18 ?_
      refine lv_iadd hx hb dX11_wash_19 ?_
      obtain ⟨x5, ex5, h⟩ := x_bd h
      refine r_topI ex5 ?_
      refine lv_istore_n (lv' := [(3, .int x5), (0, .ref a0), (2, .int c2), (4, .int v4)]) hx hb dX11_wash_20 rfl hl (by decide) rfl (fun ls hl => ?_)
      refine lv_iconst (v := (0 : Int32)) hx hb dX11_wash_21 (by decide) ?_
      refine lv_istore (lv' := [(5, .int ((0 : Int32))), (3, .int x5), (0, .ref a0), (2, .int c2), (4, .int v4)]) hx hb dX11_wash_22 hl (by decide) rfl (fun ls hl => ?_)
      exact b_X11_wash_24 cx hkn hL0 hK0 (hkb5 := ih) fu M x5 v4 ((0 : Int32)) H locs ls h w (lv_sub hl [2, 3, 1, 4, 0] rfl)
set_option maxHeartbeats 4000000 in
set_option maxRecDepth 100000 in
theorem k_X11_wash {l : Launch} {D : va_G} {cy : cyS} {G : gS} {M M' : mS} {r : Int32} {a0 : Nat} {c1 : Int32} {c2 : Int32} (hG : wt G) (hL0 : a0 ∈ gL G) (hK0 : gK G a0 = 10) (h : m_X11_wash G M a0 c1 c2 = some (M', r)) : ctI l yX11_wash wsX11_wash rmX11_wash D cy G M [.ref a0, .int c1, .int c2] M' r := by
  unfold m_X11_wash at h
  refine ctI_of (cc := cX11_wash) (nL := 6) (ret := (some .int)) (lv := [(0, .ref a0), (1, .int c1), (2, .int c2)]) hG (by decide) rfl ⟨rfl, rfl⟩ (Nat.le_of_ble_eq_true rfl) rfl ?_
  intro p e s m args below meth c A ls cx w hl
  obtain ⟨hx, hb, hml, hown, hts, hr, hlocks, hK, hA, -, hsx⟩ := id cx
  have hkn : 0 ≤ (rmX11_wash).cells ∧ 0 ≤ (rmX11_wash).slots := ⟨Nat.zero_le _, Nat.zero_le _⟩
  refine lv_iconst (v := (0 : Int32)) hx hb dX11_wash_0 (by decide) ?_
  refine lv_istore_n (lv' := [(3, .int ((0 : Int32))), (0, .ref a0), (1, .int c1), (2, .int c2)]) hx hb dX11_wash_1 rfl hl (by decide) rfl (fun ls hl => ?_)
  refine lv_iload_n hx hb dX11_wash_2 rfl (lv_at hl 2 rfl) ?_
  refine lv_istore (lv' := [(4, .int c1), (3, .int ((0 : Int32))), (0, .ref a0), (1, .int c1), (2, .int c2)]) hx hb dX11_wash_3 hl (by decide) rfl (fun ls hl => ?_)
  exact b_X11_wash_5 cx hkn hL0 hK0 fu M ((0 : Int32)) c1 s.heap [] ls h w (lv_sub hl [2, 4, 1, 0] rfl)
-- X12_wash
theorem wi_X12_wash_X12 : ∀ w ∈ wsX120, w ∈ wsX12_wash := by decide +kernel
abbrev rmX12_wash : Room := { frames := 2, cells := 0, slots := 0, locals := 47 }
def m_X12_wash (G : gS) (M : mS) (a0 : Nat) (c1 : Int32) (c2 : Int32) : Option (mS × Int32) := o_wI M a0 0 (0 : Int32) (fun M1 => o_cl (m_X12_isStone G M1 c1 c2) (fun M2 r3 => (if r3 = 0 then o_cl (m_X12_no G M2 a0 (1 : Int32)) (fun M14 r15 => some (M14, r15)) else (if c1 ≤ c2 then o_rf (gP G a0 13) (fun q7 => o_cl (m_X11_wash G M2 q7 c1 c2) (fun M8 r9 => some (M8, r9))) else o_cl (m_X12_no G M2 a0 (2 : Int32)) (fun M11 r12 => some (M11, r12))))))
set_option maxHeartbeats 4000000 in
set_option maxRecDepth 100000 in
theorem k_X12_wash {l : Launch} {D : va_G} {cy : cyS} {G : gS} {M M' : mS} {r : Int32} {a0 : Nat} {c1 : Int32} {c2 : Int32} (hG : wt G) (hL0 : a0 ∈ gL G) (hK0 : gK G a0 = 11) (h : m_X12_wash G M a0 c1 c2 = some (M', r)) : ctI l yX12_wash wsX12_wash rmX12_wash D cy G M [.ref a0, .int c1, .int c2] M' r := by
  unfold m_X12_wash at h
  refine ctI_of (cc := cX12_wash) (nL := 3) (ret := (some .int)) (lv := [(0, .ref a0), (1, .int c1), (2, .int c2)]) hG (by decide) rfl ⟨rfl, rfl⟩ (Nat.le_of_ble_eq_true rfl) rfl ?_
  intro p e s m args below meth c A ls cx w hl
  obtain ⟨hx, hb, hml, hown, hts, hr, hlocks, hK, hA, -, hsx⟩ := id cx
  have hkn : 0 ≤ (rmX12_wash).cells ∧ 0 ≤ (rmX12_wash).slots := ⟨Nat.zero_le _, Nat.zero_le _⟩
  refine lv_aload_n hx hb dX12_wash_0 rfl (lv_at hl 0 rfl) ?_
  refine lv_iconst (v := (0 : Int32)) hx hb dX12_wash_1 (by decide) ?_
  obtain ⟨M1, eM1, h⟩ := x_wI h
  refine r_putI (k := 0) (ty := .int) cx w tyX12 tyX12_ok nmX12 hL0 hK0 (by decide) rfl wi_X12_wash_X12 (by decide) rfl rfl rfl rfl st_11_0 (ln_11 _ _ (by decide)) (List.mem_of_getElem? (i := 1) rfl) dX12_wash_2 eM1 (fun H locs w => ?_)
  refine lv_iload_n hx hb dX12_wash_5 rfl (lv_at hl 1 rfl) ?_
  refine lv_iload_n hx hb dX12_wash_6 rfl (lv_at hl 2 rfl) ?_
  obtain ⟨M2, r3, y4, h⟩ := x_cl h
  refine r_callSi (As := [.int c1, .int c2]) (rest := []) cx w hkn hl.1 (k_X12_isStone hG y4) (va_cwS 2 hts gX12_wash_X12_isStone rfl rfl rfl (by decide +kernel) ⟨Nat.le_of_ble_eq_true rfl, Nat.le_of_ble_eq_true rfl⟩) rfl rfl (Nat.le_of_ble_eq_true rfl) dX12_wash_7 (fun H locs w => ?_)
  refine lv_if_ne (tgt := 19) hx hb dX12_wash_10 (by decide) (fun k5 => ?_) (fun k5 => ?_)
  · have h := x_f h k5
    refine lv_iload_n hx hb dX12_wash_19 rfl (lv_at hl 1 rfl) ?_
    refine lv_iload_n hx hb dX12_wash_20 rfl (lv_at hl 2 rfl) ?_
    refine lv_icmp_le (tgt := 32) hx hb dX12_wash_21 (by decide) (fun k6 => ?_) (fun k6 => ?_)
    · have h := x_t h k6
      refine lv_aload_n hx hb dX12_wash_32 rfl (lv_at hl 0 rfl) ?_
      obtain ⟨q7, eq7, h⟩ := x_rf h
      obtain ⟨hLq7, hKq7⟩ := wt_q hG hL0 hK0 eq7
      have hKq7 : gK G q7 = 10 := hKq7
      refine r_getR (k := 13) cx w hL0 hK0 (by decide) rfl wi_X12_wash_X12 (by decide) rfl eq7 (List.mem_of_getElem? (i := 2) rfl) dX12_wash_33 ?_
      refine lv_iload_n hx hb dX12_wash_36 rfl (lv_at hl 1 rfl) ?_
      refine lv_iload_n hx hb dX12_wash_37 rfl (lv_at hl 2 rfl) ?_
      obtain ⟨M8, r9, y10, h⟩ := x_cl h
      refine r_callVi (As := [.int c1, .int c2]) (rest := []) cx w hkn hl.1 (k_X11_wash hG hLq7 hKq7 y10) (cwV 2 hts gX12_wash_X11_wash rfl rfl rfl (by decide +kernel) ⟨Nat.le_of_ble_eq_true rfl, Nat.le_of_ble_eq_true rfl⟩) hLq7 hKq7 (by decide) rfl rfl rfl (Nat.le_of_ble_eq_true rfl) dX12_wash_38 (fun H locs w => ?_)
      exact r_iret cx w h dX12_wash_41
    · have h := x_f h k6
      refine lv_aload_n hx hb dX12_wash_24 rfl (lv_at hl 0 rfl) ?_
      refine lv_iconst (v := (2 : Int32)) hx hb dX12_wash_25 (by decide) ?_
      obtain ⟨M11, r12, y13, h⟩ := x_cl h
      refine r_callVi (As := [.int ((2 : Int32))]) (rest := []) cx w hkn hl.1 (k_X12_no hG hL0 hK0 y13) (cwV 1 hts gX12_wash_X12_no rfl rfl rfl (by decide +kernel) ⟨Nat.le_of_ble_eq_true rfl, Nat.le_of_ble_eq_true rfl⟩) hL0 hK0 (by decide) rfl rfl rfl (Nat.le_of_ble_eq_true rfl) dX12_wash_26 (fun H locs w => ?_)
      refine lv_goto (tgt := 41) hx hb dX12_wash_29 (by decide) ?_
      exact r_iret cx w h dX12_wash_41
  · have h := x_t h k5
    refine lv_aload_n hx hb dX12_wash_13 rfl (lv_at hl 0 rfl) ?_
    refine lv_iconst (v := (1 : Int32)) hx hb dX12_wash_14 (by decide) ?_
    obtain ⟨M14, r15, y16, h⟩ := x_cl h
    refine r_callVi (As := [.int ((1 : Int32))]) (rest := []) cx w hkn hl.1 (k_X12_no hG hL0 hK0 y16) (cwV 1 hts gX12_wash_X12_no rfl rfl rfl (by decide +kernel) ⟨Nat.le_of_ble_eq_true rfl, Nat.le_of_ble_eq_true rfl⟩) hL0 hK0 (by decide) rfl rfl rfl (Nat.le_of_ble_eq_true rfl) dX12_wash_15 (fun H locs w => ?_)
    exact r_iret cx w h dX12_wash_18
-- X12_face
theorem wi_X12_face_X11 : ∀ w ∈ wsX110, w ∈ wsX12_face := by decide +kernel
theorem wi_X12_face_X12 : ∀ w ∈ wsX120, w ∈ wsX12_face := by decide +kernel
abbrev rmX12_face : Room := { frames := 2, cells := 0, slots := 0, locals := 43 }
def m_X12_face_22 (G : gS) (a0 : Nat) (c1 : Int32) (c2 : Int32)  (M : mS)  : Option (mS × Int32) := o_cl (m_X12_no G M a0 (1 : Int32)) (fun M1 r2 => some (M1, r2))
def m_X12_face (G : gS) (M : mS) (a0 : Nat) (c1 : Int32) (c2 : Int32) : Option (mS × Int32) := o_wI M a0 0 (0 : Int32) (fun M1 => o_cl (m_X12_isAnt G M1 a0 c1) (fun M2 r3 => (if r3 = 0 then m_X12_face_22 G a0 c1 c2 M2 else o_cl (m_X12_isIn G M2 c2 (0 : Int32) (3 : Int32)) (fun M6 r7 => (if r7 = 0 then m_X12_face_22 G a0 c1 c2 M6 else o_rf (gP G a0 13) (fun q10 => o_rf (gP G q10 8) (fun q11 => o_ix c1 (gN G q11) (o_bd ((mI M6 q11 (Int32.toNatClampNeg c1))) (fun x13 => o_rf (gP G a0 13) (fun q14 => o_rf (gP G q14 8) (fun q15 => o_ix c1 (gN G q15) (o_wI M6 q15 (Int32.toNatClampNeg c1) c2 (fun M17 => o_rf (gP G a0 13) (fun q18 => o_cl (m_X11_forget G M17 q18 c1) (fun M19 r20 => some (M19, x13))))))))))))))))
set_option maxHeartbeats 4000000 in
set_option maxRecDepth 100000 in
theorem b_X12_face_22 {p : Program} {e : Env} {s : State} {m : MethodId} {args : Array Value} {below : List Frame} {meth : Method} {c : Code} {A : Nat → Prop} {l : Launch} {D : va_G} {cy : cyS} {G : gS} (cx : cX p s m args meth c cX12_face RX12 4 (some .int) wsX12_face D cy G A) {k0 n0 : Nat} (hkn : k0 ≤ (rmX12_face).cells ∧ n0 ≤ (rmX12_face).slots) {M' : mS} {r : Int32} {a0 : Nat} {c1 : Int32} {c2 : Int32} (hL0 : a0 ∈ gL G) (hK0 : gK G a0 = 11)  : ∀ (M : mS) (H : Heap) (locs : List Loc) (ls : Array Slot), m_X12_face_22 G a0 c1 c2 M = some (M', r) → wd D cy G M A s.heap H locs → lv_has ls 4 [(0, .ref a0)] → W p l e rmX12_face s m args below meth c H locs k0 n0 (MQ below (va_Qi (fun (r' : Int32) (_ : Unit) => r' = r) (fun _ t => wOut D cy G M' t) A) args s k0 n0 A) (F0 m 22 ls []) := by
  obtain ⟨hx, hb, hml, hown, hts, hr, hlocks, hK, hA, hG, hsx⟩ := id cx
  intro M H locs ls h w hl
  unfold m_X12_face_22 at h
  refine lv_aload_n hx hb dX12_face_22 rfl (lv_at hl 0 rfl) ?_
  refine lv_iconst (v := (1 : Int32)) hx hb dX12_face_23 (by decide) ?_
  obtain ⟨M1, r2, y3, h⟩ := x_cl h
  refine r_callVi (As := [.int ((1 : Int32))]) (rest := []) cx w hkn hl.1 (k_X12_no hG hL0 hK0 y3) (cwV 1 hts gX12_face_X12_no rfl rfl rfl (by decide +kernel) ⟨Nat.le_of_ble_eq_true rfl, Nat.le_of_ble_eq_true rfl⟩) hL0 hK0 (by decide) rfl rfl rfl (Nat.le_of_ble_eq_true rfl) dX12_face_24 (fun H locs w => ?_)
  exact r_iret cx w h dX12_face_27
set_option maxHeartbeats 4000000 in
set_option maxRecDepth 100000 in
theorem k_X12_face {l : Launch} {D : va_G} {cy : cyS} {G : gS} {M M' : mS} {r : Int32} {a0 : Nat} {c1 : Int32} {c2 : Int32} (hG : wt G) (hL0 : a0 ∈ gL G) (hK0 : gK G a0 = 11) (h : m_X12_face G M a0 c1 c2 = some (M', r)) : ctI l yX12_face wsX12_face rmX12_face D cy G M [.ref a0, .int c1, .int c2] M' r := by
  unfold m_X12_face at h
  refine ctI_of (cc := cX12_face) (nL := 4) (ret := (some .int)) (lv := [(0, .ref a0), (1, .int c1), (2, .int c2)]) hG (by decide) rfl ⟨rfl, rfl⟩ (Nat.le_of_ble_eq_true rfl) rfl ?_
  intro p e s m args below meth c A ls cx w hl
  obtain ⟨hx, hb, hml, hown, hts, hr, hlocks, hK, hA, -, hsx⟩ := id cx
  have hkn : 0 ≤ (rmX12_face).cells ∧ 0 ≤ (rmX12_face).slots := ⟨Nat.zero_le _, Nat.zero_le _⟩
  refine lv_aload_n hx hb dX12_face_0 rfl (lv_at hl 0 rfl) ?_
  refine lv_iconst (v := (0 : Int32)) hx hb dX12_face_1 (by decide) ?_
  obtain ⟨M1, eM1, h⟩ := x_wI h
  refine r_putI (k := 0) (ty := .int) cx w tyX12 tyX12_ok nmX12 hL0 hK0 (by decide) rfl wi_X12_face_X12 (by decide) rfl rfl rfl rfl st_11_0 (ln_11 _ _ (by decide)) (List.mem_of_getElem? (i := 1) rfl) dX12_face_2 eM1 (fun H locs w => ?_)
  refine lv_aload_n hx hb dX12_face_5 rfl (lv_at hl 0 rfl) ?_
  refine lv_iload_n hx hb dX12_face_6 rfl (lv_at hl 1 rfl) ?_
  obtain ⟨M2, r3, y4, h⟩ := x_cl h
  refine r_callVi (As := [.int c1]) (rest := []) cx w hkn hl.1 (k_X12_isAnt hG hL0 hK0 y4) (cwV 1 hts gX12_face_X12_isAnt rfl rfl rfl (by decide +kernel) ⟨Nat.le_of_ble_eq_true rfl, Nat.le_of_ble_eq_true rfl⟩) hL0 hK0 (by decide) rfl rfl rfl (Nat.le_of_ble_eq_true rfl) dX12_face_7 (fun H locs w => ?_)
  refine lv_if_eq (tgt := 22) hx hb dX12_face_10 (by decide) (fun k5 => ?_) (fun k5 => ?_)
  · have h := x_t h k5
    exact b_X12_face_22 cx hkn hL0 hK0 M2 H locs ls h w (lv_sub hl [0] rfl)
  · have h := x_f h k5
    refine lv_iload_n hx hb dX12_face_13 rfl (lv_at hl 2 rfl) ?_
    refine lv_iconst (v := (0 : Int32)) hx hb dX12_face_14 (by decide) ?_
    refine lv_iconst (v := (3 : Int32)) hx hb dX12_face_15 (by decide) ?_
    obtain ⟨M6, r7, y8, h⟩ := x_cl h
    refine r_callSi (As := [.int c2, .int ((0 : Int32)), .int ((3 : Int32))]) (rest := []) cx w hkn hl.1 (k_X12_isIn hG y8) (va_cwS 3 hts gX12_face_X12_isIn rfl rfl rfl (by decide +kernel) ⟨Nat.le_of_ble_eq_true rfl, Nat.le_of_ble_eq_true rfl⟩) rfl rfl (Nat.le_of_ble_eq_true rfl) dX12_face_16 (fun H locs w => ?_)
    refine lv_if_ne (tgt := 28) hx hb dX12_face_19 (by decide) (fun k9 => ?_) (fun k9 => ?_)
    · have h := x_f h k9
      refine lv_aload_n hx hb dX12_face_28 rfl (lv_at hl 0 rfl) ?_
      obtain ⟨q10, eq10, h⟩ := x_rf h
      obtain ⟨hLq10, hKq10⟩ := wt_q hG hL0 hK0 eq10
      have hKq10 : gK G q10 = 10 := hKq10
      refine r_getR (k := 13) cx w hL0 hK0 (by decide) rfl wi_X12_face_X12 (by decide) rfl eq10 (List.mem_of_getElem? (i := 2) rfl) dX12_face_29 ?_
      obtain ⟨q11, eq11, h⟩ := x_rf h
      obtain ⟨hLq11, hKq11⟩ := wt_q hG hLq10 hKq10 eq11
      have hKq11 : gK G q11 = 12 := hKq11
      refine r_getRN (k := 8) cx w hLq10 hKq10 (by decide) rfl wi_X12_face_X11 (by decide) rfl eq11 (nwF cx (q := (RX12, 330, "FlagAntsModel$State", "side", "[I", "FlagAntsModel")) (List.mem_of_getElem? (i := 27) rfl)) dX12_face_32 ?_
      refine lv_iload_n hx hb dX12_face_35 rfl (lv_at hl 1 rfl) ?_
      obtain ⟨z12, h⟩ := x_ix h
      refine r_iald cx w hLq11 hKq11 z12 dX12_face_36 ?_
      obtain ⟨x13, ex13, h⟩ := x_bd h
      refine r_topI ex13 ?_
      refine lv_istore_n (lv' := [(3, .int x13), (0, .ref a0), (1, .int c1), (2, .int c2)]) hx hb dX12_face_37 rfl hl (by decide) rfl (fun ls hl => ?_)
      refine lv_aload_n hx hb dX12_face_38 rfl (lv_at hl 1 rfl) ?_
      obtain ⟨q14, eq14, h⟩ := x_rf h
      obtain ⟨hLq14, hKq14⟩ := wt_q hG hL0 hK0 eq14
      have hKq14 : gK G q14 = 10 := hKq14
      refine r_getR (k := 13) cx w hL0 hK0 (by decide) rfl wi_X12_face_X12 (by decide) rfl eq14 (List.mem_of_getElem? (i := 2) rfl) dX12_face_39 ?_
      obtain ⟨q15, eq15, h⟩ := x_rf h
      obtain ⟨hLq15, hKq15⟩ := wt_q hG hLq14 hKq14 eq15
      have hKq15 : gK G q15 = 12 := hKq15
      refine r_getRN (k := 8) cx w hLq14 hKq14 (by decide) rfl wi_X12_face_X11 (by decide) rfl eq15 (nwF cx (q := (RX12, 330, "FlagAntsModel$State", "side", "[I", "FlagAntsModel")) (List.mem_of_getElem? (i := 27) rfl)) dX12_face_42 ?_
      refine lv_iload_n hx hb dX12_face_45 rfl (lv_at hl 2 rfl) ?_
      refine lv_iload_n hx hb dX12_face_46 rfl (lv_at hl 3 rfl) ?_
      obtain ⟨z16, h⟩ := x_ix h
      obtain ⟨M17, eM17, h⟩ := x_wI h
      refine r_iast cx w hLq15 hKq15 z16 dX12_face_47 eM17 (fun H locs w => ?_)
      refine lv_aload_n hx hb dX12_face_48 rfl (lv_at hl 1 rfl) ?_
      obtain ⟨q18, eq18, h⟩ := x_rf h
      obtain ⟨hLq18, hKq18⟩ := wt_q hG hL0 hK0 eq18
      have hKq18 : gK G q18 = 10 := hKq18
      refine r_getR (k := 13) cx w hL0 hK0 (by decide) rfl wi_X12_face_X12 (by decide) rfl eq18 (List.mem_of_getElem? (i := 2) rfl) dX12_face_49 ?_
      refine lv_iload_n hx hb dX12_face_52 rfl (lv_at hl 2 rfl) ?_
      obtain ⟨M19, r20, y21, h⟩ := x_cl h
      refine r_callVv (As := [.int c1]) (rest := []) cx w hkn hl.1 (k_X11_forget hG hLq18 hKq18 y21) (cwV 1 hts gX12_face_X11_forget rfl rfl rfl (by decide +kernel) ⟨Nat.le_of_ble_eq_true rfl, Nat.le_of_ble_eq_true rfl⟩) hLq18 hKq18 (by decide) rfl rfl rfl (Nat.le_of_ble_eq_true rfl) dX12_face_53 (fun H locs w => ?_)
      refine lv_iload_n hx hb dX12_face_56 rfl (lv_at hl 0 rfl) ?_
      exact r_iret cx w h dX12_face_57
    · have h := x_t h k9
      exact b_X12_face_22 cx hkn hL0 hK0 M6 H locs ls h w (lv_sub hl [0] rfl)
-- X12_halt
theorem wi_X12_halt_X11 : ∀ w ∈ wsX110, w ∈ wsX12_halt := by decide +kernel
theorem wi_X12_halt_X12 : ∀ w ∈ wsX120, w ∈ wsX12_halt := by decide +kernel
abbrev rmX12_halt : Room := { frames := 2, cells := 0, slots := 0, locals := 43 }
def m_X12_halt_14 (G : gS) (a0 : Nat) (c1 : Int32)  (M : mS) (s1 : Int32) : Option (mS × Int32) := o_wI M a0 0 s1 (fun M1 => (if (mI M1 a0 0) = 0 then o_rf (gP G a0 13) (fun q3 => o_rf (gP G q3 9) (fun q4 => o_rf (gP G a0 13) (fun q5 => o_rf (gP G q5 9) (fun q6 => o_ix c1 (gN G q6) (o_ix c1 (gN G q4) (o_wI M1 q4 (Int32.toNatClampNeg c1) ((1 : Int32) - (mI M1 q6 (Int32.toNatClampNeg c1))) (fun M9 => o_rf (gP G a0 13) (fun q10 => o_rf (gP G q10 9) (fun q11 => o_ix c1 (gN G q11) ((if (mI M9 q11 (Int32.toNatClampNeg c1)) = 0 then o_ck ((1 : Int32) = 0 ∨ (1 : Int32) = 1) (some (M9, (1 : Int32))) else o_ck ((0 : Int32) = 0 ∨ (0 : Int32) = 1) (some (M9, (0 : Int32)))))))))))))) else o_ck ((0 : Int32) = 0 ∨ (0 : Int32) = 1) (some (M1, (0 : Int32)))))
def m_X12_halt (G : gS) (M : mS) (a0 : Nat) (c1 : Int32) : Option (mS × Int32) := o_cl (m_X12_isAnt G M a0 c1) (fun M1 r2 => (if r2 = 0 then m_X12_halt_14 G a0 c1 M1 ((1 : Int32)) else m_X12_halt_14 G a0 c1 M1 ((0 : Int32))))
set_option maxHeartbeats 4000000 in
set_option maxRecDepth 100000 in
theorem b_X12_halt_14 {p : Program} {e : Env} {s : State} {m : MethodId} {args : Array Value} {below : List Frame} {meth : Method} {c : Code} {A : Nat → Prop} {l : Launch} {D : va_G} {cy : cyS} {G : gS} (cx : cX p s m args meth c cX12_halt RX12 2 (some .boolean) wsX12_halt D cy G A) {k0 n0 : Nat} (hkn : k0 ≤ (rmX12_halt).cells ∧ n0 ≤ (rmX12_halt).slots) {M' : mS} {r : Int32} {a0 : Nat} {c1 : Int32} (hL0 : a0 ∈ gL G) (hK0 : gK G a0 = 11)  : ∀ (M : mS) (s1 : Int32) (H : Heap) (locs : List Loc) (ls : Array Slot), m_X12_halt_14 G a0 c1 M s1 = some (M', r) → wd D cy G M A s.heap H locs → lv_has ls 2 [(0, .ref a0), (1, .int c1)] → W p l e rmX12_halt s m args below meth c H locs k0 n0 (MQ below (va_Qi (fun (r' : Int32) (_ : Unit) => r' = r) (fun _ t => wOut D cy G M' t) A) args s k0 n0 A) (F0 m 14 ls [.int s1, .ref a0]) := by
  obtain ⟨hx, hb, hml, hown, hts, hr, hlocks, hK, hA, hG, hsx⟩ := id cx
  intro M s1 H locs ls h w hl
  unfold m_X12_halt_14 at h
  obtain ⟨M1, eM1, h⟩ := x_wI h
  refine r_putI (k := 0) (ty := .int) cx w tyX12 tyX12_ok nmX12 hL0 hK0 (by decide) rfl wi_X12_halt_X12 (by decide) rfl rfl rfl rfl st_11_0 (ln_11 _ _ (by decide)) (List.mem_of_getElem? (i := 1) rfl) dX12_halt_14 eM1 (fun H locs w => ?_)
  refine lv_aload_n hx hb dX12_halt_17 rfl (lv_at hl 0 rfl) ?_
  refine r_getI (k := 0) (v := .int (mI M1 a0 0)) cx w hL0 hK0 (by decide) rfl wi_X12_halt_X12 (by decide) rfl (List.mem_of_getElem? (i := 1) rfl) dX12_halt_18 ?_
  refine lv_if_eq (tgt := 26) hx hb dX12_halt_21 (by decide) (fun k2 => ?_) (fun k2 => ?_)
  · have h := x_t h k2
    refine lv_aload_n hx hb dX12_halt_26 rfl (lv_at hl 0 rfl) ?_
    obtain ⟨q3, eq3, h⟩ := x_rf h
    obtain ⟨hLq3, hKq3⟩ := wt_q hG hL0 hK0 eq3
    have hKq3 : gK G q3 = 10 := hKq3
    refine r_getR (k := 13) cx w hL0 hK0 (by decide) rfl wi_X12_halt_X12 (by decide) rfl eq3 (List.mem_of_getElem? (i := 2) rfl) dX12_halt_27 ?_
    obtain ⟨q4, eq4, h⟩ := x_rf h
    obtain ⟨hLq4, hKq4⟩ := wt_q hG hLq3 hKq3 eq4
    have hKq4 : gK G q4 = 12 := hKq4
    refine r_getRN (k := 9) cx w hLq3 hKq3 (by decide) rfl wi_X12_halt_X11 (by decide) rfl eq4 (nwF cx (q := (RX12, 331, "FlagAntsModel$State", "rests", "[I", "FlagAntsModel")) (List.mem_of_getElem? (i := 28) rfl)) dX12_halt_30 ?_
    refine lv_iload_n hx hb dX12_halt_33 rfl (lv_at hl 1 rfl) ?_
    refine lv_iconst (v := (1 : Int32)) hx hb dX12_halt_34 (by decide) ?_
    refine lv_aload_n hx hb dX12_halt_35 rfl (lv_at hl 0 rfl) ?_
    obtain ⟨q5, eq5, h⟩ := x_rf h
    obtain ⟨hLq5, hKq5⟩ := wt_q hG hL0 hK0 eq5
    have hKq5 : gK G q5 = 10 := hKq5
    refine r_getR (k := 13) cx w hL0 hK0 (by decide) rfl wi_X12_halt_X12 (by decide) rfl eq5 (List.mem_of_getElem? (i := 2) rfl) dX12_halt_36 ?_
    obtain ⟨q6, eq6, h⟩ := x_rf h
    obtain ⟨hLq6, hKq6⟩ := wt_q hG hLq5 hKq5 eq6
    have hKq6 : gK G q6 = 12 := hKq6
    refine r_getRN (k := 9) cx w hLq5 hKq5 (by decide) rfl wi_X12_halt_X11 (by decide) rfl eq6 (nwF cx (q := (RX12, 331, "FlagAntsModel$State", "rests", "[I", "FlagAntsModel")) (List.mem_of_getElem? (i := 28) rfl)) dX12_halt_39 ?_
    refine lv_iload_n hx hb dX12_halt_42 rfl (lv_at hl 1 rfl) ?_
    obtain ⟨z7, h⟩ := x_ix h
    refine r_iald cx w hLq6 hKq6 z7 dX12_halt_43 ?_
    refine lv_isub hx hb dX12_halt_44 ?_
    obtain ⟨z8, h⟩ := x_ix h
    obtain ⟨M9, eM9, h⟩ := x_wI h
    refine r_iast cx w hLq4 hKq4 z8 dX12_halt_45 eM9 (fun H locs w => ?_)
    refine lv_aload_n hx hb dX12_halt_46 rfl (lv_at hl 0 rfl) ?_
    obtain ⟨q10, eq10, h⟩ := x_rf h
    obtain ⟨hLq10, hKq10⟩ := wt_q hG hL0 hK0 eq10
    have hKq10 : gK G q10 = 10 := hKq10
    refine r_getR (k := 13) cx w hL0 hK0 (by decide) rfl wi_X12_halt_X12 (by decide) rfl eq10 (List.mem_of_getElem? (i := 2) rfl) dX12_halt_47 ?_
    obtain ⟨q11, eq11, h⟩ := x_rf h
    obtain ⟨hLq11, hKq11⟩ := wt_q hG hLq10 hKq10 eq11
    have hKq11 : gK G q11 = 12 := hKq11
    refine r_getRN (k := 9) cx w hLq10 hKq10 (by decide) rfl wi_X12_halt_X11 (by decide) rfl eq11 (nwF cx (q := (RX12, 331, "FlagAntsModel$State", "rests", "[I", "FlagAntsModel")) (List.mem_of_getElem? (i := 28) rfl)) dX12_halt_50 ?_
    refine lv_iload_n hx hb dX12_halt_53 rfl (lv_at hl 1 rfl) ?_
    obtain ⟨z12, h⟩ := x_ix h
    refine r_iald cx w hLq11 hKq11 z12 dX12_halt_54 ?_
    refine lv_if_ne (tgt := 62) hx hb dX12_halt_55 (by decide) (fun k13 => ?_) (fun k13 => ?_)
    · have h := x_f h k13
      refine lv_iconst (v := (0 : Int32)) hx hb dX12_halt_62 (by decide) ?_
      obtain ⟨z14, h⟩ := x_ck h
      exact r_zret cx w z14 h dX12_halt_63
    · have h := x_t h k13
      refine lv_iconst (v := (1 : Int32)) hx hb dX12_halt_58 (by decide) ?_
      refine lv_goto (tgt := 63) hx hb dX12_halt_59 (by decide) ?_
      obtain ⟨z15, h⟩ := x_ck h
      exact r_zret cx w z15 h dX12_halt_63
  · have h := x_f h k2
    refine lv_iconst (v := (0 : Int32)) hx hb dX12_halt_24 (by decide) ?_
    obtain ⟨z16, h⟩ := x_ck h
    exact r_zret cx w z16 h dX12_halt_25
set_option maxHeartbeats 4000000 in
set_option maxRecDepth 100000 in
theorem k_X12_halt {l : Launch} {D : va_G} {cy : cyS} {G : gS} {M M' : mS} {r : Int32} {a0 : Nat} {c1 : Int32} (hG : wt G) (hL0 : a0 ∈ gL G) (hK0 : gK G a0 = 11) (h : m_X12_halt G M a0 c1 = some (M', r)) : ctI l yX12_halt wsX12_halt rmX12_halt D cy G M [.ref a0, .int c1] M' r := by
  unfold m_X12_halt at h
  refine ctI_of (cc := cX12_halt) (nL := 2) (ret := (some .boolean)) (lv := [(0, .ref a0), (1, .int c1)]) hG (by decide) rfl ⟨rfl, rfl⟩ (Nat.le_of_ble_eq_true rfl) rfl ?_
  intro p e s m args below meth c A ls cx w hl
  obtain ⟨hx, hb, hml, hown, hts, hr, hlocks, hK, hA, -, hsx⟩ := id cx
  have hkn : 0 ≤ (rmX12_halt).cells ∧ 0 ≤ (rmX12_halt).slots := ⟨Nat.zero_le _, Nat.zero_le _⟩
  refine lv_aload_n hx hb dX12_halt_0 rfl (lv_at hl 0 rfl) ?_
  refine lv_aload_n hx hb dX12_halt_1 rfl (lv_at hl 0 rfl) ?_
  refine lv_iload_n hx hb dX12_halt_2 rfl (lv_at hl 1 rfl) ?_
  obtain ⟨M1, r2, y3, h⟩ := x_cl h
  refine r_callVi (As := [.int c1]) (rest := [.ref a0]) cx w hkn hl.1 (k_X12_isAnt hG hL0 hK0 y3) (cwV 1 hts gX12_halt_X12_isAnt rfl rfl rfl (by decide +kernel) ⟨Nat.le_of_ble_eq_true rfl, Nat.le_of_ble_eq_true rfl⟩) hL0 hK0 (by decide) rfl rfl rfl (Nat.le_of_ble_eq_true rfl) dX12_halt_3 (fun H locs w => ?_)
  refine lv_if_eq (tgt := 13) hx hb dX12_halt_6 (by decide) (fun k4 => ?_) (fun k4 => ?_)
  · have h := x_t h k4
    refine lv_iconst (v := (1 : Int32)) hx hb dX12_halt_13 (by decide) ?_
    exact b_X12_halt_14 cx hkn hL0 hK0 M1 ((1 : Int32)) H locs ls h w (lv_sub hl [0, 1] rfl)
  · have h := x_f h k4
    refine lv_iconst (v := (0 : Int32)) hx hb dX12_halt_9 (by decide) ?_
    refine lv_goto (tgt := 14) hx hb dX12_halt_10 (by decide) ?_
    exact b_X12_halt_14 cx hkn hL0 hK0 M1 ((0 : Int32)) H locs ls h w (lv_sub hl [0, 1] rfl)
-- X12_place_
theorem wi_X12_place__X11 : ∀ w ∈ wsX110, w ∈ wsX12_place_ := by decide +kernel
theorem wi_X12_place__X12 : ∀ w ∈ wsX120, w ∈ wsX12_place_ := by decide +kernel
abbrev rmX12_place_ : Room := { frames := 2, cells := 0, slots := 0, locals := 43 }
def m_X12_place__21 (G : gS) (a0 : Nat) (c1 : Int32) (c2 : Int32) (c3 : Int32)  (M : mS)  : Option (mS × Int32) := o_cl (m_X12_no G M a0 (1 : Int32)) (fun M1 r2 => some (M1, r2))
def m_X12_place_ (G : gS) (M : mS) (a0 : Nat) (c1 : Int32) (c2 : Int32) (c3 : Int32) : Option (mS × Int32) := o_wI M a0 0 (0 : Int32) (fun M1 => o_cl (m_X12_isAnt G M1 a0 c1) (fun M2 r3 => (if r3 = 0 then m_X12_place__21 G a0 c1 c2 c3 M2 else o_cl (m_X12_isStone G M2 c2 c3) (fun M6 r7 => (if r7 = 0 then m_X12_place__21 G a0 c1 c2 c3 M6 else o_rf (gP G a0 13) (fun q10 => o_rf (gP G q10 7) (fun q11 => o_ix c1 (gN G q11) (o_rf (gP G a0 13) (fun q13 => o_rf (gP G q13 6) (fun q14 => o_ix c1 (gN G q14) (o_bd ((((64 : Int32) * (mI M6 q11 (Int32.toNatClampNeg c1))) + (mI M6 q14 (Int32.toNatClampNeg c1)))) (fun x16 => o_rf (gP G a0 13) (fun q17 => o_rf (gP G q17 6) (fun q18 => o_ix c1 (gN G q18) (o_wI M6 q18 (Int32.toNatClampNeg c1) c2 (fun M20 => o_rf (gP G a0 13) (fun q21 => o_rf (gP G q21 7) (fun q22 => o_ix c1 (gN G q22) (o_wI M20 q22 (Int32.toNatClampNeg c1) c3 (fun M24 => o_rf (gP G a0 13) (fun q25 => o_cl (m_X11_forget G M24 q25 c1) (fun M26 r27 => some (M26, x16)))))))))))))))))))))))
set_option maxHeartbeats 4000000 in
set_option maxRecDepth 100000 in
theorem b_X12_place__21 {p : Program} {e : Env} {s : State} {m : MethodId} {args : Array Value} {below : List Frame} {meth : Method} {c : Code} {A : Nat → Prop} {l : Launch} {D : va_G} {cy : cyS} {G : gS} (cx : cX p s m args meth c cX12_place_ RX12 5 (some .int) wsX12_place_ D cy G A) {k0 n0 : Nat} (hkn : k0 ≤ (rmX12_place_).cells ∧ n0 ≤ (rmX12_place_).slots) {M' : mS} {r : Int32} {a0 : Nat} {c1 : Int32} {c2 : Int32} {c3 : Int32} (hL0 : a0 ∈ gL G) (hK0 : gK G a0 = 11)  : ∀ (M : mS) (H : Heap) (locs : List Loc) (ls : Array Slot), m_X12_place__21 G a0 c1 c2 c3 M = some (M', r) → wd D cy G M A s.heap H locs → lv_has ls 5 [(0, .ref a0)] → W p l e rmX12_place_ s m args below meth c H locs k0 n0 (MQ below (va_Qi (fun (r' : Int32) (_ : Unit) => r' = r) (fun _ t => wOut D cy G M' t) A) args s k0 n0 A) (F0 m 21 ls []) := by
  obtain ⟨hx, hb, hml, hown, hts, hr, hlocks, hK, hA, hG, hsx⟩ := id cx
  intro M H locs ls h w hl
  unfold m_X12_place__21 at h
  refine lv_aload_n hx hb dX12_place__21 rfl (lv_at hl 0 rfl) ?_
  refine lv_iconst (v := (1 : Int32)) hx hb dX12_place__22 (by decide) ?_
  obtain ⟨M1, r2, y3, h⟩ := x_cl h
  refine r_callVi (As := [.int ((1 : Int32))]) (rest := []) cx w hkn hl.1 (k_X12_no hG hL0 hK0 y3) (cwV 1 hts gX12_place__X12_no rfl rfl rfl (by decide +kernel) ⟨Nat.le_of_ble_eq_true rfl, Nat.le_of_ble_eq_true rfl⟩) hL0 hK0 (by decide) rfl rfl rfl (Nat.le_of_ble_eq_true rfl) dX12_place__23 (fun H locs w => ?_)
  exact r_iret cx w h dX12_place__26
set_option maxHeartbeats 4000000 in
set_option maxRecDepth 100000 in
theorem k_X12_place_ {l : Launch} {D : va_G} {cy : cyS} {G : gS} {M M' : mS} {r : Int32} {a0 : Nat} {c1 : Int32} {c2 : Int32} {c3 : Int32} (hG : wt G) (hL0 : a0 ∈ gL G) (hK0 : gK G a0 = 11) (h : m_X12_place_ G M a0 c1 c2 c3 = some (M', r)) : ctI l yX12_place_ wsX12_place_ rmX12_place_ D cy G M [.ref a0, .int c1, .int c2, .int c3] M' r := by
  unfold m_X12_place_ at h
  refine ctI_of (cc := cX12_place_) (nL := 5) (ret := (some .int)) (lv := [(0, .ref a0), (1, .int c1), (2, .int c2), (3, .int c3)]) hG (by decide) rfl ⟨rfl, rfl⟩ (Nat.le_of_ble_eq_true rfl) rfl ?_
  intro p e s m args below meth c A ls cx w hl
  obtain ⟨hx, hb, hml, hown, hts, hr, hlocks, hK, hA, -, hsx⟩ := id cx
  have hkn : 0 ≤ (rmX12_place_).cells ∧ 0 ≤ (rmX12_place_).slots := ⟨Nat.zero_le _, Nat.zero_le _⟩
  refine lv_aload_n hx hb dX12_place__0 rfl (lv_at hl 0 rfl) ?_
  refine lv_iconst (v := (0 : Int32)) hx hb dX12_place__1 (by decide) ?_
  obtain ⟨M1, eM1, h⟩ := x_wI h
  refine r_putI (k := 0) (ty := .int) cx w tyX12 tyX12_ok nmX12 hL0 hK0 (by decide) rfl wi_X12_place__X12 (by decide) rfl rfl rfl rfl st_11_0 (ln_11 _ _ (by decide)) (List.mem_of_getElem? (i := 1) rfl) dX12_place__2 eM1 (fun H locs w => ?_)
  refine lv_aload_n hx hb dX12_place__5 rfl (lv_at hl 0 rfl) ?_
  refine lv_iload_n hx hb dX12_place__6 rfl (lv_at hl 1 rfl) ?_
  obtain ⟨M2, r3, y4, h⟩ := x_cl h
  refine r_callVi (As := [.int c1]) (rest := []) cx w hkn hl.1 (k_X12_isAnt hG hL0 hK0 y4) (cwV 1 hts gX12_place__X12_isAnt rfl rfl rfl (by decide +kernel) ⟨Nat.le_of_ble_eq_true rfl, Nat.le_of_ble_eq_true rfl⟩) hL0 hK0 (by decide) rfl rfl rfl (Nat.le_of_ble_eq_true rfl) dX12_place__7 (fun H locs w => ?_)
  refine lv_if_eq (tgt := 21) hx hb dX12_place__10 (by decide) (fun k5 => ?_) (fun k5 => ?_)
  · have h := x_t h k5
    exact b_X12_place__21 cx hkn hL0 hK0 M2 H locs ls h w (lv_sub hl [0] rfl)
  · have h := x_f h k5
    refine lv_iload_n hx hb dX12_place__13 rfl (lv_at hl 2 rfl) ?_
    refine lv_iload_n hx hb dX12_place__14 rfl (lv_at hl 3 rfl) ?_
    obtain ⟨M6, r7, y8, h⟩ := x_cl h
    refine r_callSi (As := [.int c2, .int c3]) (rest := []) cx w hkn hl.1 (k_X12_isStone hG y8) (va_cwS 2 hts gX12_place__X12_isStone rfl rfl rfl (by decide +kernel) ⟨Nat.le_of_ble_eq_true rfl, Nat.le_of_ble_eq_true rfl⟩) rfl rfl (Nat.le_of_ble_eq_true rfl) dX12_place__15 (fun H locs w => ?_)
    refine lv_if_ne (tgt := 27) hx hb dX12_place__18 (by decide) (fun k9 => ?_) (fun k9 => ?_)
    · have h := x_f h k9
      refine lv_bipush (v := (64 : Int32)) hx hb dX12_place__27 (by decide) ?_
      refine lv_aload_n hx hb dX12_place__29 rfl (lv_at hl 0 rfl) ?_
      obtain ⟨q10, eq10, h⟩ := x_rf h
      obtain ⟨hLq10, hKq10⟩ := wt_q hG hL0 hK0 eq10
      have hKq10 : gK G q10 = 10 := hKq10
      refine r_getR (k := 13) cx w hL0 hK0 (by decide) rfl wi_X12_place__X12 (by decide) rfl eq10 (List.mem_of_getElem? (i := 2) rfl) dX12_place__30 ?_
      obtain ⟨q11, eq11, h⟩ := x_rf h
      obtain ⟨hLq11, hKq11⟩ := wt_q hG hLq10 hKq10 eq11
      have hKq11 : gK G q11 = 12 := hKq11
      refine r_getRN (k := 7) cx w hLq10 hKq10 (by decide) rfl wi_X12_place__X11 (by decide) rfl eq11 (nwF cx (q := (RX12, 329, "FlagAntsModel$State", "row", "[I", "FlagAntsModel")) (List.mem_of_getElem? (i := 26) rfl)) dX12_place__33 ?_
      refine lv_iload_n hx hb dX12_place__36 rfl (lv_at hl 1 rfl) ?_
      obtain ⟨z12, h⟩ := x_ix h
      refine r_iald cx w hLq11 hKq11 z12 dX12_place__37 ?_
      refine lv_imul hx hb dX12_place__38 ?_
      refine lv_aload_n hx hb dX12_place__39 rfl (lv_at hl 0 rfl) ?_
      obtain ⟨q13, eq13, h⟩ := x_rf h
      obtain ⟨hLq13, hKq13⟩ := wt_q hG hL0 hK0 eq13
      have hKq13 : gK G q13 = 10 := hKq13
      refine r_getR (k := 13) cx w hL0 hK0 (by decide) rfl wi_X12_place__X12 (by decide) rfl eq13 (List.mem_of_getElem? (i := 2) rfl) dX12_place__40 ?_
      obtain ⟨q14, eq14, h⟩ := x_rf h
      obtain ⟨hLq14, hKq14⟩ := wt_q hG hLq13 hKq13 eq14
      have hKq14 : gK G q14 = 12 := hKq14
      refine r_getRN (k := 6) cx w hLq13 hKq13 (by decide) rfl wi_X12_place__X11 (by decide) rfl eq14 (nwF cx (q := (RX12, 328, "FlagAntsModel$State", "column", "[I", "FlagAntsModel")) (List.mem_of_getElem? (i := 25) rfl)) dX12_place__43 ?_
      refine lv_iload_n hx hb dX12_place__46 rfl (lv_at hl 1 rfl) ?_
      obtain ⟨z15, h⟩ := x_ix h
      refine r_iald cx w hLq14 hKq14 z15 dX12_place__47 ?_
      refine lv_iadd hx hb dX12_place__48 ?_
      obtain ⟨x16, ex16, h⟩ := x_bd h
      refine r_topI ex16 ?_
      refine lv_istore (lv' := [(4, .int x16), (0, .ref a0), (1, .int c1), (2, .int c2), (3, .int c3)]) hx hb dX12_place__49 hl (by decide) rfl (fun ls hl => ?_)
      refine lv_aload_n hx hb dX12_place__51 rfl (lv_at hl 1 rfl) ?_
      obtain ⟨q17, eq17, h⟩ := x_rf h
      obtain ⟨hLq17, hKq17⟩ := wt_q hG hL0 hK0 eq17
      have hKq17 : gK G q17 = 10 := hKq17
      refine r_getR (k := 13) cx w hL0 hK0 (by decide) rfl wi_X12_place__X12 (by decide) rfl eq17 (List.mem_of_getElem? (i := 2) rfl) dX12_place__52 ?_
      obtain ⟨q18, eq18, h⟩ := x_rf h
      obtain ⟨hLq18, hKq18⟩ := wt_q hG hLq17 hKq17 eq18
      have hKq18 : gK G q18 = 12 := hKq18
      refine r_getRN (k := 6) cx w hLq17 hKq17 (by decide) rfl wi_X12_place__X11 (by decide) rfl eq18 (nwF cx (q := (RX12, 328, "FlagAntsModel$State", "column", "[I", "FlagAntsModel")) (List.mem_of_getElem? (i := 25) rfl)) dX12_place__55 ?_
      refine lv_iload_n hx hb dX12_place__58 rfl (lv_at hl 2 rfl) ?_
      refine lv_iload_n hx hb dX12_place__59 rfl (lv_at hl 3 rfl) ?_
      obtain ⟨z19, h⟩ := x_ix h
      obtain ⟨M20, eM20, h⟩ := x_wI h
      refine r_iast cx w hLq18 hKq18 z19 dX12_place__60 eM20 (fun H locs w => ?_)
      refine lv_aload_n hx hb dX12_place__61 rfl (lv_at hl 1 rfl) ?_
      obtain ⟨q21, eq21, h⟩ := x_rf h
      obtain ⟨hLq21, hKq21⟩ := wt_q hG hL0 hK0 eq21
      have hKq21 : gK G q21 = 10 := hKq21
      refine r_getR (k := 13) cx w hL0 hK0 (by decide) rfl wi_X12_place__X12 (by decide) rfl eq21 (List.mem_of_getElem? (i := 2) rfl) dX12_place__62 ?_
      obtain ⟨q22, eq22, h⟩ := x_rf h
      obtain ⟨hLq22, hKq22⟩ := wt_q hG hLq21 hKq21 eq22
      have hKq22 : gK G q22 = 12 := hKq22
      refine r_getRN (k := 7) cx w hLq21 hKq21 (by decide) rfl wi_X12_place__X11 (by decide) rfl eq22 (nwF cx (q := (RX12, 329, "FlagAntsModel$State", "row", "[I", "FlagAntsModel")) (List.mem_of_getElem? (i := 26) rfl)) dX12_place__65 ?_
      refine lv_iload_n hx hb dX12_place__68 rfl (lv_at hl 2 rfl) ?_
      refine lv_iload_n hx hb dX12_place__69 rfl (lv_at hl 4 rfl) ?_
      obtain ⟨z23, h⟩ := x_ix h
      obtain ⟨M24, eM24, h⟩ := x_wI h
      refine r_iast cx w hLq22 hKq22 z23 dX12_place__70 eM24 (fun H locs w => ?_)
      refine lv_aload_n hx hb dX12_place__71 rfl (lv_at hl 1 rfl) ?_
      obtain ⟨q25, eq25, h⟩ := x_rf h
      obtain ⟨hLq25, hKq25⟩ := wt_q hG hL0 hK0 eq25
      have hKq25 : gK G q25 = 10 := hKq25
      refine r_getR (k := 13) cx w hL0 hK0 (by decide) rfl wi_X12_place__X12 (by decide) rfl eq25 (List.mem_of_getElem? (i := 2) rfl) dX12_place__72 ?_
      refine lv_iload_n hx hb dX12_place__75 rfl (lv_at hl 2 rfl) ?_
      obtain ⟨M26, r27, y28, h⟩ := x_cl h
      refine r_callVv (As := [.int c1]) (rest := []) cx w hkn hl.1 (k_X11_forget hG hLq25 hKq25 y28) (cwV 1 hts gX12_place__X11_forget rfl rfl rfl (by decide +kernel) ⟨Nat.le_of_ble_eq_true rfl, Nat.le_of_ble_eq_true rfl⟩) hLq25 hKq25 (by decide) rfl rfl rfl (Nat.le_of_ble_eq_true rfl) dX12_place__76 (fun H locs w => ?_)
      refine lv_iload hx hb dX12_place__79 (lv_at hl 0 rfl) ?_
      exact r_iret cx w h dX12_place__81
    · have h := x_t h k9
      exact b_X12_place__21 cx hkn hL0 hK0 M6 H locs ls h w (lv_sub hl [0] rfl)
-- X12_isPushed
abbrev rmX12_isPushed : Room := { frames := 1, cells := 0, slots := 0, locals := 22 }
def m_X12_isPushed_29 (G : gS) (c0 : Int32)  (M : mS)  : Option (mS × Int32) := o_ck ((1 : Int32) = 0 ∨ (1 : Int32) = 1) (some (M, (1 : Int32)))
def m_X12_isPushed (G : gS) (M : mS) (c0 : Int32) : Option (mS × Int32) := (if c0 = (42 : Int32) then m_X12_isPushed_29 G c0 M else o_cl (m_X12_isIn G M c0 (22 : Int32) (24 : Int32)) (fun M2 r3 => (if r3 = 0 then (if c0 = (26 : Int32) then m_X12_isPushed_29 G c0 M2 else (if c0 = (27 : Int32) then m_X12_isPushed_29 G c0 M2 else o_ck ((0 : Int32) = 0 ∨ (0 : Int32) = 1) (some (M2, (0 : Int32))))) else m_X12_isPushed_29 G c0 M2)))
set_option maxHeartbeats 4000000 in
set_option maxRecDepth 100000 in
theorem b_X12_isPushed_29 {p : Program} {e : Env} {s : State} {m : MethodId} {args : Array Value} {below : List Frame} {meth : Method} {c : Code} {A : Nat → Prop} {l : Launch} {D : va_G} {cy : cyS} {G : gS} (cx : cX p s m args meth c cX12_isPushed RX12 1 (some .boolean) wsX12_isPushed D cy G A) {k0 n0 : Nat} (hkn : k0 ≤ (rmX12_isPushed).cells ∧ n0 ≤ (rmX12_isPushed).slots) {M' : mS} {r : Int32} {c0 : Int32}   : ∀ (M : mS) (H : Heap) (locs : List Loc) (ls : Array Slot), m_X12_isPushed_29 G c0 M = some (M', r) → wd D cy G M A s.heap H locs → lv_has ls 1 [] → W p l e rmX12_isPushed s m args below meth c H locs k0 n0 (MQ below (va_Qi (fun (r' : Int32) (_ : Unit) => r' = r) (fun _ t => wOut D cy G M' t) A) args s k0 n0 A) (F0 m 29 ls []) := by
  obtain ⟨hx, hb, hml, hown, hts, hr, hlocks, hK, hA, hG, hsx⟩ := id cx
  intro M H locs ls h w hl
  unfold m_X12_isPushed_29 at h
  refine lv_iconst (v := (1 : Int32)) hx hb dX12_isPushed_29 (by decide) ?_
  refine lv_goto (tgt := 34) hx hb dX12_isPushed_30 (by decide) ?_
  obtain ⟨z1, h⟩ := x_ck h
  exact r_zret cx w z1 h dX12_isPushed_34
set_option maxHeartbeats 4000000 in
set_option maxRecDepth 100000 in
theorem k_X12_isPushed {l : Launch} {D : va_G} {cy : cyS} {G : gS} {M M' : mS} {r : Int32} {c0 : Int32} (hG : wt G)  (h : m_X12_isPushed G M c0 = some (M', r)) : ctI l yX12_isPushed wsX12_isPushed rmX12_isPushed D cy G M [.int c0] M' r := by
  unfold m_X12_isPushed at h
  refine ctI_of (cc := cX12_isPushed) (nL := 1) (ret := (some .boolean)) (lv := [(0, .int c0)]) hG (by decide) rfl ⟨rfl, rfl⟩ (Nat.le_of_ble_eq_true rfl) rfl ?_
  intro p e s m args below meth c A ls cx w hl
  obtain ⟨hx, hb, hml, hown, hts, hr, hlocks, hK, hA, -, hsx⟩ := id cx
  have hkn : 0 ≤ (rmX12_isPushed).cells ∧ 0 ≤ (rmX12_isPushed).slots := ⟨Nat.zero_le _, Nat.zero_le _⟩
  refine lv_iload_n hx hb dX12_isPushed_0 rfl (lv_at hl 0 rfl) ?_
  refine lv_bipush (v := (42 : Int32)) hx hb dX12_isPushed_1 (by decide) ?_
  refine lv_icmp_eq (tgt := 29) hx hb dX12_isPushed_3 (by decide) (fun k1 => ?_) (fun k1 => ?_)
  · have h := x_t h k1
    exact b_X12_isPushed_29 cx hkn M s.heap [] ls h w (lv_sub hl [] rfl)
  · have h := x_f h k1
    refine lv_iload_n hx hb dX12_isPushed_6 rfl (lv_at hl 0 rfl) ?_
    refine lv_bipush (v := (22 : Int32)) hx hb dX12_isPushed_7 (by decide) ?_
    refine lv_bipush (v := (24 : Int32)) hx hb dX12_isPushed_9 (by decide) ?_
    obtain ⟨M2, r3, y4, h⟩ := x_cl h
    refine r_callSi (As := [.int c0, .int ((22 : Int32)), .int ((24 : Int32))]) (rest := []) cx w hkn hl.1 (k_X12_isIn hG y4) (va_cwS 3 hts gX12_isPushed_X12_isIn rfl rfl rfl (by decide +kernel) ⟨Nat.le_of_ble_eq_true rfl, Nat.le_of_ble_eq_true rfl⟩) rfl rfl (Nat.le_of_ble_eq_true rfl) dX12_isPushed_11 (fun H locs w => ?_)
    refine lv_if_ne (tgt := 29) hx hb dX12_isPushed_14 (by decide) (fun k5 => ?_) (fun k5 => ?_)
    · have h := x_f h k5
      exact b_X12_isPushed_29 cx hkn M2 H locs ls h w (lv_sub hl [] rfl)
    · have h := x_t h k5
      refine lv_iload_n hx hb dX12_isPushed_17 rfl (lv_at hl 0 rfl) ?_
      refine lv_bipush (v := (26 : Int32)) hx hb dX12_isPushed_18 (by decide) ?_
      refine lv_icmp_eq (tgt := 29) hx hb dX12_isPushed_20 (by decide) (fun k6 => ?_) (fun k6 => ?_)
      · have h := x_t h k6
        exact b_X12_isPushed_29 cx hkn M2 H locs ls h w (lv_sub hl [] rfl)
      · have h := x_f h k6
        refine lv_iload_n hx hb dX12_isPushed_23 rfl (lv_at hl 0 rfl) ?_
        refine lv_bipush (v := (27 : Int32)) hx hb dX12_isPushed_24 (by decide) ?_
        refine lv_icmp_ne (tgt := 33) hx hb dX12_isPushed_26 (by decide) (fun k7 => ?_) (fun k7 => ?_)
        · have h := x_f h k7
          refine lv_iconst (v := (0 : Int32)) hx hb dX12_isPushed_33 (by decide) ?_
          obtain ⟨z8, h⟩ := x_ck h
          exact r_zret cx w z8 h dX12_isPushed_34
        · have h := x_t h k7
          exact b_X12_isPushed_29 cx hkn M2 H locs ls h w (lv_sub hl [] rfl)
-- X11_isAt
theorem wi_X11_isAt_X11 : ∀ w ∈ wsX110, w ∈ wsX11_isAt := by decide +kernel
abbrev rmX11_isAt : Room := { frames := 0, cells := 0, slots := 0, locals := 0 }
def m_X11_isAt_34 (G : gS) (a0 : Nat) (c1 : Int32) (c2 : Int32)  (M : mS)  : Option (mS × Int32) := o_ck ((0 : Int32) = 0 ∨ (0 : Int32) = 1) (some (M, (0 : Int32)))
def m_X11_isAt (G : gS) (M : mS) (a0 : Nat) (c1 : Int32) (c2 : Int32) : Option (mS × Int32) := o_rf (gP G a0 6) (fun q1 => o_ix c1 (gN G q1) (o_rf (gP G a0 6) (fun q3 => o_ix c2 (gN G q3) ((if (mI M q1 (Int32.toNatClampNeg c1)) = (mI M q3 (Int32.toNatClampNeg c2)) then o_rf (gP G a0 7) (fun q6 => o_ix c1 (gN G q6) (o_rf (gP G a0 7) (fun q8 => o_ix c2 (gN G q8) ((if (mI M q6 (Int32.toNatClampNeg c1)) = (mI M q8 (Int32.toNatClampNeg c2)) then o_ck ((1 : Int32) = 0 ∨ (1 : Int32) = 1) (some (M, (1 : Int32))) else m_X11_isAt_34 G a0 c1 c2 M))))) else m_X11_isAt_34 G a0 c1 c2 M)))))
set_option maxHeartbeats 4000000 in
set_option maxRecDepth 100000 in
theorem b_X11_isAt_34 {p : Program} {e : Env} {s : State} {m : MethodId} {args : Array Value} {below : List Frame} {meth : Method} {c : Code} {A : Nat → Prop} {l : Launch} {D : va_G} {cy : cyS} {G : gS} (cx : cX p s m args meth c cX11_isAt RX11 3 (some .boolean) wsX11_isAt D cy G A) {k0 n0 : Nat} (hkn : k0 ≤ (rmX11_isAt).cells ∧ n0 ≤ (rmX11_isAt).slots) {M' : mS} {r : Int32} {a0 : Nat} {c1 : Int32} {c2 : Int32} (hL0 : a0 ∈ gL G) (hK0 : gK G a0 = 10)  : ∀ (M : mS) (H : Heap) (locs : List Loc) (ls : Array Slot), m_X11_isAt_34 G a0 c1 c2 M = some (M', r) → wd D cy G M A s.heap H locs → lv_has ls 3 [] → W p l e rmX11_isAt s m args below meth c H locs k0 n0 (MQ below (va_Qi (fun (r' : Int32) (_ : Unit) => r' = r) (fun _ t => wOut D cy G M' t) A) args s k0 n0 A) (F0 m 34 ls []) := by
  obtain ⟨hx, hb, hml, hown, hts, hr, hlocks, hK, hA, hG, hsx⟩ := id cx
  intro M H locs ls h w hl
  unfold m_X11_isAt_34 at h
  refine lv_iconst (v := (0 : Int32)) hx hb dX11_isAt_34 (by decide) ?_
  obtain ⟨z1, h⟩ := x_ck h
  exact r_zret cx w z1 h dX11_isAt_35
set_option maxHeartbeats 4000000 in
set_option maxRecDepth 100000 in
theorem k_X11_isAt {l : Launch} {D : va_G} {cy : cyS} {G : gS} {M M' : mS} {r : Int32} {a0 : Nat} {c1 : Int32} {c2 : Int32} (hG : wt G) (hL0 : a0 ∈ gL G) (hK0 : gK G a0 = 10) (h : m_X11_isAt G M a0 c1 c2 = some (M', r)) : ctI l yX11_isAt wsX11_isAt rmX11_isAt D cy G M [.ref a0, .int c1, .int c2] M' r := by
  unfold m_X11_isAt at h
  refine ctI_of (cc := cX11_isAt) (nL := 3) (ret := (some .boolean)) (lv := [(0, .ref a0), (1, .int c1), (2, .int c2)]) hG (by decide) rfl ⟨rfl, rfl⟩ (Nat.le_of_ble_eq_true rfl) rfl ?_
  intro p e s m args below meth c A ls cx w hl
  obtain ⟨hx, hb, hml, hown, hts, hr, hlocks, hK, hA, -, hsx⟩ := id cx
  have hkn : 0 ≤ (rmX11_isAt).cells ∧ 0 ≤ (rmX11_isAt).slots := ⟨Nat.zero_le _, Nat.zero_le _⟩
  refine lv_aload_n hx hb dX11_isAt_0 rfl (lv_at hl 0 rfl) ?_
  obtain ⟨q1, eq1, h⟩ := x_rf h
  obtain ⟨hLq1, hKq1⟩ := wt_q hG hL0 hK0 eq1
  have hKq1 : gK G q1 = 12 := hKq1
  refine r_getR (k := 6) cx w hL0 hK0 (by decide) rfl wi_X11_isAt_X11 (by decide) rfl eq1 (List.mem_of_getElem? (i := 1) rfl) dX11_isAt_1 ?_
  refine lv_iload_n hx hb dX11_isAt_4 rfl (lv_at hl 1 rfl) ?_
  obtain ⟨z2, h⟩ := x_ix h
  refine r_iald cx w hLq1 hKq1 z2 dX11_isAt_5 ?_
  refine lv_aload_n hx hb dX11_isAt_6 rfl (lv_at hl 0 rfl) ?_
  obtain ⟨q3, eq3, h⟩ := x_rf h
  obtain ⟨hLq3, hKq3⟩ := wt_q hG hL0 hK0 eq3
  have hKq3 : gK G q3 = 12 := hKq3
  refine r_getR (k := 6) cx w hL0 hK0 (by decide) rfl wi_X11_isAt_X11 (by decide) rfl eq3 (List.mem_of_getElem? (i := 1) rfl) dX11_isAt_7 ?_
  refine lv_iload_n hx hb dX11_isAt_10 rfl (lv_at hl 2 rfl) ?_
  obtain ⟨z4, h⟩ := x_ix h
  refine r_iald cx w hLq3 hKq3 z4 dX11_isAt_11 ?_
  refine lv_icmp_ne (tgt := 34) hx hb dX11_isAt_12 (by decide) (fun k5 => ?_) (fun k5 => ?_)
  · have h := x_f h k5
    exact b_X11_isAt_34 cx hkn hL0 hK0 M s.heap [] ls h w (lv_sub hl [] rfl)
  · have h := x_t h k5
    refine lv_aload_n hx hb dX11_isAt_15 rfl (lv_at hl 0 rfl) ?_
    obtain ⟨q6, eq6, h⟩ := x_rf h
    obtain ⟨hLq6, hKq6⟩ := wt_q hG hL0 hK0 eq6
    have hKq6 : gK G q6 = 12 := hKq6
    refine r_getR (k := 7) cx w hL0 hK0 (by decide) rfl wi_X11_isAt_X11 (by decide) rfl eq6 (List.mem_of_getElem? (i := 2) rfl) dX11_isAt_16 ?_
    refine lv_iload_n hx hb dX11_isAt_19 rfl (lv_at hl 1 rfl) ?_
    obtain ⟨z7, h⟩ := x_ix h
    refine r_iald cx w hLq6 hKq6 z7 dX11_isAt_20 ?_
    refine lv_aload_n hx hb dX11_isAt_21 rfl (lv_at hl 0 rfl) ?_
    obtain ⟨q8, eq8, h⟩ := x_rf h
    obtain ⟨hLq8, hKq8⟩ := wt_q hG hL0 hK0 eq8
    have hKq8 : gK G q8 = 12 := hKq8
    refine r_getR (k := 7) cx w hL0 hK0 (by decide) rfl wi_X11_isAt_X11 (by decide) rfl eq8 (List.mem_of_getElem? (i := 2) rfl) dX11_isAt_22 ?_
    refine lv_iload_n hx hb dX11_isAt_25 rfl (lv_at hl 2 rfl) ?_
    obtain ⟨z9, h⟩ := x_ix h
    refine r_iald cx w hLq8 hKq8 z9 dX11_isAt_26 ?_
    refine lv_icmp_ne (tgt := 34) hx hb dX11_isAt_27 (by decide) (fun k10 => ?_) (fun k10 => ?_)
    · have h := x_f h k10
      exact b_X11_isAt_34 cx hkn hL0 hK0 M s.heap [] ls h w (lv_sub hl [] rfl)
    · have h := x_t h k10
      refine lv_iconst (v := (1 : Int32)) hx hb dX11_isAt_30 (by decide) ?_
      refine lv_goto (tgt := 35) hx hb dX11_isAt_31 (by decide) ?_
      obtain ⟨z11, h⟩ := x_ck h
      exact r_zret cx w z11 h dX11_isAt_35
-- X11_meets
theorem wi_X11_meets_X10 : ∀ w ∈ wsX100, w ∈ wsX11_meets := by decide +kernel
theorem wi_X11_meets_X11 : ∀ w ∈ wsX110, w ∈ wsX11_meets := by decide +kernel
theorem wi_X11_meets_X12 : ∀ w ∈ wsX120, w ∈ wsX11_meets := by decide +kernel
abbrev rmX11_meets : Room := { frames := 1, cells := 0, slots := 0, locals := 22 }
def m_X11_meets_32 (G : gS) (a0 : Nat) (c1 : Int32) (kb2 : mS → Int32 → Option (mS × Int32)) (M : mS) (v2 : Int32) : Option (mS × Int32) := o_bd (v2 + 1 : Int32) (fun x1 => kb2 M x1)
def m_X11_meets_2 (G : gS) (a0 : Nat) (c1 : Int32)  : Nat → mS → Int32 → Option (mS × Int32)
  | 0, _, _ => none
  | n + 1, M, v2 => o_rf (gP G a0 15) (fun q1 => o_rf (gP G q1 11) (fun q2 => (if (mI M q2 3) ≤ v2 then o_ck ((0 : Int32) = 0 ∨ (0 : Int32) = 1) (some (M, (0 : Int32))) else (if v2 = c1 then m_X11_meets_32 G a0 c1 (fun M v2 => m_X11_meets_2 G a0 c1 n M v2) M v2 else o_cl (m_X11_isAt G M a0 c1 v2) (fun M6 r7 => (if r7 = 0 then m_X11_meets_32 G a0 c1 (fun M v2 => m_X11_meets_2 G a0 c1 n M v2) M6 v2 else o_ck ((1 : Int32) = 0 ∨ (1 : Int32) = 1) (some (M6, (1 : Int32)))))))))
def m_X11_meets (G : gS) (M : mS) (a0 : Nat) (c1 : Int32) : Option (mS × Int32) := m_X11_meets_2 G a0 c1 fu M ((0 : Int32))
set_option maxHeartbeats 4000000 in
set_option maxRecDepth 100000 in
theorem b_X11_meets_32 {p : Program} {e : Env} {s : State} {m : MethodId} {args : Array Value} {below : List Frame} {meth : Method} {c : Code} {A : Nat → Prop} {l : Launch} {D : va_G} {cy : cyS} {G : gS} (cx : cX p s m args meth c cX11_meets RX11 3 (some .boolean) wsX11_meets D cy G A) {k0 n0 : Nat} (hkn : k0 ≤ (rmX11_meets).cells ∧ n0 ≤ (rmX11_meets).slots) {M' : mS} {r : Int32} {a0 : Nat} {c1 : Int32} (hL0 : a0 ∈ gL G) (hK0 : gK G a0 = 10) {kb2 : mS → Int32 → Option (mS × Int32)} (hkb2 : ∀ (M : mS) (v2 : Int32) (H : Heap) (locs : List Loc) (ls : Array Slot), kb2 M v2 = some (M', r) → wd D cy G M A s.heap H locs → lv_has ls 3 [(0, .ref a0), (1, .int c1), (2, .int v2)] → W p l e rmX11_meets s m args below meth c H locs k0 n0 (MQ below (va_Qi (fun (r' : Int32) (_ : Unit) => r' = r) (fun _ t => wOut D cy G M' t) A) args s k0 n0 A) (F0 m 2 ls [])) : ∀ (M : mS) (v2 : Int32) (H : Heap) (locs : List Loc) (ls : Array Slot), m_X11_meets_32 G a0 c1 kb2 M v2 = some (M', r) → wd D cy G M A s.heap H locs → lv_has ls 3 [(0, .ref a0), (1, .int c1), (2, .int v2)] → W p l e rmX11_meets s m args below meth c H locs k0 n0 (MQ below (va_Qi (fun (r' : Int32) (_ : Unit) => r' = r) (fun _ t => wOut D cy G M' t) A) args s k0 n0 A) (F0 m 32 ls []) := by
  obtain ⟨hx, hb, hml, hown, hts, hr, hlocks, hK, hA, hG, hsx⟩ := id cx
  intro M v2 H locs ls h w hl
  unfold m_X11_meets_32 at h
  obtain ⟨x1, ex1, h⟩ := x_bd h
  refine lv_iinc (v := x1) (lv' := [(2, .int x1), (0, .ref a0), (1, .int c1)]) hx hb dX11_meets_32 hl (k := 2) rfl (by rw [ex1]; rfl) (by decide) rfl (fun ls hl => ?_)
  refine lv_goto (tgt := 2) hx hb dX11_meets_35 (by decide) ?_
  exact hkb2 M x1 H locs ls h w (lv_sub hl [1, 2, 0] rfl)
set_option maxHeartbeats 4000000 in
set_option maxRecDepth 100000 in
theorem b_X11_meets_2 {p : Program} {e : Env} {s : State} {m : MethodId} {args : Array Value} {below : List Frame} {meth : Method} {c : Code} {A : Nat → Prop} {l : Launch} {D : va_G} {cy : cyS} {G : gS} (cx : cX p s m args meth c cX11_meets RX11 3 (some .boolean) wsX11_meets D cy G A) {k0 n0 : Nat} (hkn : k0 ≤ (rmX11_meets).cells ∧ n0 ≤ (rmX11_meets).slots) {M' : mS} {r : Int32} {a0 : Nat} {c1 : Int32} (hL0 : a0 ∈ gL G) (hK0 : gK G a0 = 10)  : ∀ (n : Nat), ∀ (M : mS) (v2 : Int32) (H : Heap) (locs : List Loc) (ls : Array Slot), m_X11_meets_2 G a0 c1 n M v2 = some (M', r) → wd D cy G M A s.heap H locs → lv_has ls 3 [(0, .ref a0), (1, .int c1), (2, .int v2)] → W p l e rmX11_meets s m args below meth c H locs k0 n0 (MQ below (va_Qi (fun (r' : Int32) (_ : Unit) => r' = r) (fun _ t => wOut D cy G M' t) A) args s k0 n0 A) (F0 m 2 ls []) := by
  obtain ⟨hx, hb, hml, hown, hts, hr, hlocks, hK, hA, hG, hsx⟩ := id cx
  intro n
  induction n with
  | zero =>
    intro M v2 H locs ls h w hl
    have h : none = some _ := h
    cases h
  | succ n ih =>
    intro M v2 H locs ls h w hl
    rw [m_X11_meets_2] at h
    refine lv_iload_n hx hb dX11_meets_2 rfl (lv_at hl 2 rfl) ?_
    refine lv_aload_n hx hb dX11_meets_3 rfl (lv_at hl 0 rfl) ?_
    obtain ⟨q1, eq1, h⟩ := x_rf h
    obtain ⟨hLq1, hKq1⟩ := wt_q hG hL0 hK0 eq1
    have hKq1 : gK G q1 = 11 := hKq1
    refine r_getR (k := 15) cx w hL0 hK0 (by decide) rfl wi_X11_meets_X11 (by decide) rfl eq1 (List.mem_of_getElem? (i := 1) rfl) dX11_meets_4 ?_
    obtain ⟨q2, eq2, h⟩ := x_rf h
    obtain ⟨hLq2, hKq2⟩ := wt_q hG hLq1 hKq1 eq2
    have hKq2 : gK G q2 = 9 := hKq2
    refine r_getRN (k := 11) cx w hLq1 hKq1 (by decide) rfl wi_X11_meets_X12 (by decide) rfl eq2 (nwF cx (q := (RX11, 72, "FlagAntsModel", "plan", "LFlagAntsModel$Plan;", "FlagAntsModel")) (List.mem_of_getElem? (i := 30) rfl)) dX11_meets_7 ?_
    refine r_getIN (k := 3) (v := .int (mI M q2 3)) cx w hLq2 hKq2 (by decide) rfl wi_X11_meets_X10 (by decide) rfl (nwF cx (q := (RX11, 106, "FlagAntsModel$Plan", "ants", "I", "FlagAntsModel")) (List.mem_of_getElem? (i := 38) rfl)) dX11_meets_10 ?_
    refine lv_icmp_ge (tgt := 38) hx hb dX11_meets_13 (by decide) (fun k3 => ?_) (fun k3 => ?_)
    · have h := x_t h k3
      refine lv_iconst (v := (0 : Int32)) hx hb dX11_meets_38 (by decide) ?_
      obtain ⟨z4, h⟩ := x_ck h
      exact r_zret cx w z4 h dX11_meets_39
    · have h := x_f h k3
      refine lv_iload_n hx hb dX11_meets_16 rfl (lv_at hl 2 rfl) ?_
      refine lv_iload_n hx hb dX11_meets_17 rfl (lv_at hl 1 rfl) ?_
      refine lv_icmp_eq (tgt := 32) hx hb dX11_meets_18 (by decide) (fun k5 => ?_) (fun k5 => ?_)
      · have h := x_t h k5
        exact b_X11_meets_32 cx hkn hL0 hK0 (hkb2 := ih) M v2 H locs ls h w (lv_sub hl [0, 1, 2] rfl)
      · have h := x_f h k5
        refine lv_aload_n hx hb dX11_meets_21 rfl (lv_at hl 0 rfl) ?_
        refine lv_iload_n hx hb dX11_meets_22 rfl (lv_at hl 1 rfl) ?_
        refine lv_iload_n hx hb dX11_meets_23 rfl (lv_at hl 2 rfl) ?_
        obtain ⟨M6, r7, y8, h⟩ := x_cl h
        refine r_callVi (As := [.int c1, .int v2]) (rest := []) cx w hkn hl.1 (k_X11_isAt hG hL0 hK0 y8) (cwV 2 hts gX11_meets_X11_isAt rfl rfl rfl (by decide +kernel) ⟨Nat.le_of_ble_eq_true rfl, Nat.le_of_ble_eq_true rfl⟩) hL0 hK0 (by decide) rfl rfl rfl (Nat.le_of_ble_eq_true rfl) dX11_meets_24 (fun H locs w => ?_)
        refine lv_if_eq (tgt := 32) hx hb dX11_meets_27 (by decide) (fun k9 => ?_) (fun k9 => ?_)
        · have h := x_t h k9
          exact b_X11_meets_32 cx hkn hL0 hK0 (hkb2 := ih) M6 v2 H locs ls h w (lv_sub hl [0, 1, 2] rfl)
        · have h := x_f h k9
          refine lv_iconst (v := (1 : Int32)) hx hb dX11_meets_30 (by decide) ?_
          obtain ⟨z10, h⟩ := x_ck h
          exact r_zret cx w z10 h dX11_meets_31
set_option maxHeartbeats 4000000 in
set_option maxRecDepth 100000 in
theorem k_X11_meets {l : Launch} {D : va_G} {cy : cyS} {G : gS} {M M' : mS} {r : Int32} {a0 : Nat} {c1 : Int32} (hG : wt G) (hL0 : a0 ∈ gL G) (hK0 : gK G a0 = 10) (h : m_X11_meets G M a0 c1 = some (M', r)) : ctI l yX11_meets wsX11_meets rmX11_meets D cy G M [.ref a0, .int c1] M' r := by
  unfold m_X11_meets at h
  refine ctI_of (cc := cX11_meets) (nL := 3) (ret := (some .boolean)) (lv := [(0, .ref a0), (1, .int c1)]) hG (by decide) rfl ⟨rfl, rfl⟩ (Nat.le_of_ble_eq_true rfl) rfl ?_
  intro p e s m args below meth c A ls cx w hl
  obtain ⟨hx, hb, hml, hown, hts, hr, hlocks, hK, hA, -, hsx⟩ := id cx
  have hkn : 0 ≤ (rmX11_meets).cells ∧ 0 ≤ (rmX11_meets).slots := ⟨Nat.zero_le _, Nat.zero_le _⟩
  refine lv_iconst (v := (0 : Int32)) hx hb dX11_meets_0 (by decide) ?_
  refine lv_istore_n (lv' := [(2, .int ((0 : Int32))), (0, .ref a0), (1, .int c1)]) hx hb dX11_meets_1 rfl hl (by decide) rfl (fun ls hl => ?_)
  exact b_X11_meets_2 cx hkn hL0 hK0 fu M ((0 : Int32)) s.heap [] ls h w (lv_sub hl [1, 2, 0] rfl)
-- X11_pushed
theorem wi_X11_pushed_X11 : ∀ w ∈ wsX110, w ∈ wsX11_pushed := by decide +kernel
abbrev rmX11_pushed : Room := { frames := 2, cells := 0, slots := 0, locals := 48 }
def m_X11_pushed (G : gS) (M : mS) (a0 : Nat) (c1 : Int32) (c2 : Int32) : Option (mS × Int32) := (if c1 = 22 then o_rf (gP G a0 6) (fun q2 => o_ix c2 (gN G q2) (some (M, (mI M q2 (Int32.toNatClampNeg c2))))) else if c1 = 23 then o_rf (gP G a0 7) (fun q5 => o_ix c2 (gN G q5) (some (M, (mI M q5 (Int32.toNatClampNeg c2))))) else if c1 = 24 then o_cl (m_X11_period G M a0 c2) (fun M8 r9 => some (M8, r9)) else if c1 = 26 then o_cl (m_X11_meets G M a0 c2) (fun M12 r13 => (if r13 = 0 then some (M12, (0 : Int32)) else some (M12, (1 : Int32)))) else if c1 = 42 then some (M, c2) else o_rf (gP G a0 9) (fun q17 => o_ix c2 (gN G q17) (some (M, (mI M q17 (Int32.toNatClampNeg c2))))))
set_option maxHeartbeats 4000000 in
set_option maxRecDepth 100000 in
theorem k_X11_pushed {l : Launch} {D : va_G} {cy : cyS} {G : gS} {M M' : mS} {r : Int32} {a0 : Nat} {c1 : Int32} {c2 : Int32} (hG : wt G) (hL0 : a0 ∈ gL G) (hK0 : gK G a0 = 10) (h : m_X11_pushed G M a0 c1 c2 = some (M', r)) : ctI l yX11_pushed wsX11_pushed rmX11_pushed D cy G M [.ref a0, .int c1, .int c2] M' r := by
  unfold m_X11_pushed at h
  refine ctI_of (cc := cX11_pushed) (nL := 3) (ret := (some .int)) (lv := [(0, .ref a0), (1, .int c1), (2, .int c2)]) hG (by decide) rfl ⟨rfl, rfl⟩ (Nat.le_of_ble_eq_true rfl) rfl ?_
  intro p e s m args below meth c A ls cx w hl
  obtain ⟨hx, hb, hml, hown, hts, hr, hlocks, hK, hA, -, hsx⟩ := id cx
  have hkn : 0 ≤ (rmX11_pushed).cells ∧ 0 ≤ (rmX11_pushed).slots := ⟨Nat.zero_le _, Nat.zero_le _⟩
  refine lv_iload_n hx hb dX11_pushed_0 rfl (lv_at hl 1 rfl) ?_
  rcases Decidable.em (c1 = 22) with k1 | k1
  · have h := x_t h k1
    rw [k1]
    refine lv_lookup (tgt := 54) hx hb dX11_pushed_1 (by decide) rfl (by decide) ?_
    refine lv_aload_n hx hb dX11_pushed_54 rfl (lv_at hl 0 rfl) ?_
    obtain ⟨q2, eq2, h⟩ := x_rf h
    obtain ⟨hLq2, hKq2⟩ := wt_q hG hL0 hK0 eq2
    have hKq2 : gK G q2 = 12 := hKq2
    refine r_getR (k := 6) cx w hL0 hK0 (by decide) rfl wi_X11_pushed_X11 (by decide) rfl eq2 (List.mem_of_getElem? (i := 1) rfl) dX11_pushed_55 ?_
    refine lv_iload_n hx hb dX11_pushed_58 rfl (lv_at hl 2 rfl) ?_
    obtain ⟨z3, h⟩ := x_ix h
    refine r_iald cx w hLq2 hKq2 z3 dX11_pushed_59 ?_
    exact r_iret cx w h dX11_pushed_60
  · have h := x_f h k1
    rcases Decidable.em (c1 = 23) with k4 | k4
    · have h := x_t h k4
      rw [k4]
      refine lv_lookup (tgt := 61) hx hb dX11_pushed_1 (by decide) rfl (by decide) ?_
      refine lv_aload_n hx hb dX11_pushed_61 rfl (lv_at hl 0 rfl) ?_
      obtain ⟨q5, eq5, h⟩ := x_rf h
      obtain ⟨hLq5, hKq5⟩ := wt_q hG hL0 hK0 eq5
      have hKq5 : gK G q5 = 12 := hKq5
      refine r_getR (k := 7) cx w hL0 hK0 (by decide) rfl wi_X11_pushed_X11 (by decide) rfl eq5 (List.mem_of_getElem? (i := 2) rfl) dX11_pushed_62 ?_
      refine lv_iload_n hx hb dX11_pushed_65 rfl (lv_at hl 2 rfl) ?_
      obtain ⟨z6, h⟩ := x_ix h
      refine r_iald cx w hLq5 hKq5 z6 dX11_pushed_66 ?_
      exact r_iret cx w h dX11_pushed_67
    · have h := x_f h k4
      rcases Decidable.em (c1 = 24) with k7 | k7
      · have h := x_t h k7
        rw [k7]
        refine lv_lookup (tgt := 68) hx hb dX11_pushed_1 (by decide) rfl (by decide) ?_
        refine lv_aload_n hx hb dX11_pushed_68 rfl (lv_at hl 0 rfl) ?_
        refine lv_iload_n hx hb dX11_pushed_69 rfl (lv_at hl 2 rfl) ?_
        obtain ⟨M8, r9, y10, h⟩ := x_cl h
        refine r_callVi (As := [.int c2]) (rest := []) cx w hkn hl.1 (k_X11_period hG hL0 hK0 y10) (cwV 1 hts gX11_pushed_X11_period rfl rfl rfl (by decide +kernel) ⟨Nat.le_of_ble_eq_true rfl, Nat.le_of_ble_eq_true rfl⟩) hL0 hK0 (by decide) rfl rfl rfl (Nat.le_of_ble_eq_true rfl) dX11_pushed_70 (fun H locs w => ?_)
        exact r_iret cx w h dX11_pushed_73
      · have h := x_f h k7
        rcases Decidable.em (c1 = 26) with k11 | k11
        · have h := x_t h k11
          rw [k11]
          refine lv_lookup (tgt := 74) hx hb dX11_pushed_1 (by decide) rfl (by decide) ?_
          refine lv_aload_n hx hb dX11_pushed_74 rfl (lv_at hl 0 rfl) ?_
          refine lv_iload_n hx hb dX11_pushed_75 rfl (lv_at hl 2 rfl) ?_
          obtain ⟨M12, r13, y14, h⟩ := x_cl h
          refine r_callVi (As := [.int c2]) (rest := []) cx w hkn hl.1 (k_X11_meets hG hL0 hK0 y14) (cwV 1 hts gX11_pushed_X11_meets rfl rfl rfl (by decide +kernel) ⟨Nat.le_of_ble_eq_true rfl, Nat.le_of_ble_eq_true rfl⟩) hL0 hK0 (by decide) rfl rfl rfl (Nat.le_of_ble_eq_true rfl) dX11_pushed_76 (fun H locs w => ?_)
          refine lv_if_eq (tgt := 86) hx hb dX11_pushed_79 (by decide) (fun k15 => ?_) (fun k15 => ?_)
          · have h := x_t h k15
            refine lv_iconst (v := (0 : Int32)) hx hb dX11_pushed_86 (by decide) ?_
            exact r_iret cx w h dX11_pushed_87
          · have h := x_f h k15
            refine lv_iconst (v := (1 : Int32)) hx hb dX11_pushed_82 (by decide) ?_
            refine lv_goto (tgt := 87) hx hb dX11_pushed_83 (by decide) ?_
            exact r_iret cx w h dX11_pushed_87
        · have h := x_f h k11
          rcases Decidable.em (c1 = 42) with k16 | k16
          · have h := x_t h k16
            rw [k16]
            refine lv_lookup (tgt := 52) hx hb dX11_pushed_1 (by decide) rfl (by decide) ?_
            refine lv_iload_n hx hb dX11_pushed_52 rfl (lv_at hl 2 rfl) ?_
            exact r_iret cx w h dX11_pushed_53
          · have h := x_f h k16
            refine lv_lookup (tgt := 88) hx hb dX11_pushed_1 (by decide) (off := 87) (by have nk1 : ¬ (22 = Int32.toInt c1) := fun hh => k1 (Int32.toInt_inj.mp hh.symm); have nk4 : ¬ (23 = Int32.toInt c1) := fun hh => k4 (Int32.toInt_inj.mp hh.symm); have nk7 : ¬ (24 = Int32.toInt c1) := fun hh => k7 (Int32.toInt_inj.mp hh.symm); have nk11 : ¬ (26 = Int32.toInt c1) := fun hh => k11 (Int32.toInt_inj.mp hh.symm); have nk16 : ¬ (42 = Int32.toInt c1) := fun hh => k16 (Int32.toInt_inj.mp hh.symm); simp [Op.lookupswitch.offset, nk1, nk4, nk7, nk11, nk16]) (by decide) ?_
            refine lv_aload_n hx hb dX11_pushed_88 rfl (lv_at hl 0 rfl) ?_
            obtain ⟨q17, eq17, h⟩ := x_rf h
            obtain ⟨hLq17, hKq17⟩ := wt_q hG hL0 hK0 eq17
            have hKq17 : gK G q17 = 12 := hKq17
            refine r_getR (k := 9) cx w hL0 hK0 (by decide) rfl wi_X11_pushed_X11 (by decide) rfl eq17 (List.mem_of_getElem? (i := 3) rfl) dX11_pushed_89 ?_
            refine lv_iload_n hx hb dX11_pushed_92 rfl (lv_at hl 2 rfl) ?_
            obtain ⟨z18, h⟩ := x_ix h
            refine r_iald cx w hLq17 hKq17 z18 dX11_pushed_93 ?_
            exact r_iret cx w h dX11_pushed_94
-- X12_both
abbrev rmX12_both : Room := { frames := 1, cells := 0, slots := 0, locals := 60 }
def m_X12_both (G : gS) (M : mS) (c0 : Int32) (c1 : Int32) (c2 : Int32) : Option (mS × Int32) := (if c0 = 29 then some (M, (c1 &&& c2)) else if c0 = 30 then some (M, (c1 ||| c2)) else if c0 = 31 then some (M, (if c2 < c1 then c2 else c1)) else if c0 = 32 then some (M, (if c1 < c2 then c2 else c1)) else if c0 = 33 then some (M, (c1 ||| c2)) else if c0 = 34 then some (M, (c1 ||| c2)) else if c0 = 35 then some (M, (c1 ||| c2)) else if c0 = 36 then some (M, (c1 ||| c2)) else if c0 = 37 then some (M, (c1 ||| c2)) else if c0 = 38 then some (M, (c1 ||| c2)) else if c0 = 39 then some (M, (c1 ||| c2)) else if c0 = 40 then some (M, (c1 ||| c2)) else if c0 = 41 then some (M, (c1 ||| c2)) else if c0 = 42 then some (M, (c1 ||| c2)) else if c0 = 43 then some (M, (c1 ||| c2)) else if c0 = 44 then some (M, (c1 + c2)) else if c0 = 45 then some (M, (c1 - c2)) else if c0 = 46 then some (M, (c1 * c2)) else if c0 = 47 then (if c2 = 0 then some (M, (0 : Int32)) else o_ck (¬ c2 = 0) (some (M, (c1 / c2)))) else if c0 = 48 then (if c2 ≤ c1 then some (M, (0 : Int32)) else some (M, (1 : Int32))) else if c0 = 49 then (if c1 ≤ c2 then some (M, (0 : Int32)) else some (M, (1 : Int32))) else if c0 = 50 then some (M, (c1 ||| c2)) else if c0 = 51 then (if c1 = c2 then some (M, (1 : Int32)) else some (M, (0 : Int32))) else if c0 = 52 then (if c2 < c1 then some (M, (0 : Int32)) else some (M, (1 : Int32))) else if c0 = 53 then (if c1 < c2 then some (M, (0 : Int32)) else some (M, (1 : Int32))) else some (M, (c1 ||| c2)))
set_option maxHeartbeats 4000000 in
set_option maxRecDepth 100000 in
theorem k_X12_both {l : Launch} {D : va_G} {cy : cyS} {G : gS} {M M' : mS} {r : Int32} {c0 : Int32} {c1 : Int32} {c2 : Int32} (hG : wt G)  (h : m_X12_both G M c0 c1 c2 = some (M', r)) : ctI l yX12_both wsX12_both rmX12_both D cy G M [.int c0, .int c1, .int c2] M' r := by
  unfold m_X12_both at h
  refine ctI_of (cc := cX12_both) (nL := 3) (ret := (some .int)) (lv := [(0, .int c0), (1, .int c1), (2, .int c2)]) hG (by decide) rfl ⟨rfl, rfl⟩ (Nat.le_of_ble_eq_true rfl) rfl ?_
  intro p e s m args below meth c A ls cx w hl
  obtain ⟨hx, hb, hml, hown, hts, hr, hlocks, hK, hA, -, hsx⟩ := id cx
  have hkn : 0 ≤ (rmX12_both).cells ∧ 0 ≤ (rmX12_both).slots := ⟨Nat.zero_le _, Nat.zero_le _⟩
  refine lv_iload_n hx hb dX12_both_0 rfl (lv_at hl 0 rfl) ?_
  rcases Decidable.em (c0 = 29) with k1 | k1
  · have h := x_t h k1
    rw [k1]
    refine lv_tableIn (tgt := 207) hx hb dX12_both_1 (by decide) (by decide) rfl (by decide) ?_
    refine lv_iload_n hx hb dX12_both_207 rfl (lv_at hl 1 rfl) ?_
    refine lv_iload_n hx hb dX12_both_208 rfl (lv_at hl 2 rfl) ?_
    refine lv_iand hx hb dX12_both_209 ?_
    exact r_iret cx w h dX12_both_210
  · have h := x_f h k1
    rcases Decidable.em (c0 = 30) with k2 | k2
    · have h := x_t h k2
      rw [k2]
      refine lv_tableIn (tgt := 211) hx hb dX12_both_1 (by decide) (by decide) rfl (by decide) ?_
      refine lv_iload_n hx hb dX12_both_211 rfl (lv_at hl 1 rfl) ?_
      refine lv_iload_n hx hb dX12_both_212 rfl (lv_at hl 2 rfl) ?_
      refine lv_ior hx hb dX12_both_213 ?_
      exact r_iret cx w h dX12_both_214
    · have h := x_f h k2
      rcases Decidable.em (c0 = 31) with k3 | k3
      · have h := x_t h k3
        rw [k3]
        refine lv_tableIn (tgt := 140) hx hb dX12_both_1 (by decide) (by decide) rfl (by decide) ?_
        refine lv_iload_n hx hb dX12_both_140 rfl (lv_at hl 1 rfl) ?_
        refine lv_iload_n hx hb dX12_both_141 rfl (lv_at hl 2 rfl) ?_
        refine va_mmin hx hb (hml.trans hl.1.symm) hown (hts _ (List.mem_of_getElem? (i := 1) rfl)) (hts _ (List.mem_of_getElem? (i := 2) rfl)) (hts _ (List.mem_of_getElem? (i := 3) rfl)) (hts _ (List.mem_of_getElem? (i := 4) rfl)) (Nat.le_of_ble_eq_true rfl) (Nat.le_of_ble_eq_true rfl) hkn.1 hkn.2 dX12_both_142 ?_
        exact r_iret cx w h dX12_both_145
      · have h := x_f h k3
        rcases Decidable.em (c0 = 32) with k4 | k4
        · have h := x_t h k4
          rw [k4]
          refine lv_tableIn (tgt := 146) hx hb dX12_both_1 (by decide) (by decide) rfl (by decide) ?_
          refine lv_iload_n hx hb dX12_both_146 rfl (lv_at hl 1 rfl) ?_
          refine lv_iload_n hx hb dX12_both_147 rfl (lv_at hl 2 rfl) ?_
          refine va_mmax hx hb (hml.trans hl.1.symm) hown (hts _ (List.mem_of_getElem? (i := 5) rfl)) (hts _ (List.mem_of_getElem? (i := 6) rfl)) (hts _ (List.mem_of_getElem? (i := 3) rfl)) (hts _ (List.mem_of_getElem? (i := 7) rfl)) (Nat.le_of_ble_eq_true rfl) (Nat.le_of_ble_eq_true rfl) hkn.1 hkn.2 dX12_both_148 ?_
          exact r_iret cx w h dX12_both_151
        · have h := x_f h k4
          rcases Decidable.em (c0 = 33) with k5 | k5
          · have h := x_t h k5
            rw [k5]
            refine lv_tableIn (tgt := 211) hx hb dX12_both_1 (by decide) (by decide) rfl (by decide) ?_
            refine lv_iload_n hx hb dX12_both_211 rfl (lv_at hl 1 rfl) ?_
            refine lv_iload_n hx hb dX12_both_212 rfl (lv_at hl 2 rfl) ?_
            refine lv_ior hx hb dX12_both_213 ?_
            exact r_iret cx w h dX12_both_214
          · have h := x_f h k5
            rcases Decidable.em (c0 = 34) with k6 | k6
            · have h := x_t h k6
              rw [k6]
              refine lv_tableIn (tgt := 211) hx hb dX12_both_1 (by decide) (by decide) rfl (by decide) ?_
              refine lv_iload_n hx hb dX12_both_211 rfl (lv_at hl 1 rfl) ?_
              refine lv_iload_n hx hb dX12_both_212 rfl (lv_at hl 2 rfl) ?_
              refine lv_ior hx hb dX12_both_213 ?_
              exact r_iret cx w h dX12_both_214
            · have h := x_f h k6
              rcases Decidable.em (c0 = 35) with k7 | k7
              · have h := x_t h k7
                rw [k7]
                refine lv_tableIn (tgt := 211) hx hb dX12_both_1 (by decide) (by decide) rfl (by decide) ?_
                refine lv_iload_n hx hb dX12_both_211 rfl (lv_at hl 1 rfl) ?_
                refine lv_iload_n hx hb dX12_both_212 rfl (lv_at hl 2 rfl) ?_
                refine lv_ior hx hb dX12_both_213 ?_
                exact r_iret cx w h dX12_both_214
              · have h := x_f h k7
                rcases Decidable.em (c0 = 36) with k8 | k8
                · have h := x_t h k8
                  rw [k8]
                  refine lv_tableIn (tgt := 211) hx hb dX12_both_1 (by decide) (by decide) rfl (by decide) ?_
                  refine lv_iload_n hx hb dX12_both_211 rfl (lv_at hl 1 rfl) ?_
                  refine lv_iload_n hx hb dX12_both_212 rfl (lv_at hl 2 rfl) ?_
                  refine lv_ior hx hb dX12_both_213 ?_
                  exact r_iret cx w h dX12_both_214
                · have h := x_f h k8
                  rcases Decidable.em (c0 = 37) with k9 | k9
                  · have h := x_t h k9
                    rw [k9]
                    refine lv_tableIn (tgt := 211) hx hb dX12_both_1 (by decide) (by decide) rfl (by decide) ?_
                    refine lv_iload_n hx hb dX12_both_211 rfl (lv_at hl 1 rfl) ?_
                    refine lv_iload_n hx hb dX12_both_212 rfl (lv_at hl 2 rfl) ?_
                    refine lv_ior hx hb dX12_both_213 ?_
                    exact r_iret cx w h dX12_both_214
                  · have h := x_f h k9
                    rcases Decidable.em (c0 = 38) with k10 | k10
                    · have h := x_t h k10
                      rw [k10]
                      refine lv_tableIn (tgt := 211) hx hb dX12_both_1 (by decide) (by decide) rfl (by decide) ?_
                      refine lv_iload_n hx hb dX12_both_211 rfl (lv_at hl 1 rfl) ?_
                      refine lv_iload_n hx hb dX12_both_212 rfl (lv_at hl 2 rfl) ?_
                      refine lv_ior hx hb dX12_both_213 ?_
                      exact r_iret cx w h dX12_both_214
                    · have h := x_f h k10
                      rcases Decidable.em (c0 = 39) with k11 | k11
                      · have h := x_t h k11
                        rw [k11]
                        refine lv_tableIn (tgt := 211) hx hb dX12_both_1 (by decide) (by decide) rfl (by decide) ?_
                        refine lv_iload_n hx hb dX12_both_211 rfl (lv_at hl 1 rfl) ?_
                        refine lv_iload_n hx hb dX12_both_212 rfl (lv_at hl 2 rfl) ?_
                        refine lv_ior hx hb dX12_both_213 ?_
                        exact r_iret cx w h dX12_both_214
                      · have h := x_f h k11
                        rcases Decidable.em (c0 = 40) with k12 | k12
                        · have h := x_t h k12
                          rw [k12]
                          refine lv_tableIn (tgt := 211) hx hb dX12_both_1 (by decide) (by decide) rfl (by decide) ?_
                          refine lv_iload_n hx hb dX12_both_211 rfl (lv_at hl 1 rfl) ?_
                          refine lv_iload_n hx hb dX12_both_212 rfl (lv_at hl 2 rfl) ?_
                          refine lv_ior hx hb dX12_both_213 ?_
                          exact r_iret cx w h dX12_both_214
                        · have h := x_f h k12
                          rcases Decidable.em (c0 = 41) with k13 | k13
                          · have h := x_t h k13
                            rw [k13]
                            refine lv_tableIn (tgt := 211) hx hb dX12_both_1 (by decide) (by decide) rfl (by decide) ?_
                            refine lv_iload_n hx hb dX12_both_211 rfl (lv_at hl 1 rfl) ?_
                            refine lv_iload_n hx hb dX12_both_212 rfl (lv_at hl 2 rfl) ?_
                            refine lv_ior hx hb dX12_both_213 ?_
                            exact r_iret cx w h dX12_both_214
                          · have h := x_f h k13
                            rcases Decidable.em (c0 = 42) with k14 | k14
                            · have h := x_t h k14
                              rw [k14]
                              refine lv_tableIn (tgt := 211) hx hb dX12_both_1 (by decide) (by decide) rfl (by decide) ?_
                              refine lv_iload_n hx hb dX12_both_211 rfl (lv_at hl 1 rfl) ?_
                              refine lv_iload_n hx hb dX12_both_212 rfl (lv_at hl 2 rfl) ?_
                              refine lv_ior hx hb dX12_both_213 ?_
                              exact r_iret cx w h dX12_both_214
                            · have h := x_f h k14
                              rcases Decidable.em (c0 = 43) with k15 | k15
                              · have h := x_t h k15
                                rw [k15]
                                refine lv_tableIn (tgt := 211) hx hb dX12_both_1 (by decide) (by decide) rfl (by decide) ?_
                                refine lv_iload_n hx hb dX12_both_211 rfl (lv_at hl 1 rfl) ?_
                                refine lv_iload_n hx hb dX12_both_212 rfl (lv_at hl 2 rfl) ?_
                                refine lv_ior hx hb dX12_both_213 ?_
                                exact r_iret cx w h dX12_both_214
                              · have h := x_f h k15
                                rcases Decidable.em (c0 = 44) with k16 | k16
                                · have h := x_t h k16
                                  rw [k16]
                                  refine lv_tableIn (tgt := 116) hx hb dX12_both_1 (by decide) (by decide) rfl (by decide) ?_
                                  refine lv_iload_n hx hb dX12_both_116 rfl (lv_at hl 1 rfl) ?_
                                  refine lv_iload_n hx hb dX12_both_117 rfl (lv_at hl 2 rfl) ?_
                                  refine lv_iadd hx hb dX12_both_118 ?_
                                  exact r_iret cx w h dX12_both_119
                                · have h := x_f h k16
                                  rcases Decidable.em (c0 = 45) with k17 | k17
                                  · have h := x_t h k17
                                    rw [k17]
                                    refine lv_tableIn (tgt := 120) hx hb dX12_both_1 (by decide) (by decide) rfl (by decide) ?_
                                    refine lv_iload_n hx hb dX12_both_120 rfl (lv_at hl 1 rfl) ?_
                                    refine lv_iload_n hx hb dX12_both_121 rfl (lv_at hl 2 rfl) ?_
                                    refine lv_isub hx hb dX12_both_122 ?_
                                    exact r_iret cx w h dX12_both_123
                                  · have h := x_f h k17
                                    rcases Decidable.em (c0 = 46) with k18 | k18
                                    · have h := x_t h k18
                                      rw [k18]
                                      refine lv_tableIn (tgt := 124) hx hb dX12_both_1 (by decide) (by decide) rfl (by decide) ?_
                                      refine lv_iload_n hx hb dX12_both_124 rfl (lv_at hl 1 rfl) ?_
                                      refine lv_iload_n hx hb dX12_both_125 rfl (lv_at hl 2 rfl) ?_
                                      refine lv_imul hx hb dX12_both_126 ?_
                                      exact r_iret cx w h dX12_both_127
                                    · have h := x_f h k18
                                      rcases Decidable.em (c0 = 47) with k19 | k19
                                      · have h := x_t h k19
                                        rw [k19]
                                        refine lv_tableIn (tgt := 128) hx hb dX12_both_1 (by decide) (by decide) rfl (by decide) ?_
                                        refine lv_iload_n hx hb dX12_both_128 rfl (lv_at hl 2 rfl) ?_
                                        refine lv_if_ne (tgt := 136) hx hb dX12_both_129 (by decide) (fun k20 => ?_) (fun k20 => ?_)
                                        · have h := x_f h k20
                                          refine lv_iload_n hx hb dX12_both_136 rfl (lv_at hl 1 rfl) ?_
                                          refine lv_iload_n hx hb dX12_both_137 rfl (lv_at hl 2 rfl) ?_
                                          obtain ⟨z21, h⟩ := x_ck h
                                          refine lv_idiv hx hb dX12_both_138 z21 ?_
                                          exact r_iret cx w h dX12_both_139
                                        · have h := x_t h k20
                                          refine lv_iconst (v := (0 : Int32)) hx hb dX12_both_132 (by decide) ?_
                                          refine lv_goto (tgt := 139) hx hb dX12_both_133 (by decide) ?_
                                          exact r_iret cx w h dX12_both_139
                                      · have h := x_f h k19
                                        rcases Decidable.em (c0 = 48) with k22 | k22
                                        · have h := x_t h k22
                                          rw [k22]
                                          refine lv_tableIn (tgt := 152) hx hb dX12_both_1 (by decide) (by decide) rfl (by decide) ?_
                                          refine lv_iload_n hx hb dX12_both_152 rfl (lv_at hl 1 rfl) ?_
                                          refine lv_iload_n hx hb dX12_both_153 rfl (lv_at hl 2 rfl) ?_
                                          refine lv_icmp_ge (tgt := 161) hx hb dX12_both_154 (by decide) (fun k23 => ?_) (fun k23 => ?_)
                                          · have h := x_t h k23
                                            refine lv_iconst (v := (0 : Int32)) hx hb dX12_both_161 (by decide) ?_
                                            exact r_iret cx w h dX12_both_162
                                          · have h := x_f h k23
                                            refine lv_iconst (v := (1 : Int32)) hx hb dX12_both_157 (by decide) ?_
                                            refine lv_goto (tgt := 162) hx hb dX12_both_158 (by decide) ?_
                                            exact r_iret cx w h dX12_both_162
                                        · have h := x_f h k22
                                          rcases Decidable.em (c0 = 49) with k24 | k24
                                          · have h := x_t h k24
                                            rw [k24]
                                            refine lv_tableIn (tgt := 163) hx hb dX12_both_1 (by decide) (by decide) rfl (by decide) ?_
                                            refine lv_iload_n hx hb dX12_both_163 rfl (lv_at hl 1 rfl) ?_
                                            refine lv_iload_n hx hb dX12_both_164 rfl (lv_at hl 2 rfl) ?_
                                            refine lv_icmp_le (tgt := 172) hx hb dX12_both_165 (by decide) (fun k25 => ?_) (fun k25 => ?_)
                                            · have h := x_t h k25
                                              refine lv_iconst (v := (0 : Int32)) hx hb dX12_both_172 (by decide) ?_
                                              exact r_iret cx w h dX12_both_173
                                            · have h := x_f h k25
                                              refine lv_iconst (v := (1 : Int32)) hx hb dX12_both_168 (by decide) ?_
                                              refine lv_goto (tgt := 173) hx hb dX12_both_169 (by decide) ?_
                                              exact r_iret cx w h dX12_both_173
                                          · have h := x_f h k24
                                            rcases Decidable.em (c0 = 50) with k26 | k26
                                            · have h := x_t h k26
                                              rw [k26]
                                              refine lv_tableIn (tgt := 211) hx hb dX12_both_1 (by decide) (by decide) rfl (by decide) ?_
                                              refine lv_iload_n hx hb dX12_both_211 rfl (lv_at hl 1 rfl) ?_
                                              refine lv_iload_n hx hb dX12_both_212 rfl (lv_at hl 2 rfl) ?_
                                              refine lv_ior hx hb dX12_both_213 ?_
                                              exact r_iret cx w h dX12_both_214
                                            · have h := x_f h k26
                                              rcases Decidable.em (c0 = 51) with k27 | k27
                                              · have h := x_t h k27
                                                rw [k27]
                                                refine lv_tableIn (tgt := 174) hx hb dX12_both_1 (by decide) (by decide) rfl (by decide) ?_
                                                refine lv_iload_n hx hb dX12_both_174 rfl (lv_at hl 1 rfl) ?_
                                                refine lv_iload_n hx hb dX12_both_175 rfl (lv_at hl 2 rfl) ?_
                                                refine lv_icmp_ne (tgt := 183) hx hb dX12_both_176 (by decide) (fun k28 => ?_) (fun k28 => ?_)
                                                · have h := x_f h k28
                                                  refine lv_iconst (v := (0 : Int32)) hx hb dX12_both_183 (by decide) ?_
                                                  exact r_iret cx w h dX12_both_184
                                                · have h := x_t h k28
                                                  refine lv_iconst (v := (1 : Int32)) hx hb dX12_both_179 (by decide) ?_
                                                  refine lv_goto (tgt := 184) hx hb dX12_both_180 (by decide) ?_
                                                  exact r_iret cx w h dX12_both_184
                                              · have h := x_f h k27
                                                rcases Decidable.em (c0 = 52) with k29 | k29
                                                · have h := x_t h k29
                                                  rw [k29]
                                                  refine lv_tableIn (tgt := 185) hx hb dX12_both_1 (by decide) (by decide) rfl (by decide) ?_
                                                  refine lv_iload_n hx hb dX12_both_185 rfl (lv_at hl 1 rfl) ?_
                                                  refine lv_iload_n hx hb dX12_both_186 rfl (lv_at hl 2 rfl) ?_
                                                  refine lv_icmp_gt (tgt := 194) hx hb dX12_both_187 (by decide) (fun k30 => ?_) (fun k30 => ?_)
                                                  · have h := x_t h k30
                                                    refine lv_iconst (v := (0 : Int32)) hx hb dX12_both_194 (by decide) ?_
                                                    exact r_iret cx w h dX12_both_195
                                                  · have h := x_f h k30
                                                    refine lv_iconst (v := (1 : Int32)) hx hb dX12_both_190 (by decide) ?_
                                                    refine lv_goto (tgt := 195) hx hb dX12_both_191 (by decide) ?_
                                                    exact r_iret cx w h dX12_both_195
                                                · have h := x_f h k29
                                                  rcases Decidable.em (c0 = 53) with k31 | k31
                                                  · have h := x_t h k31
                                                    rw [k31]
                                                    refine lv_tableIn (tgt := 196) hx hb dX12_both_1 (by decide) (by decide) rfl (by decide) ?_
                                                    refine lv_iload_n hx hb dX12_both_196 rfl (lv_at hl 1 rfl) ?_
                                                    refine lv_iload_n hx hb dX12_both_197 rfl (lv_at hl 2 rfl) ?_
                                                    refine lv_icmp_lt (tgt := 205) hx hb dX12_both_198 (by decide) (fun k32 => ?_) (fun k32 => ?_)
                                                    · have h := x_t h k32
                                                      refine lv_iconst (v := (0 : Int32)) hx hb dX12_both_205 (by decide) ?_
                                                      exact r_iret cx w h dX12_both_206
                                                    · have h := x_f h k32
                                                      refine lv_iconst (v := (1 : Int32)) hx hb dX12_both_201 (by decide) ?_
                                                      refine lv_goto (tgt := 206) hx hb dX12_both_202 (by decide) ?_
                                                      exact r_iret cx w h dX12_both_206
                                                  · have h := x_f h k31
                                                    refine lv_tableOut (tgt := 211) hx hb dX12_both_1 (by have nk1 : Int32.toInt c0 ≠ 29 := fun hh => k1 (Int32.toInt_inj.mp hh); have nk2 : Int32.toInt c0 ≠ 30 := fun hh => k2 (Int32.toInt_inj.mp hh); have nk3 : Int32.toInt c0 ≠ 31 := fun hh => k3 (Int32.toInt_inj.mp hh); have nk4 : Int32.toInt c0 ≠ 32 := fun hh => k4 (Int32.toInt_inj.mp hh); have nk5 : Int32.toInt c0 ≠ 33 := fun hh => k5 (Int32.toInt_inj.mp hh); have nk6 : Int32.toInt c0 ≠ 34 := fun hh => k6 (Int32.toInt_inj.mp hh); have nk7 : Int32.toInt c0 ≠ 35 := fun hh => k7 (Int32.toInt_inj.mp hh); have nk8 : Int32.toInt c0 ≠ 36 := fun hh => k8 (Int32.toInt_inj.mp hh); have nk9 : Int32.toInt c0 ≠ 37 := fun hh => k9 (Int32.toInt_inj.mp hh); have nk10 : Int32.toInt c0 ≠ 38 := fun hh => k10 (Int32.toInt_inj.mp hh); have nk11 : Int32.toInt c0 ≠ 39 := fun hh => k11 (Int32.toInt_inj.mp hh); have nk12 : Int32.toInt c0 ≠ 40 := fun hh => k12 (Int32.toInt_inj.mp hh); have nk13 : Int32.toInt c0 ≠ 41 := fun hh => k13 (Int32.toInt_inj.mp hh); have nk14 : Int32.toInt c0 ≠ 42 := fun hh => k14 (Int32.toInt_inj.mp hh); have nk15 : Int32.toInt c0 ≠ 43 := fun hh => k15 (Int32.toInt_inj.mp hh); have nk16 : Int32.toInt c0 ≠ 44 := fun hh => k16 (Int32.toInt_inj.mp hh); have nk17 : Int32.toInt c0 ≠ 45 := fun hh => k17 (Int32.toInt_inj.mp hh); have nk18 : Int32.toInt c0 ≠ 46 := fun hh => k18 (Int32.toInt_inj.mp hh); have nk19 : Int32.toInt c0 ≠ 47 := fun hh => k19 (Int32.toInt_inj.mp hh); have nk22 : Int32.toInt c0 ≠ 48 := fun hh => k22 (Int32.toInt_inj.mp hh); have nk24 : Int32.toInt c0 ≠ 49 := fun hh => k24 (Int32.toInt_inj.mp hh); have nk26 : Int32.toInt c0 ≠ 50 := fun hh => k26 (Int32.toInt_inj.mp hh); have nk27 : Int32.toInt c0 ≠ 51 := fun hh => k27 (Int32.toInt_inj.mp hh); have nk29 : Int32.toInt c0 ≠ 52 := fun hh => k29 (Int32.toInt_inj.mp hh); have nk31 : Int32.toInt c0 ≠ 53 := fun hh => k31 (Int32.toInt_inj.mp hh); omega) (by decide) ?_
                                                    refine lv_iload_n hx hb dX12_both_211 rfl (lv_at hl 1 rfl) ?_
                                                    refine lv_iload_n hx hb dX12_both_212 rfl (lv_at hl 2 rfl) ?_
                                                    refine lv_ior hx hb dX12_both_213 ?_
                                                    exact r_iret cx w h dX12_both_214
-- X11_carryOut
theorem wi_X11_carryOut_X10 : ∀ w ∈ wsX100, w ∈ wsX11_carryOut := by decide +kernel
theorem wi_X11_carryOut_X11 : ∀ w ∈ wsX110, w ∈ wsX11_carryOut := by decide +kernel
theorem wi_X11_carryOut_X12 : ∀ w ∈ wsX120, w ∈ wsX11_carryOut := by decide +kernel
abbrev rmX11_carryOut : Room := { frames := 3, cells := 0, slots := 0, locals := 82 }
def m_X11_carryOut_238 (G : gS) (a0 : Nat) (c1 : Int32) (c2 : Int32) (kb5 : mS → Int32 → Int32 → Option (mS × Int32)) (M : mS) (v3 : Int32) (v4 : Int32) : Option (mS × Int32) := kb5 M v3 v4
def m_X11_carryOut_69 (G : gS) (a0 : Nat) (c1 : Int32) (c2 : Int32) (kb5 : mS → Int32 → Int32 → Option (mS × Int32)) (M : mS) (v3 : Int32) (v4 : Int32) (s0 : Nat) (s1 : Int32) (s2 : Int32) : Option (mS × Int32) := o_ix s1 (gN G s0) (o_wI M s0 (Int32.toNatClampNeg s1) s2 (fun M2 => m_X11_carryOut_238 G a0 c1 c2 kb5 M2 v3 v4))
def m_X11_carryOut_43 (G : gS) (a0 : Nat) (c1 : Int32) (c2 : Int32) (kb5 : mS → Int32 → Int32 → Option (mS × Int32)) (M : mS) (v3 : Int32) (v4 : Int32) (v5 : Int32) : Option (mS × Int32) := o_bd (v3 + 1 : Int32) (fun x1 => o_rf (gP G a0 14) (fun q2 => (if v5 = (20 : Int32) then m_X11_carryOut_69 G a0 c1 c2 kb5 M x1 v4 q2 x1 ((mI M a0 0)) else o_cl (m_X11_dark G M a0) (fun M4 r5 => m_X11_carryOut_69 G a0 c1 c2 kb5 M4 x1 v4 q2 x1 r5))))
def m_X11_carryOut_206 (G : gS) (a0 : Nat) (c1 : Int32) (c2 : Int32) (kb5 : mS → Int32 → Int32 → Option (mS × Int32)) (M : mS) (v3 : Int32) (v4 : Int32) (s0 : Nat) (s1 : Int32) (s2 : Int32) : Option (mS × Int32) := o_ix s1 (gN G s0) (o_wI M s0 (Int32.toNatClampNeg s1) s2 (fun M2 => m_X11_carryOut_238 G a0 c1 c2 kb5 M2 v3 v4))
def m_X11_carryOut_136 (G : gS) (a0 : Nat) (c1 : Int32) (c2 : Int32) (kb5 : mS → Int32 → Int32 → Option (mS × Int32)) (M : mS) (v3 : Int32) (v4 : Int32) (v5 : Int32) : Option (mS × Int32) := o_rf (gP G a0 14) (fun q1 => (if v5 = (43 : Int32) then o_rf (gP G a0 14) (fun q16 => o_ix v3 (gN G q16) (m_X11_carryOut_206 G a0 c1 c2 kb5 M v3 v4 q1 v3 ((-(mI M q16 (Int32.toNatClampNeg v3)))))) else (if v5 = (28 : Int32) then o_rf (gP G a0 14) (fun q14 => o_ix v3 (gN G q14) (m_X11_carryOut_206 G a0 c1 c2 kb5 M v3 v4 q1 v3 (((1 : Int32) - (mI M q14 (Int32.toNatClampNeg v3)))))) else o_rf (gP G a0 14) (fun q4 => o_ix v3 (gN G q4) (o_cl (m_X12_isIn G M (mI M q4 (Int32.toNatClampNeg v3)) (0 : Int32) (63 : Int32)) (fun M6 r7 => (if r7 = 0 then m_X11_carryOut_206 G a0 c1 c2 kb5 M6 v3 v4 q1 v3 ((0 : Int32)) else o_rf (gP G a0 5) (fun q10 => o_rf (gP G a0 14) (fun q11 => o_ix v3 (gN G q11) (o_ix (mI M6 q11 (Int32.toNatClampNeg v3)) (gN G q10) (m_X11_carryOut_206 G a0 c1 c2 kb5 M6 v3 v4 q1 v3 ((mI M6 q10 (Int32.toNatClampNeg (mI M6 q11 (Int32.toNatClampNeg v3))))))))))))))))
def m_X11_carryOut_5 (G : gS) (a0 : Nat) (c1 : Int32) (c2 : Int32)  : Nat → mS → Int32 → Int32 → Option (mS × Int32)
  | 0, _, _, _ => none
  | n + 1, M, v3, v4 => (if c2 ≤ v4 then o_rf (gP G a0 14) (fun q2 => o_ix (0 : Int32) (gN G q2) (some (M, (mI M q2 (Int32.toNatClampNeg (0 : Int32)))))) else o_rf (gP G a0 15) (fun q4 => o_rf (gP G q4 11) (fun q5 => o_rf (gP G q5 18) (fun q6 => o_ix v4 (gN G q6) (o_bd ((mI M q6 (Int32.toNatClampNeg v4))) (fun x8 => o_bd (v4 + 1 : Int32) (fun x9 => (if x8 = (20 : Int32) then m_X11_carryOut_43 G a0 c1 c2 (fun M v3 v4 => m_X11_carryOut_5 G a0 c1 c2 n M v3 v4) M v3 x9 x8 else (if x8 = (21 : Int32) then m_X11_carryOut_43 G a0 c1 c2 (fun M v3 v4 => m_X11_carryOut_5 G a0 c1 c2 n M v3 v4) M v3 x9 x8 else o_cl (m_X12_isPushed G M x8) (fun M12 r13 => (if r13 = 0 then (if x8 = (43 : Int32) then m_X11_carryOut_136 G a0 c1 c2 (fun M v3 v4 => m_X11_carryOut_5 G a0 c1 c2 n M v3 v4) M12 v3 x9 x8 else (if x8 = (28 : Int32) then m_X11_carryOut_136 G a0 c1 c2 (fun M v3 v4 => m_X11_carryOut_5 G a0 c1 c2 n M v3 v4) M12 v3 x9 x8 else (if x8 = (25 : Int32) then m_X11_carryOut_136 G a0 c1 c2 (fun M v3 v4 => m_X11_carryOut_5 G a0 c1 c2 n M v3 v4) M12 v3 x9 x8 else o_bd (v3 + (-1) : Int32) (fun x19 => o_rf (gP G a0 14) (fun q20 => o_rf (gP G a0 14) (fun q21 => o_ix x19 (gN G q21) (o_rf (gP G a0 14) (fun q23 => o_ix (x19 + (1 : Int32)) (gN G q23) (o_cl (m_X12_both G M12 x8 (mI M12 q21 (Int32.toNatClampNeg x19)) (mI M12 q23 (Int32.toNatClampNeg (x19 + (1 : Int32))))) (fun M25 r26 => o_ix x19 (gN G q20) (o_wI M25 q20 (Int32.toNatClampNeg x19) r26 (fun M29 => m_X11_carryOut_238 G a0 c1 c2 (fun M v3 v4 => m_X11_carryOut_5 G a0 c1 c2 n M v3 v4) M29 x19 x9)))))))))))) else o_bd (v3 + 1 : Int32) (fun x30 => o_rf (gP G a0 14) (fun q31 => o_rf (gP G a0 15) (fun q32 => o_rf (gP G q32 11) (fun q33 => o_rf (gP G q33 18) (fun q34 => o_ix x9 (gN G q34) (o_cl (m_X11_pushed G M12 a0 x8 (mI M12 q34 (Int32.toNatClampNeg x9))) (fun M36 r37 => o_ix x30 (gN G q31) (o_wI M36 q31 (Int32.toNatClampNeg x30) r37 (fun M40 => o_bd (x9 + 1 : Int32) (fun x41 => m_X11_carryOut_238 G a0 c1 c2 (fun M v3 v4 => m_X11_carryOut_5 G a0 c1 c2 n M v3 v4) M40 x30 x41)))))))))))))))))))))
def m_X11_carryOut (G : gS) (M : mS) (a0 : Nat) (c1 : Int32) (c2 : Int32) : Option (mS × Int32) := m_X11_carryOut_5 G a0 c1 c2 fu M ((-1 : Int32)) c1
set_option maxHeartbeats 4000000 in
set_option maxRecDepth 100000 in
theorem b_X11_carryOut_238 {p : Program} {e : Env} {s : State} {m : MethodId} {args : Array Value} {below : List Frame} {meth : Method} {c : Code} {A : Nat → Prop} {l : Launch} {D : va_G} {cy : cyS} {G : gS} (cx : cX p s m args meth c cX11_carryOut RX11 6 (some .int) wsX11_carryOut D cy G A) {k0 n0 : Nat} (hkn : k0 ≤ (rmX11_carryOut).cells ∧ n0 ≤ (rmX11_carryOut).slots) {M' : mS} {r : Int32} {a0 : Nat} {c1 : Int32} {c2 : Int32} (hL0 : a0 ∈ gL G) (hK0 : gK G a0 = 10) {kb5 : mS → Int32 → Int32 → Option (mS × Int32)} (hkb5 : ∀ (M : mS) (v3 : Int32) (v4 : Int32) (H : Heap) (locs : List Loc) (ls : Array Slot), kb5 M v3 v4 = some (M', r) → wd D cy G M A s.heap H locs → lv_has ls 6 [(0, .ref a0), (2, .int c2), (3, .int v3), (4, .int v4)] → W p l e rmX11_carryOut s m args below meth c H locs k0 n0 (MQ below (va_Qi (fun (r' : Int32) (_ : Unit) => r' = r) (fun _ t => wOut D cy G M' t) A) args s k0 n0 A) (F0 m 5 ls [])) : ∀ (M : mS) (v3 : Int32) (v4 : Int32) (H : Heap) (locs : List Loc) (ls : Array Slot), m_X11_carryOut_238 G a0 c1 c2 kb5 M v3 v4 = some (M', r) → wd D cy G M A s.heap H locs → lv_has ls 6 [(0, .ref a0), (2, .int c2), (3, .int v3), (4, .int v4)] → W p l e rmX11_carryOut s m args below meth c H locs k0 n0 (MQ below (va_Qi (fun (r' : Int32) (_ : Unit) => r' = r) (fun _ t => wOut D cy G M' t) A) args s k0 n0 A) (F0 m 238 ls []) := by
  obtain ⟨hx, hb, hml, hown, hts, hr, hlocks, hK, hA, hG, hsx⟩ := id cx
  intro M v3 v4 H locs ls h w hl
  unfold m_X11_carryOut_238 at h
  refine lv_goto (tgt := 5) hx hb dX11_carryOut_238 (by decide) ?_
  exact hkb5 M v3 v4 H locs ls h w (lv_sub hl [0, 1, 2, 3] rfl)
set_option maxHeartbeats 4000000 in
set_option maxRecDepth 100000 in
theorem b_X11_carryOut_69 {p : Program} {e : Env} {s : State} {m : MethodId} {args : Array Value} {below : List Frame} {meth : Method} {c : Code} {A : Nat → Prop} {l : Launch} {D : va_G} {cy : cyS} {G : gS} (cx : cX p s m args meth c cX11_carryOut RX11 6 (some .int) wsX11_carryOut D cy G A) {k0 n0 : Nat} (hkn : k0 ≤ (rmX11_carryOut).cells ∧ n0 ≤ (rmX11_carryOut).slots) {M' : mS} {r : Int32} {a0 : Nat} {c1 : Int32} {c2 : Int32} (hL0 : a0 ∈ gL G) (hK0 : gK G a0 = 10) {kb5 : mS → Int32 → Int32 → Option (mS × Int32)} (hkb5 : ∀ (M : mS) (v3 : Int32) (v4 : Int32) (H : Heap) (locs : List Loc) (ls : Array Slot), kb5 M v3 v4 = some (M', r) → wd D cy G M A s.heap H locs → lv_has ls 6 [(0, .ref a0), (2, .int c2), (3, .int v3), (4, .int v4)] → W p l e rmX11_carryOut s m args below meth c H locs k0 n0 (MQ below (va_Qi (fun (r' : Int32) (_ : Unit) => r' = r) (fun _ t => wOut D cy G M' t) A) args s k0 n0 A) (F0 m 5 ls [])) : ∀ (M : mS) (v3 : Int32) (v4 : Int32) (s0 : Nat) (s1 : Int32) (s2 : Int32) (H : Heap) (locs : List Loc) (ls : Array Slot), s0 ∈ gL G → gK G s0 = 12 → m_X11_carryOut_69 G a0 c1 c2 kb5 M v3 v4 s0 s1 s2 = some (M', r) → wd D cy G M A s.heap H locs → lv_has ls 6 [(0, .ref a0), (2, .int c2), (3, .int v3), (4, .int v4)] → W p l e rmX11_carryOut s m args below meth c H locs k0 n0 (MQ below (va_Qi (fun (r' : Int32) (_ : Unit) => r' = r) (fun _ t => wOut D cy G M' t) A) args s k0 n0 A) (F0 m 69 ls [.int s2, .int s1, .ref s0]) := by
  obtain ⟨hx, hb, hml, hown, hts, hr, hlocks, hK, hA, hG, hsx⟩ := id cx
  intro M v3 v4 s0 s1 s2 H locs ls sL0 sK0 h w hl
  unfold m_X11_carryOut_69 at h
  obtain ⟨z1, h⟩ := x_ix h
  obtain ⟨M2, eM2, h⟩ := x_wI h
  refine r_iast cx w sL0 sK0 z1 dX11_carryOut_69 eM2 (fun H locs w => ?_)
  refine lv_goto (tgt := 238) hx hb dX11_carryOut_70 (by decide) ?_
  exact b_X11_carryOut_238 cx hkn hL0 hK0 (hkb5 := hkb5) M2 v3 v4 H locs ls h w (lv_sub hl [0, 1, 2, 3] rfl)
set_option maxHeartbeats 4000000 in
set_option maxRecDepth 100000 in
theorem b_X11_carryOut_43 {p : Program} {e : Env} {s : State} {m : MethodId} {args : Array Value} {below : List Frame} {meth : Method} {c : Code} {A : Nat → Prop} {l : Launch} {D : va_G} {cy : cyS} {G : gS} (cx : cX p s m args meth c cX11_carryOut RX11 6 (some .int) wsX11_carryOut D cy G A) {k0 n0 : Nat} (hkn : k0 ≤ (rmX11_carryOut).cells ∧ n0 ≤ (rmX11_carryOut).slots) {M' : mS} {r : Int32} {a0 : Nat} {c1 : Int32} {c2 : Int32} (hL0 : a0 ∈ gL G) (hK0 : gK G a0 = 10) {kb5 : mS → Int32 → Int32 → Option (mS × Int32)} (hkb5 : ∀ (M : mS) (v3 : Int32) (v4 : Int32) (H : Heap) (locs : List Loc) (ls : Array Slot), kb5 M v3 v4 = some (M', r) → wd D cy G M A s.heap H locs → lv_has ls 6 [(0, .ref a0), (2, .int c2), (3, .int v3), (4, .int v4)] → W p l e rmX11_carryOut s m args below meth c H locs k0 n0 (MQ below (va_Qi (fun (r' : Int32) (_ : Unit) => r' = r) (fun _ t => wOut D cy G M' t) A) args s k0 n0 A) (F0 m 5 ls [])) : ∀ (M : mS) (v3 : Int32) (v4 : Int32) (v5 : Int32) (H : Heap) (locs : List Loc) (ls : Array Slot), m_X11_carryOut_43 G a0 c1 c2 kb5 M v3 v4 v5 = some (M', r) → wd D cy G M A s.heap H locs → lv_has ls 6 [(0, .ref a0), (2, .int c2), (3, .int v3), (4, .int v4), (5, .int v5)] → W p l e rmX11_carryOut s m args below meth c H locs k0 n0 (MQ below (va_Qi (fun (r' : Int32) (_ : Unit) => r' = r) (fun _ t => wOut D cy G M' t) A) args s k0 n0 A) (F0 m 43 ls []) := by
  obtain ⟨hx, hb, hml, hown, hts, hr, hlocks, hK, hA, hG, hsx⟩ := id cx
  intro M v3 v4 v5 H locs ls h w hl
  unfold m_X11_carryOut_43 at h
  obtain ⟨x1, ex1, h⟩ := x_bd h
  refine lv_iinc (v := x1) (lv' := [(3, .int x1), (0, .ref a0), (2, .int c2), (4, .int v4), (5, .int v5)]) hx hb dX11_carryOut_43 hl (k := 2) rfl (by rw [ex1]; rfl) (by decide) rfl (fun ls hl => ?_)
  refine lv_aload_n hx hb dX11_carryOut_46 rfl (lv_at hl 1 rfl) ?_
  obtain ⟨q2, eq2, h⟩ := x_rf h
  obtain ⟨hLq2, hKq2⟩ := wt_q hG hL0 hK0 eq2
  have hKq2 : gK G q2 = 12 := hKq2
  refine r_getR (k := 14) cx w hL0 hK0 (by decide) rfl wi_X11_carryOut_X11 (by decide) rfl eq2 (List.mem_of_getElem? (i := 2) rfl) dX11_carryOut_47 ?_
  refine lv_iload_n hx hb dX11_carryOut_50 rfl (lv_at hl 0 rfl) ?_
  refine lv_iload hx hb dX11_carryOut_51 (lv_at hl 4 rfl) ?_
  refine lv_bipush (v := (20 : Int32)) hx hb dX11_carryOut_53 (by decide) ?_
  refine lv_icmp_ne (tgt := 65) hx hb dX11_carryOut_55 (by decide) (fun k3 => ?_) (fun k3 => ?_)
  · have h := x_f h k3
    refine lv_aload_n hx hb dX11_carryOut_65 rfl (lv_at hl 1 rfl) ?_
    obtain ⟨M4, r5, y6, h⟩ := x_cl h
    refine r_callVi (As := []) (rest := [.int x1, .ref q2]) cx w hkn hl.1 (k_X11_dark hG hL0 hK0 y6) (cwV 0 hts gX11_carryOut_X11_dark rfl rfl rfl (by decide +kernel) ⟨Nat.le_of_ble_eq_true rfl, Nat.le_of_ble_eq_true rfl⟩) hL0 hK0 (by decide) rfl rfl rfl (Nat.le_of_ble_eq_true rfl) dX11_carryOut_66 (fun H locs w => ?_)
    exact b_X11_carryOut_69 cx hkn hL0 hK0 (hkb5 := hkb5) M4 x1 v4 q2 x1 r5 H locs ls hLq2 hKq2 h w (lv_sub hl [1, 2, 0, 3] rfl)
  · have h := x_t h k3
    refine lv_aload_n hx hb dX11_carryOut_58 rfl (lv_at hl 1 rfl) ?_
    refine r_getI (k := 0) (v := .int (mI M a0 0)) cx w hL0 hK0 (by decide) rfl wi_X11_carryOut_X11 (by decide) rfl (List.mem_of_getElem? (i := 3) rfl) dX11_carryOut_59 ?_
    refine lv_goto (tgt := 69) hx hb dX11_carryOut_62 (by decide) ?_
    exact b_X11_carryOut_69 cx hkn hL0 hK0 (hkb5 := hkb5) M x1 v4 q2 x1 ((mI M a0 0)) H locs ls hLq2 hKq2 h w (lv_sub hl [1, 2, 0, 3] rfl)
set_option maxHeartbeats 4000000 in
set_option maxRecDepth 100000 in
theorem b_X11_carryOut_206 {p : Program} {e : Env} {s : State} {m : MethodId} {args : Array Value} {below : List Frame} {meth : Method} {c : Code} {A : Nat → Prop} {l : Launch} {D : va_G} {cy : cyS} {G : gS} (cx : cX p s m args meth c cX11_carryOut RX11 6 (some .int) wsX11_carryOut D cy G A) {k0 n0 : Nat} (hkn : k0 ≤ (rmX11_carryOut).cells ∧ n0 ≤ (rmX11_carryOut).slots) {M' : mS} {r : Int32} {a0 : Nat} {c1 : Int32} {c2 : Int32} (hL0 : a0 ∈ gL G) (hK0 : gK G a0 = 10) {kb5 : mS → Int32 → Int32 → Option (mS × Int32)} (hkb5 : ∀ (M : mS) (v3 : Int32) (v4 : Int32) (H : Heap) (locs : List Loc) (ls : Array Slot), kb5 M v3 v4 = some (M', r) → wd D cy G M A s.heap H locs → lv_has ls 6 [(0, .ref a0), (2, .int c2), (3, .int v3), (4, .int v4)] → W p l e rmX11_carryOut s m args below meth c H locs k0 n0 (MQ below (va_Qi (fun (r' : Int32) (_ : Unit) => r' = r) (fun _ t => wOut D cy G M' t) A) args s k0 n0 A) (F0 m 5 ls [])) : ∀ (M : mS) (v3 : Int32) (v4 : Int32) (s0 : Nat) (s1 : Int32) (s2 : Int32) (H : Heap) (locs : List Loc) (ls : Array Slot), s0 ∈ gL G → gK G s0 = 12 → m_X11_carryOut_206 G a0 c1 c2 kb5 M v3 v4 s0 s1 s2 = some (M', r) → wd D cy G M A s.heap H locs → lv_has ls 6 [(0, .ref a0), (2, .int c2), (3, .int v3), (4, .int v4)] → W p l e rmX11_carryOut s m args below meth c H locs k0 n0 (MQ below (va_Qi (fun (r' : Int32) (_ : Unit) => r' = r) (fun _ t => wOut D cy G M' t) A) args s k0 n0 A) (F0 m 206 ls [.int s2, .int s1, .ref s0]) := by
  obtain ⟨hx, hb, hml, hown, hts, hr, hlocks, hK, hA, hG, hsx⟩ := id cx
  intro M v3 v4 s0 s1 s2 H locs ls sL0 sK0 h w hl
  unfold m_X11_carryOut_206 at h
  obtain ⟨z1, h⟩ := x_ix h
  obtain ⟨M2, eM2, h⟩ := x_wI h
  refine r_iast cx w sL0 sK0 z1 dX11_carryOut_206 eM2 (fun H locs w => ?_)
  refine lv_goto (tgt := 238) hx hb dX11_carryOut_207 (by decide) ?_
  exact b_X11_carryOut_238 cx hkn hL0 hK0 (hkb5 := hkb5) M2 v3 v4 H locs ls h w (lv_sub hl [0, 1, 2, 3] rfl)
set_option maxHeartbeats 4000000 in
set_option maxRecDepth 100000 in
theorem b_X11_carryOut_136 {p : Program} {e : Env} {s : State} {m : MethodId} {args : Array Value} {below : List Frame} {meth : Method} {c : Code} {A : Nat → Prop} {l : Launch} {D : va_G} {cy : cyS} {G : gS} (cx : cX p s m args meth c cX11_carryOut RX11 6 (some .int) wsX11_carryOut D cy G A) {k0 n0 : Nat} (hkn : k0 ≤ (rmX11_carryOut).cells ∧ n0 ≤ (rmX11_carryOut).slots) {M' : mS} {r : Int32} {a0 : Nat} {c1 : Int32} {c2 : Int32} (hL0 : a0 ∈ gL G) (hK0 : gK G a0 = 10) {kb5 : mS → Int32 → Int32 → Option (mS × Int32)} (hkb5 : ∀ (M : mS) (v3 : Int32) (v4 : Int32) (H : Heap) (locs : List Loc) (ls : Array Slot), kb5 M v3 v4 = some (M', r) → wd D cy G M A s.heap H locs → lv_has ls 6 [(0, .ref a0), (2, .int c2), (3, .int v3), (4, .int v4)] → W p l e rmX11_carryOut s m args below meth c H locs k0 n0 (MQ below (va_Qi (fun (r' : Int32) (_ : Unit) => r' = r) (fun _ t => wOut D cy G M' t) A) args s k0 n0 A) (F0 m 5 ls [])) : ∀ (M : mS) (v3 : Int32) (v4 : Int32) (v5 : Int32) (H : Heap) (locs : List Loc) (ls : Array Slot), m_X11_carryOut_136 G a0 c1 c2 kb5 M v3 v4 v5 = some (M', r) → wd D cy G M A s.heap H locs → lv_has ls 6 [(0, .ref a0), (2, .int c2), (3, .int v3), (4, .int v4), (5, .int v5)] → W p l e rmX11_carryOut s m args below meth c H locs k0 n0 (MQ below (va_Qi (fun (r' : Int32) (_ : Unit) => r' = r) (fun _ t => wOut D cy G M' t) A) args s k0 n0 A) (F0 m 136 ls []) := by
  obtain ⟨hx, hb, hml, hown, hts, hr, hlocks, hK, hA, hG, hsx⟩ := id cx
  intro M v3 v4 v5 H locs ls h w hl
  unfold m_X11_carryOut_136 at h
  refine lv_aload_n hx hb dX11_carryOut_136 rfl (lv_at hl 0 rfl) ?_
  obtain ⟨q1, eq1, h⟩ := x_rf h
  obtain ⟨hLq1, hKq1⟩ := wt_q hG hL0 hK0 eq1
  have hKq1 : gK G q1 = 12 := hKq1
  refine r_getR (k := 14) cx w hL0 hK0 (by decide) rfl wi_X11_carryOut_X11 (by decide) rfl eq1 (List.mem_of_getElem? (i := 2) rfl) dX11_carryOut_137 ?_
  refine lv_iload_n hx hb dX11_carryOut_140 rfl (lv_at hl 2 rfl) ?_
  refine lv_iload hx hb dX11_carryOut_141 (lv_at hl 4 rfl) ?_
  refine lv_bipush (v := (43 : Int32)) hx hb dX11_carryOut_143 (by decide) ?_
  refine lv_icmp_ne (tgt := 158) hx hb dX11_carryOut_145 (by decide) (fun k2 => ?_) (fun k2 => ?_)
  · have h := x_f h k2
    refine lv_iload hx hb dX11_carryOut_158 (lv_at hl 4 rfl) ?_
    refine lv_bipush (v := (28 : Int32)) hx hb dX11_carryOut_160 (by decide) ?_
    refine lv_icmp_ne (tgt := 176) hx hb dX11_carryOut_162 (by decide) (fun k3 => ?_) (fun k3 => ?_)
    · have h := x_f h k3
      refine lv_aload_n hx hb dX11_carryOut_176 rfl (lv_at hl 0 rfl) ?_
      obtain ⟨q4, eq4, h⟩ := x_rf h
      obtain ⟨hLq4, hKq4⟩ := wt_q hG hL0 hK0 eq4
      have hKq4 : gK G q4 = 12 := hKq4
      refine r_getR (k := 14) cx w hL0 hK0 (by decide) rfl wi_X11_carryOut_X11 (by decide) rfl eq4 (List.mem_of_getElem? (i := 2) rfl) dX11_carryOut_177 ?_
      refine lv_iload_n hx hb dX11_carryOut_180 rfl (lv_at hl 2 rfl) ?_
      obtain ⟨z5, h⟩ := x_ix h
      refine r_iald cx w hLq4 hKq4 z5 dX11_carryOut_181 ?_
      refine lv_iconst (v := (0 : Int32)) hx hb dX11_carryOut_182 (by decide) ?_
      refine lv_bipush (v := (63 : Int32)) hx hb dX11_carryOut_183 (by decide) ?_
      obtain ⟨M6, r7, y8, h⟩ := x_cl h
      refine r_callSNi (As := [.int ((mI M q4 (Int32.toNatClampNeg v3))), .int ((0 : Int32)), .int ((63 : Int32))]) (rest := [.int v3, .ref q1]) cx w hkn hl.1 (k_X12_isIn hG y8) ⟨va_cnB 3 hts gX11_carryOut_X12_isIn_n170 rfl rfl rfl (nwM cx (q := (RX11, 170, yX12_isIn, "FlagAntsModel")) (List.mem_of_getElem? (i := 10) rfl)) (hts _ (List.mem_of_getElem? (i := 11) rfl)) (by decide +kernel) ⟨Nat.le_of_ble_eq_true rfl, Nat.le_of_ble_eq_true rfl⟩, hts _ (List.mem_of_getElem? (i := 14) rfl), trivial⟩ rfl rfl (Nat.le_of_ble_eq_true rfl) dX11_carryOut_185 (fun H locs w => ?_)
      refine lv_if_eq (tgt := 205) hx hb dX11_carryOut_188 (by decide) (fun k9 => ?_) (fun k9 => ?_)
      · have h := x_t h k9
        refine lv_iconst (v := (0 : Int32)) hx hb dX11_carryOut_205 (by decide) ?_
        exact b_X11_carryOut_206 cx hkn hL0 hK0 (hkb5 := hkb5) M6 v3 v4 q1 v3 ((0 : Int32)) H locs ls hLq1 hKq1 h w (lv_sub hl [0, 1, 2, 3] rfl)
      · have h := x_f h k9
        refine lv_aload_n hx hb dX11_carryOut_191 rfl (lv_at hl 0 rfl) ?_
        obtain ⟨q10, eq10, h⟩ := x_rf h
        obtain ⟨hLq10, hKq10⟩ := wt_q hG hL0 hK0 eq10
        have hKq10 : gK G q10 = 12 := hKq10
        refine r_getR (k := 5) cx w hL0 hK0 (by decide) rfl wi_X11_carryOut_X11 (by decide) rfl eq10 (List.mem_of_getElem? (i := 4) rfl) dX11_carryOut_192 ?_
        refine lv_aload_n hx hb dX11_carryOut_195 rfl (lv_at hl 0 rfl) ?_
        obtain ⟨q11, eq11, h⟩ := x_rf h
        obtain ⟨hLq11, hKq11⟩ := wt_q hG hL0 hK0 eq11
        have hKq11 : gK G q11 = 12 := hKq11
        refine r_getR (k := 14) cx w hL0 hK0 (by decide) rfl wi_X11_carryOut_X11 (by decide) rfl eq11 (List.mem_of_getElem? (i := 2) rfl) dX11_carryOut_196 ?_
        refine lv_iload_n hx hb dX11_carryOut_199 rfl (lv_at hl 2 rfl) ?_
        obtain ⟨z12, h⟩ := x_ix h
        refine r_iald cx w hLq11 hKq11 z12 dX11_carryOut_200 ?_
        obtain ⟨z13, h⟩ := x_ix h
        refine r_iald cx w hLq10 hKq10 z13 dX11_carryOut_201 ?_
        refine lv_goto (tgt := 206) hx hb dX11_carryOut_202 (by decide) ?_
        exact b_X11_carryOut_206 cx hkn hL0 hK0 (hkb5 := hkb5) M6 v3 v4 q1 v3 ((mI M6 q10 (Int32.toNatClampNeg (mI M6 q11 (Int32.toNatClampNeg v3))))) H locs ls hLq1 hKq1 h w (lv_sub hl [0, 1, 2, 3] rfl)
    · have h := x_t h k3
      refine lv_iconst (v := (1 : Int32)) hx hb dX11_carryOut_165 (by decide) ?_
      refine lv_aload_n hx hb dX11_carryOut_166 rfl (lv_at hl 0 rfl) ?_
      obtain ⟨q14, eq14, h⟩ := x_rf h
      obtain ⟨hLq14, hKq14⟩ := wt_q hG hL0 hK0 eq14
      have hKq14 : gK G q14 = 12 := hKq14
      refine r_getR (k := 14) cx w hL0 hK0 (by decide) rfl wi_X11_carryOut_X11 (by decide) rfl eq14 (List.mem_of_getElem? (i := 2) rfl) dX11_carryOut_167 ?_
      refine lv_iload_n hx hb dX11_carryOut_170 rfl (lv_at hl 2 rfl) ?_
      obtain ⟨z15, h⟩ := x_ix h
      refine r_iald cx w hLq14 hKq14 z15 dX11_carryOut_171 ?_
      refine lv_isub hx hb dX11_carryOut_172 ?_
      refine lv_goto (tgt := 206) hx hb dX11_carryOut_173 (by decide) ?_
      exact b_X11_carryOut_206 cx hkn hL0 hK0 (hkb5 := hkb5) M v3 v4 q1 v3 (((1 : Int32) - (mI M q14 (Int32.toNatClampNeg v3)))) H locs ls hLq1 hKq1 h w (lv_sub hl [0, 1, 2, 3] rfl)
  · have h := x_t h k2
    refine lv_aload_n hx hb dX11_carryOut_148 rfl (lv_at hl 0 rfl) ?_
    obtain ⟨q16, eq16, h⟩ := x_rf h
    obtain ⟨hLq16, hKq16⟩ := wt_q hG hL0 hK0 eq16
    have hKq16 : gK G q16 = 12 := hKq16
    refine r_getR (k := 14) cx w hL0 hK0 (by decide) rfl wi_X11_carryOut_X11 (by decide) rfl eq16 (List.mem_of_getElem? (i := 2) rfl) dX11_carryOut_149 ?_
    refine lv_iload_n hx hb dX11_carryOut_152 rfl (lv_at hl 2 rfl) ?_
    obtain ⟨z17, h⟩ := x_ix h
    refine r_iald cx w hLq16 hKq16 z17 dX11_carryOut_153 ?_
    refine lv_ineg hx hb dX11_carryOut_154 ?_
    refine lv_goto (tgt := 206) hx hb dX11_carryOut_155 (by decide) ?_
    exact b_X11_carryOut_206 cx hkn hL0 hK0 (hkb5 := hkb5) M v3 v4 q1 v3 ((-(mI M q16 (Int32.toNatClampNeg v3)))) H locs ls hLq1 hKq1 h w (lv_sub hl [0, 1, 2, 3] rfl)
set_option maxHeartbeats 4000000 in
set_option maxRecDepth 100000 in
theorem b_X11_carryOut_5 {p : Program} {e : Env} {s : State} {m : MethodId} {args : Array Value} {below : List Frame} {meth : Method} {c : Code} {A : Nat → Prop} {l : Launch} {D : va_G} {cy : cyS} {G : gS} (cx : cX p s m args meth c cX11_carryOut RX11 6 (some .int) wsX11_carryOut D cy G A) {k0 n0 : Nat} (hkn : k0 ≤ (rmX11_carryOut).cells ∧ n0 ≤ (rmX11_carryOut).slots) {M' : mS} {r : Int32} {a0 : Nat} {c1 : Int32} {c2 : Int32} (hL0 : a0 ∈ gL G) (hK0 : gK G a0 = 10)  : ∀ (n : Nat), ∀ (M : mS) (v3 : Int32) (v4 : Int32) (H : Heap) (locs : List Loc) (ls : Array Slot), m_X11_carryOut_5 G a0 c1 c2 n M v3 v4 = some (M', r) → wd D cy G M A s.heap H locs → lv_has ls 6 [(0, .ref a0), (2, .int c2), (3, .int v3), (4, .int v4)] → W p l e rmX11_carryOut s m args below meth c H locs k0 n0 (MQ below (va_Qi (fun (r' : Int32) (_ : Unit) => r' = r) (fun _ t => wOut D cy G M' t) A) args s k0 n0 A) (F0 m 5 ls []) := by
  obtain ⟨hx, hb, hml, hown, hts, hr, hlocks, hK, hA, hG, hsx⟩ := id cx
  intro n
  induction n with
  | zero =>
    intro M v3 v4 H locs ls h w hl
    have h : none = some _ := h
    cases h
  | succ n ih =>
    intro M v3 v4 H locs ls h w hl
    rw [m_X11_carryOut_5] at h
    refine lv_iload hx hb dX11_carryOut_5 (lv_at hl 3 rfl) ?_
    refine lv_iload_n hx hb dX11_carryOut_7 rfl (lv_at hl 1 rfl) ?_
    refine lv_icmp_ge (tgt := 241) hx hb dX11_carryOut_8 (by decide) (fun k1 => ?_) (fun k1 => ?_)
    · have h := x_t h k1
      refine lv_aload_n hx hb dX11_carryOut_241 rfl (lv_at hl 0 rfl) ?_
      obtain ⟨q2, eq2, h⟩ := x_rf h
      obtain ⟨hLq2, hKq2⟩ := wt_q hG hL0 hK0 eq2
      have hKq2 : gK G q2 = 12 := hKq2
      refine r_getR (k := 14) cx w hL0 hK0 (by decide) rfl wi_X11_carryOut_X11 (by decide) rfl eq2 (List.mem_of_getElem? (i := 2) rfl) dX11_carryOut_242 ?_
      refine lv_iconst (v := (0 : Int32)) hx hb dX11_carryOut_245 (by decide) ?_
      obtain ⟨z3, h⟩ := x_ix h
      refine r_iald cx w hLq2 hKq2 z3 dX11_carryOut_246 ?_
      exact r_iret cx w h dX11_carryOut_247
    · have h := x_f h k1
      refine lv_aload_n hx hb dX11_carryOut_11 rfl (lv_at hl 0 rfl) ?_
      obtain ⟨q4, eq4, h⟩ := x_rf h
      obtain ⟨hLq4, hKq4⟩ := wt_q hG hL0 hK0 eq4
      have hKq4 : gK G q4 = 11 := hKq4
      refine r_getR (k := 15) cx w hL0 hK0 (by decide) rfl wi_X11_carryOut_X11 (by decide) rfl eq4 (List.mem_of_getElem? (i := 1) rfl) dX11_carryOut_12 ?_
      obtain ⟨q5, eq5, h⟩ := x_rf h
      obtain ⟨hLq5, hKq5⟩ := wt_q hG hLq4 hKq4 eq5
      have hKq5 : gK G q5 = 9 := hKq5
      refine r_getRN (k := 11) cx w hLq4 hKq4 (by decide) rfl wi_X11_carryOut_X12 (by decide) rfl eq5 (nwF cx (q := (RX11, 72, "FlagAntsModel", "plan", "LFlagAntsModel$Plan;", "FlagAntsModel")) (List.mem_of_getElem? (i := 30) rfl)) dX11_carryOut_15 ?_
      obtain ⟨q6, eq6, h⟩ := x_rf h
      obtain ⟨hLq6, hKq6⟩ := wt_q hG hLq5 hKq5 eq6
      have hKq6 : gK G q6 = 12 := hKq6
      refine r_getRN (k := 18) cx w hLq5 hKq5 (by decide) rfl wi_X11_carryOut_X10 (by decide) rfl eq6 (nwF cx (q := (RX11, 161, "FlagAntsModel$Plan", "code", "[I", "FlagAntsModel")) (List.mem_of_getElem? (i := 45) rfl)) dX11_carryOut_18 ?_
      refine lv_iload hx hb dX11_carryOut_21 (lv_at hl 3 rfl) ?_
      obtain ⟨z7, h⟩ := x_ix h
      refine r_iald cx w hLq6 hKq6 z7 dX11_carryOut_23 ?_
      obtain ⟨x8, ex8, h⟩ := x_bd h
      refine r_topI ex8 ?_
      refine lv_istore (lv' := [(5, .int x8), (0, .ref a0), (2, .int c2), (3, .int v3), (4, .int v4)]) hx hb dX11_carryOut_24 hl (by decide) rfl (fun ls hl => ?_)
      obtain ⟨x9, ex9, h⟩ := x_bd h
      refine lv_iinc (v := x9) (lv' := [(4, .int x9), (5, .int x8), (0, .ref a0), (2, .int c2), (3, .int v3)]) hx hb dX11_carryOut_26 hl (k := 4) rfl (by rw [ex9]; rfl) (by decide) rfl (fun ls hl => ?_)
      refine lv_iload hx hb dX11_carryOut_29 (lv_at hl 1 rfl) ?_
      refine lv_bipush (v := (20 : Int32)) hx hb dX11_carryOut_31 (by decide) ?_
      refine lv_icmp_eq (tgt := 43) hx hb dX11_carryOut_33 (by decide) (fun k10 => ?_) (fun k10 => ?_)
      · have h := x_t h k10
        exact b_X11_carryOut_43 cx hkn hL0 hK0 (hkb5 := ih) M v3 x9 x8 H locs ls h w (lv_sub hl [2, 3, 4, 0, 1] rfl)
      · have h := x_f h k10
        refine lv_iload hx hb dX11_carryOut_36 (lv_at hl 1 rfl) ?_
        refine lv_bipush (v := (21 : Int32)) hx hb dX11_carryOut_38 (by decide) ?_
        refine lv_icmp_ne (tgt := 73) hx hb dX11_carryOut_40 (by decide) (fun k11 => ?_) (fun k11 => ?_)
        · have h := x_f h k11
          refine lv_iload hx hb dX11_carryOut_73 (lv_at hl 1 rfl) ?_
          obtain ⟨M12, r13, y14, h⟩ := x_cl h
          refine r_callSNi (As := [.int x8]) (rest := []) cx w hkn hl.1 (k_X12_isPushed hG y14) ⟨va_cnB 1 hts gX11_carryOut_X12_isPushed_n164 rfl rfl rfl (nwM cx (q := (RX11, 164, yX12_isPushed, "FlagAntsModel")) (List.mem_of_getElem? (i := 9) rfl)) (hts _ (List.mem_of_getElem? (i := 11) rfl)) (by decide +kernel) ⟨Nat.le_of_ble_eq_true rfl, Nat.le_of_ble_eq_true rfl⟩, hts _ (List.mem_of_getElem? (i := 10) rfl), trivial⟩ rfl rfl (Nat.le_of_ble_eq_true rfl) dX11_carryOut_75 (fun H locs w => ?_)
          refine lv_if_eq (tgt := 115) hx hb dX11_carryOut_78 (by decide) (fun k15 => ?_) (fun k15 => ?_)
          · have h := x_t h k15
            refine lv_iload hx hb dX11_carryOut_115 (lv_at hl 1 rfl) ?_
            refine lv_bipush (v := (43 : Int32)) hx hb dX11_carryOut_117 (by decide) ?_
            refine lv_icmp_eq (tgt := 136) hx hb dX11_carryOut_119 (by decide) (fun k16 => ?_) (fun k16 => ?_)
            · have h := x_t h k16
              exact b_X11_carryOut_136 cx hkn hL0 hK0 (hkb5 := ih) M12 v3 x9 x8 H locs ls h w (lv_sub hl [2, 3, 4, 0, 1] rfl)
            · have h := x_f h k16
              refine lv_iload hx hb dX11_carryOut_122 (lv_at hl 1 rfl) ?_
              refine lv_bipush (v := (28 : Int32)) hx hb dX11_carryOut_124 (by decide) ?_
              refine lv_icmp_eq (tgt := 136) hx hb dX11_carryOut_126 (by decide) (fun k17 => ?_) (fun k17 => ?_)
              · have h := x_t h k17
                exact b_X11_carryOut_136 cx hkn hL0 hK0 (hkb5 := ih) M12 v3 x9 x8 H locs ls h w (lv_sub hl [2, 3, 4, 0, 1] rfl)
              · have h := x_f h k17
                refine lv_iload hx hb dX11_carryOut_129 (lv_at hl 1 rfl) ?_
                refine lv_bipush (v := (25 : Int32)) hx hb dX11_carryOut_131 (by decide) ?_
                refine lv_icmp_ne (tgt := 210) hx hb dX11_carryOut_133 (by decide) (fun k18 => ?_) (fun k18 => ?_)
                · have h := x_f h k18
                  obtain ⟨x19, ex19, h⟩ := x_bd h
                  refine lv_iinc (v := x19) (lv' := [(3, .int x19), (4, .int x9), (5, .int x8), (0, .ref a0), (2, .int c2)]) hx hb dX11_carryOut_210 hl (k := 4) rfl (by rw [ex19]; rfl) (by decide) rfl (fun ls hl => ?_)
                  refine lv_aload_n hx hb dX11_carryOut_213 rfl (lv_at hl 3 rfl) ?_
                  obtain ⟨q20, eq20, h⟩ := x_rf h
                  obtain ⟨hLq20, hKq20⟩ := wt_q hG hL0 hK0 eq20
                  have hKq20 : gK G q20 = 12 := hKq20
                  refine r_getR (k := 14) cx w hL0 hK0 (by decide) rfl wi_X11_carryOut_X11 (by decide) rfl eq20 (List.mem_of_getElem? (i := 2) rfl) dX11_carryOut_214 ?_
                  refine lv_iload_n hx hb dX11_carryOut_217 rfl (lv_at hl 0 rfl) ?_
                  refine lv_iload hx hb dX11_carryOut_218 (lv_at hl 2 rfl) ?_
                  refine lv_aload_n hx hb dX11_carryOut_220 rfl (lv_at hl 3 rfl) ?_
                  obtain ⟨q21, eq21, h⟩ := x_rf h
                  obtain ⟨hLq21, hKq21⟩ := wt_q hG hL0 hK0 eq21
                  have hKq21 : gK G q21 = 12 := hKq21
                  refine r_getR (k := 14) cx w hL0 hK0 (by decide) rfl wi_X11_carryOut_X11 (by decide) rfl eq21 (List.mem_of_getElem? (i := 2) rfl) dX11_carryOut_221 ?_
                  refine lv_iload_n hx hb dX11_carryOut_224 rfl (lv_at hl 0 rfl) ?_
                  obtain ⟨z22, h⟩ := x_ix h
                  refine r_iald cx w hLq21 hKq21 z22 dX11_carryOut_225 ?_
                  refine lv_aload_n hx hb dX11_carryOut_226 rfl (lv_at hl 3 rfl) ?_
                  obtain ⟨q23, eq23, h⟩ := x_rf h
                  obtain ⟨hLq23, hKq23⟩ := wt_q hG hL0 hK0 eq23
                  have hKq23 : gK G q23 = 12 := hKq23
                  refine r_getR (k := 14) cx w hL0 hK0 (by decide) rfl wi_X11_carryOut_X11 (by decide) rfl eq23 (List.mem_of_getElem? (i := 2) rfl) dX11_carryOut_227 ?_
                  refine lv_iload_n hx hb dX11_carryOut_230 rfl (lv_at hl 0 rfl) ?_
                  refine lv_iconst (v := (1 : Int32)) hx hb dX11_carryOut_231 (by decide) ?_
                  refine lv_iadd hx hb dX11_carryOut_232 ?_
                  obtain ⟨z24, h⟩ := x_ix h
                  refine r_iald cx w hLq23 hKq23 z24 dX11_carryOut_233 ?_
                  obtain ⟨M25, r26, y27, h⟩ := x_cl h
                  refine r_callSNi (As := [.int x8, .int ((mI M12 q21 (Int32.toNatClampNeg x19))), .int ((mI M12 q23 (Int32.toNatClampNeg (x19 + (1 : Int32)))))]) (rest := [.int x19, .ref q20]) cx w hkn hl.1 (k_X12_both hG y27) ⟨va_cnB 3 hts gX11_carryOut_X12_both_n174 rfl rfl rfl (nwM cx (q := (RX11, 174, yX12_both, "FlagAntsModel")) (List.mem_of_getElem? (i := 11) rfl)) (hts _ (List.mem_of_getElem? (i := 11) rfl)) (by decide +kernel) ⟨Nat.le_of_ble_eq_true rfl, Nat.le_of_ble_eq_true rfl⟩, hts _ (List.mem_of_getElem? (i := 42) rfl), trivial⟩ rfl rfl (Nat.le_of_ble_eq_true rfl) dX11_carryOut_234 (fun H locs w => ?_)
                  obtain ⟨z28, h⟩ := x_ix h
                  obtain ⟨M29, eM29, h⟩ := x_wI h
                  refine r_iast cx w hLq20 hKq20 z28 dX11_carryOut_237 eM29 (fun H locs w => ?_)
                  exact b_X11_carryOut_238 cx hkn hL0 hK0 (hkb5 := ih) M29 x19 x9 H locs ls h w (lv_sub hl [3, 4, 0, 1] rfl)
                · have h := x_t h k18
                  exact b_X11_carryOut_136 cx hkn hL0 hK0 (hkb5 := ih) M12 v3 x9 x8 H locs ls h w (lv_sub hl [2, 3, 4, 0, 1] rfl)
          · have h := x_f h k15
            obtain ⟨x30, ex30, h⟩ := x_bd h
            refine lv_iinc (v := x30) (lv' := [(3, .int x30), (4, .int x9), (5, .int x8), (0, .ref a0), (2, .int c2)]) hx hb dX11_carryOut_81 hl (k := 4) rfl (by rw [ex30]; rfl) (by decide) rfl (fun ls hl => ?_)
            refine lv_aload_n hx hb dX11_carryOut_84 rfl (lv_at hl 3 rfl) ?_
            obtain ⟨q31, eq31, h⟩ := x_rf h
            obtain ⟨hLq31, hKq31⟩ := wt_q hG hL0 hK0 eq31
            have hKq31 : gK G q31 = 12 := hKq31
            refine r_getR (k := 14) cx w hL0 hK0 (by decide) rfl wi_X11_carryOut_X11 (by decide) rfl eq31 (List.mem_of_getElem? (i := 2) rfl) dX11_carryOut_85 ?_
            refine lv_iload_n hx hb dX11_carryOut_88 rfl (lv_at hl 0 rfl) ?_
            refine lv_aload_n hx hb dX11_carryOut_89 rfl (lv_at hl 3 rfl) ?_
            refine lv_iload hx hb dX11_carryOut_90 (lv_at hl 2 rfl) ?_
            refine lv_aload_n hx hb dX11_carryOut_92 rfl (lv_at hl 3 rfl) ?_
            obtain ⟨q32, eq32, h⟩ := x_rf h
            obtain ⟨hLq32, hKq32⟩ := wt_q hG hL0 hK0 eq32
            have hKq32 : gK G q32 = 11 := hKq32
            refine r_getR (k := 15) cx w hL0 hK0 (by decide) rfl wi_X11_carryOut_X11 (by decide) rfl eq32 (List.mem_of_getElem? (i := 1) rfl) dX11_carryOut_93 ?_
            obtain ⟨q33, eq33, h⟩ := x_rf h
            obtain ⟨hLq33, hKq33⟩ := wt_q hG hLq32 hKq32 eq33
            have hKq33 : gK G q33 = 9 := hKq33
            refine r_getRN (k := 11) cx w hLq32 hKq32 (by decide) rfl wi_X11_carryOut_X12 (by decide) rfl eq33 (nwF cx (q := (RX11, 72, "FlagAntsModel", "plan", "LFlagAntsModel$Plan;", "FlagAntsModel")) (List.mem_of_getElem? (i := 30) rfl)) dX11_carryOut_96 ?_
            obtain ⟨q34, eq34, h⟩ := x_rf h
            obtain ⟨hLq34, hKq34⟩ := wt_q hG hLq33 hKq33 eq34
            have hKq34 : gK G q34 = 12 := hKq34
            refine r_getRN (k := 18) cx w hLq33 hKq33 (by decide) rfl wi_X11_carryOut_X10 (by decide) rfl eq34 (nwF cx (q := (RX11, 161, "FlagAntsModel$Plan", "code", "[I", "FlagAntsModel")) (List.mem_of_getElem? (i := 45) rfl)) dX11_carryOut_99 ?_
            refine lv_iload hx hb dX11_carryOut_102 (lv_at hl 1 rfl) ?_
            obtain ⟨z35, h⟩ := x_ix h
            refine r_iald cx w hLq34 hKq34 z35 dX11_carryOut_104 ?_
            obtain ⟨M36, r37, y38, h⟩ := x_cl h
            refine r_callVi (As := [.int x8, .int ((mI M12 q34 (Int32.toNatClampNeg x9)))]) (rest := [.int x30, .ref q31]) cx w hkn hl.1 (k_X11_pushed hG hL0 hK0 y38) (cwV 2 hts gX11_carryOut_X11_pushed rfl rfl rfl (by decide +kernel) ⟨Nat.le_of_ble_eq_true rfl, Nat.le_of_ble_eq_true rfl⟩) hL0 hK0 (by decide) rfl rfl rfl (Nat.le_of_ble_eq_true rfl) dX11_carryOut_105 (fun H locs w => ?_)
            obtain ⟨z39, h⟩ := x_ix h
            obtain ⟨M40, eM40, h⟩ := x_wI h
            refine r_iast cx w hLq31 hKq31 z39 dX11_carryOut_108 eM40 (fun H locs w => ?_)
            obtain ⟨x41, ex41, h⟩ := x_bd h
            refine lv_iinc (v := x41) (lv' := [(4, .int x41), (3, .int x30), (5, .int x8), (0, .ref a0), (2, .int c2)]) hx hb dX11_carryOut_109 hl (k := 1) rfl (by rw [ex41]; rfl) (by decide) rfl (fun ls hl => ?_)
            refine lv_goto (tgt := 238) hx hb dX11_carryOut_112 (by decide) ?_
            exact b_X11_carryOut_238 cx hkn hL0 hK0 (hkb5 := ih) M40 x30 x41 H locs ls h w (lv_sub hl [3, 4, 1, 0] rfl)
        · have h := x_t h k11
          exact b_X11_carryOut_43 cx hkn hL0 hK0 (hkb5 := ih) M v3 x9 x8 H locs ls h w (lv_sub hl [2, 3, 4, 0, 1] rfl)
set_option maxHeartbeats 4000000 in
set_option maxRecDepth 100000 in
theorem k_X11_carryOut {l : Launch} {D : va_G} {cy : cyS} {G : gS} {M M' : mS} {r : Int32} {a0 : Nat} {c1 : Int32} {c2 : Int32} (hG : wt G) (hL0 : a0 ∈ gL G) (hK0 : gK G a0 = 10) (h : m_X11_carryOut G M a0 c1 c2 = some (M', r)) : ctI l yX11_carryOut wsX11_carryOut rmX11_carryOut D cy G M [.ref a0, .int c1, .int c2] M' r := by
  unfold m_X11_carryOut at h
  refine ctI_of (cc := cX11_carryOut) (nL := 6) (ret := (some .int)) (lv := [(0, .ref a0), (1, .int c1), (2, .int c2)]) hG (by decide) rfl ⟨rfl, rfl⟩ (Nat.le_of_ble_eq_true rfl) rfl ?_
  intro p e s m args below meth c A ls cx w hl
  obtain ⟨hx, hb, hml, hown, hts, hr, hlocks, hK, hA, -, hsx⟩ := id cx
  have hkn : 0 ≤ (rmX11_carryOut).cells ∧ 0 ≤ (rmX11_carryOut).slots := ⟨Nat.zero_le _, Nat.zero_le _⟩
  refine lv_iconst (v := (-1 : Int32)) hx hb dX11_carryOut_0 (by decide) ?_
  refine lv_istore_n (lv' := [(3, .int ((-1 : Int32))), (0, .ref a0), (1, .int c1), (2, .int c2)]) hx hb dX11_carryOut_1 rfl hl (by decide) rfl (fun ls hl => ?_)
  refine lv_iload_n hx hb dX11_carryOut_2 rfl (lv_at hl 2 rfl) ?_
  refine lv_istore (lv' := [(4, .int c1), (3, .int ((-1 : Int32))), (0, .ref a0), (1, .int c1), (2, .int c2)]) hx hb dX11_carryOut_3 hl (by decide) rfl (fun ls hl => ?_)
  exact b_X11_carryOut_5 cx hkn hL0 hK0 fu M ((-1 : Int32)) c1 s.heap [] ls h w (lv_sub hl [2, 4, 1, 0] rfl)
-- X11_orders
theorem wi_X11_orders_X10 : ∀ w ∈ wsX100, w ∈ wsX11_orders := by decide +kernel
theorem wi_X11_orders_X11 : ∀ w ∈ wsX110, w ∈ wsX11_orders := by decide +kernel
theorem wi_X11_orders_X12 : ∀ w ∈ wsX120, w ∈ wsX11_orders := by decide +kernel
abbrev rmX11_orders : Room := { frames := 2, cells := 0, slots := 0, locals := 47 }
def m_X11_orders_123 (G : gS) (a0 : Nat) (c1 : Int32)  (M : mS) (v2 : Int32) (s0 : Int32) : Option (mS × Int32) := o_rf (gP G a0 9) (fun q1 => o_ix v2 (gN G q1) ((if (mI M q1 (Int32.toNatClampNeg v2)) = s0 then o_ck ((0 : Int32) = 0 ∨ (0 : Int32) = 1) (some (M, (0 : Int32))) else o_rf (gP G a0 9) (fun q4 => o_ix v2 (gN G q4) (o_wI M q4 (Int32.toNatClampNeg v2) s0 (fun M6 => o_ck ((1 : Int32) = 0 ∨ (1 : Int32) = 1) (some (M6, (1 : Int32)))))))))
def m_X11_orders (G : gS) (M : mS) (a0 : Nat) (c1 : Int32) : Option (mS × Int32) := o_rf (gP G a0 15) (fun q1 => o_rf (gP G q1 11) (fun q2 => o_rf (gP G q2 14) (fun q3 => o_ix c1 (gN G q3) (o_bd ((mI M q3 (Int32.toNatClampNeg c1))) (fun x5 => o_rf (gP G a0 15) (fun q6 => o_rf (gP G q6 11) (fun q7 => o_rf (gP G q7 15) (fun q8 => o_ix c1 (gN G q8) (o_bd ((mI M q8 (Int32.toNatClampNeg c1))) (fun x10 => o_rf (gP G a0 15) (fun q11 => o_rf (gP G q11 11) (fun q12 => o_rf (gP G q12 13) (fun q13 => o_ix c1 (gN G q13) ((if (mI M q13 (Int32.toNatClampNeg c1)) = (14 : Int32) then o_cl (m_X11_wash G M a0 x5 x10) (fun M37 r38 => (if r38 ≤ 0 then o_ck ((0 : Int32) = 0 ∨ (0 : Int32) = 1) (some (M37, (0 : Int32))) else o_ck ((1 : Int32) = 0 ∨ (1 : Int32) = 1) (some (M37, (1 : Int32))))) else o_rf (gP G a0 15) (fun q16 => o_rf (gP G q16 11) (fun q17 => o_rf (gP G q17 13) (fun q18 => o_ix c1 (gN G q18) ((if (mI M q18 (Int32.toNatClampNeg c1)) = (16 : Int32) then o_rf (gP G a0 8) (fun q26 => o_ix x5 (gN G q26) ((if (mI M q26 (Int32.toNatClampNeg x5)) = x10 then o_ck ((0 : Int32) = 0 ∨ (0 : Int32) = 1) (some (M, (0 : Int32))) else o_rf (gP G a0 8) (fun q29 => o_ix x5 (gN G q29) (o_wI M q29 (Int32.toNatClampNeg x5) x10 (fun M31 => o_cl (m_X11_forget G M31 a0 x5) (fun M32 r33 => o_ck ((1 : Int32) = 0 ∨ (1 : Int32) = 1) (some (M32, (1 : Int32)))))))))) else o_rf (gP G a0 15) (fun q21 => o_rf (gP G q21 11) (fun q22 => o_rf (gP G q22 13) (fun q23 => o_ix c1 (gN G q23) ((if (mI M q23 (Int32.toNatClampNeg c1)) = (17 : Int32) then m_X11_orders_123 G a0 c1 M x5 ((1 : Int32)) else m_X11_orders_123 G a0 c1 M x5 ((0 : Int32)))))))))))))))))))))))))))
set_option maxHeartbeats 4000000 in
set_option maxRecDepth 100000 in
theorem b_X11_orders_123 {p : Program} {e : Env} {s : State} {m : MethodId} {args : Array Value} {below : List Frame} {meth : Method} {c : Code} {A : Nat → Prop} {l : Launch} {D : va_G} {cy : cyS} {G : gS} (cx : cX p s m args meth c cX11_orders RX11 5 (some .boolean) wsX11_orders D cy G A) {k0 n0 : Nat} (hkn : k0 ≤ (rmX11_orders).cells ∧ n0 ≤ (rmX11_orders).slots) {M' : mS} {r : Int32} {a0 : Nat} {c1 : Int32} (hL0 : a0 ∈ gL G) (hK0 : gK G a0 = 10)  : ∀ (M : mS) (v2 : Int32) (s0 : Int32) (H : Heap) (locs : List Loc) (ls : Array Slot), m_X11_orders_123 G a0 c1 M v2 s0 = some (M', r) → wd D cy G M A s.heap H locs → lv_has ls 5 [(0, .ref a0), (2, .int v2)] → W p l e rmX11_orders s m args below meth c H locs k0 n0 (MQ below (va_Qi (fun (r' : Int32) (_ : Unit) => r' = r) (fun _ t => wOut D cy G M' t) A) args s k0 n0 A) (F0 m 123 ls [.int s0]) := by
  obtain ⟨hx, hb, hml, hown, hts, hr, hlocks, hK, hA, hG, hsx⟩ := id cx
  intro M v2 s0 H locs ls h w hl
  unfold m_X11_orders_123 at h
  refine lv_istore (lv' := [(4, .int s0), (0, .ref a0), (2, .int v2)]) hx hb dX11_orders_123 hl (by decide) rfl (fun ls hl => ?_)
  refine lv_aload_n hx hb dX11_orders_125 rfl (lv_at hl 1 rfl) ?_
  obtain ⟨q1, eq1, h⟩ := x_rf h
  obtain ⟨hLq1, hKq1⟩ := wt_q hG hL0 hK0 eq1
  have hKq1 : gK G q1 = 12 := hKq1
  refine r_getR (k := 9) cx w hL0 hK0 (by decide) rfl wi_X11_orders_X11 (by decide) rfl eq1 (List.mem_of_getElem? (i := 3) rfl) dX11_orders_126 ?_
  refine lv_iload_n hx hb dX11_orders_129 rfl (lv_at hl 2 rfl) ?_
  obtain ⟨z2, h⟩ := x_ix h
  refine r_iald cx w hLq1 hKq1 z2 dX11_orders_130 ?_
  refine lv_iload hx hb dX11_orders_131 (lv_at hl 0 rfl) ?_
  refine lv_icmp_ne (tgt := 138) hx hb dX11_orders_133 (by decide) (fun k3 => ?_) (fun k3 => ?_)
  · have h := x_f h k3
    refine lv_aload_n hx hb dX11_orders_138 rfl (lv_at hl 1 rfl) ?_
    obtain ⟨q4, eq4, h⟩ := x_rf h
    obtain ⟨hLq4, hKq4⟩ := wt_q hG hL0 hK0 eq4
    have hKq4 : gK G q4 = 12 := hKq4
    refine r_getR (k := 9) cx w hL0 hK0 (by decide) rfl wi_X11_orders_X11 (by decide) rfl eq4 (List.mem_of_getElem? (i := 3) rfl) dX11_orders_139 ?_
    refine lv_iload_n hx hb dX11_orders_142 rfl (lv_at hl 2 rfl) ?_
    refine lv_iload hx hb dX11_orders_143 (lv_at hl 0 rfl) ?_
    obtain ⟨z5, h⟩ := x_ix h
    obtain ⟨M6, eM6, h⟩ := x_wI h
    refine r_iast cx w hLq4 hKq4 z5 dX11_orders_145 eM6 (fun H locs w => ?_)
    refine lv_iconst (v := (1 : Int32)) hx hb dX11_orders_146 (by decide) ?_
    obtain ⟨z7, h⟩ := x_ck h
    exact r_zret cx w z7 h dX11_orders_147
  · have h := x_t h k3
    refine lv_iconst (v := (0 : Int32)) hx hb dX11_orders_136 (by decide) ?_
    obtain ⟨z8, h⟩ := x_ck h
    exact r_zret cx w z8 h dX11_orders_137
set_option maxHeartbeats 4000000 in
set_option maxRecDepth 100000 in
theorem k_X11_orders {l : Launch} {D : va_G} {cy : cyS} {G : gS} {M M' : mS} {r : Int32} {a0 : Nat} {c1 : Int32} (hG : wt G) (hL0 : a0 ∈ gL G) (hK0 : gK G a0 = 10) (h : m_X11_orders G M a0 c1 = some (M', r)) : ctI l yX11_orders wsX11_orders rmX11_orders D cy G M [.ref a0, .int c1] M' r := by
  unfold m_X11_orders at h
  refine ctI_of (cc := cX11_orders) (nL := 5) (ret := (some .boolean)) (lv := [(0, .ref a0), (1, .int c1)]) hG (by decide) rfl ⟨rfl, rfl⟩ (Nat.le_of_ble_eq_true rfl) rfl ?_
  intro p e s m args below meth c A ls cx w hl
  obtain ⟨hx, hb, hml, hown, hts, hr, hlocks, hK, hA, -, hsx⟩ := id cx
  have hkn : 0 ≤ (rmX11_orders).cells ∧ 0 ≤ (rmX11_orders).slots := ⟨Nat.zero_le _, Nat.zero_le _⟩
  refine lv_aload_n hx hb dX11_orders_0 rfl (lv_at hl 0 rfl) ?_
  obtain ⟨q1, eq1, h⟩ := x_rf h
  obtain ⟨hLq1, hKq1⟩ := wt_q hG hL0 hK0 eq1
  have hKq1 : gK G q1 = 11 := hKq1
  refine r_getR (k := 15) cx w hL0 hK0 (by decide) rfl wi_X11_orders_X11 (by decide) rfl eq1 (List.mem_of_getElem? (i := 1) rfl) dX11_orders_1 ?_
  obtain ⟨q2, eq2, h⟩ := x_rf h
  obtain ⟨hLq2, hKq2⟩ := wt_q hG hLq1 hKq1 eq2
  have hKq2 : gK G q2 = 9 := hKq2
  refine r_getRN (k := 11) cx w hLq1 hKq1 (by decide) rfl wi_X11_orders_X12 (by decide) rfl eq2 (nwF cx (q := (RX11, 72, "FlagAntsModel", "plan", "LFlagAntsModel$Plan;", "FlagAntsModel")) (List.mem_of_getElem? (i := 30) rfl)) dX11_orders_4 ?_
  obtain ⟨q3, eq3, h⟩ := x_rf h
  obtain ⟨hLq3, hKq3⟩ := wt_q hG hLq2 hKq2 eq3
  have hKq3 : gK G q3 = 12 := hKq3
  refine r_getRN (k := 14) cx w hLq2 hKq2 (by decide) rfl wi_X11_orders_X10 (by decide) rfl eq3 (nwF cx (q := (RX11, 113, "FlagAntsModel$Plan", "one", "[I", "FlagAntsModel")) (List.mem_of_getElem? (i := 39) rfl)) dX11_orders_7 ?_
  refine lv_iload_n hx hb dX11_orders_10 rfl (lv_at hl 1 rfl) ?_
  obtain ⟨z4, h⟩ := x_ix h
  refine r_iald cx w hLq3 hKq3 z4 dX11_orders_11 ?_
  obtain ⟨x5, ex5, h⟩ := x_bd h
  refine r_topI ex5 ?_
  refine lv_istore_n (lv' := [(2, .int x5), (0, .ref a0), (1, .int c1)]) hx hb dX11_orders_12 rfl hl (by decide) rfl (fun ls hl => ?_)
  refine lv_aload_n hx hb dX11_orders_13 rfl (lv_at hl 1 rfl) ?_
  obtain ⟨q6, eq6, h⟩ := x_rf h
  obtain ⟨hLq6, hKq6⟩ := wt_q hG hL0 hK0 eq6
  have hKq6 : gK G q6 = 11 := hKq6
  refine r_getR (k := 15) cx w hL0 hK0 (by decide) rfl wi_X11_orders_X11 (by decide) rfl eq6 (List.mem_of_getElem? (i := 1) rfl) dX11_orders_14 ?_
  obtain ⟨q7, eq7, h⟩ := x_rf h
  obtain ⟨hLq7, hKq7⟩ := wt_q hG hLq6 hKq6 eq7
  have hKq7 : gK G q7 = 9 := hKq7
  refine r_getRN (k := 11) cx w hLq6 hKq6 (by decide) rfl wi_X11_orders_X12 (by decide) rfl eq7 (nwF cx (q := (RX11, 72, "FlagAntsModel", "plan", "LFlagAntsModel$Plan;", "FlagAntsModel")) (List.mem_of_getElem? (i := 30) rfl)) dX11_orders_17 ?_
  obtain ⟨q8, eq8, h⟩ := x_rf h
  obtain ⟨hLq8, hKq8⟩ := wt_q hG hLq7 hKq7 eq8
  have hKq8 : gK G q8 = 12 := hKq8
  refine r_getRN (k := 15) cx w hLq7 hKq7 (by decide) rfl wi_X11_orders_X10 (by decide) rfl eq8 (nwF cx (q := (RX11, 116, "FlagAntsModel$Plan", "other", "[I", "FlagAntsModel")) (List.mem_of_getElem? (i := 40) rfl)) dX11_orders_20 ?_
  refine lv_iload_n hx hb dX11_orders_23 rfl (lv_at hl 2 rfl) ?_
  obtain ⟨z9, h⟩ := x_ix h
  refine r_iald cx w hLq8 hKq8 z9 dX11_orders_24 ?_
  obtain ⟨x10, ex10, h⟩ := x_bd h
  refine r_topI ex10 ?_
  refine lv_istore_n (lv' := [(3, .int x10), (2, .int x5), (0, .ref a0), (1, .int c1)]) hx hb dX11_orders_25 rfl hl (by decide) rfl (fun ls hl => ?_)
  refine lv_aload_n hx hb dX11_orders_26 rfl (lv_at hl 2 rfl) ?_
  obtain ⟨q11, eq11, h⟩ := x_rf h
  obtain ⟨hLq11, hKq11⟩ := wt_q hG hL0 hK0 eq11
  have hKq11 : gK G q11 = 11 := hKq11
  refine r_getR (k := 15) cx w hL0 hK0 (by decide) rfl wi_X11_orders_X11 (by decide) rfl eq11 (List.mem_of_getElem? (i := 1) rfl) dX11_orders_27 ?_
  obtain ⟨q12, eq12, h⟩ := x_rf h
  obtain ⟨hLq12, hKq12⟩ := wt_q hG hLq11 hKq11 eq12
  have hKq12 : gK G q12 = 9 := hKq12
  refine r_getRN (k := 11) cx w hLq11 hKq11 (by decide) rfl wi_X11_orders_X12 (by decide) rfl eq12 (nwF cx (q := (RX11, 72, "FlagAntsModel", "plan", "LFlagAntsModel$Plan;", "FlagAntsModel")) (List.mem_of_getElem? (i := 30) rfl)) dX11_orders_30 ?_
  obtain ⟨q13, eq13, h⟩ := x_rf h
  obtain ⟨hLq13, hKq13⟩ := wt_q hG hLq12 hKq12 eq13
  have hKq13 : gK G q13 = 12 := hKq13
  refine r_getRN (k := 13) cx w hLq12 hKq12 (by decide) rfl wi_X11_orders_X10 (by decide) rfl eq13 (nwF cx (q := (RX11, 119, "FlagAntsModel$Plan", "does", "[I", "FlagAntsModel")) (List.mem_of_getElem? (i := 41) rfl)) dX11_orders_33 ?_
  refine lv_iload_n hx hb dX11_orders_36 rfl (lv_at hl 3 rfl) ?_
  obtain ⟨z14, h⟩ := x_ix h
  refine r_iald cx w hLq13 hKq13 z14 dX11_orders_37 ?_
  refine lv_bipush (v := (14 : Int32)) hx hb dX11_orders_38 (by decide) ?_
  refine lv_icmp_ne (tgt := 58) hx hb dX11_orders_40 (by decide) (fun k15 => ?_) (fun k15 => ?_)
  · have h := x_f h k15
    refine lv_aload_n hx hb dX11_orders_58 rfl (lv_at hl 2 rfl) ?_
    obtain ⟨q16, eq16, h⟩ := x_rf h
    obtain ⟨hLq16, hKq16⟩ := wt_q hG hL0 hK0 eq16
    have hKq16 : gK G q16 = 11 := hKq16
    refine r_getR (k := 15) cx w hL0 hK0 (by decide) rfl wi_X11_orders_X11 (by decide) rfl eq16 (List.mem_of_getElem? (i := 1) rfl) dX11_orders_59 ?_
    obtain ⟨q17, eq17, h⟩ := x_rf h
    obtain ⟨hLq17, hKq17⟩ := wt_q hG hLq16 hKq16 eq17
    have hKq17 : gK G q17 = 9 := hKq17
    refine r_getRN (k := 11) cx w hLq16 hKq16 (by decide) rfl wi_X11_orders_X12 (by decide) rfl eq17 (nwF cx (q := (RX11, 72, "FlagAntsModel", "plan", "LFlagAntsModel$Plan;", "FlagAntsModel")) (List.mem_of_getElem? (i := 30) rfl)) dX11_orders_62 ?_
    obtain ⟨q18, eq18, h⟩ := x_rf h
    obtain ⟨hLq18, hKq18⟩ := wt_q hG hLq17 hKq17 eq18
    have hKq18 : gK G q18 = 12 := hKq18
    refine r_getRN (k := 13) cx w hLq17 hKq17 (by decide) rfl wi_X11_orders_X10 (by decide) rfl eq18 (nwF cx (q := (RX11, 119, "FlagAntsModel$Plan", "does", "[I", "FlagAntsModel")) (List.mem_of_getElem? (i := 41) rfl)) dX11_orders_65 ?_
    refine lv_iload_n hx hb dX11_orders_68 rfl (lv_at hl 3 rfl) ?_
    obtain ⟨z19, h⟩ := x_ix h
    refine r_iald cx w hLq18 hKq18 z19 dX11_orders_69 ?_
    refine lv_bipush (v := (16 : Int32)) hx hb dX11_orders_70 (by decide) ?_
    refine lv_icmp_ne (tgt := 101) hx hb dX11_orders_72 (by decide) (fun k20 => ?_) (fun k20 => ?_)
    · have h := x_f h k20
      refine lv_aload_n hx hb dX11_orders_101 rfl (lv_at hl 2 rfl) ?_
      obtain ⟨q21, eq21, h⟩ := x_rf h
      obtain ⟨hLq21, hKq21⟩ := wt_q hG hL0 hK0 eq21
      have hKq21 : gK G q21 = 11 := hKq21
      refine r_getR (k := 15) cx w hL0 hK0 (by decide) rfl wi_X11_orders_X11 (by decide) rfl eq21 (List.mem_of_getElem? (i := 1) rfl) dX11_orders_102 ?_
      obtain ⟨q22, eq22, h⟩ := x_rf h
      obtain ⟨hLq22, hKq22⟩ := wt_q hG hLq21 hKq21 eq22
      have hKq22 : gK G q22 = 9 := hKq22
      refine r_getRN (k := 11) cx w hLq21 hKq21 (by decide) rfl wi_X11_orders_X12 (by decide) rfl eq22 (nwF cx (q := (RX11, 72, "FlagAntsModel", "plan", "LFlagAntsModel$Plan;", "FlagAntsModel")) (List.mem_of_getElem? (i := 30) rfl)) dX11_orders_105 ?_
      obtain ⟨q23, eq23, h⟩ := x_rf h
      obtain ⟨hLq23, hKq23⟩ := wt_q hG hLq22 hKq22 eq23
      have hKq23 : gK G q23 = 12 := hKq23
      refine r_getRN (k := 13) cx w hLq22 hKq22 (by decide) rfl wi_X11_orders_X10 (by decide) rfl eq23 (nwF cx (q := (RX11, 119, "FlagAntsModel$Plan", "does", "[I", "FlagAntsModel")) (List.mem_of_getElem? (i := 41) rfl)) dX11_orders_108 ?_
      refine lv_iload_n hx hb dX11_orders_111 rfl (lv_at hl 3 rfl) ?_
      obtain ⟨z24, h⟩ := x_ix h
      refine r_iald cx w hLq23 hKq23 z24 dX11_orders_112 ?_
      refine lv_bipush (v := (17 : Int32)) hx hb dX11_orders_113 (by decide) ?_
      refine lv_icmp_ne (tgt := 122) hx hb dX11_orders_115 (by decide) (fun k25 => ?_) (fun k25 => ?_)
      · have h := x_f h k25
        refine lv_iconst (v := (0 : Int32)) hx hb dX11_orders_122 (by decide) ?_
        exact b_X11_orders_123 cx hkn hL0 hK0 M x5 ((0 : Int32)) s.heap [] ls h w (lv_sub hl [2, 1] rfl)
      · have h := x_t h k25
        refine lv_iconst (v := (1 : Int32)) hx hb dX11_orders_118 (by decide) ?_
        refine lv_goto (tgt := 123) hx hb dX11_orders_119 (by decide) ?_
        exact b_X11_orders_123 cx hkn hL0 hK0 M x5 ((1 : Int32)) s.heap [] ls h w (lv_sub hl [2, 1] rfl)
    · have h := x_t h k20
      refine lv_aload_n hx hb dX11_orders_75 rfl (lv_at hl 2 rfl) ?_
      obtain ⟨q26, eq26, h⟩ := x_rf h
      obtain ⟨hLq26, hKq26⟩ := wt_q hG hL0 hK0 eq26
      have hKq26 : gK G q26 = 12 := hKq26
      refine r_getR (k := 8) cx w hL0 hK0 (by decide) rfl wi_X11_orders_X11 (by decide) rfl eq26 (List.mem_of_getElem? (i := 2) rfl) dX11_orders_76 ?_
      refine lv_iload_n hx hb dX11_orders_79 rfl (lv_at hl 1 rfl) ?_
      obtain ⟨z27, h⟩ := x_ix h
      refine r_iald cx w hLq26 hKq26 z27 dX11_orders_80 ?_
      refine lv_iload_n hx hb dX11_orders_81 rfl (lv_at hl 0 rfl) ?_
      refine lv_icmp_ne (tgt := 87) hx hb dX11_orders_82 (by decide) (fun k28 => ?_) (fun k28 => ?_)
      · have h := x_f h k28
        refine lv_aload_n hx hb dX11_orders_87 rfl (lv_at hl 2 rfl) ?_
        obtain ⟨q29, eq29, h⟩ := x_rf h
        obtain ⟨hLq29, hKq29⟩ := wt_q hG hL0 hK0 eq29
        have hKq29 : gK G q29 = 12 := hKq29
        refine r_getR (k := 8) cx w hL0 hK0 (by decide) rfl wi_X11_orders_X11 (by decide) rfl eq29 (List.mem_of_getElem? (i := 2) rfl) dX11_orders_88 ?_
        refine lv_iload_n hx hb dX11_orders_91 rfl (lv_at hl 1 rfl) ?_
        refine lv_iload_n hx hb dX11_orders_92 rfl (lv_at hl 0 rfl) ?_
        obtain ⟨z30, h⟩ := x_ix h
        obtain ⟨M31, eM31, h⟩ := x_wI h
        refine r_iast cx w hLq29 hKq29 z30 dX11_orders_93 eM31 (fun H locs w => ?_)
        refine lv_aload_n hx hb dX11_orders_94 rfl (lv_at hl 2 rfl) ?_
        refine lv_iload_n hx hb dX11_orders_95 rfl (lv_at hl 1 rfl) ?_
        obtain ⟨M32, r33, y34, h⟩ := x_cl h
        refine r_callVv (As := [.int x5]) (rest := []) cx w hkn hl.1 (k_X11_forget hG hL0 hK0 y34) (cwV 1 hts gX11_orders_X11_forget rfl rfl rfl (by decide +kernel) ⟨Nat.le_of_ble_eq_true rfl, Nat.le_of_ble_eq_true rfl⟩) hL0 hK0 (by decide) rfl rfl rfl (Nat.le_of_ble_eq_true rfl) dX11_orders_96 (fun H locs w => ?_)
        refine lv_iconst (v := (1 : Int32)) hx hb dX11_orders_99 (by decide) ?_
        obtain ⟨z35, h⟩ := x_ck h
        exact r_zret cx w z35 h dX11_orders_100
      · have h := x_t h k28
        refine lv_iconst (v := (0 : Int32)) hx hb dX11_orders_85 (by decide) ?_
        obtain ⟨z36, h⟩ := x_ck h
        exact r_zret cx w z36 h dX11_orders_86
  · have h := x_t h k15
    refine lv_aload_n hx hb dX11_orders_43 rfl (lv_at hl 2 rfl) ?_
    refine lv_iload_n hx hb dX11_orders_44 rfl (lv_at hl 1 rfl) ?_
    refine lv_iload_n hx hb dX11_orders_45 rfl (lv_at hl 0 rfl) ?_
    obtain ⟨M37, r38, y39, h⟩ := x_cl h
    refine r_callVi (As := [.int x5, .int x10]) (rest := []) cx w hkn hl.1 (k_X11_wash hG hL0 hK0 y39) (cwV 2 hts gX11_orders_X11_wash rfl rfl rfl (by decide +kernel) ⟨Nat.le_of_ble_eq_true rfl, Nat.le_of_ble_eq_true rfl⟩) hL0 hK0 (by decide) rfl rfl rfl (Nat.le_of_ble_eq_true rfl) dX11_orders_46 (fun H locs w => ?_)
    refine lv_if_le (tgt := 56) hx hb dX11_orders_49 (by decide) (fun k40 => ?_) (fun k40 => ?_)
    · have h := x_t h k40
      refine lv_iconst (v := (0 : Int32)) hx hb dX11_orders_56 (by decide) ?_
      obtain ⟨z41, h⟩ := x_ck h
      exact r_zret cx w z41 h dX11_orders_57
    · have h := x_f h k40
      refine lv_iconst (v := (1 : Int32)) hx hb dX11_orders_52 (by decide) ?_
      refine lv_goto (tgt := 57) hx hb dX11_orders_53 (by decide) ?_
      obtain ⟨z42, h⟩ := x_ck h
      exact r_zret cx w z42 h dX11_orders_57
-- X11_go
theorem wi_X11_go_X11 : ∀ w ∈ wsX110, w ∈ wsX11_go := by decide +kernel
abbrev rmX11_go : Room := { frames := 0, cells := 0, slots := 0, locals := 0 }
def m_X11_go_72 (G : gS) (a0 : Nat) (c1 : Int32) (c2 : Int32) (kb2 : mS → Int32 → Option (mS × Unit)) (M : mS) (v3 : Int32) (s0 : Nat) (s1 : Int32) (s2 : Int32) : Option (mS × Unit) := o_ix s1 (gN G s0) (o_wI M s0 (Int32.toNatClampNeg s1) s2 (fun M2 => o_bd (v3 + 1 : Int32) (fun x3 => kb2 M2 x3)))
def m_X11_go_71 (G : gS) (a0 : Nat) (c1 : Int32) (c2 : Int32) (kb2 : mS → Int32 → Option (mS × Unit)) (M : mS) (v3 : Int32) (s0 : Nat) (s1 : Int32) : Option (mS × Unit) := m_X11_go_72 G a0 c1 c2 kb2 M v3 s0 s1 ((0 : Int32))
def m_X11_go_191 (G : gS) (a0 : Nat) (c1 : Int32) (c2 : Int32)  (M : mS) (s0 : Nat) (s1 : Int32) (s2 : Int32) (s3 : Int32) : Option (mS × Unit) := o_ck (¬ (64 : Int32) = 0) (o_ix s1 (gN G s0) (o_wI M s0 (Int32.toNatClampNeg s1) ((s2 + s3) - (s2 + s3) / (64 : Int32) * (64 : Int32)) (fun M3 => some (M3, ()))))
def m_X11_go_154 (G : gS) (a0 : Nat) (c1 : Int32) (c2 : Int32)  (M : mS) (s0 : Nat) (s1 : Int32) (s2 : Int32) (s3 : Int32) : Option (mS × Unit) := o_ck (¬ (64 : Int32) = 0) (o_ix s1 (gN G s0) (o_wI M s0 (Int32.toNatClampNeg s1) ((s2 + s3) - (s2 + s3) / (64 : Int32) * (64 : Int32)) (fun M3 => o_rf (gP G a0 7) (fun q4 => o_rf (gP G a0 7) (fun q5 => o_ix c1 (gN G q5) ((if c2 = (2 : Int32) then m_X11_go_191 G a0 c1 c2 M3 q4 c1 (((mI M3 q5 (Int32.toNatClampNeg c1)) + (64 : Int32))) ((1 : Int32)) else (if c2 = 0 then m_X11_go_191 G a0 c1 c2 M3 q4 c1 (((mI M3 q5 (Int32.toNatClampNeg c1)) + (64 : Int32))) ((-1 : Int32)) else m_X11_go_191 G a0 c1 c2 M3 q4 c1 (((mI M3 q5 (Int32.toNatClampNeg c1)) + (64 : Int32))) ((0 : Int32))))))))))
def m_X11_go_2 (G : gS) (a0 : Nat) (c1 : Int32) (c2 : Int32)  : Nat → mS → Int32 → Option (mS × Unit)
  | 0, _, _ => none
  | n + 1, M, v3 => (if (120 : Int32) < v3 then o_rf (gP G a0 12) (fun q2 => o_rf (gP G a0 11) (fun q3 => o_ix c1 (gN G q3) (o_ck (¬ (128 : Int32) = 0) (o_ix (((128 : Int32) * c1) + ((mI M q3 (Int32.toNatClampNeg c1)) - (mI M q3 (Int32.toNatClampNeg c1)) / (128 : Int32) * (128 : Int32))) (gN G q2) (o_wI M q2 (Int32.toNatClampNeg (((128 : Int32) * c1) + ((mI M q3 (Int32.toNatClampNeg c1)) - (mI M q3 (Int32.toNatClampNeg c1)) / (128 : Int32) * (128 : Int32)))) c2 (fun M7 => o_rf (gP G a0 11) (fun q8 => o_ix c1 (gN G q8) (o_ix c1 (gN G q8) (o_wI M7 q8 (Int32.toNatClampNeg c1) ((mI M7 q8 (Int32.toNatClampNeg c1)) + (1 : Int32)) (fun M11 => o_rf (gP G a0 10) (fun q12 => o_ix c1 (gN G q12) (o_ix c1 (gN G q12) (o_wI M11 q12 (Int32.toNatClampNeg c1) ((mI M11 q12 (Int32.toNatClampNeg c1)) + (1 : Int32)) (fun M15 => o_rf (gP G a0 6) (fun q16 => o_rf (gP G a0 6) (fun q17 => o_ix c1 (gN G q17) ((if c2 = (1 : Int32) then m_X11_go_154 G a0 c1 c2 M15 q16 c1 (((mI M15 q17 (Int32.toNatClampNeg c1)) + (64 : Int32))) ((1 : Int32)) else (if c2 = (3 : Int32) then m_X11_go_154 G a0 c1 c2 M15 q16 c1 (((mI M15 q17 (Int32.toNatClampNeg c1)) + (64 : Int32))) ((-1 : Int32)) else m_X11_go_154 G a0 c1 c2 M15 q16 c1 (((mI M15 q17 (Int32.toNatClampNeg c1)) + (64 : Int32))) ((0 : Int32))))))))))))))))))))) else o_bd ((((121 : Int32) * c1) + v3)) (fun x21 => o_rf (gP G a0 13) (fun q22 => o_rf (gP G a0 11) (fun q23 => o_ix c1 (gN G q23) ((if (mI M q23 (Int32.toNatClampNeg c1)) < v3 then m_X11_go_71 G a0 c1 c2 (fun M v3 => m_X11_go_2 G a0 c1 c2 n M v3) M v3 q22 x21 else o_rf (gP G a0 12) (fun q26 => o_rf (gP G a0 11) (fun q27 => o_ix c1 (gN G q27) (o_ck (¬ (128 : Int32) = 0) (o_ix (((128 : Int32) * c1) + (((mI M q27 (Int32.toNatClampNeg c1)) - v3) - ((mI M q27 (Int32.toNatClampNeg c1)) - v3) / (128 : Int32) * (128 : Int32))) (gN G q26) ((if (mI M q26 (Int32.toNatClampNeg (((128 : Int32) * c1) + (((mI M q27 (Int32.toNatClampNeg c1)) - v3) - ((mI M q27 (Int32.toNatClampNeg c1)) - v3) / (128 : Int32) * (128 : Int32))))) = c2 then o_rf (gP G a0 13) (fun q32 => o_ix x21 (gN G q32) (m_X11_go_72 G a0 c1 c2 (fun M v3 => m_X11_go_2 G a0 c1 c2 n M v3) M v3 q22 x21 (((mI M q32 (Int32.toNatClampNeg x21)) + (1 : Int32))))) else m_X11_go_71 G a0 c1 c2 (fun M v3 => m_X11_go_2 G a0 c1 c2 n M v3) M v3 q22 x21))))))))))))
def m_X11_go (G : gS) (M : mS) (a0 : Nat) (c1 : Int32) (c2 : Int32) : Option (mS × Unit) := m_X11_go_2 G a0 c1 c2 fu M ((1 : Int32))
set_option maxHeartbeats 4000000 in
set_option maxRecDepth 100000 in
theorem b_X11_go_72 {p : Program} {e : Env} {s : State} {m : MethodId} {args : Array Value} {below : List Frame} {meth : Method} {c : Code} {A : Nat → Prop} {l : Launch} {D : va_G} {cy : cyS} {G : gS} (cx : cX p s m args meth c cX11_go RX11 5 none wsX11_go D cy G A) {k0 n0 : Nat} (hkn : k0 ≤ (rmX11_go).cells ∧ n0 ≤ (rmX11_go).slots) {M' : mS} {a0 : Nat} {c1 : Int32} {c2 : Int32} (hL0 : a0 ∈ gL G) (hK0 : gK G a0 = 10) {kb2 : mS → Int32 → Option (mS × Unit)} (hkb2 : ∀ (M : mS) (v3 : Int32) (H : Heap) (locs : List Loc) (ls : Array Slot), kb2 M v3 = some (M', ()) → wd D cy G M A s.heap H locs → lv_has ls 5 [(0, .ref a0), (1, .int c1), (2, .int c2), (3, .int v3)] → W p l e rmX11_go s m args below meth c H locs k0 n0 (MQ below (va_Qv (fun (_ : Unit) => True) (fun _ t => wOut D cy G M' t) A) args s k0 n0 A) (F0 m 2 ls [])) : ∀ (M : mS) (v3 : Int32) (s0 : Nat) (s1 : Int32) (s2 : Int32) (H : Heap) (locs : List Loc) (ls : Array Slot), s0 ∈ gL G → gK G s0 = 12 → m_X11_go_72 G a0 c1 c2 kb2 M v3 s0 s1 s2 = some (M', ()) → wd D cy G M A s.heap H locs → lv_has ls 5 [(0, .ref a0), (1, .int c1), (2, .int c2), (3, .int v3)] → W p l e rmX11_go s m args below meth c H locs k0 n0 (MQ below (va_Qv (fun (_ : Unit) => True) (fun _ t => wOut D cy G M' t) A) args s k0 n0 A) (F0 m 72 ls [.int s2, .int s1, .ref s0]) := by
  obtain ⟨hx, hb, hml, hown, hts, hr, hlocks, hK, hA, hG, hsx⟩ := id cx
  intro M v3 s0 s1 s2 H locs ls sL0 sK0 h w hl
  unfold m_X11_go_72 at h
  obtain ⟨z1, h⟩ := x_ix h
  obtain ⟨M2, eM2, h⟩ := x_wI h
  refine r_iast cx w sL0 sK0 z1 dX11_go_72 eM2 (fun H locs w => ?_)
  obtain ⟨x3, ex3, h⟩ := x_bd h
  refine lv_iinc (v := x3) (lv' := [(3, .int x3), (0, .ref a0), (1, .int c1), (2, .int c2)]) hx hb dX11_go_73 hl (k := 3) rfl (by rw [ex3]; rfl) (by decide) rfl (fun ls hl => ?_)
  refine lv_goto (tgt := 2) hx hb dX11_go_76 (by decide) ?_
  exact hkb2 M2 x3 H locs ls h w (lv_sub hl [1, 2, 3, 0] rfl)
set_option maxHeartbeats 4000000 in
set_option maxRecDepth 100000 in
theorem b_X11_go_71 {p : Program} {e : Env} {s : State} {m : MethodId} {args : Array Value} {below : List Frame} {meth : Method} {c : Code} {A : Nat → Prop} {l : Launch} {D : va_G} {cy : cyS} {G : gS} (cx : cX p s m args meth c cX11_go RX11 5 none wsX11_go D cy G A) {k0 n0 : Nat} (hkn : k0 ≤ (rmX11_go).cells ∧ n0 ≤ (rmX11_go).slots) {M' : mS} {a0 : Nat} {c1 : Int32} {c2 : Int32} (hL0 : a0 ∈ gL G) (hK0 : gK G a0 = 10) {kb2 : mS → Int32 → Option (mS × Unit)} (hkb2 : ∀ (M : mS) (v3 : Int32) (H : Heap) (locs : List Loc) (ls : Array Slot), kb2 M v3 = some (M', ()) → wd D cy G M A s.heap H locs → lv_has ls 5 [(0, .ref a0), (1, .int c1), (2, .int c2), (3, .int v3)] → W p l e rmX11_go s m args below meth c H locs k0 n0 (MQ below (va_Qv (fun (_ : Unit) => True) (fun _ t => wOut D cy G M' t) A) args s k0 n0 A) (F0 m 2 ls [])) : ∀ (M : mS) (v3 : Int32) (s0 : Nat) (s1 : Int32) (H : Heap) (locs : List Loc) (ls : Array Slot), s0 ∈ gL G → gK G s0 = 12 → m_X11_go_71 G a0 c1 c2 kb2 M v3 s0 s1 = some (M', ()) → wd D cy G M A s.heap H locs → lv_has ls 5 [(0, .ref a0), (1, .int c1), (2, .int c2), (3, .int v3)] → W p l e rmX11_go s m args below meth c H locs k0 n0 (MQ below (va_Qv (fun (_ : Unit) => True) (fun _ t => wOut D cy G M' t) A) args s k0 n0 A) (F0 m 71 ls [.int s1, .ref s0]) := by
  obtain ⟨hx, hb, hml, hown, hts, hr, hlocks, hK, hA, hG, hsx⟩ := id cx
  intro M v3 s0 s1 H locs ls sL0 sK0 h w hl
  unfold m_X11_go_71 at h
  refine lv_iconst (v := (0 : Int32)) hx hb dX11_go_71 (by decide) ?_
  exact b_X11_go_72 cx hkn hL0 hK0 (hkb2 := hkb2) M v3 s0 s1 ((0 : Int32)) H locs ls sL0 sK0 h w (lv_sub hl [0, 1, 2, 3] rfl)
set_option maxHeartbeats 4000000 in
set_option maxRecDepth 100000 in
theorem b_X11_go_191 {p : Program} {e : Env} {s : State} {m : MethodId} {args : Array Value} {below : List Frame} {meth : Method} {c : Code} {A : Nat → Prop} {l : Launch} {D : va_G} {cy : cyS} {G : gS} (cx : cX p s m args meth c cX11_go RX11 5 none wsX11_go D cy G A) {k0 n0 : Nat} (hkn : k0 ≤ (rmX11_go).cells ∧ n0 ≤ (rmX11_go).slots) {M' : mS} {a0 : Nat} {c1 : Int32} {c2 : Int32} (hL0 : a0 ∈ gL G) (hK0 : gK G a0 = 10)  : ∀ (M : mS) (s0 : Nat) (s1 : Int32) (s2 : Int32) (s3 : Int32) (H : Heap) (locs : List Loc) (ls : Array Slot), s0 ∈ gL G → gK G s0 = 12 → m_X11_go_191 G a0 c1 c2 M s0 s1 s2 s3 = some (M', ()) → wd D cy G M A s.heap H locs → lv_has ls 5 [] → W p l e rmX11_go s m args below meth c H locs k0 n0 (MQ below (va_Qv (fun (_ : Unit) => True) (fun _ t => wOut D cy G M' t) A) args s k0 n0 A) (F0 m 191 ls [.int s3, .int s2, .int s1, .ref s0]) := by
  obtain ⟨hx, hb, hml, hown, hts, hr, hlocks, hK, hA, hG, hsx⟩ := id cx
  intro M s0 s1 s2 s3 H locs ls sL0 sK0 h w hl
  unfold m_X11_go_191 at h
  refine lv_iadd hx hb dX11_go_191 ?_
  refine lv_bipush (v := (64 : Int32)) hx hb dX11_go_192 (by decide) ?_
  obtain ⟨z1, h⟩ := x_ck h
  refine lv_irem hx hb dX11_go_194 z1 ?_
  obtain ⟨z2, h⟩ := x_ix h
  obtain ⟨M3, eM3, h⟩ := x_wI h
  refine r_iast cx w sL0 sK0 z2 dX11_go_195 eM3 (fun H locs w => ?_)
  exact r_vret cx w h dX11_go_196
set_option maxHeartbeats 4000000 in
set_option maxRecDepth 100000 in
theorem b_X11_go_154 {p : Program} {e : Env} {s : State} {m : MethodId} {args : Array Value} {below : List Frame} {meth : Method} {c : Code} {A : Nat → Prop} {l : Launch} {D : va_G} {cy : cyS} {G : gS} (cx : cX p s m args meth c cX11_go RX11 5 none wsX11_go D cy G A) {k0 n0 : Nat} (hkn : k0 ≤ (rmX11_go).cells ∧ n0 ≤ (rmX11_go).slots) {M' : mS} {a0 : Nat} {c1 : Int32} {c2 : Int32} (hL0 : a0 ∈ gL G) (hK0 : gK G a0 = 10)  : ∀ (M : mS) (s0 : Nat) (s1 : Int32) (s2 : Int32) (s3 : Int32) (H : Heap) (locs : List Loc) (ls : Array Slot), s0 ∈ gL G → gK G s0 = 12 → m_X11_go_154 G a0 c1 c2 M s0 s1 s2 s3 = some (M', ()) → wd D cy G M A s.heap H locs → lv_has ls 5 [(0, .ref a0), (1, .int c1), (2, .int c2)] → W p l e rmX11_go s m args below meth c H locs k0 n0 (MQ below (va_Qv (fun (_ : Unit) => True) (fun _ t => wOut D cy G M' t) A) args s k0 n0 A) (F0 m 154 ls [.int s3, .int s2, .int s1, .ref s0]) := by
  obtain ⟨hx, hb, hml, hown, hts, hr, hlocks, hK, hA, hG, hsx⟩ := id cx
  intro M s0 s1 s2 s3 H locs ls sL0 sK0 h w hl
  unfold m_X11_go_154 at h
  refine lv_iadd hx hb dX11_go_154 ?_
  refine lv_bipush (v := (64 : Int32)) hx hb dX11_go_155 (by decide) ?_
  obtain ⟨z1, h⟩ := x_ck h
  refine lv_irem hx hb dX11_go_157 z1 ?_
  obtain ⟨z2, h⟩ := x_ix h
  obtain ⟨M3, eM3, h⟩ := x_wI h
  refine r_iast cx w sL0 sK0 z2 dX11_go_158 eM3 (fun H locs w => ?_)
  refine lv_aload_n hx hb dX11_go_159 rfl (lv_at hl 0 rfl) ?_
  obtain ⟨q4, eq4, h⟩ := x_rf h
  obtain ⟨hLq4, hKq4⟩ := wt_q hG hL0 hK0 eq4
  have hKq4 : gK G q4 = 12 := hKq4
  refine r_getR (k := 7) cx w hL0 hK0 (by decide) rfl wi_X11_go_X11 (by decide) rfl eq4 (List.mem_of_getElem? (i := 6) rfl) dX11_go_160 ?_
  refine lv_iload_n hx hb dX11_go_163 rfl (lv_at hl 1 rfl) ?_
  refine lv_aload_n hx hb dX11_go_164 rfl (lv_at hl 0 rfl) ?_
  obtain ⟨q5, eq5, h⟩ := x_rf h
  obtain ⟨hLq5, hKq5⟩ := wt_q hG hL0 hK0 eq5
  have hKq5 : gK G q5 = 12 := hKq5
  refine r_getR (k := 7) cx w hL0 hK0 (by decide) rfl wi_X11_go_X11 (by decide) rfl eq5 (List.mem_of_getElem? (i := 6) rfl) dX11_go_165 ?_
  refine lv_iload_n hx hb dX11_go_168 rfl (lv_at hl 1 rfl) ?_
  obtain ⟨z6, h⟩ := x_ix h
  refine r_iald cx w hLq5 hKq5 z6 dX11_go_169 ?_
  refine lv_bipush (v := (64 : Int32)) hx hb dX11_go_170 (by decide) ?_
  refine lv_iadd hx hb dX11_go_172 ?_
  refine lv_iload_n hx hb dX11_go_173 rfl (lv_at hl 2 rfl) ?_
  refine lv_iconst (v := (2 : Int32)) hx hb dX11_go_174 (by decide) ?_
  refine lv_icmp_ne (tgt := 182) hx hb dX11_go_175 (by decide) (fun k7 => ?_) (fun k7 => ?_)
  · have h := x_f h k7
    refine lv_iload_n hx hb dX11_go_182 rfl (lv_at hl 2 rfl) ?_
    refine lv_if_ne (tgt := 190) hx hb dX11_go_183 (by decide) (fun k8 => ?_) (fun k8 => ?_)
    · have h := x_f h k8
      refine lv_iconst (v := (0 : Int32)) hx hb dX11_go_190 (by decide) ?_
      exact b_X11_go_191 cx hkn hL0 hK0 M3 q4 c1 (((mI M3 q5 (Int32.toNatClampNeg c1)) + (64 : Int32))) ((0 : Int32)) H locs ls hLq4 hKq4 h w (lv_sub hl [] rfl)
    · have h := x_t h k8
      refine lv_iconst (v := (-1 : Int32)) hx hb dX11_go_186 (by decide) ?_
      refine lv_goto (tgt := 191) hx hb dX11_go_187 (by decide) ?_
      exact b_X11_go_191 cx hkn hL0 hK0 M3 q4 c1 (((mI M3 q5 (Int32.toNatClampNeg c1)) + (64 : Int32))) ((-1 : Int32)) H locs ls hLq4 hKq4 h w (lv_sub hl [] rfl)
  · have h := x_t h k7
    refine lv_iconst (v := (1 : Int32)) hx hb dX11_go_178 (by decide) ?_
    refine lv_goto (tgt := 191) hx hb dX11_go_179 (by decide) ?_
    exact b_X11_go_191 cx hkn hL0 hK0 M3 q4 c1 (((mI M3 q5 (Int32.toNatClampNeg c1)) + (64 : Int32))) ((1 : Int32)) H locs ls hLq4 hKq4 h w (lv_sub hl [] rfl)
set_option maxHeartbeats 4000000 in
set_option maxRecDepth 100000 in
theorem b_X11_go_2 {p : Program} {e : Env} {s : State} {m : MethodId} {args : Array Value} {below : List Frame} {meth : Method} {c : Code} {A : Nat → Prop} {l : Launch} {D : va_G} {cy : cyS} {G : gS} (cx : cX p s m args meth c cX11_go RX11 5 none wsX11_go D cy G A) {k0 n0 : Nat} (hkn : k0 ≤ (rmX11_go).cells ∧ n0 ≤ (rmX11_go).slots) {M' : mS} {a0 : Nat} {c1 : Int32} {c2 : Int32} (hL0 : a0 ∈ gL G) (hK0 : gK G a0 = 10)  : ∀ (n : Nat), ∀ (M : mS) (v3 : Int32) (H : Heap) (locs : List Loc) (ls : Array Slot), m_X11_go_2 G a0 c1 c2 n M v3 = some (M', ()) → wd D cy G M A s.heap H locs → lv_has ls 5 [(0, .ref a0), (1, .int c1), (2, .int c2), (3, .int v3)] → W p l e rmX11_go s m args below meth c H locs k0 n0 (MQ below (va_Qv (fun (_ : Unit) => True) (fun _ t => wOut D cy G M' t) A) args s k0 n0 A) (F0 m 2 ls []) := by
  obtain ⟨hx, hb, hml, hown, hts, hr, hlocks, hK, hA, hG, hsx⟩ := id cx
  intro n
  induction n with
  | zero =>
    intro M v3 H locs ls h w hl
    have h : none = some _ := h
    cases h
  | succ n ih =>
    intro M v3 H locs ls h w hl
    rw [m_X11_go_2] at h
    refine lv_iload_n hx hb dX11_go_2 rfl (lv_at hl 3 rfl) ?_
    refine lv_bipush (v := (120 : Int32)) hx hb dX11_go_3 (by decide) ?_
    refine lv_icmp_gt (tgt := 79) hx hb dX11_go_5 (by decide) (fun k1 => ?_) (fun k1 => ?_)
    · have h := x_t h k1
      refine lv_aload_n hx hb dX11_go_79 rfl (lv_at hl 0 rfl) ?_
      obtain ⟨q2, eq2, h⟩ := x_rf h
      obtain ⟨hLq2, hKq2⟩ := wt_q hG hL0 hK0 eq2
      have hKq2 : gK G q2 = 12 := hKq2
      refine r_getR (k := 12) cx w hL0 hK0 (by decide) rfl wi_X11_go_X11 (by decide) rfl eq2 (List.mem_of_getElem? (i := 3) rfl) dX11_go_80 ?_
      refine lv_sipush (v := (128 : Int32)) hx hb dX11_go_83 (by decide) ?_
      refine lv_iload_n hx hb dX11_go_86 rfl (lv_at hl 1 rfl) ?_
      refine lv_imul hx hb dX11_go_87 ?_
      refine lv_aload_n hx hb dX11_go_88 rfl (lv_at hl 0 rfl) ?_
      obtain ⟨q3, eq3, h⟩ := x_rf h
      obtain ⟨hLq3, hKq3⟩ := wt_q hG hL0 hK0 eq3
      have hKq3 : gK G q3 = 12 := hKq3
      refine r_getR (k := 11) cx w hL0 hK0 (by decide) rfl wi_X11_go_X11 (by decide) rfl eq3 (List.mem_of_getElem? (i := 2) rfl) dX11_go_89 ?_
      refine lv_iload_n hx hb dX11_go_92 rfl (lv_at hl 1 rfl) ?_
      obtain ⟨z4, h⟩ := x_ix h
      refine r_iald cx w hLq3 hKq3 z4 dX11_go_93 ?_
      refine lv_sipush (v := (128 : Int32)) hx hb dX11_go_94 (by decide) ?_
      obtain ⟨z5, h⟩ := x_ck h
      refine lv_irem hx hb dX11_go_97 z5 ?_
      refine lv_iadd hx hb dX11_go_98 ?_
      refine lv_iload_n hx hb dX11_go_99 rfl (lv_at hl 2 rfl) ?_
      obtain ⟨z6, h⟩ := x_ix h
      obtain ⟨M7, eM7, h⟩ := x_wI h
      refine r_iast cx w hLq2 hKq2 z6 dX11_go_100 eM7 (fun H locs w => ?_)
      refine lv_aload_n hx hb dX11_go_101 rfl (lv_at hl 0 rfl) ?_
      obtain ⟨q8, eq8, h⟩ := x_rf h
      obtain ⟨hLq8, hKq8⟩ := wt_q hG hL0 hK0 eq8
      have hKq8 : gK G q8 = 12 := hKq8
      refine r_getR (k := 11) cx w hL0 hK0 (by decide) rfl wi_X11_go_X11 (by decide) rfl eq8 (List.mem_of_getElem? (i := 2) rfl) dX11_go_102 ?_
      refine lv_iload_n hx hb dX11_go_105 rfl (lv_at hl 1 rfl) ?_
      refine lv_dup2_11 hx hb dX11_go_106 rfl rfl ?_
      obtain ⟨z9, h⟩ := x_ix h
      refine r_iald cx w hLq8 hKq8 z9 dX11_go_107 ?_
      refine lv_iconst (v := (1 : Int32)) hx hb dX11_go_108 (by decide) ?_
      refine lv_iadd hx hb dX11_go_109 ?_
      obtain ⟨z10, h⟩ := x_ix h
      obtain ⟨M11, eM11, h⟩ := x_wI h
      refine r_iast cx w hLq8 hKq8 z10 dX11_go_110 eM11 (fun H locs w => ?_)
      refine lv_aload_n hx hb dX11_go_111 rfl (lv_at hl 0 rfl) ?_
      obtain ⟨q12, eq12, h⟩ := x_rf h
      obtain ⟨hLq12, hKq12⟩ := wt_q hG hL0 hK0 eq12
      have hKq12 : gK G q12 = 12 := hKq12
      refine r_getR (k := 10) cx w hL0 hK0 (by decide) rfl wi_X11_go_X11 (by decide) rfl eq12 (List.mem_of_getElem? (i := 4) rfl) dX11_go_112 ?_
      refine lv_iload_n hx hb dX11_go_115 rfl (lv_at hl 1 rfl) ?_
      refine lv_dup2_11 hx hb dX11_go_116 rfl rfl ?_
      obtain ⟨z13, h⟩ := x_ix h
      refine r_iald cx w hLq12 hKq12 z13 dX11_go_117 ?_
      refine lv_iconst (v := (1 : Int32)) hx hb dX11_go_118 (by decide) ?_
      refine lv_iadd hx hb dX11_go_119 ?_
      obtain ⟨z14, h⟩ := x_ix h
      obtain ⟨M15, eM15, h⟩ := x_wI h
      refine r_iast cx w hLq12 hKq12 z14 dX11_go_120 eM15 (fun H locs w => ?_)
      refine lv_aload_n hx hb dX11_go_121 rfl (lv_at hl 0 rfl) ?_
      obtain ⟨q16, eq16, h⟩ := x_rf h
      obtain ⟨hLq16, hKq16⟩ := wt_q hG hL0 hK0 eq16
      have hKq16 : gK G q16 = 12 := hKq16
      refine r_getR (k := 6) cx w hL0 hK0 (by decide) rfl wi_X11_go_X11 (by decide) rfl eq16 (List.mem_of_getElem? (i := 5) rfl) dX11_go_122 ?_
      refine lv_iload_n hx hb dX11_go_125 rfl (lv_at hl 1 rfl) ?_
      refine lv_aload_n hx hb dX11_go_126 rfl (lv_at hl 0 rfl) ?_
      obtain ⟨q17, eq17, h⟩ := x_rf h
      obtain ⟨hLq17, hKq17⟩ := wt_q hG hL0 hK0 eq17
      have hKq17 : gK G q17 = 12 := hKq17
      refine r_getR (k := 6) cx w hL0 hK0 (by decide) rfl wi_X11_go_X11 (by decide) rfl eq17 (List.mem_of_getElem? (i := 5) rfl) dX11_go_127 ?_
      refine lv_iload_n hx hb dX11_go_130 rfl (lv_at hl 1 rfl) ?_
      obtain ⟨z18, h⟩ := x_ix h
      refine r_iald cx w hLq17 hKq17 z18 dX11_go_131 ?_
      refine lv_bipush (v := (64 : Int32)) hx hb dX11_go_132 (by decide) ?_
      refine lv_iadd hx hb dX11_go_134 ?_
      refine lv_iload_n hx hb dX11_go_135 rfl (lv_at hl 2 rfl) ?_
      refine lv_iconst (v := (1 : Int32)) hx hb dX11_go_136 (by decide) ?_
      refine lv_icmp_ne (tgt := 144) hx hb dX11_go_137 (by decide) (fun k19 => ?_) (fun k19 => ?_)
      · have h := x_f h k19
        refine lv_iload_n hx hb dX11_go_144 rfl (lv_at hl 2 rfl) ?_
        refine lv_iconst (v := (3 : Int32)) hx hb dX11_go_145 (by decide) ?_
        refine lv_icmp_ne (tgt := 153) hx hb dX11_go_146 (by decide) (fun k20 => ?_) (fun k20 => ?_)
        · have h := x_f h k20
          refine lv_iconst (v := (0 : Int32)) hx hb dX11_go_153 (by decide) ?_
          exact b_X11_go_154 cx hkn hL0 hK0 M15 q16 c1 (((mI M15 q17 (Int32.toNatClampNeg c1)) + (64 : Int32))) ((0 : Int32)) H locs ls hLq16 hKq16 h w (lv_sub hl [0, 1, 2] rfl)
        · have h := x_t h k20
          refine lv_iconst (v := (-1 : Int32)) hx hb dX11_go_149 (by decide) ?_
          refine lv_goto (tgt := 154) hx hb dX11_go_150 (by decide) ?_
          exact b_X11_go_154 cx hkn hL0 hK0 M15 q16 c1 (((mI M15 q17 (Int32.toNatClampNeg c1)) + (64 : Int32))) ((-1 : Int32)) H locs ls hLq16 hKq16 h w (lv_sub hl [0, 1, 2] rfl)
      · have h := x_t h k19
        refine lv_iconst (v := (1 : Int32)) hx hb dX11_go_140 (by decide) ?_
        refine lv_goto (tgt := 154) hx hb dX11_go_141 (by decide) ?_
        exact b_X11_go_154 cx hkn hL0 hK0 M15 q16 c1 (((mI M15 q17 (Int32.toNatClampNeg c1)) + (64 : Int32))) ((1 : Int32)) H locs ls hLq16 hKq16 h w (lv_sub hl [0, 1, 2] rfl)
    · have h := x_f h k1
      refine lv_bipush (v := (121 : Int32)) hx hb dX11_go_8 (by decide) ?_
      refine lv_iload_n hx hb dX11_go_10 rfl (lv_at hl 1 rfl) ?_
      refine lv_imul hx hb dX11_go_11 ?_
      refine lv_iload_n hx hb dX11_go_12 rfl (lv_at hl 3 rfl) ?_
      refine lv_iadd hx hb dX11_go_13 ?_
      obtain ⟨x21, ex21, h⟩ := x_bd h
      refine r_topI ex21 ?_
      refine lv_istore (lv' := [(4, .int x21), (0, .ref a0), (1, .int c1), (2, .int c2), (3, .int v3)]) hx hb dX11_go_14 hl (by decide) rfl (fun ls hl => ?_)
      refine lv_aload_n hx hb dX11_go_16 rfl (lv_at hl 1 rfl) ?_
      obtain ⟨q22, eq22, h⟩ := x_rf h
      obtain ⟨hLq22, hKq22⟩ := wt_q hG hL0 hK0 eq22
      have hKq22 : gK G q22 = 12 := hKq22
      refine r_getR (k := 13) cx w hL0 hK0 (by decide) rfl wi_X11_go_X11 (by decide) rfl eq22 (List.mem_of_getElem? (i := 1) rfl) dX11_go_17 ?_
      refine lv_iload hx hb dX11_go_20 (lv_at hl 0 rfl) ?_
      refine lv_aload_n hx hb dX11_go_22 rfl (lv_at hl 1 rfl) ?_
      obtain ⟨q23, eq23, h⟩ := x_rf h
      obtain ⟨hLq23, hKq23⟩ := wt_q hG hL0 hK0 eq23
      have hKq23 : gK G q23 = 12 := hKq23
      refine r_getR (k := 11) cx w hL0 hK0 (by decide) rfl wi_X11_go_X11 (by decide) rfl eq23 (List.mem_of_getElem? (i := 2) rfl) dX11_go_23 ?_
      refine lv_iload_n hx hb dX11_go_26 rfl (lv_at hl 2 rfl) ?_
      obtain ⟨z24, h⟩ := x_ix h
      refine r_iald cx w hLq23 hKq23 z24 dX11_go_27 ?_
      refine lv_iload_n hx hb dX11_go_28 rfl (lv_at hl 4 rfl) ?_
      refine lv_icmp_lt (tgt := 71) hx hb dX11_go_29 (by decide) (fun k25 => ?_) (fun k25 => ?_)
      · have h := x_t h k25
        exact b_X11_go_71 cx hkn hL0 hK0 (hkb2 := ih) M v3 q22 x21 H locs ls hLq22 hKq22 h w (lv_sub hl [1, 2, 3, 4] rfl)
      · have h := x_f h k25
        refine lv_aload_n hx hb dX11_go_32 rfl (lv_at hl 1 rfl) ?_
        obtain ⟨q26, eq26, h⟩ := x_rf h
        obtain ⟨hLq26, hKq26⟩ := wt_q hG hL0 hK0 eq26
        have hKq26 : gK G q26 = 12 := hKq26
        refine r_getR (k := 12) cx w hL0 hK0 (by decide) rfl wi_X11_go_X11 (by decide) rfl eq26 (List.mem_of_getElem? (i := 3) rfl) dX11_go_33 ?_
        refine lv_sipush (v := (128 : Int32)) hx hb dX11_go_36 (by decide) ?_
        refine lv_iload_n hx hb dX11_go_39 rfl (lv_at hl 2 rfl) ?_
        refine lv_imul hx hb dX11_go_40 ?_
        refine lv_aload_n hx hb dX11_go_41 rfl (lv_at hl 1 rfl) ?_
        obtain ⟨q27, eq27, h⟩ := x_rf h
        obtain ⟨hLq27, hKq27⟩ := wt_q hG hL0 hK0 eq27
        have hKq27 : gK G q27 = 12 := hKq27
        refine r_getR (k := 11) cx w hL0 hK0 (by decide) rfl wi_X11_go_X11 (by decide) rfl eq27 (List.mem_of_getElem? (i := 2) rfl) dX11_go_42 ?_
        refine lv_iload_n hx hb dX11_go_45 rfl (lv_at hl 2 rfl) ?_
        obtain ⟨z28, h⟩ := x_ix h
        refine r_iald cx w hLq27 hKq27 z28 dX11_go_46 ?_
        refine lv_iload_n hx hb dX11_go_47 rfl (lv_at hl 4 rfl) ?_
        refine lv_isub hx hb dX11_go_48 ?_
        refine lv_sipush (v := (128 : Int32)) hx hb dX11_go_49 (by decide) ?_
        obtain ⟨z29, h⟩ := x_ck h
        refine lv_irem hx hb dX11_go_52 z29 ?_
        refine lv_iadd hx hb dX11_go_53 ?_
        obtain ⟨z30, h⟩ := x_ix h
        refine r_iald cx w hLq26 hKq26 z30 dX11_go_54 ?_
        refine lv_iload_n hx hb dX11_go_55 rfl (lv_at hl 3 rfl) ?_
        refine lv_icmp_ne (tgt := 71) hx hb dX11_go_56 (by decide) (fun k31 => ?_) (fun k31 => ?_)
        · have h := x_f h k31
          exact b_X11_go_71 cx hkn hL0 hK0 (hkb2 := ih) M v3 q22 x21 H locs ls hLq22 hKq22 h w (lv_sub hl [1, 2, 3, 4] rfl)
        · have h := x_t h k31
          refine lv_aload_n hx hb dX11_go_59 rfl (lv_at hl 1 rfl) ?_
          obtain ⟨q32, eq32, h⟩ := x_rf h
          obtain ⟨hLq32, hKq32⟩ := wt_q hG hL0 hK0 eq32
          have hKq32 : gK G q32 = 12 := hKq32
          refine r_getR (k := 13) cx w hL0 hK0 (by decide) rfl wi_X11_go_X11 (by decide) rfl eq32 (List.mem_of_getElem? (i := 1) rfl) dX11_go_60 ?_
          refine lv_iload hx hb dX11_go_63 (lv_at hl 0 rfl) ?_
          obtain ⟨z33, h⟩ := x_ix h
          refine r_iald cx w hLq32 hKq32 z33 dX11_go_65 ?_
          refine lv_iconst (v := (1 : Int32)) hx hb dX11_go_66 (by decide) ?_
          refine lv_iadd hx hb dX11_go_67 ?_
          refine lv_goto (tgt := 72) hx hb dX11_go_68 (by decide) ?_
          exact b_X11_go_72 cx hkn hL0 hK0 (hkb2 := ih) M v3 q22 x21 (((mI M q32 (Int32.toNatClampNeg x21)) + (1 : Int32))) H locs ls hLq22 hKq22 h w (lv_sub hl [1, 2, 3, 4] rfl)
set_option maxHeartbeats 4000000 in
set_option maxRecDepth 100000 in
theorem k_X11_go {l : Launch} {D : va_G} {cy : cyS} {G : gS} {M M' : mS} {a0 : Nat} {c1 : Int32} {c2 : Int32} (hG : wt G) (hL0 : a0 ∈ gL G) (hK0 : gK G a0 = 10) (h : m_X11_go G M a0 c1 c2 = some (M', ())) : ctV l yX11_go wsX11_go rmX11_go D cy G M [.ref a0, .int c1, .int c2] M' := by
  unfold m_X11_go at h
  refine ctV_of (cc := cX11_go) (nL := 5) (ret := none) (lv := [(0, .ref a0), (1, .int c1), (2, .int c2)]) hG (by decide) rfl ⟨rfl, rfl⟩ (Nat.le_of_ble_eq_true rfl) rfl ?_
  intro p e s m args below meth c A ls cx w hl
  obtain ⟨hx, hb, hml, hown, hts, hr, hlocks, hK, hA, -, hsx⟩ := id cx
  have hkn : 0 ≤ (rmX11_go).cells ∧ 0 ≤ (rmX11_go).slots := ⟨Nat.zero_le _, Nat.zero_le _⟩
  refine lv_iconst (v := (1 : Int32)) hx hb dX11_go_0 (by decide) ?_
  refine lv_istore_n (lv' := [(3, .int ((1 : Int32))), (0, .ref a0), (1, .int c1), (2, .int c2)]) hx hb dX11_go_1 rfl hl (by decide) rfl (fun ls hl => ?_)
  exact b_X11_go_2 cx hkn hL0 hK0 fu M ((1 : Int32)) s.heap [] ls h w (lv_sub hl [1, 2, 3, 0] rfl)
-- X11_walk
theorem wi_X11_walk_X10 : ∀ w ∈ wsX100, w ∈ wsX11_walk := by decide +kernel
theorem wi_X11_walk_X11 : ∀ w ∈ wsX110, w ∈ wsX11_walk := by decide +kernel
theorem wi_X11_walk_X12 : ∀ w ∈ wsX120, w ∈ wsX11_walk := by decide +kernel
abbrev rmX11_walk : Room := { frames := 1, cells := 0, slots := 0, locals := 24 }
def m_X11_walk_112 (G : gS) (a0 : Nat) (c1 : Int32)  (M : mS) (v2 : Int32) (v3 : Int32) (v4 : Int32) (s0 : Nat) (s1 : Int32) (s2 : Int32) (s3 : Int32) : Option (mS × Unit) := o_ck (¬ (4 : Int32) = 0) (o_ix s1 (gN G s0) (o_wI M s0 (Int32.toNatClampNeg s1) ((s2 + s3) - (s2 + s3) / (4 : Int32) * (4 : Int32)) (fun M3 => o_rf (gP G a0 15) (fun q4 => o_rf (gP G q4 11) (fun q5 => o_rf (gP G q5 1) (fun q6 => o_ix v2 (gN G q6) (o_ck (¬ (mI M3 q6 (Int32.toNatClampNeg v2)) = 0) (o_cl (m_X11_paint G M3 a0 v3 ((v4 + (1 : Int32)) - (v4 + (1 : Int32)) / (mI M3 q6 (Int32.toNatClampNeg v2)) * (mI M3 q6 (Int32.toNatClampNeg v2)))) (fun M9 r10 => o_rf (gP G a0 8) (fun q12 => o_ix c1 (gN G q12) (o_cl (m_X11_go G M9 a0 c1 (mI M9 q12 (Int32.toNatClampNeg c1))) (fun M14 r15 => some (M14, ())))))))))))))
def m_X11_walk (G : gS) (M : mS) (a0 : Nat) (c1 : Int32) : Option (mS × Unit) := o_rf (gP G a0 15) (fun q1 => o_rf (gP G q1 11) (fun q2 => o_rf (gP G q2 6) (fun q3 => o_ix c1 (gN G q3) (o_bd ((mI M q3 (Int32.toNatClampNeg c1))) (fun x5 => o_rf (gP G a0 7) (fun q6 => o_ix c1 (gN G q6) (o_rf (gP G a0 6) (fun q8 => o_ix c1 (gN G q8) (o_bd ((((64 : Int32) * (mI M q6 (Int32.toNatClampNeg c1))) + (mI M q8 (Int32.toNatClampNeg c1)))) (fun x10 => o_rf (gP G a0 4) (fun q11 => o_ix x10 (gN G q11) (o_rf (gP G a0 15) (fun q13 => o_rf (gP G q13 11) (fun q14 => o_rf (gP G q14 1) (fun q15 => o_ix x5 (gN G q15) (o_ck (¬ (mI M q15 (Int32.toNatClampNeg x5)) = 0) (o_bd (((mI M q11 (Int32.toNatClampNeg x10)) - (mI M q11 (Int32.toNatClampNeg x10)) / (mI M q15 (Int32.toNatClampNeg x5)) * (mI M q15 (Int32.toNatClampNeg x5)))) (fun x18 => o_rf (gP G a0 15) (fun q19 => o_rf (gP G q19 11) (fun q20 => o_rf (gP G q20 2) (fun q21 => o_ix (((6 : Int32) * x5) + x18) (gN G q21) (o_bd ((mI M q21 (Int32.toNatClampNeg (((6 : Int32) * x5) + x18)))) (fun x23 => o_rf (gP G a0 8) (fun q24 => o_rf (gP G a0 8) (fun q25 => o_ix c1 (gN G q25) ((if x23 = 0 then m_X11_walk_112 G a0 c1 M x5 x10 x18 q24 c1 ((mI M q25 (Int32.toNatClampNeg c1))) ((3 : Int32)) else (if x23 = (1 : Int32) then m_X11_walk_112 G a0 c1 M x5 x10 x18 q24 c1 ((mI M q25 (Int32.toNatClampNeg c1))) ((1 : Int32)) else (if x23 = (2 : Int32) then m_X11_walk_112 G a0 c1 M x5 x10 x18 q24 c1 ((mI M q25 (Int32.toNatClampNeg c1))) ((0 : Int32)) else m_X11_walk_112 G a0 c1 M x5 x10 x18 q24 c1 ((mI M q25 (Int32.toNatClampNeg c1))) ((2 : Int32)))))))))))))))))))))))))))))))
set_option maxHeartbeats 4000000 in
set_option maxRecDepth 100000 in
theorem b_X11_walk_112 {p : Program} {e : Env} {s : State} {m : MethodId} {args : Array Value} {below : List Frame} {meth : Method} {c : Code} {A : Nat → Prop} {l : Launch} {D : va_G} {cy : cyS} {G : gS} (cx : cX p s m args meth c cX11_walk RX11 6 none wsX11_walk D cy G A) {k0 n0 : Nat} (hkn : k0 ≤ (rmX11_walk).cells ∧ n0 ≤ (rmX11_walk).slots) {M' : mS} {a0 : Nat} {c1 : Int32} (hL0 : a0 ∈ gL G) (hK0 : gK G a0 = 10)  : ∀ (M : mS) (v2 : Int32) (v3 : Int32) (v4 : Int32) (s0 : Nat) (s1 : Int32) (s2 : Int32) (s3 : Int32) (H : Heap) (locs : List Loc) (ls : Array Slot), s0 ∈ gL G → gK G s0 = 12 → m_X11_walk_112 G a0 c1 M v2 v3 v4 s0 s1 s2 s3 = some (M', ()) → wd D cy G M A s.heap H locs → lv_has ls 6 [(0, .ref a0), (1, .int c1), (2, .int v2), (3, .int v3), (4, .int v4)] → W p l e rmX11_walk s m args below meth c H locs k0 n0 (MQ below (va_Qv (fun (_ : Unit) => True) (fun _ t => wOut D cy G M' t) A) args s k0 n0 A) (F0 m 112 ls [.int s3, .int s2, .int s1, .ref s0]) := by
  obtain ⟨hx, hb, hml, hown, hts, hr, hlocks, hK, hA, hG, hsx⟩ := id cx
  intro M v2 v3 v4 s0 s1 s2 s3 H locs ls sL0 sK0 h w hl
  unfold m_X11_walk_112 at h
  refine lv_iadd hx hb dX11_walk_112 ?_
  refine lv_iconst (v := (4 : Int32)) hx hb dX11_walk_113 (by decide) ?_
  obtain ⟨z1, h⟩ := x_ck h
  refine lv_irem hx hb dX11_walk_114 z1 ?_
  obtain ⟨z2, h⟩ := x_ix h
  obtain ⟨M3, eM3, h⟩ := x_wI h
  refine r_iast cx w sL0 sK0 z2 dX11_walk_115 eM3 (fun H locs w => ?_)
  refine lv_aload_n hx hb dX11_walk_116 rfl (lv_at hl 0 rfl) ?_
  refine lv_iload_n hx hb dX11_walk_117 rfl (lv_at hl 3 rfl) ?_
  refine lv_iload hx hb dX11_walk_118 (lv_at hl 4 rfl) ?_
  refine lv_iconst (v := (1 : Int32)) hx hb dX11_walk_120 (by decide) ?_
  refine lv_iadd hx hb dX11_walk_121 ?_
  refine lv_aload_n hx hb dX11_walk_122 rfl (lv_at hl 0 rfl) ?_
  obtain ⟨q4, eq4, h⟩ := x_rf h
  obtain ⟨hLq4, hKq4⟩ := wt_q hG hL0 hK0 eq4
  have hKq4 : gK G q4 = 11 := hKq4
  refine r_getR (k := 15) cx w hL0 hK0 (by decide) rfl wi_X11_walk_X11 (by decide) rfl eq4 (List.mem_of_getElem? (i := 1) rfl) dX11_walk_123 ?_
  obtain ⟨q5, eq5, h⟩ := x_rf h
  obtain ⟨hLq5, hKq5⟩ := wt_q hG hLq4 hKq4 eq5
  have hKq5 : gK G q5 = 9 := hKq5
  refine r_getRN (k := 11) cx w hLq4 hKq4 (by decide) rfl wi_X11_walk_X12 (by decide) rfl eq5 (nwF cx (q := (RX11, 72, "FlagAntsModel", "plan", "LFlagAntsModel$Plan;", "FlagAntsModel")) (List.mem_of_getElem? (i := 30) rfl)) dX11_walk_126 ?_
  obtain ⟨q6, eq6, h⟩ := x_rf h
  obtain ⟨hLq6, hKq6⟩ := wt_q hG hLq5 hKq5 eq6
  have hKq6 : gK G q6 = 12 := hKq6
  refine r_getRN (k := 1) cx w hLq5 hKq5 (by decide) rfl wi_X11_walk_X10 (by decide) rfl eq6 (nwF cx (q := (RX11, 97, "FlagAntsModel$Plan", "turns", "[I", "FlagAntsModel")) (List.mem_of_getElem? (i := 36) rfl)) dX11_walk_129 ?_
  refine lv_iload_n hx hb dX11_walk_132 rfl (lv_at hl 2 rfl) ?_
  obtain ⟨z7, h⟩ := x_ix h
  refine r_iald cx w hLq6 hKq6 z7 dX11_walk_133 ?_
  obtain ⟨z8, h⟩ := x_ck h
  refine lv_irem hx hb dX11_walk_134 z8 ?_
  obtain ⟨M9, r10, y11, h⟩ := x_cl h
  refine r_callVv (As := [.int v3, .int (((v4 + (1 : Int32)) - (v4 + (1 : Int32)) / (mI M3 q6 (Int32.toNatClampNeg v2)) * (mI M3 q6 (Int32.toNatClampNeg v2))))]) (rest := []) cx w hkn hl.1 (k_X11_paint hG hL0 hK0 y11) (cwV 2 hts gX11_walk_X11_paint rfl rfl rfl (by decide +kernel) ⟨Nat.le_of_ble_eq_true rfl, Nat.le_of_ble_eq_true rfl⟩) hL0 hK0 (by decide) rfl rfl rfl (Nat.le_of_ble_eq_true rfl) dX11_walk_135 (fun H locs w => ?_)
  refine lv_aload_n hx hb dX11_walk_138 rfl (lv_at hl 0 rfl) ?_
  refine lv_iload_n hx hb dX11_walk_139 rfl (lv_at hl 1 rfl) ?_
  refine lv_aload_n hx hb dX11_walk_140 rfl (lv_at hl 0 rfl) ?_
  obtain ⟨q12, eq12, h⟩ := x_rf h
  obtain ⟨hLq12, hKq12⟩ := wt_q hG hL0 hK0 eq12
  have hKq12 : gK G q12 = 12 := hKq12
  refine r_getR (k := 8) cx w hL0 hK0 (by decide) rfl wi_X11_walk_X11 (by decide) rfl eq12 (List.mem_of_getElem? (i := 5) rfl) dX11_walk_141 ?_
  refine lv_iload_n hx hb dX11_walk_144 rfl (lv_at hl 1 rfl) ?_
  obtain ⟨z13, h⟩ := x_ix h
  refine r_iald cx w hLq12 hKq12 z13 dX11_walk_145 ?_
  obtain ⟨M14, r15, y16, h⟩ := x_cl h
  refine r_callVv (As := [.int c1, .int ((mI M9 q12 (Int32.toNatClampNeg c1)))]) (rest := []) cx w hkn hl.1 (k_X11_go hG hL0 hK0 y16) (cwV 2 hts gX11_walk_X11_go rfl rfl rfl (by decide +kernel) ⟨Nat.le_of_ble_eq_true rfl, Nat.le_of_ble_eq_true rfl⟩) hL0 hK0 (by decide) rfl rfl rfl (Nat.le_of_ble_eq_true rfl) dX11_walk_146 (fun H locs w => ?_)
  exact r_vret cx w h dX11_walk_149
set_option maxHeartbeats 4000000 in
set_option maxRecDepth 100000 in
theorem k_X11_walk {l : Launch} {D : va_G} {cy : cyS} {G : gS} {M M' : mS} {a0 : Nat} {c1 : Int32} (hG : wt G) (hL0 : a0 ∈ gL G) (hK0 : gK G a0 = 10) (h : m_X11_walk G M a0 c1 = some (M', ())) : ctV l yX11_walk wsX11_walk rmX11_walk D cy G M [.ref a0, .int c1] M' := by
  unfold m_X11_walk at h
  refine ctV_of (cc := cX11_walk) (nL := 6) (ret := none) (lv := [(0, .ref a0), (1, .int c1)]) hG (by decide) rfl ⟨rfl, rfl⟩ (Nat.le_of_ble_eq_true rfl) rfl ?_
  intro p e s m args below meth c A ls cx w hl
  obtain ⟨hx, hb, hml, hown, hts, hr, hlocks, hK, hA, -, hsx⟩ := id cx
  have hkn : 0 ≤ (rmX11_walk).cells ∧ 0 ≤ (rmX11_walk).slots := ⟨Nat.zero_le _, Nat.zero_le _⟩
  refine lv_aload_n hx hb dX11_walk_0 rfl (lv_at hl 0 rfl) ?_
  obtain ⟨q1, eq1, h⟩ := x_rf h
  obtain ⟨hLq1, hKq1⟩ := wt_q hG hL0 hK0 eq1
  have hKq1 : gK G q1 = 11 := hKq1
  refine r_getR (k := 15) cx w hL0 hK0 (by decide) rfl wi_X11_walk_X11 (by decide) rfl eq1 (List.mem_of_getElem? (i := 1) rfl) dX11_walk_1 ?_
  obtain ⟨q2, eq2, h⟩ := x_rf h
  obtain ⟨hLq2, hKq2⟩ := wt_q hG hLq1 hKq1 eq2
  have hKq2 : gK G q2 = 9 := hKq2
  refine r_getRN (k := 11) cx w hLq1 hKq1 (by decide) rfl wi_X11_walk_X12 (by decide) rfl eq2 (nwF cx (q := (RX11, 72, "FlagAntsModel", "plan", "LFlagAntsModel$Plan;", "FlagAntsModel")) (List.mem_of_getElem? (i := 30) rfl)) dX11_walk_4 ?_
  obtain ⟨q3, eq3, h⟩ := x_rf h
  obtain ⟨hLq3, hKq3⟩ := wt_q hG hLq2 hKq2 eq3
  have hKq3 : gK G q3 = 12 := hKq3
  refine r_getRN (k := 6) cx w hLq2 hKq2 (by decide) rfl wi_X11_walk_X10 (by decide) rfl eq3 (nwF cx (q := (RX11, 94, "FlagAntsModel$Plan", "rule", "[I", "FlagAntsModel")) (List.mem_of_getElem? (i := 35) rfl)) dX11_walk_7 ?_
  refine lv_iload_n hx hb dX11_walk_10 rfl (lv_at hl 1 rfl) ?_
  obtain ⟨z4, h⟩ := x_ix h
  refine r_iald cx w hLq3 hKq3 z4 dX11_walk_11 ?_
  obtain ⟨x5, ex5, h⟩ := x_bd h
  refine r_topI ex5 ?_
  refine lv_istore_n (lv' := [(2, .int x5), (0, .ref a0), (1, .int c1)]) hx hb dX11_walk_12 rfl hl (by decide) rfl (fun ls hl => ?_)
  refine lv_bipush (v := (64 : Int32)) hx hb dX11_walk_13 (by decide) ?_
  refine lv_aload_n hx hb dX11_walk_15 rfl (lv_at hl 1 rfl) ?_
  obtain ⟨q6, eq6, h⟩ := x_rf h
  obtain ⟨hLq6, hKq6⟩ := wt_q hG hL0 hK0 eq6
  have hKq6 : gK G q6 = 12 := hKq6
  refine r_getR (k := 7) cx w hL0 hK0 (by decide) rfl wi_X11_walk_X11 (by decide) rfl eq6 (List.mem_of_getElem? (i := 2) rfl) dX11_walk_16 ?_
  refine lv_iload_n hx hb dX11_walk_19 rfl (lv_at hl 2 rfl) ?_
  obtain ⟨z7, h⟩ := x_ix h
  refine r_iald cx w hLq6 hKq6 z7 dX11_walk_20 ?_
  refine lv_imul hx hb dX11_walk_21 ?_
  refine lv_aload_n hx hb dX11_walk_22 rfl (lv_at hl 1 rfl) ?_
  obtain ⟨q8, eq8, h⟩ := x_rf h
  obtain ⟨hLq8, hKq8⟩ := wt_q hG hL0 hK0 eq8
  have hKq8 : gK G q8 = 12 := hKq8
  refine r_getR (k := 6) cx w hL0 hK0 (by decide) rfl wi_X11_walk_X11 (by decide) rfl eq8 (List.mem_of_getElem? (i := 3) rfl) dX11_walk_23 ?_
  refine lv_iload_n hx hb dX11_walk_26 rfl (lv_at hl 2 rfl) ?_
  obtain ⟨z9, h⟩ := x_ix h
  refine r_iald cx w hLq8 hKq8 z9 dX11_walk_27 ?_
  refine lv_iadd hx hb dX11_walk_28 ?_
  obtain ⟨x10, ex10, h⟩ := x_bd h
  refine r_topI ex10 ?_
  refine lv_istore_n (lv' := [(3, .int x10), (2, .int x5), (0, .ref a0), (1, .int c1)]) hx hb dX11_walk_29 rfl hl (by decide) rfl (fun ls hl => ?_)
  refine lv_aload_n hx hb dX11_walk_30 rfl (lv_at hl 2 rfl) ?_
  obtain ⟨q11, eq11, h⟩ := x_rf h
  obtain ⟨hLq11, hKq11⟩ := wt_q hG hL0 hK0 eq11
  have hKq11 : gK G q11 = 12 := hKq11
  refine r_getR (k := 4) cx w hL0 hK0 (by decide) rfl wi_X11_walk_X11 (by decide) rfl eq11 (List.mem_of_getElem? (i := 4) rfl) dX11_walk_31 ?_
  refine lv_iload_n hx hb dX11_walk_34 rfl (lv_at hl 0 rfl) ?_
  obtain ⟨z12, h⟩ := x_ix h
  refine r_iald cx w hLq11 hKq11 z12 dX11_walk_35 ?_
  refine lv_aload_n hx hb dX11_walk_36 rfl (lv_at hl 2 rfl) ?_
  obtain ⟨q13, eq13, h⟩ := x_rf h
  obtain ⟨hLq13, hKq13⟩ := wt_q hG hL0 hK0 eq13
  have hKq13 : gK G q13 = 11 := hKq13
  refine r_getR (k := 15) cx w hL0 hK0 (by decide) rfl wi_X11_walk_X11 (by decide) rfl eq13 (List.mem_of_getElem? (i := 1) rfl) dX11_walk_37 ?_
  obtain ⟨q14, eq14, h⟩ := x_rf h
  obtain ⟨hLq14, hKq14⟩ := wt_q hG hLq13 hKq13 eq14
  have hKq14 : gK G q14 = 9 := hKq14
  refine r_getRN (k := 11) cx w hLq13 hKq13 (by decide) rfl wi_X11_walk_X12 (by decide) rfl eq14 (nwF cx (q := (RX11, 72, "FlagAntsModel", "plan", "LFlagAntsModel$Plan;", "FlagAntsModel")) (List.mem_of_getElem? (i := 30) rfl)) dX11_walk_40 ?_
  obtain ⟨q15, eq15, h⟩ := x_rf h
  obtain ⟨hLq15, hKq15⟩ := wt_q hG hLq14 hKq14 eq15
  have hKq15 : gK G q15 = 12 := hKq15
  refine r_getRN (k := 1) cx w hLq14 hKq14 (by decide) rfl wi_X11_walk_X10 (by decide) rfl eq15 (nwF cx (q := (RX11, 97, "FlagAntsModel$Plan", "turns", "[I", "FlagAntsModel")) (List.mem_of_getElem? (i := 36) rfl)) dX11_walk_43 ?_
  refine lv_iload_n hx hb dX11_walk_46 rfl (lv_at hl 1 rfl) ?_
  obtain ⟨z16, h⟩ := x_ix h
  refine r_iald cx w hLq15 hKq15 z16 dX11_walk_47 ?_
  obtain ⟨z17, h⟩ := x_ck h
  refine lv_irem hx hb dX11_walk_48 z17 ?_
  obtain ⟨x18, ex18, h⟩ := x_bd h
  refine r_topI ex18 ?_
  refine lv_istore (lv' := [(4, .int x18), (3, .int x10), (2, .int x5), (0, .ref a0), (1, .int c1)]) hx hb dX11_walk_49 hl (by decide) rfl (fun ls hl => ?_)
  refine lv_aload_n hx hb dX11_walk_51 rfl (lv_at hl 3 rfl) ?_
  obtain ⟨q19, eq19, h⟩ := x_rf h
  obtain ⟨hLq19, hKq19⟩ := wt_q hG hL0 hK0 eq19
  have hKq19 : gK G q19 = 11 := hKq19
  refine r_getR (k := 15) cx w hL0 hK0 (by decide) rfl wi_X11_walk_X11 (by decide) rfl eq19 (List.mem_of_getElem? (i := 1) rfl) dX11_walk_52 ?_
  obtain ⟨q20, eq20, h⟩ := x_rf h
  obtain ⟨hLq20, hKq20⟩ := wt_q hG hLq19 hKq19 eq20
  have hKq20 : gK G q20 = 9 := hKq20
  refine r_getRN (k := 11) cx w hLq19 hKq19 (by decide) rfl wi_X11_walk_X12 (by decide) rfl eq20 (nwF cx (q := (RX11, 72, "FlagAntsModel", "plan", "LFlagAntsModel$Plan;", "FlagAntsModel")) (List.mem_of_getElem? (i := 30) rfl)) dX11_walk_55 ?_
  obtain ⟨q21, eq21, h⟩ := x_rf h
  obtain ⟨hLq21, hKq21⟩ := wt_q hG hLq20 hKq20 eq21
  have hKq21 : gK G q21 = 12 := hKq21
  refine r_getRN (k := 2) cx w hLq20 hKq20 (by decide) rfl wi_X11_walk_X10 (by decide) rfl eq21 (nwF cx (q := (RX11, 100, "FlagAntsModel$Plan", "turn", "[I", "FlagAntsModel")) (List.mem_of_getElem? (i := 37) rfl)) dX11_walk_58 ?_
  refine lv_bipush (v := (6 : Int32)) hx hb dX11_walk_61 (by decide) ?_
  refine lv_iload_n hx hb dX11_walk_63 rfl (lv_at hl 2 rfl) ?_
  refine lv_imul hx hb dX11_walk_64 ?_
  refine lv_iload hx hb dX11_walk_65 (lv_at hl 0 rfl) ?_
  refine lv_iadd hx hb dX11_walk_67 ?_
  obtain ⟨z22, h⟩ := x_ix h
  refine r_iald cx w hLq21 hKq21 z22 dX11_walk_68 ?_
  obtain ⟨x23, ex23, h⟩ := x_bd h
  refine r_topI ex23 ?_
  refine lv_istore (lv' := [(5, .int x23), (4, .int x18), (3, .int x10), (2, .int x5), (0, .ref a0), (1, .int c1)]) hx hb dX11_walk_69 hl (by decide) rfl (fun ls hl => ?_)
  refine lv_aload_n hx hb dX11_walk_71 rfl (lv_at hl 4 rfl) ?_
  obtain ⟨q24, eq24, h⟩ := x_rf h
  obtain ⟨hLq24, hKq24⟩ := wt_q hG hL0 hK0 eq24
  have hKq24 : gK G q24 = 12 := hKq24
  refine r_getR (k := 8) cx w hL0 hK0 (by decide) rfl wi_X11_walk_X11 (by decide) rfl eq24 (List.mem_of_getElem? (i := 5) rfl) dX11_walk_72 ?_
  refine lv_iload_n hx hb dX11_walk_75 rfl (lv_at hl 5 rfl) ?_
  refine lv_aload_n hx hb dX11_walk_76 rfl (lv_at hl 4 rfl) ?_
  obtain ⟨q25, eq25, h⟩ := x_rf h
  obtain ⟨hLq25, hKq25⟩ := wt_q hG hL0 hK0 eq25
  have hKq25 : gK G q25 = 12 := hKq25
  refine r_getR (k := 8) cx w hL0 hK0 (by decide) rfl wi_X11_walk_X11 (by decide) rfl eq25 (List.mem_of_getElem? (i := 5) rfl) dX11_walk_77 ?_
  refine lv_iload_n hx hb dX11_walk_80 rfl (lv_at hl 5 rfl) ?_
  obtain ⟨z26, h⟩ := x_ix h
  refine r_iald cx w hLq25 hKq25 z26 dX11_walk_81 ?_
  refine lv_iload hx hb dX11_walk_82 (lv_at hl 0 rfl) ?_
  refine lv_if_ne (tgt := 91) hx hb dX11_walk_84 (by decide) (fun k27 => ?_) (fun k27 => ?_)
  · have h := x_f h k27
    refine lv_iload hx hb dX11_walk_91 (lv_at hl 0 rfl) ?_
    refine lv_iconst (v := (1 : Int32)) hx hb dX11_walk_93 (by decide) ?_
    refine lv_icmp_ne (tgt := 101) hx hb dX11_walk_94 (by decide) (fun k28 => ?_) (fun k28 => ?_)
    · have h := x_f h k28
      refine lv_iload hx hb dX11_walk_101 (lv_at hl 0 rfl) ?_
      refine lv_iconst (v := (2 : Int32)) hx hb dX11_walk_103 (by decide) ?_
      refine lv_icmp_ne (tgt := 111) hx hb dX11_walk_104 (by decide) (fun k29 => ?_) (fun k29 => ?_)
      · have h := x_f h k29
        refine lv_iconst (v := (2 : Int32)) hx hb dX11_walk_111 (by decide) ?_
        exact b_X11_walk_112 cx hkn hL0 hK0 M x5 x10 x18 q24 c1 ((mI M q25 (Int32.toNatClampNeg c1))) ((2 : Int32)) s.heap [] ls hLq24 hKq24 h w (lv_sub hl [4, 5, 3, 2, 1] rfl)
      · have h := x_t h k29
        refine lv_iconst (v := (0 : Int32)) hx hb dX11_walk_107 (by decide) ?_
        refine lv_goto (tgt := 112) hx hb dX11_walk_108 (by decide) ?_
        exact b_X11_walk_112 cx hkn hL0 hK0 M x5 x10 x18 q24 c1 ((mI M q25 (Int32.toNatClampNeg c1))) ((0 : Int32)) s.heap [] ls hLq24 hKq24 h w (lv_sub hl [4, 5, 3, 2, 1] rfl)
    · have h := x_t h k28
      refine lv_iconst (v := (1 : Int32)) hx hb dX11_walk_97 (by decide) ?_
      refine lv_goto (tgt := 112) hx hb dX11_walk_98 (by decide) ?_
      exact b_X11_walk_112 cx hkn hL0 hK0 M x5 x10 x18 q24 c1 ((mI M q25 (Int32.toNatClampNeg c1))) ((1 : Int32)) s.heap [] ls hLq24 hKq24 h w (lv_sub hl [4, 5, 3, 2, 1] rfl)
  · have h := x_t h k27
    refine lv_iconst (v := (3 : Int32)) hx hb dX11_walk_87 (by decide) ?_
    refine lv_goto (tgt := 112) hx hb dX11_walk_88 (by decide) ?_
    exact b_X11_walk_112 cx hkn hL0 hK0 M x5 x10 x18 q24 c1 ((mI M q25 (Int32.toNatClampNeg c1))) ((3 : Int32)) s.heap [] ls hLq24 hKq24 h w (lv_sub hl [4, 5, 3, 2, 1] rfl)
-- X11_pass
theorem wi_X11_pass_X10 : ∀ w ∈ wsX100, w ∈ wsX11_pass := by decide +kernel
theorem wi_X11_pass_X11 : ∀ w ∈ wsX110, w ∈ wsX11_pass := by decide +kernel
theorem wi_X11_pass_X12 : ∀ w ∈ wsX120, w ∈ wsX11_pass := by decide +kernel
abbrev rmX11_pass : Room := { frames := 4, cells := 0, slots := 0, locals := 107 }
def m_X11_pass_66 (G : gS) (a0 : Nat) (kb2 : mS → Int32 → Option (mS × Unit)) (M : mS) (v1 : Int32) : Option (mS × Unit) := o_bd (v1 + 1 : Int32) (fun x1 => kb2 M x1)
def m_X11_pass_102 (G : gS) (a0 : Nat) (kb74 : mS → Int32 → Option (mS × Unit)) (M : mS) (v1 : Int32) : Option (mS × Unit) := o_bd (v1 + 1 : Int32) (fun x1 => kb74 M x1)
def m_X11_pass_161 (G : gS) (a0 : Nat) (kb110 : mS → Int32 → Option (mS × Unit)) (kb128 : mS → Int32 → Int32 → Option (mS × Unit)) (M : mS) (v1 : Int32) (v2 : Int32) (s1 : Int32) (s2 : Int32) : Option (mS × Unit) := o_wI M a0 1 (s1 + s2) (fun M1 => o_bd (v2 + 1 : Int32) (fun x2 => kb128 M1 v1 x2))
def m_X11_pass_128 (G : gS) (a0 : Nat) (kb110 : mS → Int32 → Option (mS × Unit)) : Nat → mS → Int32 → Int32 → Option (mS × Unit)
  | 0, _, _, _ => none
  | n + 1, M, v1, v2 => o_rf (gP G a0 15) (fun q1 => o_rf (gP G q1 11) (fun q2 => (if (mI M q2 3) ≤ v2 then o_bd (v1 + 1 : Int32) (fun x4 => kb110 M x4) else o_cl (m_X11_isAt G M a0 v1 v2) (fun M5 r6 => (if r6 = 0 then m_X11_pass_161 G a0 kb110 (fun M v1 v2 => m_X11_pass_128 G a0 kb110 n M v1 v2) M5 v1 v2 ((mI M a0 1)) ((0 : Int32)) else m_X11_pass_161 G a0 kb110 (fun M v1 v2 => m_X11_pass_128 G a0 kb110 n M v1 v2) M5 v1 v2 ((mI M a0 1)) ((1 : Int32)))))))
def m_X11_pass_110 (G : gS) (a0 : Nat)  : Nat → mS → Int32 → Option (mS × Unit)
  | 0, _, _ => none
  | n + 1, M, v1 => o_rf (gP G a0 15) (fun q1 => o_rf (gP G q1 11) (fun q2 => (if (mI M q2 3) ≤ v1 then o_wI M a0 0 ((mI M a0 0) + (1 : Int32)) (fun M4 => some (M4, ())) else o_bd ((v1 + (1 : Int32))) (fun x5 => m_X11_pass_128 G a0 (fun M v1 => m_X11_pass_110 G a0 n M v1) fu M v1 x5))))
def m_X11_pass_74 (G : gS) (a0 : Nat)  : Nat → mS → Int32 → Option (mS × Unit)
  | 0, _, _ => none
  | n + 1, M, v1 => o_rf (gP G a0 15) (fun q1 => o_rf (gP G q1 11) (fun q2 => (if (mI M q2 3) ≤ v1 then m_X11_pass_110 G a0 fu M ((0 : Int32)) else o_rf (gP G a0 9) (fun q4 => o_ix v1 (gN G q4) ((if (mI M q4 (Int32.toNatClampNeg v1)) = 0 then o_cl (m_X11_walk G M a0 v1) (fun M7 r8 => m_X11_pass_102 G a0 (fun M v1 => m_X11_pass_74 G a0 n M v1) M7 v1) else m_X11_pass_102 G a0 (fun M v1 => m_X11_pass_74 G a0 n M v1) M v1))))))
def m_X11_pass_2 (G : gS) (a0 : Nat)  : Nat → mS → Int32 → Option (mS × Unit)
  | 0, _, _ => none
  | n + 1, M, v1 => o_rf (gP G a0 15) (fun q1 => o_rf (gP G q1 11) (fun q2 => (if (mI M q2 11) ≤ v1 then m_X11_pass_74 G a0 fu M ((0 : Int32)) else o_rf (gP G a0 15) (fun q4 => o_rf (gP G q4 11) (fun q5 => o_rf (gP G q5 16) (fun q6 => o_ix v1 (gN G q6) (o_rf (gP G a0 15) (fun q8 => o_rf (gP G q8 11) (fun q9 => o_rf (gP G q9 17) (fun q10 => o_ix v1 (gN G q10) (o_cl (m_X11_carryOut G M a0 (mI M q6 (Int32.toNatClampNeg v1)) (mI M q10 (Int32.toNatClampNeg v1))) (fun M12 r13 => (if r13 = (1 : Int32) then o_cl (m_X11_orders G M12 a0 v1) (fun M16 r17 => (if r17 = 0 then m_X11_pass_66 G a0 (fun M v1 => m_X11_pass_2 G a0 n M v1) M16 v1 else o_wI M16 a0 3 ((mI M16 a0 3) + (1 : Int32)) (fun M20 => m_X11_pass_66 G a0 (fun M v1 => m_X11_pass_2 G a0 n M v1) M20 v1))) else m_X11_pass_66 G a0 (fun M v1 => m_X11_pass_2 G a0 n M v1) M12 v1)))))))))))))
def m_X11_pass (G : gS) (M : mS) (a0 : Nat) : Option (mS × Unit) := m_X11_pass_2 G a0 fu M ((0 : Int32))
set_option maxHeartbeats 4000000 in
set_option maxRecDepth 100000 in
theorem b_X11_pass_66 {p : Program} {e : Env} {s : State} {m : MethodId} {args : Array Value} {below : List Frame} {meth : Method} {c : Code} {A : Nat → Prop} {l : Launch} {D : va_G} {cy : cyS} {G : gS} (cx : cX p s m args meth c cX11_pass RX11 3 none wsX11_pass D cy G A) {k0 n0 : Nat} (hkn : k0 ≤ (rmX11_pass).cells ∧ n0 ≤ (rmX11_pass).slots) {M' : mS} {a0 : Nat} (hL0 : a0 ∈ gL G) (hK0 : gK G a0 = 10) {kb2 : mS → Int32 → Option (mS × Unit)} (hkb2 : ∀ (M : mS) (v1 : Int32) (H : Heap) (locs : List Loc) (ls : Array Slot), kb2 M v1 = some (M', ()) → wd D cy G M A s.heap H locs → lv_has ls 3 [(0, .ref a0), (1, .int v1)] → W p l e rmX11_pass s m args below meth c H locs k0 n0 (MQ below (va_Qv (fun (_ : Unit) => True) (fun _ t => wOut D cy G M' t) A) args s k0 n0 A) (F0 m 2 ls [])) : ∀ (M : mS) (v1 : Int32) (H : Heap) (locs : List Loc) (ls : Array Slot), m_X11_pass_66 G a0 kb2 M v1 = some (M', ()) → wd D cy G M A s.heap H locs → lv_has ls 3 [(0, .ref a0), (1, .int v1)] → W p l e rmX11_pass s m args below meth c H locs k0 n0 (MQ below (va_Qv (fun (_ : Unit) => True) (fun _ t => wOut D cy G M' t) A) args s k0 n0 A) (F0 m 66 ls []) := by
  obtain ⟨hx, hb, hml, hown, hts, hr, hlocks, hK, hA, hG, hsx⟩ := id cx
  intro M v1 H locs ls h w hl
  unfold m_X11_pass_66 at h
  obtain ⟨x1, ex1, h⟩ := x_bd h
  refine lv_iinc (v := x1) (lv' := [(1, .int x1), (0, .ref a0)]) hx hb dX11_pass_66 hl (k := 1) rfl (by rw [ex1]; rfl) (by decide) rfl (fun ls hl => ?_)
  refine lv_goto (tgt := 2) hx hb dX11_pass_69 (by decide) ?_
  exact hkb2 M x1 H locs ls h w (lv_sub hl [1, 0] rfl)
set_option maxHeartbeats 4000000 in
set_option maxRecDepth 100000 in
theorem b_X11_pass_102 {p : Program} {e : Env} {s : State} {m : MethodId} {args : Array Value} {below : List Frame} {meth : Method} {c : Code} {A : Nat → Prop} {l : Launch} {D : va_G} {cy : cyS} {G : gS} (cx : cX p s m args meth c cX11_pass RX11 3 none wsX11_pass D cy G A) {k0 n0 : Nat} (hkn : k0 ≤ (rmX11_pass).cells ∧ n0 ≤ (rmX11_pass).slots) {M' : mS} {a0 : Nat} (hL0 : a0 ∈ gL G) (hK0 : gK G a0 = 10) {kb74 : mS → Int32 → Option (mS × Unit)} (hkb74 : ∀ (M : mS) (v1 : Int32) (H : Heap) (locs : List Loc) (ls : Array Slot), kb74 M v1 = some (M', ()) → wd D cy G M A s.heap H locs → lv_has ls 3 [(0, .ref a0), (1, .int v1)] → W p l e rmX11_pass s m args below meth c H locs k0 n0 (MQ below (va_Qv (fun (_ : Unit) => True) (fun _ t => wOut D cy G M' t) A) args s k0 n0 A) (F0 m 74 ls [])) : ∀ (M : mS) (v1 : Int32) (H : Heap) (locs : List Loc) (ls : Array Slot), m_X11_pass_102 G a0 kb74 M v1 = some (M', ()) → wd D cy G M A s.heap H locs → lv_has ls 3 [(0, .ref a0), (1, .int v1)] → W p l e rmX11_pass s m args below meth c H locs k0 n0 (MQ below (va_Qv (fun (_ : Unit) => True) (fun _ t => wOut D cy G M' t) A) args s k0 n0 A) (F0 m 102 ls []) := by
  obtain ⟨hx, hb, hml, hown, hts, hr, hlocks, hK, hA, hG, hsx⟩ := id cx
  intro M v1 H locs ls h w hl
  unfold m_X11_pass_102 at h
  obtain ⟨x1, ex1, h⟩ := x_bd h
  refine lv_iinc (v := x1) (lv' := [(1, .int x1), (0, .ref a0)]) hx hb dX11_pass_102 hl (k := 1) rfl (by rw [ex1]; rfl) (by decide) rfl (fun ls hl => ?_)
  refine lv_goto (tgt := 74) hx hb dX11_pass_105 (by decide) ?_
  exact hkb74 M x1 H locs ls h w (lv_sub hl [1, 0] rfl)
set_option maxHeartbeats 4000000 in
set_option maxRecDepth 100000 in
theorem b_X11_pass_161 {p : Program} {e : Env} {s : State} {m : MethodId} {args : Array Value} {below : List Frame} {meth : Method} {c : Code} {A : Nat → Prop} {l : Launch} {D : va_G} {cy : cyS} {G : gS} (cx : cX p s m args meth c cX11_pass RX11 3 none wsX11_pass D cy G A) {k0 n0 : Nat} (hkn : k0 ≤ (rmX11_pass).cells ∧ n0 ≤ (rmX11_pass).slots) {M' : mS} {a0 : Nat} (hL0 : a0 ∈ gL G) (hK0 : gK G a0 = 10) {kb110 : mS → Int32 → Option (mS × Unit)} (hkb110 : ∀ (M : mS) (v1 : Int32) (H : Heap) (locs : List Loc) (ls : Array Slot), kb110 M v1 = some (M', ()) → wd D cy G M A s.heap H locs → lv_has ls 3 [(0, .ref a0), (1, .int v1)] → W p l e rmX11_pass s m args below meth c H locs k0 n0 (MQ below (va_Qv (fun (_ : Unit) => True) (fun _ t => wOut D cy G M' t) A) args s k0 n0 A) (F0 m 110 ls [])) {kb128 : mS → Int32 → Int32 → Option (mS × Unit)} (hkb128 : ∀ (M : mS) (v1 : Int32) (v2 : Int32) (H : Heap) (locs : List Loc) (ls : Array Slot), kb128 M v1 v2 = some (M', ()) → wd D cy G M A s.heap H locs → lv_has ls 3 [(0, .ref a0), (1, .int v1), (2, .int v2)] → W p l e rmX11_pass s m args below meth c H locs k0 n0 (MQ below (va_Qv (fun (_ : Unit) => True) (fun _ t => wOut D cy G M' t) A) args s k0 n0 A) (F0 m 128 ls [])) : ∀ (M : mS) (v1 : Int32) (v2 : Int32) (s1 : Int32) (s2 : Int32) (H : Heap) (locs : List Loc) (ls : Array Slot), m_X11_pass_161 G a0 kb110 kb128 M v1 v2 s1 s2 = some (M', ()) → wd D cy G M A s.heap H locs → lv_has ls 3 [(0, .ref a0), (1, .int v1), (2, .int v2)] → W p l e rmX11_pass s m args below meth c H locs k0 n0 (MQ below (va_Qv (fun (_ : Unit) => True) (fun _ t => wOut D cy G M' t) A) args s k0 n0 A) (F0 m 161 ls [.int s2, .int s1, .ref a0]) := by
  obtain ⟨hx, hb, hml, hown, hts, hr, hlocks, hK, hA, hG, hsx⟩ := id cx
  intro M v1 v2 s1 s2 H locs ls h w hl
  unfold m_X11_pass_161 at h
  refine lv_iadd hx hb dX11_pass_161 ?_
  obtain ⟨M1, eM1, h⟩ := x_wI h
  refine r_putI (k := 1) (ty := .int) cx w tyX11 tyX11_ok nmX11 hL0 hK0 (by decide) rfl wi_X11_pass_X11 (by decide) rfl rfl rfl rfl st_10_1 (ln_10 _ _ (by decide)) (List.mem_of_getElem? (i := 4) rfl) dX11_pass_162 eM1 (fun H locs w => ?_)
  obtain ⟨x2, ex2, h⟩ := x_bd h
  refine lv_iinc (v := x2) (lv' := [(2, .int x2), (0, .ref a0), (1, .int v1)]) hx hb dX11_pass_165 hl (k := 2) rfl (by rw [ex2]; rfl) (by decide) rfl (fun ls hl => ?_)
  refine lv_goto (tgt := 128) hx hb dX11_pass_168 (by decide) ?_
  exact hkb128 M1 v1 x2 H locs ls h w (lv_sub hl [1, 2, 0] rfl)
set_option maxHeartbeats 4000000 in
set_option maxRecDepth 100000 in
theorem b_X11_pass_128 {p : Program} {e : Env} {s : State} {m : MethodId} {args : Array Value} {below : List Frame} {meth : Method} {c : Code} {A : Nat → Prop} {l : Launch} {D : va_G} {cy : cyS} {G : gS} (cx : cX p s m args meth c cX11_pass RX11 3 none wsX11_pass D cy G A) {k0 n0 : Nat} (hkn : k0 ≤ (rmX11_pass).cells ∧ n0 ≤ (rmX11_pass).slots) {M' : mS} {a0 : Nat} (hL0 : a0 ∈ gL G) (hK0 : gK G a0 = 10) {kb110 : mS → Int32 → Option (mS × Unit)} (hkb110 : ∀ (M : mS) (v1 : Int32) (H : Heap) (locs : List Loc) (ls : Array Slot), kb110 M v1 = some (M', ()) → wd D cy G M A s.heap H locs → lv_has ls 3 [(0, .ref a0), (1, .int v1)] → W p l e rmX11_pass s m args below meth c H locs k0 n0 (MQ below (va_Qv (fun (_ : Unit) => True) (fun _ t => wOut D cy G M' t) A) args s k0 n0 A) (F0 m 110 ls [])) : ∀ (n : Nat), ∀ (M : mS) (v1 : Int32) (v2 : Int32) (H : Heap) (locs : List Loc) (ls : Array Slot), m_X11_pass_128 G a0 kb110 n M v1 v2 = some (M', ()) → wd D cy G M A s.heap H locs → lv_has ls 3 [(0, .ref a0), (1, .int v1), (2, .int v2)] → W p l e rmX11_pass s m args below meth c H locs k0 n0 (MQ below (va_Qv (fun (_ : Unit) => True) (fun _ t => wOut D cy G M' t) A) args s k0 n0 A) (F0 m 128 ls []) := by
  obtain ⟨hx, hb, hml, hown, hts, hr, hlocks, hK, hA, hG, hsx⟩ := id cx
  intro n
  induction n with
  | zero =>
    intro M v1 v2 H locs ls h w hl
    have h : none = some _ := h
    cases h
  | succ n ih =>
    intro M v1 v2 H locs ls h w hl
    rw [m_X11_pass_128] at h
    refine lv_iload_n hx hb dX11_pass_128 rfl (lv_at hl 2 rfl) ?_
    refine lv_aload_n hx hb dX11_pass_129 rfl (lv_at hl 0 rfl) ?_
    obtain ⟨q1, eq1, h⟩ := x_rf h
    obtain ⟨hLq1, hKq1⟩ := wt_q hG hL0 hK0 eq1
    have hKq1 : gK G q1 = 11 := hKq1
    refine r_getR (k := 15) cx w hL0 hK0 (by decide) rfl wi_X11_pass_X11 (by decide) rfl eq1 (List.mem_of_getElem? (i := 1) rfl) dX11_pass_130 ?_
    obtain ⟨q2, eq2, h⟩ := x_rf h
    obtain ⟨hLq2, hKq2⟩ := wt_q hG hLq1 hKq1 eq2
    have hKq2 : gK G q2 = 9 := hKq2
    refine r_getRN (k := 11) cx w hLq1 hKq1 (by decide) rfl wi_X11_pass_X12 (by decide) rfl eq2 (nwF cx (q := (RX11, 72, "FlagAntsModel", "plan", "LFlagAntsModel$Plan;", "FlagAntsModel")) (List.mem_of_getElem? (i := 30) rfl)) dX11_pass_133 ?_
    refine r_getIN (k := 3) (v := .int (mI M q2 3)) cx w hLq2 hKq2 (by decide) rfl wi_X11_pass_X10 (by decide) rfl (nwF cx (q := (RX11, 106, "FlagAntsModel$Plan", "ants", "I", "FlagAntsModel")) (List.mem_of_getElem? (i := 38) rfl)) dX11_pass_136 ?_
    refine lv_icmp_ge (tgt := 171) hx hb dX11_pass_139 (by decide) (fun k3 => ?_) (fun k3 => ?_)
    · have h := x_t h k3
      obtain ⟨x4, ex4, h⟩ := x_bd h
      refine lv_iinc (v := x4) (lv' := [(1, .int x4), (0, .ref a0), (2, .int v2)]) hx hb dX11_pass_171 hl (k := 1) rfl (by rw [ex4]; rfl) (by decide) rfl (fun ls hl => ?_)
      refine lv_goto (tgt := 110) hx hb dX11_pass_174 (by decide) ?_
      exact hkb110 M x4 H locs ls h w (lv_sub hl [1, 0] rfl)
    · have h := x_f h k3
      refine lv_aload_n hx hb dX11_pass_142 rfl (lv_at hl 0 rfl) ?_
      refine lv_dup hx hb dX11_pass_143 rfl ?_
      refine r_getI (k := 1) (v := .int (mI M a0 1)) cx w hL0 hK0 (by decide) rfl wi_X11_pass_X11 (by decide) rfl (List.mem_of_getElem? (i := 4) rfl) dX11_pass_144 ?_
      refine lv_aload_n hx hb dX11_pass_147 rfl (lv_at hl 0 rfl) ?_
      refine lv_iload_n hx hb dX11_pass_148 rfl (lv_at hl 1 rfl) ?_
      refine lv_iload_n hx hb dX11_pass_149 rfl (lv_at hl 2 rfl) ?_
      obtain ⟨M5, r6, y7, h⟩ := x_cl h
      refine r_callVi (As := [.int v1, .int v2]) (rest := [.int ((mI M a0 1)), .ref a0]) cx w hkn hl.1 (k_X11_isAt hG hL0 hK0 y7) (cwV 2 hts gX11_pass_X11_isAt rfl rfl rfl (by decide +kernel) ⟨Nat.le_of_ble_eq_true rfl, Nat.le_of_ble_eq_true rfl⟩) hL0 hK0 (by decide) rfl rfl rfl (Nat.le_of_ble_eq_true rfl) dX11_pass_150 (fun H locs w => ?_)
      refine lv_if_eq (tgt := 160) hx hb dX11_pass_153 (by decide) (fun k8 => ?_) (fun k8 => ?_)
      · have h := x_t h k8
        refine lv_iconst (v := (0 : Int32)) hx hb dX11_pass_160 (by decide) ?_
        exact b_X11_pass_161 cx hkn hL0 hK0 (hkb110 := hkb110) (hkb128 := ih) M5 v1 v2 ((mI M a0 1)) ((0 : Int32)) H locs ls h w (lv_sub hl [0, 1, 2] rfl)
      · have h := x_f h k8
        refine lv_iconst (v := (1 : Int32)) hx hb dX11_pass_156 (by decide) ?_
        refine lv_goto (tgt := 161) hx hb dX11_pass_157 (by decide) ?_
        exact b_X11_pass_161 cx hkn hL0 hK0 (hkb110 := hkb110) (hkb128 := ih) M5 v1 v2 ((mI M a0 1)) ((1 : Int32)) H locs ls h w (lv_sub hl [0, 1, 2] rfl)
set_option maxHeartbeats 4000000 in
set_option maxRecDepth 100000 in
theorem b_X11_pass_110 {p : Program} {e : Env} {s : State} {m : MethodId} {args : Array Value} {below : List Frame} {meth : Method} {c : Code} {A : Nat → Prop} {l : Launch} {D : va_G} {cy : cyS} {G : gS} (cx : cX p s m args meth c cX11_pass RX11 3 none wsX11_pass D cy G A) {k0 n0 : Nat} (hkn : k0 ≤ (rmX11_pass).cells ∧ n0 ≤ (rmX11_pass).slots) {M' : mS} {a0 : Nat} (hL0 : a0 ∈ gL G) (hK0 : gK G a0 = 10)  : ∀ (n : Nat), ∀ (M : mS) (v1 : Int32) (H : Heap) (locs : List Loc) (ls : Array Slot), m_X11_pass_110 G a0 n M v1 = some (M', ()) → wd D cy G M A s.heap H locs → lv_has ls 3 [(0, .ref a0), (1, .int v1)] → W p l e rmX11_pass s m args below meth c H locs k0 n0 (MQ below (va_Qv (fun (_ : Unit) => True) (fun _ t => wOut D cy G M' t) A) args s k0 n0 A) (F0 m 110 ls []) := by
  obtain ⟨hx, hb, hml, hown, hts, hr, hlocks, hK, hA, hG, hsx⟩ := id cx
  intro n
  induction n with
  | zero =>
    intro M v1 H locs ls h w hl
    have h : none = some _ := h
    cases h
  | succ n ih =>
    intro M v1 H locs ls h w hl
    rw [m_X11_pass_110] at h
    refine lv_iload_n hx hb dX11_pass_110 rfl (lv_at hl 1 rfl) ?_
    refine lv_aload_n hx hb dX11_pass_111 rfl (lv_at hl 0 rfl) ?_
    obtain ⟨q1, eq1, h⟩ := x_rf h
    obtain ⟨hLq1, hKq1⟩ := wt_q hG hL0 hK0 eq1
    have hKq1 : gK G q1 = 11 := hKq1
    refine r_getR (k := 15) cx w hL0 hK0 (by decide) rfl wi_X11_pass_X11 (by decide) rfl eq1 (List.mem_of_getElem? (i := 1) rfl) dX11_pass_112 ?_
    obtain ⟨q2, eq2, h⟩ := x_rf h
    obtain ⟨hLq2, hKq2⟩ := wt_q hG hLq1 hKq1 eq2
    have hKq2 : gK G q2 = 9 := hKq2
    refine r_getRN (k := 11) cx w hLq1 hKq1 (by decide) rfl wi_X11_pass_X12 (by decide) rfl eq2 (nwF cx (q := (RX11, 72, "FlagAntsModel", "plan", "LFlagAntsModel$Plan;", "FlagAntsModel")) (List.mem_of_getElem? (i := 30) rfl)) dX11_pass_115 ?_
    refine r_getIN (k := 3) (v := .int (mI M q2 3)) cx w hLq2 hKq2 (by decide) rfl wi_X11_pass_X10 (by decide) rfl (nwF cx (q := (RX11, 106, "FlagAntsModel$Plan", "ants", "I", "FlagAntsModel")) (List.mem_of_getElem? (i := 38) rfl)) dX11_pass_118 ?_
    refine lv_icmp_ge (tgt := 177) hx hb dX11_pass_121 (by decide) (fun k3 => ?_) (fun k3 => ?_)
    · have h := x_t h k3
      refine lv_aload_n hx hb dX11_pass_177 rfl (lv_at hl 0 rfl) ?_
      refine lv_dup hx hb dX11_pass_178 rfl ?_
      refine r_getI (k := 0) (v := .int (mI M a0 0)) cx w hL0 hK0 (by decide) rfl wi_X11_pass_X11 (by decide) rfl (List.mem_of_getElem? (i := 5) rfl) dX11_pass_179 ?_
      refine lv_iconst (v := (1 : Int32)) hx hb dX11_pass_182 (by decide) ?_
      refine lv_iadd hx hb dX11_pass_183 ?_
      obtain ⟨M4, eM4, h⟩ := x_wI h
      refine r_putI (k := 0) (ty := .int) cx w tyX11 tyX11_ok nmX11 hL0 hK0 (by decide) rfl wi_X11_pass_X11 (by decide) rfl rfl rfl rfl st_10_0 (ln_10 _ _ (by decide)) (List.mem_of_getElem? (i := 5) rfl) dX11_pass_184 eM4 (fun H locs w => ?_)
      exact r_vret cx w h dX11_pass_187
    · have h := x_f h k3
      refine lv_iload_n hx hb dX11_pass_124 rfl (lv_at hl 1 rfl) ?_
      refine lv_iconst (v := (1 : Int32)) hx hb dX11_pass_125 (by decide) ?_
      refine lv_iadd hx hb dX11_pass_126 ?_
      obtain ⟨x5, ex5, h⟩ := x_bd h
      refine r_topI ex5 ?_
      refine lv_istore_n (lv' := [(2, .int x5), (0, .ref a0), (1, .int v1)]) hx hb dX11_pass_127 rfl hl (by decide) rfl (fun ls hl => ?_)
      exact b_X11_pass_128 cx hkn hL0 hK0 (hkb110 := ih) fu M v1 x5 H locs ls h w (lv_sub hl [1, 2, 0] rfl)
set_option maxHeartbeats 4000000 in
set_option maxRecDepth 100000 in
theorem b_X11_pass_74 {p : Program} {e : Env} {s : State} {m : MethodId} {args : Array Value} {below : List Frame} {meth : Method} {c : Code} {A : Nat → Prop} {l : Launch} {D : va_G} {cy : cyS} {G : gS} (cx : cX p s m args meth c cX11_pass RX11 3 none wsX11_pass D cy G A) {k0 n0 : Nat} (hkn : k0 ≤ (rmX11_pass).cells ∧ n0 ≤ (rmX11_pass).slots) {M' : mS} {a0 : Nat} (hL0 : a0 ∈ gL G) (hK0 : gK G a0 = 10)  : ∀ (n : Nat), ∀ (M : mS) (v1 : Int32) (H : Heap) (locs : List Loc) (ls : Array Slot), m_X11_pass_74 G a0 n M v1 = some (M', ()) → wd D cy G M A s.heap H locs → lv_has ls 3 [(0, .ref a0), (1, .int v1)] → W p l e rmX11_pass s m args below meth c H locs k0 n0 (MQ below (va_Qv (fun (_ : Unit) => True) (fun _ t => wOut D cy G M' t) A) args s k0 n0 A) (F0 m 74 ls []) := by
  obtain ⟨hx, hb, hml, hown, hts, hr, hlocks, hK, hA, hG, hsx⟩ := id cx
  intro n
  induction n with
  | zero =>
    intro M v1 H locs ls h w hl
    have h : none = some _ := h
    cases h
  | succ n ih =>
    intro M v1 H locs ls h w hl
    rw [m_X11_pass_74] at h
    refine lv_iload_n hx hb dX11_pass_74 rfl (lv_at hl 1 rfl) ?_
    refine lv_aload_n hx hb dX11_pass_75 rfl (lv_at hl 0 rfl) ?_
    obtain ⟨q1, eq1, h⟩ := x_rf h
    obtain ⟨hLq1, hKq1⟩ := wt_q hG hL0 hK0 eq1
    have hKq1 : gK G q1 = 11 := hKq1
    refine r_getR (k := 15) cx w hL0 hK0 (by decide) rfl wi_X11_pass_X11 (by decide) rfl eq1 (List.mem_of_getElem? (i := 1) rfl) dX11_pass_76 ?_
    obtain ⟨q2, eq2, h⟩ := x_rf h
    obtain ⟨hLq2, hKq2⟩ := wt_q hG hLq1 hKq1 eq2
    have hKq2 : gK G q2 = 9 := hKq2
    refine r_getRN (k := 11) cx w hLq1 hKq1 (by decide) rfl wi_X11_pass_X12 (by decide) rfl eq2 (nwF cx (q := (RX11, 72, "FlagAntsModel", "plan", "LFlagAntsModel$Plan;", "FlagAntsModel")) (List.mem_of_getElem? (i := 30) rfl)) dX11_pass_79 ?_
    refine r_getIN (k := 3) (v := .int (mI M q2 3)) cx w hLq2 hKq2 (by decide) rfl wi_X11_pass_X10 (by decide) rfl (nwF cx (q := (RX11, 106, "FlagAntsModel$Plan", "ants", "I", "FlagAntsModel")) (List.mem_of_getElem? (i := 38) rfl)) dX11_pass_82 ?_
    refine lv_icmp_ge (tgt := 108) hx hb dX11_pass_85 (by decide) (fun k3 => ?_) (fun k3 => ?_)
    · have h := x_t h k3
      refine lv_iconst (v := (0 : Int32)) hx hb dX11_pass_108 (by decide) ?_
      refine lv_istore_n (lv' := [(1, .int ((0 : Int32))), (0, .ref a0)]) hx hb dX11_pass_109 rfl hl (by decide) rfl (fun ls hl => ?_)
      exact b_X11_pass_110 cx hkn hL0 hK0 fu M ((0 : Int32)) H locs ls h w (lv_sub hl [1, 0] rfl)
    · have h := x_f h k3
      refine lv_aload_n hx hb dX11_pass_88 rfl (lv_at hl 0 rfl) ?_
      obtain ⟨q4, eq4, h⟩ := x_rf h
      obtain ⟨hLq4, hKq4⟩ := wt_q hG hL0 hK0 eq4
      have hKq4 : gK G q4 = 12 := hKq4
      refine r_getR (k := 9) cx w hL0 hK0 (by decide) rfl wi_X11_pass_X11 (by decide) rfl eq4 (List.mem_of_getElem? (i := 3) rfl) dX11_pass_89 ?_
      refine lv_iload_n hx hb dX11_pass_92 rfl (lv_at hl 1 rfl) ?_
      obtain ⟨z5, h⟩ := x_ix h
      refine r_iald cx w hLq4 hKq4 z5 dX11_pass_93 ?_
      refine lv_if_ne (tgt := 102) hx hb dX11_pass_94 (by decide) (fun k6 => ?_) (fun k6 => ?_)
      · have h := x_f h k6
        exact b_X11_pass_102 cx hkn hL0 hK0 (hkb74 := ih) M v1 H locs ls h w (lv_sub hl [0, 1] rfl)
      · have h := x_t h k6
        refine lv_aload_n hx hb dX11_pass_97 rfl (lv_at hl 0 rfl) ?_
        refine lv_iload_n hx hb dX11_pass_98 rfl (lv_at hl 1 rfl) ?_
        obtain ⟨M7, r8, y9, h⟩ := x_cl h
        refine r_callVv (As := [.int v1]) (rest := []) cx w hkn hl.1 (k_X11_walk hG hL0 hK0 y9) (cwV 1 hts gX11_pass_X11_walk rfl rfl rfl (by decide +kernel) ⟨Nat.le_of_ble_eq_true rfl, Nat.le_of_ble_eq_true rfl⟩) hL0 hK0 (by decide) rfl rfl rfl (Nat.le_of_ble_eq_true rfl) dX11_pass_99 (fun H locs w => ?_)
        exact b_X11_pass_102 cx hkn hL0 hK0 (hkb74 := ih) M7 v1 H locs ls h w (lv_sub hl [0, 1] rfl)
set_option maxHeartbeats 4000000 in
set_option maxRecDepth 100000 in
theorem b_X11_pass_2 {p : Program} {e : Env} {s : State} {m : MethodId} {args : Array Value} {below : List Frame} {meth : Method} {c : Code} {A : Nat → Prop} {l : Launch} {D : va_G} {cy : cyS} {G : gS} (cx : cX p s m args meth c cX11_pass RX11 3 none wsX11_pass D cy G A) {k0 n0 : Nat} (hkn : k0 ≤ (rmX11_pass).cells ∧ n0 ≤ (rmX11_pass).slots) {M' : mS} {a0 : Nat} (hL0 : a0 ∈ gL G) (hK0 : gK G a0 = 10)  : ∀ (n : Nat), ∀ (M : mS) (v1 : Int32) (H : Heap) (locs : List Loc) (ls : Array Slot), m_X11_pass_2 G a0 n M v1 = some (M', ()) → wd D cy G M A s.heap H locs → lv_has ls 3 [(0, .ref a0), (1, .int v1)] → W p l e rmX11_pass s m args below meth c H locs k0 n0 (MQ below (va_Qv (fun (_ : Unit) => True) (fun _ t => wOut D cy G M' t) A) args s k0 n0 A) (F0 m 2 ls []) := by
  obtain ⟨hx, hb, hml, hown, hts, hr, hlocks, hK, hA, hG, hsx⟩ := id cx
  intro n
  induction n with
  | zero =>
    intro M v1 H locs ls h w hl
    have h : none = some _ := h
    cases h
  | succ n ih =>
    intro M v1 H locs ls h w hl
    rw [m_X11_pass_2] at h
    refine lv_iload_n hx hb dX11_pass_2 rfl (lv_at hl 1 rfl) ?_
    refine lv_aload_n hx hb dX11_pass_3 rfl (lv_at hl 0 rfl) ?_
    obtain ⟨q1, eq1, h⟩ := x_rf h
    obtain ⟨hLq1, hKq1⟩ := wt_q hG hL0 hK0 eq1
    have hKq1 : gK G q1 = 11 := hKq1
    refine r_getR (k := 15) cx w hL0 hK0 (by decide) rfl wi_X11_pass_X11 (by decide) rfl eq1 (List.mem_of_getElem? (i := 1) rfl) dX11_pass_4 ?_
    obtain ⟨q2, eq2, h⟩ := x_rf h
    obtain ⟨hLq2, hKq2⟩ := wt_q hG hLq1 hKq1 eq2
    have hKq2 : gK G q2 = 9 := hKq2
    refine r_getRN (k := 11) cx w hLq1 hKq1 (by decide) rfl wi_X11_pass_X12 (by decide) rfl eq2 (nwF cx (q := (RX11, 72, "FlagAntsModel", "plan", "LFlagAntsModel$Plan;", "FlagAntsModel")) (List.mem_of_getElem? (i := 30) rfl)) dX11_pass_7 ?_
    refine r_getIN (k := 11) (v := .int (mI M q2 11)) cx w hLq2 hKq2 (by decide) rfl wi_X11_pass_X10 (by decide) rfl (nwF cx (q := (RX11, 126, "FlagAntsModel$Plan", "orders", "I", "FlagAntsModel")) (List.mem_of_getElem? (i := 42) rfl)) dX11_pass_10 ?_
    refine lv_icmp_ge (tgt := 72) hx hb dX11_pass_13 (by decide) (fun k3 => ?_) (fun k3 => ?_)
    · have h := x_t h k3
      refine lv_iconst (v := (0 : Int32)) hx hb dX11_pass_72 (by decide) ?_
      refine lv_istore_n (lv' := [(1, .int ((0 : Int32))), (0, .ref a0)]) hx hb dX11_pass_73 rfl hl (by decide) rfl (fun ls hl => ?_)
      exact b_X11_pass_74 cx hkn hL0 hK0 fu M ((0 : Int32)) H locs ls h w (lv_sub hl [1, 0] rfl)
    · have h := x_f h k3
      refine lv_aload_n hx hb dX11_pass_16 rfl (lv_at hl 0 rfl) ?_
      refine lv_aload_n hx hb dX11_pass_17 rfl (lv_at hl 0 rfl) ?_
      obtain ⟨q4, eq4, h⟩ := x_rf h
      obtain ⟨hLq4, hKq4⟩ := wt_q hG hL0 hK0 eq4
      have hKq4 : gK G q4 = 11 := hKq4
      refine r_getR (k := 15) cx w hL0 hK0 (by decide) rfl wi_X11_pass_X11 (by decide) rfl eq4 (List.mem_of_getElem? (i := 1) rfl) dX11_pass_18 ?_
      obtain ⟨q5, eq5, h⟩ := x_rf h
      obtain ⟨hLq5, hKq5⟩ := wt_q hG hLq4 hKq4 eq5
      have hKq5 : gK G q5 = 9 := hKq5
      refine r_getRN (k := 11) cx w hLq4 hKq4 (by decide) rfl wi_X11_pass_X12 (by decide) rfl eq5 (nwF cx (q := (RX11, 72, "FlagAntsModel", "plan", "LFlagAntsModel$Plan;", "FlagAntsModel")) (List.mem_of_getElem? (i := 30) rfl)) dX11_pass_21 ?_
      obtain ⟨q6, eq6, h⟩ := x_rf h
      obtain ⟨hLq6, hKq6⟩ := wt_q hG hLq5 hKq5 eq6
      have hKq6 : gK G q6 = 12 := hKq6
      refine r_getRN (k := 16) cx w hLq5 hKq5 (by decide) rfl wi_X11_pass_X10 (by decide) rfl eq6 (nwF cx (q := (RX11, 129, "FlagAntsModel$Plan", "test", "[I", "FlagAntsModel")) (List.mem_of_getElem? (i := 43) rfl)) dX11_pass_24 ?_
      refine lv_iload_n hx hb dX11_pass_27 rfl (lv_at hl 1 rfl) ?_
      obtain ⟨z7, h⟩ := x_ix h
      refine r_iald cx w hLq6 hKq6 z7 dX11_pass_28 ?_
      refine lv_aload_n hx hb dX11_pass_29 rfl (lv_at hl 0 rfl) ?_
      obtain ⟨q8, eq8, h⟩ := x_rf h
      obtain ⟨hLq8, hKq8⟩ := wt_q hG hL0 hK0 eq8
      have hKq8 : gK G q8 = 11 := hKq8
      refine r_getR (k := 15) cx w hL0 hK0 (by decide) rfl wi_X11_pass_X11 (by decide) rfl eq8 (List.mem_of_getElem? (i := 1) rfl) dX11_pass_30 ?_
      obtain ⟨q9, eq9, h⟩ := x_rf h
      obtain ⟨hLq9, hKq9⟩ := wt_q hG hLq8 hKq8 eq9
      have hKq9 : gK G q9 = 9 := hKq9
      refine r_getRN (k := 11) cx w hLq8 hKq8 (by decide) rfl wi_X11_pass_X12 (by decide) rfl eq9 (nwF cx (q := (RX11, 72, "FlagAntsModel", "plan", "LFlagAntsModel$Plan;", "FlagAntsModel")) (List.mem_of_getElem? (i := 30) rfl)) dX11_pass_33 ?_
      obtain ⟨q10, eq10, h⟩ := x_rf h
      obtain ⟨hLq10, hKq10⟩ := wt_q hG hLq9 hKq9 eq10
      have hKq10 : gK G q10 = 12 := hKq10
      refine r_getRN (k := 17) cx w hLq9 hKq9 (by decide) rfl wi_X11_pass_X10 (by decide) rfl eq10 (nwF cx (q := (RX11, 132, "FlagAntsModel$Plan", "testEnd", "[I", "FlagAntsModel")) (List.mem_of_getElem? (i := 44) rfl)) dX11_pass_36 ?_
      refine lv_iload_n hx hb dX11_pass_39 rfl (lv_at hl 1 rfl) ?_
      obtain ⟨z11, h⟩ := x_ix h
      refine r_iald cx w hLq10 hKq10 z11 dX11_pass_40 ?_
      obtain ⟨M12, r13, y14, h⟩ := x_cl h
      refine r_callVi (As := [.int ((mI M q6 (Int32.toNatClampNeg v1))), .int ((mI M q10 (Int32.toNatClampNeg v1)))]) (rest := []) cx w hkn hl.1 (k_X11_carryOut hG hL0 hK0 y14) (cwV 2 hts gX11_pass_X11_carryOut rfl rfl rfl (by decide +kernel) ⟨Nat.le_of_ble_eq_true rfl, Nat.le_of_ble_eq_true rfl⟩) hL0 hK0 (by decide) rfl rfl rfl (Nat.le_of_ble_eq_true rfl) dX11_pass_41 (fun H locs w => ?_)
      refine lv_iconst (v := (1 : Int32)) hx hb dX11_pass_44 (by decide) ?_
      refine lv_icmp_ne (tgt := 66) hx hb dX11_pass_45 (by decide) (fun k15 => ?_) (fun k15 => ?_)
      · have h := x_f h k15
        exact b_X11_pass_66 cx hkn hL0 hK0 (hkb2 := ih) M12 v1 H locs ls h w (lv_sub hl [0, 1] rfl)
      · have h := x_t h k15
        refine lv_aload_n hx hb dX11_pass_48 rfl (lv_at hl 0 rfl) ?_
        refine lv_iload_n hx hb dX11_pass_49 rfl (lv_at hl 1 rfl) ?_
        obtain ⟨M16, r17, y18, h⟩ := x_cl h
        refine r_callVi (As := [.int v1]) (rest := []) cx w hkn hl.1 (k_X11_orders hG hL0 hK0 y18) (cwV 1 hts gX11_pass_X11_orders rfl rfl rfl (by decide +kernel) ⟨Nat.le_of_ble_eq_true rfl, Nat.le_of_ble_eq_true rfl⟩) hL0 hK0 (by decide) rfl rfl rfl (Nat.le_of_ble_eq_true rfl) dX11_pass_50 (fun H locs w => ?_)
        refine lv_if_eq (tgt := 66) hx hb dX11_pass_53 (by decide) (fun k19 => ?_) (fun k19 => ?_)
        · have h := x_t h k19
          exact b_X11_pass_66 cx hkn hL0 hK0 (hkb2 := ih) M16 v1 H locs ls h w (lv_sub hl [0, 1] rfl)
        · have h := x_f h k19
          refine lv_aload_n hx hb dX11_pass_56 rfl (lv_at hl 0 rfl) ?_
          refine lv_dup hx hb dX11_pass_57 rfl ?_
          refine r_getI (k := 3) (v := .int (mI M16 a0 3)) cx w hL0 hK0 (by decide) rfl wi_X11_pass_X11 (by decide) rfl (List.mem_of_getElem? (i := 2) rfl) dX11_pass_58 ?_
          refine lv_iconst (v := (1 : Int32)) hx hb dX11_pass_61 (by decide) ?_
          refine lv_iadd hx hb dX11_pass_62 ?_
          obtain ⟨M20, eM20, h⟩ := x_wI h
          refine r_putI (k := 3) (ty := .int) cx w tyX11 tyX11_ok nmX11 hL0 hK0 (by decide) rfl wi_X11_pass_X11 (by decide) rfl rfl rfl rfl st_10_3 (ln_10 _ _ (by decide)) (List.mem_of_getElem? (i := 2) rfl) dX11_pass_63 eM20 (fun H locs w => ?_)
          exact b_X11_pass_66 cx hkn hL0 hK0 (hkb2 := ih) M20 v1 H locs ls h w (lv_sub hl [0, 1] rfl)
set_option maxHeartbeats 4000000 in
set_option maxRecDepth 100000 in
theorem k_X11_pass {l : Launch} {D : va_G} {cy : cyS} {G : gS} {M M' : mS} {a0 : Nat} (hG : wt G) (hL0 : a0 ∈ gL G) (hK0 : gK G a0 = 10) (h : m_X11_pass G M a0 = some (M', ())) : ctV l yX11_pass wsX11_pass rmX11_pass D cy G M [.ref a0] M' := by
  unfold m_X11_pass at h
  refine ctV_of (cc := cX11_pass) (nL := 3) (ret := none) (lv := [(0, .ref a0)]) hG (by decide) rfl ⟨rfl, rfl⟩ (Nat.le_of_ble_eq_true rfl) rfl ?_
  intro p e s m args below meth c A ls cx w hl
  obtain ⟨hx, hb, hml, hown, hts, hr, hlocks, hK, hA, -, hsx⟩ := id cx
  have hkn : 0 ≤ (rmX11_pass).cells ∧ 0 ≤ (rmX11_pass).slots := ⟨Nat.zero_le _, Nat.zero_le _⟩
  refine lv_iconst (v := (0 : Int32)) hx hb dX11_pass_0 (by decide) ?_
  refine lv_istore_n (lv' := [(1, .int ((0 : Int32))), (0, .ref a0)]) hx hb dX11_pass_1 rfl hl (by decide) rfl (fun ls hl => ?_)
  exact b_X11_pass_2 cx hkn hL0 hK0 fu M ((0 : Int32)) s.heap [] ls h w (lv_sub hl [1, 0] rfl)
-- X11_pass_
abbrev rmX11_pass_ : Room := { frames := 5, cells := 0, slots := 0, locals := 129 }
def m_X11_pass__2 (G : gS) (a0 : Nat) (c1 : Int32)  : Nat → mS → Int32 → Option (mS × Nat)
  | 0, _, _ => none
  | n + 1, M, v2 => (if c1 ≤ v2 then some (M, a0) else o_cl (m_X11_pass G M a0) (fun M2 r3 => o_bd (v2 + 1 : Int32) (fun x5 => m_X11_pass__2 G a0 c1 n M2 x5)))
def m_X11_pass_ (G : gS) (M : mS) (a0 : Nat) (c1 : Int32) : Option (mS × Nat) := m_X11_pass__2 G a0 c1 fu M ((0 : Int32))
set_option maxHeartbeats 4000000 in
set_option maxRecDepth 100000 in
theorem b_X11_pass__2 {p : Program} {e : Env} {s : State} {m : MethodId} {args : Array Value} {below : List Frame} {meth : Method} {c : Code} {A : Nat → Prop} {l : Launch} {D : va_G} {cy : cyS} {G : gS} (cx : cX p s m args meth c cX11_pass_ RX11 3 (some (.object "FlagAntsModel$State")) wsX11_pass_ D cy G A) {k0 n0 : Nat} (hkn : k0 ≤ (rmX11_pass_).cells ∧ n0 ≤ (rmX11_pass_).slots) {M' : mS} {r : Nat} {a0 : Nat} {c1 : Int32} (hL0 : a0 ∈ gL G) (hK0 : gK G a0 = 10)  : ∀ (n : Nat), ∀ (M : mS) (v2 : Int32) (H : Heap) (locs : List Loc) (ls : Array Slot), m_X11_pass__2 G a0 c1 n M v2 = some (M', r) → wd D cy G M A s.heap H locs → lv_has ls 3 [(0, .ref a0), (1, .int c1), (2, .int v2)] → W p l e rmX11_pass_ s m args below meth c H locs k0 n0 (MQ below (va_Qr (fun (_ : Unit) => True) (fun _ a t => a = r ∧ wOut D cy G M' t) A) args s k0 n0 A) (F0 m 2 ls []) := by
  obtain ⟨hx, hb, hml, hown, hts, hr, hlocks, hK, hA, hG, hsx⟩ := id cx
  intro n
  induction n with
  | zero =>
    intro M v2 H locs ls h w hl
    have h : none = some _ := h
    cases h
  | succ n ih =>
    intro M v2 H locs ls h w hl
    rw [m_X11_pass__2] at h
    refine lv_iload_n hx hb dX11_pass__2 rfl (lv_at hl 2 rfl) ?_
    refine lv_iload_n hx hb dX11_pass__3 rfl (lv_at hl 1 rfl) ?_
    refine lv_icmp_ge (tgt := 17) hx hb dX11_pass__4 (by decide) (fun k1 => ?_) (fun k1 => ?_)
    · have h := x_t h k1
      refine lv_aload_n hx hb dX11_pass__17 rfl (lv_at hl 0 rfl) ?_
      exact r_aret cx w h dX11_pass__18
    · have h := x_f h k1
      refine lv_aload_n hx hb dX11_pass__7 rfl (lv_at hl 0 rfl) ?_
      obtain ⟨M2, r3, y4, h⟩ := x_cl h
      refine r_callVv (As := []) (rest := []) cx w hkn hl.1 (k_X11_pass hG hL0 hK0 y4) (cwV 0 hts gX11_pass__X11_pass rfl rfl rfl (by decide +kernel) ⟨Nat.le_of_ble_eq_true rfl, Nat.le_of_ble_eq_true rfl⟩) hL0 hK0 (by decide) rfl rfl rfl (Nat.le_of_ble_eq_true rfl) dX11_pass__8 (fun H locs w => ?_)
      obtain ⟨x5, ex5, h⟩ := x_bd h
      refine lv_iinc (v := x5) (lv' := [(2, .int x5), (0, .ref a0), (1, .int c1)]) hx hb dX11_pass__11 hl (k := 2) rfl (by rw [ex5]; rfl) (by decide) rfl (fun ls hl => ?_)
      refine lv_goto (tgt := 2) hx hb dX11_pass__14 (by decide) ?_
      exact ih M2 x5 H locs ls h w (lv_sub hl [1, 2, 0] rfl)
set_option maxHeartbeats 4000000 in
set_option maxRecDepth 100000 in
theorem k_X11_pass_ {l : Launch} {D : va_G} {cy : cyS} {G : gS} {M M' : mS} {r : Nat} {a0 : Nat} {c1 : Int32} (hG : wt G) (hL0 : a0 ∈ gL G) (hK0 : gK G a0 = 10) (h : m_X11_pass_ G M a0 c1 = some (M', r)) : ctR l yX11_pass_ wsX11_pass_ rmX11_pass_ D cy G M [.ref a0, .int c1] M' r := by
  unfold m_X11_pass_ at h
  refine ctR_of (cc := cX11_pass_) (nL := 3) (ret := (some (.object "FlagAntsModel$State"))) (lv := [(0, .ref a0), (1, .int c1)]) hG (by decide) rfl ⟨rfl, rfl⟩ (Nat.le_of_ble_eq_true rfl) rfl ?_
  intro p e s m args below meth c A ls cx w hl
  obtain ⟨hx, hb, hml, hown, hts, hr, hlocks, hK, hA, -, hsx⟩ := id cx
  have hkn : 0 ≤ (rmX11_pass_).cells ∧ 0 ≤ (rmX11_pass_).slots := ⟨Nat.zero_le _, Nat.zero_le _⟩
  refine lv_iconst (v := (0 : Int32)) hx hb dX11_pass__0 (by decide) ?_
  refine lv_istore_n (lv' := [(2, .int ((0 : Int32))), (0, .ref a0), (1, .int c1)]) hx hb dX11_pass__1 rfl hl (by decide) rfl (fun ls hl => ?_)
  exact b_X11_pass__2 cx hkn hL0 hK0 fu M ((0 : Int32)) s.heap [] ls h w (lv_sub hl [1, 2, 0] rfl)
-- X12_pass
theorem wi_X12_pass_X12 : ∀ w ∈ wsX120, w ∈ wsX12_pass := by decide +kernel
abbrev rmX12_pass : Room := { frames := 6, cells := 0, slots := 0, locals := 151 }
def m_X12_pass (G : gS) (M : mS) (a0 : Nat) (c1 : Int32) : Option (mS × Int32) := o_wI M a0 0 (0 : Int32) (fun M1 => o_cl (m_X12_isIn G M1 c1 (1 : Int32) (1000 : Int32)) (fun M2 r3 => (if r3 = 0 then o_cl (m_X12_no G M2 a0 (1 : Int32)) (fun M18 r19 => some (M18, r19)) else o_rf (gP G a0 13) (fun q6 => o_cl (m_X11_dark G M2 q6) (fun M7 r8 => o_rf (gP G a0 13) (fun q10 => o_cl (m_X11_pass_ G M7 q10 c1) (fun M11 r12 => o_ck (r12 ∈ gL G ∧ gK G r12 = 10) (o_cl (m_X11_dark G M11 r12) (fun M15 r16 => some (M15, (r16 - r8)))))))))))
set_option maxHeartbeats 4000000 in
set_option maxRecDepth 100000 in
theorem k_X12_pass {l : Launch} {D : va_G} {cy : cyS} {G : gS} {M M' : mS} {r : Int32} {a0 : Nat} {c1 : Int32} (hG : wt G) (hL0 : a0 ∈ gL G) (hK0 : gK G a0 = 11) (h : m_X12_pass G M a0 c1 = some (M', r)) : ctI l yX12_pass wsX12_pass rmX12_pass D cy G M [.ref a0, .int c1] M' r := by
  unfold m_X12_pass at h
  refine ctI_of (cc := cX12_pass) (nL := 3) (ret := (some .int)) (lv := [(0, .ref a0), (1, .int c1)]) hG (by decide) rfl ⟨rfl, rfl⟩ (Nat.le_of_ble_eq_true rfl) rfl ?_
  intro p e s m args below meth c A ls cx w hl
  obtain ⟨hx, hb, hml, hown, hts, hr, hlocks, hK, hA, -, hsx⟩ := id cx
  have hkn : 0 ≤ (rmX12_pass).cells ∧ 0 ≤ (rmX12_pass).slots := ⟨Nat.zero_le _, Nat.zero_le _⟩
  refine lv_aload_n hx hb dX12_pass_0 rfl (lv_at hl 0 rfl) ?_
  refine lv_iconst (v := (0 : Int32)) hx hb dX12_pass_1 (by decide) ?_
  obtain ⟨M1, eM1, h⟩ := x_wI h
  refine r_putI (k := 0) (ty := .int) cx w tyX12 tyX12_ok nmX12 hL0 hK0 (by decide) rfl wi_X12_pass_X12 (by decide) rfl rfl rfl rfl st_11_0 (ln_11 _ _ (by decide)) (List.mem_of_getElem? (i := 1) rfl) dX12_pass_2 eM1 (fun H locs w => ?_)
  refine lv_iload_n hx hb dX12_pass_5 rfl (lv_at hl 1 rfl) ?_
  refine lv_iconst (v := (1 : Int32)) hx hb dX12_pass_6 (by decide) ?_
  refine lv_sipush (v := (1000 : Int32)) hx hb dX12_pass_7 (by decide) ?_
  obtain ⟨M2, r3, y4, h⟩ := x_cl h
  refine r_callSi (As := [.int c1, .int ((1 : Int32)), .int ((1000 : Int32))]) (rest := []) cx w hkn hl.1 (k_X12_isIn hG y4) (va_cwS 3 hts gX12_pass_X12_isIn rfl rfl rfl (by decide +kernel) ⟨Nat.le_of_ble_eq_true rfl, Nat.le_of_ble_eq_true rfl⟩) rfl rfl (Nat.le_of_ble_eq_true rfl) dX12_pass_10 (fun H locs w => ?_)
  refine lv_if_ne (tgt := 22) hx hb dX12_pass_13 (by decide) (fun k5 => ?_) (fun k5 => ?_)
  · have h := x_f h k5
    refine lv_aload_n hx hb dX12_pass_22 rfl (lv_at hl 0 rfl) ?_
    obtain ⟨q6, eq6, h⟩ := x_rf h
    obtain ⟨hLq6, hKq6⟩ := wt_q hG hL0 hK0 eq6
    have hKq6 : gK G q6 = 10 := hKq6
    refine r_getR (k := 13) cx w hL0 hK0 (by decide) rfl wi_X12_pass_X12 (by decide) rfl eq6 (List.mem_of_getElem? (i := 2) rfl) dX12_pass_23 ?_
    obtain ⟨M7, r8, y9, h⟩ := x_cl h
    refine r_callVi (As := []) (rest := []) cx w hkn hl.1 (k_X11_dark hG hLq6 hKq6 y9) (cwV 0 hts gX12_pass_X11_dark rfl rfl rfl (by decide +kernel) ⟨Nat.le_of_ble_eq_true rfl, Nat.le_of_ble_eq_true rfl⟩) hLq6 hKq6 (by decide) rfl rfl rfl (Nat.le_of_ble_eq_true rfl) dX12_pass_26 (fun H locs w => ?_)
    refine lv_istore_n (lv' := [(2, .int r8), (0, .ref a0), (1, .int c1)]) hx hb dX12_pass_29 rfl hl (by decide) rfl (fun ls hl => ?_)
    refine lv_aload_n hx hb dX12_pass_30 rfl (lv_at hl 1 rfl) ?_
    obtain ⟨q10, eq10, h⟩ := x_rf h
    obtain ⟨hLq10, hKq10⟩ := wt_q hG hL0 hK0 eq10
    have hKq10 : gK G q10 = 10 := hKq10
    refine r_getR (k := 13) cx w hL0 hK0 (by decide) rfl wi_X12_pass_X12 (by decide) rfl eq10 (List.mem_of_getElem? (i := 2) rfl) dX12_pass_31 ?_
    refine lv_iload_n hx hb dX12_pass_34 rfl (lv_at hl 2 rfl) ?_
    obtain ⟨M11, r12, y13, h⟩ := x_cl h
    refine r_callVr (As := [.int c1]) (rest := []) cx w hkn hl.1 (k_X11_pass_ hG hLq10 hKq10 y13) (cwV 1 hts gX12_pass_X11_pass_ rfl rfl rfl (by decide +kernel) ⟨Nat.le_of_ble_eq_true rfl, Nat.le_of_ble_eq_true rfl⟩) hLq10 hKq10 (by decide) rfl rfl rfl (Nat.le_of_ble_eq_true rfl) dX12_pass_35 (fun H locs w => ?_)
    obtain ⟨⟨hLr12, hKr12⟩, h⟩ := x_ck h
    obtain ⟨M15, r16, y17, h⟩ := x_cl h
    refine r_callVi (As := []) (rest := []) cx w hkn hl.1 (k_X11_dark hG hLr12 hKr12 y17) (cwV 0 hts gX12_pass_X11_dark rfl rfl rfl (by decide +kernel) ⟨Nat.le_of_ble_eq_true rfl, Nat.le_of_ble_eq_true rfl⟩) hLr12 hKr12 (by decide) rfl rfl rfl (Nat.le_of_ble_eq_true rfl) dX12_pass_38 (fun H locs w => ?_)
    refine lv_iload_n hx hb dX12_pass_41 rfl (lv_at hl 0 rfl) ?_
    refine lv_isub hx hb dX12_pass_42 ?_
    exact r_iret cx w h dX12_pass_43
  · have h := x_t h k5
    refine lv_aload_n hx hb dX12_pass_16 rfl (lv_at hl 0 rfl) ?_
    refine lv_iconst (v := (1 : Int32)) hx hb dX12_pass_17 (by decide) ?_
    obtain ⟨M18, r19, y20, h⟩ := x_cl h
    refine r_callVi (As := [.int ((1 : Int32))]) (rest := []) cx w hkn hl.1 (k_X12_no hG hL0 hK0 y20) (cwV 1 hts gX12_pass_X12_no rfl rfl rfl (by decide +kernel) ⟨Nat.le_of_ble_eq_true rfl, Nat.le_of_ble_eq_true rfl⟩) hL0 hK0 (by decide) rfl rfl rfl (Nat.le_of_ble_eq_true rfl) dX12_pass_18 (fun H locs w => ?_)
    exact r_iret cx w h dX12_pass_21
-- X11_become
theorem wi_X11_become_X11 : ∀ w ∈ wsX110, w ∈ wsX11_become := by decide +kernel
abbrev rmX11_become : Room := { frames := 2, cells := 0, slots := 0, locals := 82 }
def m_X11_become (G : gS) (M : mS) (a0 : Nat) (a1 : Nat) : Option (mS × Nat) := o_wI M a0 0 (mI M a1 0) (fun M1 => o_wI M1 a0 1 (mI M1 a1 1) (fun M2 => o_wI M2 a0 2 (mI M2 a1 2) (fun M3 => o_wI M3 a0 3 (mI M3 a1 3) (fun M4 => o_rf (gP G a1 4) (fun q5 => o_rf (gP G a0 4) (fun q6 => o_cl (m_X11_copy G M4 a0 q5 q6) (fun M7 r8 => o_rf (gP G a1 5) (fun q10 => o_rf (gP G a0 5) (fun q11 => o_cl (m_X11_copy G M7 a0 q10 q11) (fun M12 r13 => o_rf (gP G a1 6) (fun q15 => o_rf (gP G a0 6) (fun q16 => o_cl (m_X11_copy G M12 a0 q15 q16) (fun M17 r18 => o_rf (gP G a1 7) (fun q20 => o_rf (gP G a0 7) (fun q21 => o_cl (m_X11_copy G M17 a0 q20 q21) (fun M22 r23 => o_rf (gP G a1 8) (fun q25 => o_rf (gP G a0 8) (fun q26 => o_cl (m_X11_copy G M22 a0 q25 q26) (fun M27 r28 => o_rf (gP G a1 9) (fun q30 => o_rf (gP G a0 9) (fun q31 => o_cl (m_X11_copy G M27 a0 q30 q31) (fun M32 r33 => o_rf (gP G a1 10) (fun q35 => o_rf (gP G a0 10) (fun q36 => o_cl (m_X11_copy G M32 a0 q35 q36) (fun M37 r38 => o_rf (gP G a1 11) (fun q40 => o_rf (gP G a0 11) (fun q41 => o_cl (m_X11_copy G M37 a0 q40 q41) (fun M42 r43 => o_rf (gP G a1 12) (fun q45 => o_rf (gP G a0 12) (fun q46 => o_cl (m_X11_copy G M42 a0 q45 q46) (fun M47 r48 => o_rf (gP G a1 13) (fun q50 => o_rf (gP G a0 13) (fun q51 => o_cl (m_X11_copy G M47 a0 q50 q51) (fun M52 r53 => some (M52, a0)))))))))))))))))))))))))))))))))))
set_option maxHeartbeats 4000000 in
set_option maxRecDepth 100000 in
theorem k_X11_become {l : Launch} {D : va_G} {cy : cyS} {G : gS} {M M' : mS} {r : Nat} {a0 : Nat} {a1 : Nat} (hG : wt G) (hL0 : a0 ∈ gL G) (hK0 : gK G a0 = 10) (hL1 : a1 ∈ gL G) (hK1 : gK G a1 = 10) (h : m_X11_become G M a0 a1 = some (M', r)) : ctR l yX11_become wsX11_become rmX11_become D cy G M [.ref a0, .ref a1] M' r := by
  unfold m_X11_become at h
  refine ctR_of (cc := cX11_become) (nL := 2) (ret := (some (.object "FlagAntsModel$State"))) (lv := [(0, .ref a0), (1, .ref a1)]) hG (by decide) rfl ⟨rfl, rfl⟩ (Nat.le_of_ble_eq_true rfl) rfl ?_
  intro p e s m args below meth c A ls cx w hl
  obtain ⟨hx, hb, hml, hown, hts, hr, hlocks, hK, hA, -, hsx⟩ := id cx
  have hkn : 0 ≤ (rmX11_become).cells ∧ 0 ≤ (rmX11_become).slots := ⟨Nat.zero_le _, Nat.zero_le _⟩
  refine lv_aload_n hx hb dX11_become_0 rfl (lv_at hl 0 rfl) ?_
  refine lv_aload_n hx hb dX11_become_1 rfl (lv_at hl 1 rfl) ?_
  refine r_getI (k := 0) (v := .int (mI M a1 0)) cx w hL1 hK1 (by decide) rfl wi_X11_become_X11 (by decide) rfl (List.mem_of_getElem? (i := 1) rfl) dX11_become_2 ?_
  obtain ⟨M1, eM1, h⟩ := x_wI h
  refine r_putI (k := 0) (ty := .int) cx w tyX11 tyX11_ok nmX11 hL0 hK0 (by decide) rfl wi_X11_become_X11 (by decide) rfl rfl rfl rfl st_10_0 (ln_10 _ _ (by decide)) (List.mem_of_getElem? (i := 1) rfl) dX11_become_5 eM1 (fun H locs w => ?_)
  refine lv_aload_n hx hb dX11_become_8 rfl (lv_at hl 0 rfl) ?_
  refine lv_aload_n hx hb dX11_become_9 rfl (lv_at hl 1 rfl) ?_
  refine r_getI (k := 1) (v := .int (mI M1 a1 1)) cx w hL1 hK1 (by decide) rfl wi_X11_become_X11 (by decide) rfl (List.mem_of_getElem? (i := 2) rfl) dX11_become_10 ?_
  obtain ⟨M2, eM2, h⟩ := x_wI h
  refine r_putI (k := 1) (ty := .int) cx w tyX11 tyX11_ok nmX11 hL0 hK0 (by decide) rfl wi_X11_become_X11 (by decide) rfl rfl rfl rfl st_10_1 (ln_10 _ _ (by decide)) (List.mem_of_getElem? (i := 2) rfl) dX11_become_13 eM2 (fun H locs w => ?_)
  refine lv_aload_n hx hb dX11_become_16 rfl (lv_at hl 0 rfl) ?_
  refine lv_aload_n hx hb dX11_become_17 rfl (lv_at hl 1 rfl) ?_
  refine r_getI (k := 2) (v := .int (mI M2 a1 2)) cx w hL1 hK1 (by decide) rfl wi_X11_become_X11 (by decide) rfl (List.mem_of_getElem? (i := 3) rfl) dX11_become_18 ?_
  obtain ⟨M3, eM3, h⟩ := x_wI h
  refine r_putI (k := 2) (ty := .int) cx w tyX11 tyX11_ok nmX11 hL0 hK0 (by decide) rfl wi_X11_become_X11 (by decide) rfl rfl rfl rfl st_10_2 (ln_10 _ _ (by decide)) (List.mem_of_getElem? (i := 3) rfl) dX11_become_21 eM3 (fun H locs w => ?_)
  refine lv_aload_n hx hb dX11_become_24 rfl (lv_at hl 0 rfl) ?_
  refine lv_aload_n hx hb dX11_become_25 rfl (lv_at hl 1 rfl) ?_
  refine r_getI (k := 3) (v := .int (mI M3 a1 3)) cx w hL1 hK1 (by decide) rfl wi_X11_become_X11 (by decide) rfl (List.mem_of_getElem? (i := 4) rfl) dX11_become_26 ?_
  obtain ⟨M4, eM4, h⟩ := x_wI h
  refine r_putI (k := 3) (ty := .int) cx w tyX11 tyX11_ok nmX11 hL0 hK0 (by decide) rfl wi_X11_become_X11 (by decide) rfl rfl rfl rfl st_10_3 (ln_10 _ _ (by decide)) (List.mem_of_getElem? (i := 4) rfl) dX11_become_29 eM4 (fun H locs w => ?_)
  refine lv_aload_n hx hb dX11_become_32 rfl (lv_at hl 0 rfl) ?_
  refine lv_aload_n hx hb dX11_become_33 rfl (lv_at hl 1 rfl) ?_
  obtain ⟨q5, eq5, h⟩ := x_rf h
  obtain ⟨hLq5, hKq5⟩ := wt_q hG hL1 hK1 eq5
  have hKq5 : gK G q5 = 12 := hKq5
  refine r_getR (k := 4) cx w hL1 hK1 (by decide) rfl wi_X11_become_X11 (by decide) rfl eq5 (List.mem_of_getElem? (i := 5) rfl) dX11_become_34 ?_
  refine lv_aload_n hx hb dX11_become_37 rfl (lv_at hl 0 rfl) ?_
  obtain ⟨q6, eq6, h⟩ := x_rf h
  obtain ⟨hLq6, hKq6⟩ := wt_q hG hL0 hK0 eq6
  have hKq6 : gK G q6 = 12 := hKq6
  refine r_getR (k := 4) cx w hL0 hK0 (by decide) rfl wi_X11_become_X11 (by decide) rfl eq6 (List.mem_of_getElem? (i := 5) rfl) dX11_become_38 ?_
  obtain ⟨M7, r8, y9, h⟩ := x_cl h
  refine r_callVv (As := [.ref q5, .ref q6]) (rest := []) cx w hkn hl.1 (k_X11_copy hG hL0 hK0 hLq5 hKq5 hLq6 hKq6 y9) (cwV 2 hts gX11_become_X11_copy rfl rfl rfl (by decide +kernel) ⟨Nat.le_of_ble_eq_true rfl, Nat.le_of_ble_eq_true rfl⟩) hL0 hK0 (by decide) rfl rfl rfl (Nat.le_of_ble_eq_true rfl) dX11_become_41 (fun H locs w => ?_)
  refine lv_aload_n hx hb dX11_become_44 rfl (lv_at hl 0 rfl) ?_
  refine lv_aload_n hx hb dX11_become_45 rfl (lv_at hl 1 rfl) ?_
  obtain ⟨q10, eq10, h⟩ := x_rf h
  obtain ⟨hLq10, hKq10⟩ := wt_q hG hL1 hK1 eq10
  have hKq10 : gK G q10 = 12 := hKq10
  refine r_getR (k := 5) cx w hL1 hK1 (by decide) rfl wi_X11_become_X11 (by decide) rfl eq10 (List.mem_of_getElem? (i := 6) rfl) dX11_become_46 ?_
  refine lv_aload_n hx hb dX11_become_49 rfl (lv_at hl 0 rfl) ?_
  obtain ⟨q11, eq11, h⟩ := x_rf h
  obtain ⟨hLq11, hKq11⟩ := wt_q hG hL0 hK0 eq11
  have hKq11 : gK G q11 = 12 := hKq11
  refine r_getR (k := 5) cx w hL0 hK0 (by decide) rfl wi_X11_become_X11 (by decide) rfl eq11 (List.mem_of_getElem? (i := 6) rfl) dX11_become_50 ?_
  obtain ⟨M12, r13, y14, h⟩ := x_cl h
  refine r_callVv (As := [.ref q10, .ref q11]) (rest := []) cx w hkn hl.1 (k_X11_copy hG hL0 hK0 hLq10 hKq10 hLq11 hKq11 y14) (cwV 2 hts gX11_become_X11_copy rfl rfl rfl (by decide +kernel) ⟨Nat.le_of_ble_eq_true rfl, Nat.le_of_ble_eq_true rfl⟩) hL0 hK0 (by decide) rfl rfl rfl (Nat.le_of_ble_eq_true rfl) dX11_become_53 (fun H locs w => ?_)
  refine lv_aload_n hx hb dX11_become_56 rfl (lv_at hl 0 rfl) ?_
  refine lv_aload_n hx hb dX11_become_57 rfl (lv_at hl 1 rfl) ?_
  obtain ⟨q15, eq15, h⟩ := x_rf h
  obtain ⟨hLq15, hKq15⟩ := wt_q hG hL1 hK1 eq15
  have hKq15 : gK G q15 = 12 := hKq15
  refine r_getR (k := 6) cx w hL1 hK1 (by decide) rfl wi_X11_become_X11 (by decide) rfl eq15 (List.mem_of_getElem? (i := 7) rfl) dX11_become_58 ?_
  refine lv_aload_n hx hb dX11_become_61 rfl (lv_at hl 0 rfl) ?_
  obtain ⟨q16, eq16, h⟩ := x_rf h
  obtain ⟨hLq16, hKq16⟩ := wt_q hG hL0 hK0 eq16
  have hKq16 : gK G q16 = 12 := hKq16
  refine r_getR (k := 6) cx w hL0 hK0 (by decide) rfl wi_X11_become_X11 (by decide) rfl eq16 (List.mem_of_getElem? (i := 7) rfl) dX11_become_62 ?_
  obtain ⟨M17, r18, y19, h⟩ := x_cl h
  refine r_callVv (As := [.ref q15, .ref q16]) (rest := []) cx w hkn hl.1 (k_X11_copy hG hL0 hK0 hLq15 hKq15 hLq16 hKq16 y19) (cwV 2 hts gX11_become_X11_copy rfl rfl rfl (by decide +kernel) ⟨Nat.le_of_ble_eq_true rfl, Nat.le_of_ble_eq_true rfl⟩) hL0 hK0 (by decide) rfl rfl rfl (Nat.le_of_ble_eq_true rfl) dX11_become_65 (fun H locs w => ?_)
  refine lv_aload_n hx hb dX11_become_68 rfl (lv_at hl 0 rfl) ?_
  refine lv_aload_n hx hb dX11_become_69 rfl (lv_at hl 1 rfl) ?_
  obtain ⟨q20, eq20, h⟩ := x_rf h
  obtain ⟨hLq20, hKq20⟩ := wt_q hG hL1 hK1 eq20
  have hKq20 : gK G q20 = 12 := hKq20
  refine r_getR (k := 7) cx w hL1 hK1 (by decide) rfl wi_X11_become_X11 (by decide) rfl eq20 (List.mem_of_getElem? (i := 8) rfl) dX11_become_70 ?_
  refine lv_aload_n hx hb dX11_become_73 rfl (lv_at hl 0 rfl) ?_
  obtain ⟨q21, eq21, h⟩ := x_rf h
  obtain ⟨hLq21, hKq21⟩ := wt_q hG hL0 hK0 eq21
  have hKq21 : gK G q21 = 12 := hKq21
  refine r_getR (k := 7) cx w hL0 hK0 (by decide) rfl wi_X11_become_X11 (by decide) rfl eq21 (List.mem_of_getElem? (i := 8) rfl) dX11_become_74 ?_
  obtain ⟨M22, r23, y24, h⟩ := x_cl h
  refine r_callVv (As := [.ref q20, .ref q21]) (rest := []) cx w hkn hl.1 (k_X11_copy hG hL0 hK0 hLq20 hKq20 hLq21 hKq21 y24) (cwV 2 hts gX11_become_X11_copy rfl rfl rfl (by decide +kernel) ⟨Nat.le_of_ble_eq_true rfl, Nat.le_of_ble_eq_true rfl⟩) hL0 hK0 (by decide) rfl rfl rfl (Nat.le_of_ble_eq_true rfl) dX11_become_77 (fun H locs w => ?_)
  refine lv_aload_n hx hb dX11_become_80 rfl (lv_at hl 0 rfl) ?_
  refine lv_aload_n hx hb dX11_become_81 rfl (lv_at hl 1 rfl) ?_
  obtain ⟨q25, eq25, h⟩ := x_rf h
  obtain ⟨hLq25, hKq25⟩ := wt_q hG hL1 hK1 eq25
  have hKq25 : gK G q25 = 12 := hKq25
  refine r_getR (k := 8) cx w hL1 hK1 (by decide) rfl wi_X11_become_X11 (by decide) rfl eq25 (List.mem_of_getElem? (i := 9) rfl) dX11_become_82 ?_
  refine lv_aload_n hx hb dX11_become_85 rfl (lv_at hl 0 rfl) ?_
  obtain ⟨q26, eq26, h⟩ := x_rf h
  obtain ⟨hLq26, hKq26⟩ := wt_q hG hL0 hK0 eq26
  have hKq26 : gK G q26 = 12 := hKq26
  refine r_getR (k := 8) cx w hL0 hK0 (by decide) rfl wi_X11_become_X11 (by decide) rfl eq26 (List.mem_of_getElem? (i := 9) rfl) dX11_become_86 ?_
  obtain ⟨M27, r28, y29, h⟩ := x_cl h
  refine r_callVv (As := [.ref q25, .ref q26]) (rest := []) cx w hkn hl.1 (k_X11_copy hG hL0 hK0 hLq25 hKq25 hLq26 hKq26 y29) (cwV 2 hts gX11_become_X11_copy rfl rfl rfl (by decide +kernel) ⟨Nat.le_of_ble_eq_true rfl, Nat.le_of_ble_eq_true rfl⟩) hL0 hK0 (by decide) rfl rfl rfl (Nat.le_of_ble_eq_true rfl) dX11_become_89 (fun H locs w => ?_)
  refine lv_aload_n hx hb dX11_become_92 rfl (lv_at hl 0 rfl) ?_
  refine lv_aload_n hx hb dX11_become_93 rfl (lv_at hl 1 rfl) ?_
  obtain ⟨q30, eq30, h⟩ := x_rf h
  obtain ⟨hLq30, hKq30⟩ := wt_q hG hL1 hK1 eq30
  have hKq30 : gK G q30 = 12 := hKq30
  refine r_getR (k := 9) cx w hL1 hK1 (by decide) rfl wi_X11_become_X11 (by decide) rfl eq30 (List.mem_of_getElem? (i := 10) rfl) dX11_become_94 ?_
  refine lv_aload_n hx hb dX11_become_97 rfl (lv_at hl 0 rfl) ?_
  obtain ⟨q31, eq31, h⟩ := x_rf h
  obtain ⟨hLq31, hKq31⟩ := wt_q hG hL0 hK0 eq31
  have hKq31 : gK G q31 = 12 := hKq31
  refine r_getR (k := 9) cx w hL0 hK0 (by decide) rfl wi_X11_become_X11 (by decide) rfl eq31 (List.mem_of_getElem? (i := 10) rfl) dX11_become_98 ?_
  obtain ⟨M32, r33, y34, h⟩ := x_cl h
  refine r_callVv (As := [.ref q30, .ref q31]) (rest := []) cx w hkn hl.1 (k_X11_copy hG hL0 hK0 hLq30 hKq30 hLq31 hKq31 y34) (cwV 2 hts gX11_become_X11_copy rfl rfl rfl (by decide +kernel) ⟨Nat.le_of_ble_eq_true rfl, Nat.le_of_ble_eq_true rfl⟩) hL0 hK0 (by decide) rfl rfl rfl (Nat.le_of_ble_eq_true rfl) dX11_become_101 (fun H locs w => ?_)
  refine lv_aload_n hx hb dX11_become_104 rfl (lv_at hl 0 rfl) ?_
  refine lv_aload_n hx hb dX11_become_105 rfl (lv_at hl 1 rfl) ?_
  obtain ⟨q35, eq35, h⟩ := x_rf h
  obtain ⟨hLq35, hKq35⟩ := wt_q hG hL1 hK1 eq35
  have hKq35 : gK G q35 = 12 := hKq35
  refine r_getR (k := 10) cx w hL1 hK1 (by decide) rfl wi_X11_become_X11 (by decide) rfl eq35 (List.mem_of_getElem? (i := 11) rfl) dX11_become_106 ?_
  refine lv_aload_n hx hb dX11_become_109 rfl (lv_at hl 0 rfl) ?_
  obtain ⟨q36, eq36, h⟩ := x_rf h
  obtain ⟨hLq36, hKq36⟩ := wt_q hG hL0 hK0 eq36
  have hKq36 : gK G q36 = 12 := hKq36
  refine r_getR (k := 10) cx w hL0 hK0 (by decide) rfl wi_X11_become_X11 (by decide) rfl eq36 (List.mem_of_getElem? (i := 11) rfl) dX11_become_110 ?_
  obtain ⟨M37, r38, y39, h⟩ := x_cl h
  refine r_callVv (As := [.ref q35, .ref q36]) (rest := []) cx w hkn hl.1 (k_X11_copy hG hL0 hK0 hLq35 hKq35 hLq36 hKq36 y39) (cwV 2 hts gX11_become_X11_copy rfl rfl rfl (by decide +kernel) ⟨Nat.le_of_ble_eq_true rfl, Nat.le_of_ble_eq_true rfl⟩) hL0 hK0 (by decide) rfl rfl rfl (Nat.le_of_ble_eq_true rfl) dX11_become_113 (fun H locs w => ?_)
  refine lv_aload_n hx hb dX11_become_116 rfl (lv_at hl 0 rfl) ?_
  refine lv_aload_n hx hb dX11_become_117 rfl (lv_at hl 1 rfl) ?_
  obtain ⟨q40, eq40, h⟩ := x_rf h
  obtain ⟨hLq40, hKq40⟩ := wt_q hG hL1 hK1 eq40
  have hKq40 : gK G q40 = 12 := hKq40
  refine r_getR (k := 11) cx w hL1 hK1 (by decide) rfl wi_X11_become_X11 (by decide) rfl eq40 (List.mem_of_getElem? (i := 12) rfl) dX11_become_118 ?_
  refine lv_aload_n hx hb dX11_become_121 rfl (lv_at hl 0 rfl) ?_
  obtain ⟨q41, eq41, h⟩ := x_rf h
  obtain ⟨hLq41, hKq41⟩ := wt_q hG hL0 hK0 eq41
  have hKq41 : gK G q41 = 12 := hKq41
  refine r_getR (k := 11) cx w hL0 hK0 (by decide) rfl wi_X11_become_X11 (by decide) rfl eq41 (List.mem_of_getElem? (i := 12) rfl) dX11_become_122 ?_
  obtain ⟨M42, r43, y44, h⟩ := x_cl h
  refine r_callVv (As := [.ref q40, .ref q41]) (rest := []) cx w hkn hl.1 (k_X11_copy hG hL0 hK0 hLq40 hKq40 hLq41 hKq41 y44) (cwV 2 hts gX11_become_X11_copy rfl rfl rfl (by decide +kernel) ⟨Nat.le_of_ble_eq_true rfl, Nat.le_of_ble_eq_true rfl⟩) hL0 hK0 (by decide) rfl rfl rfl (Nat.le_of_ble_eq_true rfl) dX11_become_125 (fun H locs w => ?_)
  refine lv_aload_n hx hb dX11_become_128 rfl (lv_at hl 0 rfl) ?_
  refine lv_aload_n hx hb dX11_become_129 rfl (lv_at hl 1 rfl) ?_
  obtain ⟨q45, eq45, h⟩ := x_rf h
  obtain ⟨hLq45, hKq45⟩ := wt_q hG hL1 hK1 eq45
  have hKq45 : gK G q45 = 12 := hKq45
  refine r_getR (k := 12) cx w hL1 hK1 (by decide) rfl wi_X11_become_X11 (by decide) rfl eq45 (List.mem_of_getElem? (i := 13) rfl) dX11_become_130 ?_
  refine lv_aload_n hx hb dX11_become_133 rfl (lv_at hl 0 rfl) ?_
  obtain ⟨q46, eq46, h⟩ := x_rf h
  obtain ⟨hLq46, hKq46⟩ := wt_q hG hL0 hK0 eq46
  have hKq46 : gK G q46 = 12 := hKq46
  refine r_getR (k := 12) cx w hL0 hK0 (by decide) rfl wi_X11_become_X11 (by decide) rfl eq46 (List.mem_of_getElem? (i := 13) rfl) dX11_become_134 ?_
  obtain ⟨M47, r48, y49, h⟩ := x_cl h
  refine r_callVv (As := [.ref q45, .ref q46]) (rest := []) cx w hkn hl.1 (k_X11_copy hG hL0 hK0 hLq45 hKq45 hLq46 hKq46 y49) (cwV 2 hts gX11_become_X11_copy rfl rfl rfl (by decide +kernel) ⟨Nat.le_of_ble_eq_true rfl, Nat.le_of_ble_eq_true rfl⟩) hL0 hK0 (by decide) rfl rfl rfl (Nat.le_of_ble_eq_true rfl) dX11_become_137 (fun H locs w => ?_)
  refine lv_aload_n hx hb dX11_become_140 rfl (lv_at hl 0 rfl) ?_
  refine lv_aload_n hx hb dX11_become_141 rfl (lv_at hl 1 rfl) ?_
  obtain ⟨q50, eq50, h⟩ := x_rf h
  obtain ⟨hLq50, hKq50⟩ := wt_q hG hL1 hK1 eq50
  have hKq50 : gK G q50 = 12 := hKq50
  refine r_getR (k := 13) cx w hL1 hK1 (by decide) rfl wi_X11_become_X11 (by decide) rfl eq50 (List.mem_of_getElem? (i := 14) rfl) dX11_become_142 ?_
  refine lv_aload_n hx hb dX11_become_145 rfl (lv_at hl 0 rfl) ?_
  obtain ⟨q51, eq51, h⟩ := x_rf h
  obtain ⟨hLq51, hKq51⟩ := wt_q hG hL0 hK0 eq51
  have hKq51 : gK G q51 = 12 := hKq51
  refine r_getR (k := 13) cx w hL0 hK0 (by decide) rfl wi_X11_become_X11 (by decide) rfl eq51 (List.mem_of_getElem? (i := 14) rfl) dX11_become_146 ?_
  obtain ⟨M52, r53, y54, h⟩ := x_cl h
  refine r_callVv (As := [.ref q50, .ref q51]) (rest := []) cx w hkn hl.1 (k_X11_copy hG hL0 hK0 hLq50 hKq50 hLq51 hKq51 y54) (cwV 2 hts gX11_become_X11_copy rfl rfl rfl (by decide +kernel) ⟨Nat.le_of_ble_eq_true rfl, Nat.le_of_ble_eq_true rfl⟩) hL0 hK0 (by decide) rfl rfl rfl (Nat.le_of_ble_eq_true rfl) dX11_become_149 (fun H locs w => ?_)
  refine lv_aload_n hx hb dX11_become_152 rfl (lv_at hl 0 rfl) ?_
  exact r_aret cx w h dX11_become_153
-- X12_foresee
theorem wi_X12_foresee_X12 : ∀ w ∈ wsX120, w ∈ wsX12_foresee := by decide +kernel
abbrev rmX12_foresee : Room := { frames := 6, cells := 0, slots := 0, locals := 151 }
def m_X12_foresee (G : gS) (M : mS) (a0 : Nat) (c1 : Int32) (c2 : Int32) : Option (mS × Int32) := o_wI M a0 0 (0 : Int32) (fun M1 => o_cl (m_X12_isIn G M1 c1 (1 : Int32) (1000 : Int32)) (fun M2 r3 => (if r3 = 0 then o_cl (m_X12_no G M2 a0 (1 : Int32)) (fun M26 r27 => some (M26, r27)) else o_cl (m_X12_isIn G M2 c2 (4 : Int32) (9 : Int32)) (fun M6 r7 => (if r7 = 0 then o_cl (m_X12_no G M6 a0 (2 : Int32)) (fun M10 r11 => some (M10, r11)) else o_rf (gP G a0 14) (fun q13 => o_rf (gP G a0 13) (fun q14 => o_cl (m_X11_become G M6 q13 q14) (fun M15 r16 => o_ck (r16 ∈ gL G ∧ gK G r16 = 10) (o_cl (m_X11_pass_ G M15 r16 c1) (fun M19 r20 => o_ck (r20 ∈ gL G ∧ gK G r20 = 10) (o_cl (m_X11_counted G M19 r20 c2) (fun M23 r24 => some (M23, r24)))))))))))))
set_option maxHeartbeats 4000000 in
set_option maxRecDepth 100000 in
theorem k_X12_foresee {l : Launch} {D : va_G} {cy : cyS} {G : gS} {M M' : mS} {r : Int32} {a0 : Nat} {c1 : Int32} {c2 : Int32} (hG : wt G) (hL0 : a0 ∈ gL G) (hK0 : gK G a0 = 11) (h : m_X12_foresee G M a0 c1 c2 = some (M', r)) : ctI l yX12_foresee wsX12_foresee rmX12_foresee D cy G M [.ref a0, .int c1, .int c2] M' r := by
  unfold m_X12_foresee at h
  refine ctI_of (cc := cX12_foresee) (nL := 3) (ret := (some .int)) (lv := [(0, .ref a0), (1, .int c1), (2, .int c2)]) hG (by decide) rfl ⟨rfl, rfl⟩ (Nat.le_of_ble_eq_true rfl) rfl ?_
  intro p e s m args below meth c A ls cx w hl
  obtain ⟨hx, hb, hml, hown, hts, hr, hlocks, hK, hA, -, hsx⟩ := id cx
  have hkn : 0 ≤ (rmX12_foresee).cells ∧ 0 ≤ (rmX12_foresee).slots := ⟨Nat.zero_le _, Nat.zero_le _⟩
  refine lv_aload_n hx hb dX12_foresee_0 rfl (lv_at hl 0 rfl) ?_
  refine lv_iconst (v := (0 : Int32)) hx hb dX12_foresee_1 (by decide) ?_
  obtain ⟨M1, eM1, h⟩ := x_wI h
  refine r_putI (k := 0) (ty := .int) cx w tyX12 tyX12_ok nmX12 hL0 hK0 (by decide) rfl wi_X12_foresee_X12 (by decide) rfl rfl rfl rfl st_11_0 (ln_11 _ _ (by decide)) (List.mem_of_getElem? (i := 1) rfl) dX12_foresee_2 eM1 (fun H locs w => ?_)
  refine lv_iload_n hx hb dX12_foresee_5 rfl (lv_at hl 1 rfl) ?_
  refine lv_iconst (v := (1 : Int32)) hx hb dX12_foresee_6 (by decide) ?_
  refine lv_sipush (v := (1000 : Int32)) hx hb dX12_foresee_7 (by decide) ?_
  obtain ⟨M2, r3, y4, h⟩ := x_cl h
  refine r_callSi (As := [.int c1, .int ((1 : Int32)), .int ((1000 : Int32))]) (rest := []) cx w hkn hl.1 (k_X12_isIn hG y4) (va_cwS 3 hts gX12_foresee_X12_isIn rfl rfl rfl (by decide +kernel) ⟨Nat.le_of_ble_eq_true rfl, Nat.le_of_ble_eq_true rfl⟩) rfl rfl (Nat.le_of_ble_eq_true rfl) dX12_foresee_10 (fun H locs w => ?_)
  refine lv_if_ne (tgt := 22) hx hb dX12_foresee_13 (by decide) (fun k5 => ?_) (fun k5 => ?_)
  · have h := x_f h k5
    refine lv_iload_n hx hb dX12_foresee_22 rfl (lv_at hl 2 rfl) ?_
    refine lv_iconst (v := (4 : Int32)) hx hb dX12_foresee_23 (by decide) ?_
    refine lv_bipush (v := (9 : Int32)) hx hb dX12_foresee_24 (by decide) ?_
    obtain ⟨M6, r7, y8, h⟩ := x_cl h
    refine r_callSi (As := [.int c2, .int ((4 : Int32)), .int ((9 : Int32))]) (rest := []) cx w hkn hl.1 (k_X12_isIn hG y8) (va_cwS 3 hts gX12_foresee_X12_isIn rfl rfl rfl (by decide +kernel) ⟨Nat.le_of_ble_eq_true rfl, Nat.le_of_ble_eq_true rfl⟩) rfl rfl (Nat.le_of_ble_eq_true rfl) dX12_foresee_26 (fun H locs w => ?_)
    refine lv_if_eq (tgt := 54) hx hb dX12_foresee_29 (by decide) (fun k9 => ?_) (fun k9 => ?_)
    · have h := x_t h k9
      refine lv_aload_n hx hb dX12_foresee_54 rfl (lv_at hl 0 rfl) ?_
      refine lv_iconst (v := (2 : Int32)) hx hb dX12_foresee_55 (by decide) ?_
      obtain ⟨M10, r11, y12, h⟩ := x_cl h
      refine r_callVi (As := [.int ((2 : Int32))]) (rest := []) cx w hkn hl.1 (k_X12_no hG hL0 hK0 y12) (cwV 1 hts gX12_foresee_X12_no rfl rfl rfl (by decide +kernel) ⟨Nat.le_of_ble_eq_true rfl, Nat.le_of_ble_eq_true rfl⟩) hL0 hK0 (by decide) rfl rfl rfl (Nat.le_of_ble_eq_true rfl) dX12_foresee_56 (fun H locs w => ?_)
      exact r_iret cx w h dX12_foresee_59
    · have h := x_f h k9
      refine lv_aload_n hx hb dX12_foresee_32 rfl (lv_at hl 0 rfl) ?_
      obtain ⟨q13, eq13, h⟩ := x_rf h
      obtain ⟨hLq13, hKq13⟩ := wt_q hG hL0 hK0 eq13
      have hKq13 : gK G q13 = 10 := hKq13
      refine r_getR (k := 14) cx w hL0 hK0 (by decide) rfl wi_X12_foresee_X12 (by decide) rfl eq13 (List.mem_of_getElem? (i := 2) rfl) dX12_foresee_33 ?_
      refine lv_aload_n hx hb dX12_foresee_36 rfl (lv_at hl 0 rfl) ?_
      obtain ⟨q14, eq14, h⟩ := x_rf h
      obtain ⟨hLq14, hKq14⟩ := wt_q hG hL0 hK0 eq14
      have hKq14 : gK G q14 = 10 := hKq14
      refine r_getR (k := 13) cx w hL0 hK0 (by decide) rfl wi_X12_foresee_X12 (by decide) rfl eq14 (List.mem_of_getElem? (i := 3) rfl) dX12_foresee_37 ?_
      obtain ⟨M15, r16, y17, h⟩ := x_cl h
      refine r_callVr (As := [.ref q14]) (rest := []) cx w hkn hl.1 (k_X11_become hG hLq13 hKq13 hLq14 hKq14 y17) (cwV 1 hts gX12_foresee_X11_become rfl rfl rfl (by decide +kernel) ⟨Nat.le_of_ble_eq_true rfl, Nat.le_of_ble_eq_true rfl⟩) hLq13 hKq13 (by decide) rfl rfl rfl (Nat.le_of_ble_eq_true rfl) dX12_foresee_40 (fun H locs w => ?_)
      obtain ⟨⟨hLr16, hKr16⟩, h⟩ := x_ck h
      refine lv_iload_n hx hb dX12_foresee_43 rfl (lv_at hl 1 rfl) ?_
      obtain ⟨M19, r20, y21, h⟩ := x_cl h
      refine r_callVr (As := [.int c1]) (rest := []) cx w hkn hl.1 (k_X11_pass_ hG hLr16 hKr16 y21) (cwV 1 hts gX12_foresee_X11_pass_ rfl rfl rfl (by decide +kernel) ⟨Nat.le_of_ble_eq_true rfl, Nat.le_of_ble_eq_true rfl⟩) hLr16 hKr16 (by decide) rfl rfl rfl (Nat.le_of_ble_eq_true rfl) dX12_foresee_44 (fun H locs w => ?_)
      obtain ⟨⟨hLr20, hKr20⟩, h⟩ := x_ck h
      refine lv_iload_n hx hb dX12_foresee_47 rfl (lv_at hl 2 rfl) ?_
      obtain ⟨M23, r24, y25, h⟩ := x_cl h
      refine r_callVi (As := [.int c2]) (rest := []) cx w hkn hl.1 (k_X11_counted hG hLr20 hKr20 y25) (cwV 1 hts gX12_foresee_X11_counted rfl rfl rfl (by decide +kernel) ⟨Nat.le_of_ble_eq_true rfl, Nat.le_of_ble_eq_true rfl⟩) hLr20 hKr20 (by decide) rfl rfl rfl (Nat.le_of_ble_eq_true rfl) dX12_foresee_48 (fun H locs w => ?_)
      refine lv_goto (tgt := 59) hx hb dX12_foresee_51 (by decide) ?_
      exact r_iret cx w h dX12_foresee_59
  · have h := x_t h k5
    refine lv_aload_n hx hb dX12_foresee_16 rfl (lv_at hl 0 rfl) ?_
    refine lv_iconst (v := (1 : Int32)) hx hb dX12_foresee_17 (by decide) ?_
    obtain ⟨M26, r27, y28, h⟩ := x_cl h
    refine r_callVi (As := [.int ((1 : Int32))]) (rest := []) cx w hkn hl.1 (k_X12_no hG hL0 hK0 y28) (cwV 1 hts gX12_foresee_X12_no rfl rfl rfl (by decide +kernel) ⟨Nat.le_of_ble_eq_true rfl, Nat.le_of_ble_eq_true rfl⟩) hL0 hK0 (by decide) rfl rfl rfl (Nat.le_of_ble_eq_true rfl) dX12_foresee_18 (fun H locs w => ?_)
    exact r_iret cx w h dX12_foresee_21
-- X12_until
theorem wi_X12_until_X11 : ∀ w ∈ wsX110, w ∈ wsX12_until := by decide +kernel
theorem wi_X12_until_X12 : ∀ w ∈ wsX120, w ∈ wsX12_until := by decide +kernel
abbrev rmX12_until : Room := { frames := 5, cells := 0, slots := 0, locals := 129 }
def m_X12_until_21 (G : gS) (a0 : Nat) (c1 : Int32) (c2 : Int32) (c3 : Int32)  (M : mS)  : Option (mS × Int32) := o_cl (m_X12_no G M a0 (1 : Int32)) (fun M1 r2 => some (M1, r2))
def m_X12_until_79 (G : gS) (a0 : Nat) (c1 : Int32) (c2 : Int32) (c3 : Int32) (kb42 : mS → Int32 → Option (mS × Int32)) (M : mS) (v4 : Int32) : Option (mS × Int32) := o_rf (gP G a0 14) (fun q1 => o_cl (m_X11_pass G M q1) (fun M2 r3 => o_bd (v4 + 1 : Int32) (fun x5 => kb42 M2 x5)))
def m_X12_until_42 (G : gS) (a0 : Nat) (c1 : Int32) (c2 : Int32) (c3 : Int32)  : Nat → mS → Int32 → Option (mS × Int32)
  | 0, _, _ => none
  | n + 1, M, v4 => (if (2000 : Int32) < v4 then some (M, (-1 : Int32)) else o_rf (gP G a0 14) (fun q2 => o_rf (gP G q2 6) (fun q3 => o_ix c1 (gN G q3) ((if (mI M q3 (Int32.toNatClampNeg c1)) = c2 then o_rf (gP G a0 14) (fun q6 => o_rf (gP G q6 7) (fun q7 => o_ix c1 (gN G q7) ((if (mI M q7 (Int32.toNatClampNeg c1)) = c3 then some (M, v4) else m_X12_until_79 G a0 c1 c2 c3 (fun M v4 => m_X12_until_42 G a0 c1 c2 c3 n M v4) M v4)))) else m_X12_until_79 G a0 c1 c2 c3 (fun M v4 => m_X12_until_42 G a0 c1 c2 c3 n M v4) M v4)))))
def m_X12_until (G : gS) (M : mS) (a0 : Nat) (c1 : Int32) (c2 : Int32) (c3 : Int32) : Option (mS × Int32) := o_wI M a0 0 (0 : Int32) (fun M1 => o_cl (m_X12_isAnt G M1 a0 c1) (fun M2 r3 => (if r3 = 0 then m_X12_until_21 G a0 c1 c2 c3 M2 else o_cl (m_X12_isStone G M2 c2 c3) (fun M6 r7 => (if r7 = 0 then m_X12_until_21 G a0 c1 c2 c3 M6 else o_rf (gP G a0 14) (fun q10 => o_rf (gP G a0 13) (fun q11 => o_cl (m_X11_become G M6 q10 q11) (fun M12 r13 => o_ck (r13 ∈ gL G ∧ gK G r13 = 10) (m_X12_until_42 G a0 c1 c2 c3 fu M12 ((0 : Int32)))))))))))
set_option maxHeartbeats 4000000 in
set_option maxRecDepth 100000 in
theorem b_X12_until_21 {p : Program} {e : Env} {s : State} {m : MethodId} {args : Array Value} {below : List Frame} {meth : Method} {c : Code} {A : Nat → Prop} {l : Launch} {D : va_G} {cy : cyS} {G : gS} (cx : cX p s m args meth c cX12_until RX12 5 (some .int) wsX12_until D cy G A) {k0 n0 : Nat} (hkn : k0 ≤ (rmX12_until).cells ∧ n0 ≤ (rmX12_until).slots) {M' : mS} {r : Int32} {a0 : Nat} {c1 : Int32} {c2 : Int32} {c3 : Int32} (hL0 : a0 ∈ gL G) (hK0 : gK G a0 = 11)  : ∀ (M : mS) (H : Heap) (locs : List Loc) (ls : Array Slot), m_X12_until_21 G a0 c1 c2 c3 M = some (M', r) → wd D cy G M A s.heap H locs → lv_has ls 5 [(0, .ref a0)] → W p l e rmX12_until s m args below meth c H locs k0 n0 (MQ below (va_Qi (fun (r' : Int32) (_ : Unit) => r' = r) (fun _ t => wOut D cy G M' t) A) args s k0 n0 A) (F0 m 21 ls []) := by
  obtain ⟨hx, hb, hml, hown, hts, hr, hlocks, hK, hA, hG, hsx⟩ := id cx
  intro M H locs ls h w hl
  unfold m_X12_until_21 at h
  refine lv_aload_n hx hb dX12_until_21 rfl (lv_at hl 0 rfl) ?_
  refine lv_iconst (v := (1 : Int32)) hx hb dX12_until_22 (by decide) ?_
  obtain ⟨M1, r2, y3, h⟩ := x_cl h
  refine r_callVi (As := [.int ((1 : Int32))]) (rest := []) cx w hkn hl.1 (k_X12_no hG hL0 hK0 y3) (cwV 1 hts gX12_until_X12_no rfl rfl rfl (by decide +kernel) ⟨Nat.le_of_ble_eq_true rfl, Nat.le_of_ble_eq_true rfl⟩) hL0 hK0 (by decide) rfl rfl rfl (Nat.le_of_ble_eq_true rfl) dX12_until_23 (fun H locs w => ?_)
  exact r_iret cx w h dX12_until_26
set_option maxHeartbeats 4000000 in
set_option maxRecDepth 100000 in
theorem b_X12_until_79 {p : Program} {e : Env} {s : State} {m : MethodId} {args : Array Value} {below : List Frame} {meth : Method} {c : Code} {A : Nat → Prop} {l : Launch} {D : va_G} {cy : cyS} {G : gS} (cx : cX p s m args meth c cX12_until RX12 5 (some .int) wsX12_until D cy G A) {k0 n0 : Nat} (hkn : k0 ≤ (rmX12_until).cells ∧ n0 ≤ (rmX12_until).slots) {M' : mS} {r : Int32} {a0 : Nat} {c1 : Int32} {c2 : Int32} {c3 : Int32} (hL0 : a0 ∈ gL G) (hK0 : gK G a0 = 11) {kb42 : mS → Int32 → Option (mS × Int32)} (hkb42 : ∀ (M : mS) (v4 : Int32) (H : Heap) (locs : List Loc) (ls : Array Slot), kb42 M v4 = some (M', r) → wd D cy G M A s.heap H locs → lv_has ls 5 [(0, .ref a0), (1, .int c1), (2, .int c2), (3, .int c3), (4, .int v4)] → W p l e rmX12_until s m args below meth c H locs k0 n0 (MQ below (va_Qi (fun (r' : Int32) (_ : Unit) => r' = r) (fun _ t => wOut D cy G M' t) A) args s k0 n0 A) (F0 m 42 ls [])) : ∀ (M : mS) (v4 : Int32) (H : Heap) (locs : List Loc) (ls : Array Slot), m_X12_until_79 G a0 c1 c2 c3 kb42 M v4 = some (M', r) → wd D cy G M A s.heap H locs → lv_has ls 5 [(0, .ref a0), (1, .int c1), (2, .int c2), (3, .int c3), (4, .int v4)] → W p l e rmX12_until s m args below meth c H locs k0 n0 (MQ below (va_Qi (fun (r' : Int32) (_ : Unit) => r' = r) (fun _ t => wOut D cy G M' t) A) args s k0 n0 A) (F0 m 79 ls []) := by
  obtain ⟨hx, hb, hml, hown, hts, hr, hlocks, hK, hA, hG, hsx⟩ := id cx
  intro M v4 H locs ls h w hl
  unfold m_X12_until_79 at h
  refine lv_aload_n hx hb dX12_until_79 rfl (lv_at hl 0 rfl) ?_
  obtain ⟨q1, eq1, h⟩ := x_rf h
  obtain ⟨hLq1, hKq1⟩ := wt_q hG hL0 hK0 eq1
  have hKq1 : gK G q1 = 10 := hKq1
  refine r_getR (k := 14) cx w hL0 hK0 (by decide) rfl wi_X12_until_X12 (by decide) rfl eq1 (List.mem_of_getElem? (i := 2) rfl) dX12_until_80 ?_
  obtain ⟨M2, r3, y4, h⟩ := x_cl h
  refine r_callVv (As := []) (rest := []) cx w hkn hl.1 (k_X11_pass hG hLq1 hKq1 y4) (cwV 0 hts gX12_until_X11_pass rfl rfl rfl (by decide +kernel) ⟨Nat.le_of_ble_eq_true rfl, Nat.le_of_ble_eq_true rfl⟩) hLq1 hKq1 (by decide) rfl rfl rfl (Nat.le_of_ble_eq_true rfl) dX12_until_83 (fun H locs w => ?_)
  obtain ⟨x5, ex5, h⟩ := x_bd h
  refine lv_iinc (v := x5) (lv' := [(4, .int x5), (0, .ref a0), (1, .int c1), (2, .int c2), (3, .int c3)]) hx hb dX12_until_86 hl (k := 4) rfl (by rw [ex5]; rfl) (by decide) rfl (fun ls hl => ?_)
  refine lv_goto (tgt := 42) hx hb dX12_until_89 (by decide) ?_
  exact hkb42 M2 x5 H locs ls h w (lv_sub hl [1, 2, 3, 4, 0] rfl)
set_option maxHeartbeats 4000000 in
set_option maxRecDepth 100000 in
theorem b_X12_until_42 {p : Program} {e : Env} {s : State} {m : MethodId} {args : Array Value} {below : List Frame} {meth : Method} {c : Code} {A : Nat → Prop} {l : Launch} {D : va_G} {cy : cyS} {G : gS} (cx : cX p s m args meth c cX12_until RX12 5 (some .int) wsX12_until D cy G A) {k0 n0 : Nat} (hkn : k0 ≤ (rmX12_until).cells ∧ n0 ≤ (rmX12_until).slots) {M' : mS} {r : Int32} {a0 : Nat} {c1 : Int32} {c2 : Int32} {c3 : Int32} (hL0 : a0 ∈ gL G) (hK0 : gK G a0 = 11)  : ∀ (n : Nat), ∀ (M : mS) (v4 : Int32) (H : Heap) (locs : List Loc) (ls : Array Slot), m_X12_until_42 G a0 c1 c2 c3 n M v4 = some (M', r) → wd D cy G M A s.heap H locs → lv_has ls 5 [(0, .ref a0), (1, .int c1), (2, .int c2), (3, .int c3), (4, .int v4)] → W p l e rmX12_until s m args below meth c H locs k0 n0 (MQ below (va_Qi (fun (r' : Int32) (_ : Unit) => r' = r) (fun _ t => wOut D cy G M' t) A) args s k0 n0 A) (F0 m 42 ls []) := by
  obtain ⟨hx, hb, hml, hown, hts, hr, hlocks, hK, hA, hG, hsx⟩ := id cx
  intro n
  induction n with
  | zero =>
    intro M v4 H locs ls h w hl
    have h : none = some _ := h
    cases h
  | succ n ih =>
    intro M v4 H locs ls h w hl
    rw [m_X12_until_42] at h
    refine lv_iload hx hb dX12_until_42 (lv_at hl 4 rfl) ?_
    refine lv_sipush (v := (2000 : Int32)) hx hb dX12_until_44 (by decide) ?_
    refine lv_icmp_gt (tgt := 92) hx hb dX12_until_47 (by decide) (fun k1 => ?_) (fun k1 => ?_)
    · have h := x_t h k1
      refine lv_iconst (v := (-1 : Int32)) hx hb dX12_until_92 (by decide) ?_
      exact r_iret cx w h dX12_until_93
    · have h := x_f h k1
      refine lv_aload_n hx hb dX12_until_50 rfl (lv_at hl 0 rfl) ?_
      obtain ⟨q2, eq2, h⟩ := x_rf h
      obtain ⟨hLq2, hKq2⟩ := wt_q hG hL0 hK0 eq2
      have hKq2 : gK G q2 = 10 := hKq2
      refine r_getR (k := 14) cx w hL0 hK0 (by decide) rfl wi_X12_until_X12 (by decide) rfl eq2 (List.mem_of_getElem? (i := 2) rfl) dX12_until_51 ?_
      obtain ⟨q3, eq3, h⟩ := x_rf h
      obtain ⟨hLq3, hKq3⟩ := wt_q hG hLq2 hKq2 eq3
      have hKq3 : gK G q3 = 12 := hKq3
      refine r_getRN (k := 6) cx w hLq2 hKq2 (by decide) rfl wi_X12_until_X11 (by decide) rfl eq3 (nwF cx (q := (RX12, 328, "FlagAntsModel$State", "column", "[I", "FlagAntsModel")) (List.mem_of_getElem? (i := 25) rfl)) dX12_until_54 ?_
      refine lv_iload_n hx hb dX12_until_57 rfl (lv_at hl 1 rfl) ?_
      obtain ⟨z4, h⟩ := x_ix h
      refine r_iald cx w hLq3 hKq3 z4 dX12_until_58 ?_
      refine lv_iload_n hx hb dX12_until_59 rfl (lv_at hl 2 rfl) ?_
      refine lv_icmp_ne (tgt := 79) hx hb dX12_until_60 (by decide) (fun k5 => ?_) (fun k5 => ?_)
      · have h := x_f h k5
        exact b_X12_until_79 cx hkn hL0 hK0 (hkb42 := ih) M v4 H locs ls h w (lv_sub hl [0, 1, 2, 3, 4] rfl)
      · have h := x_t h k5
        refine lv_aload_n hx hb dX12_until_63 rfl (lv_at hl 0 rfl) ?_
        obtain ⟨q6, eq6, h⟩ := x_rf h
        obtain ⟨hLq6, hKq6⟩ := wt_q hG hL0 hK0 eq6
        have hKq6 : gK G q6 = 10 := hKq6
        refine r_getR (k := 14) cx w hL0 hK0 (by decide) rfl wi_X12_until_X12 (by decide) rfl eq6 (List.mem_of_getElem? (i := 2) rfl) dX12_until_64 ?_
        obtain ⟨q7, eq7, h⟩ := x_rf h
        obtain ⟨hLq7, hKq7⟩ := wt_q hG hLq6 hKq6 eq7
        have hKq7 : gK G q7 = 12 := hKq7
        refine r_getRN (k := 7) cx w hLq6 hKq6 (by decide) rfl wi_X12_until_X11 (by decide) rfl eq7 (nwF cx (q := (RX12, 329, "FlagAntsModel$State", "row", "[I", "FlagAntsModel")) (List.mem_of_getElem? (i := 26) rfl)) dX12_until_67 ?_
        refine lv_iload_n hx hb dX12_until_70 rfl (lv_at hl 1 rfl) ?_
        obtain ⟨z8, h⟩ := x_ix h
        refine r_iald cx w hLq7 hKq7 z8 dX12_until_71 ?_
        refine lv_iload_n hx hb dX12_until_72 rfl (lv_at hl 3 rfl) ?_
        refine lv_icmp_ne (tgt := 79) hx hb dX12_until_73 (by decide) (fun k9 => ?_) (fun k9 => ?_)
        · have h := x_f h k9
          exact b_X12_until_79 cx hkn hL0 hK0 (hkb42 := ih) M v4 H locs ls h w (lv_sub hl [0, 1, 2, 3, 4] rfl)
        · have h := x_t h k9
          refine lv_iload hx hb dX12_until_76 (lv_at hl 4 rfl) ?_
          exact r_iret cx w h dX12_until_78
set_option maxHeartbeats 4000000 in
set_option maxRecDepth 100000 in
theorem k_X12_until {l : Launch} {D : va_G} {cy : cyS} {G : gS} {M M' : mS} {r : Int32} {a0 : Nat} {c1 : Int32} {c2 : Int32} {c3 : Int32} (hG : wt G) (hL0 : a0 ∈ gL G) (hK0 : gK G a0 = 11) (h : m_X12_until G M a0 c1 c2 c3 = some (M', r)) : ctI l yX12_until wsX12_until rmX12_until D cy G M [.ref a0, .int c1, .int c2, .int c3] M' r := by
  unfold m_X12_until at h
  refine ctI_of (cc := cX12_until) (nL := 5) (ret := (some .int)) (lv := [(0, .ref a0), (1, .int c1), (2, .int c2), (3, .int c3)]) hG (by decide) rfl ⟨rfl, rfl⟩ (Nat.le_of_ble_eq_true rfl) rfl ?_
  intro p e s m args below meth c A ls cx w hl
  obtain ⟨hx, hb, hml, hown, hts, hr, hlocks, hK, hA, -, hsx⟩ := id cx
  have hkn : 0 ≤ (rmX12_until).cells ∧ 0 ≤ (rmX12_until).slots := ⟨Nat.zero_le _, Nat.zero_le _⟩
  refine lv_aload_n hx hb dX12_until_0 rfl (lv_at hl 0 rfl) ?_
  refine lv_iconst (v := (0 : Int32)) hx hb dX12_until_1 (by decide) ?_
  obtain ⟨M1, eM1, h⟩ := x_wI h
  refine r_putI (k := 0) (ty := .int) cx w tyX12 tyX12_ok nmX12 hL0 hK0 (by decide) rfl wi_X12_until_X12 (by decide) rfl rfl rfl rfl st_11_0 (ln_11 _ _ (by decide)) (List.mem_of_getElem? (i := 1) rfl) dX12_until_2 eM1 (fun H locs w => ?_)
  refine lv_aload_n hx hb dX12_until_5 rfl (lv_at hl 0 rfl) ?_
  refine lv_iload_n hx hb dX12_until_6 rfl (lv_at hl 1 rfl) ?_
  obtain ⟨M2, r3, y4, h⟩ := x_cl h
  refine r_callVi (As := [.int c1]) (rest := []) cx w hkn hl.1 (k_X12_isAnt hG hL0 hK0 y4) (cwV 1 hts gX12_until_X12_isAnt rfl rfl rfl (by decide +kernel) ⟨Nat.le_of_ble_eq_true rfl, Nat.le_of_ble_eq_true rfl⟩) hL0 hK0 (by decide) rfl rfl rfl (Nat.le_of_ble_eq_true rfl) dX12_until_7 (fun H locs w => ?_)
  refine lv_if_eq (tgt := 21) hx hb dX12_until_10 (by decide) (fun k5 => ?_) (fun k5 => ?_)
  · have h := x_t h k5
    exact b_X12_until_21 cx hkn hL0 hK0 M2 H locs ls h w (lv_sub hl [0] rfl)
  · have h := x_f h k5
    refine lv_iload_n hx hb dX12_until_13 rfl (lv_at hl 2 rfl) ?_
    refine lv_iload_n hx hb dX12_until_14 rfl (lv_at hl 3 rfl) ?_
    obtain ⟨M6, r7, y8, h⟩ := x_cl h
    refine r_callSi (As := [.int c2, .int c3]) (rest := []) cx w hkn hl.1 (k_X12_isStone hG y8) (va_cwS 2 hts gX12_until_X12_isStone rfl rfl rfl (by decide +kernel) ⟨Nat.le_of_ble_eq_true rfl, Nat.le_of_ble_eq_true rfl⟩) rfl rfl (Nat.le_of_ble_eq_true rfl) dX12_until_15 (fun H locs w => ?_)
    refine lv_if_ne (tgt := 27) hx hb dX12_until_18 (by decide) (fun k9 => ?_) (fun k9 => ?_)
    · have h := x_f h k9
      refine lv_aload_n hx hb dX12_until_27 rfl (lv_at hl 0 rfl) ?_
      obtain ⟨q10, eq10, h⟩ := x_rf h
      obtain ⟨hLq10, hKq10⟩ := wt_q hG hL0 hK0 eq10
      have hKq10 : gK G q10 = 10 := hKq10
      refine r_getR (k := 14) cx w hL0 hK0 (by decide) rfl wi_X12_until_X12 (by decide) rfl eq10 (List.mem_of_getElem? (i := 2) rfl) dX12_until_28 ?_
      refine lv_aload_n hx hb dX12_until_31 rfl (lv_at hl 0 rfl) ?_
      obtain ⟨q11, eq11, h⟩ := x_rf h
      obtain ⟨hLq11, hKq11⟩ := wt_q hG hL0 hK0 eq11
      have hKq11 : gK G q11 = 10 := hKq11
      refine r_getR (k := 13) cx w hL0 hK0 (by decide) rfl wi_X12_until_X12 (by decide) rfl eq11 (List.mem_of_getElem? (i := 3) rfl) dX12_until_32 ?_
      obtain ⟨M12, r13, y14, h⟩ := x_cl h
      refine r_callVr (As := [.ref q11]) (rest := []) cx w hkn hl.1 (k_X11_become hG hLq10 hKq10 hLq11 hKq11 y14) (cwV 1 hts gX12_until_X11_become rfl rfl rfl (by decide +kernel) ⟨Nat.le_of_ble_eq_true rfl, Nat.le_of_ble_eq_true rfl⟩) hLq10 hKq10 (by decide) rfl rfl rfl (Nat.le_of_ble_eq_true rfl) dX12_until_35 (fun H locs w => ?_)
      obtain ⟨⟨hLr13, hKr13⟩, h⟩ := x_ck h
      refine lv_pop hx hb dX12_until_38 rfl ?_
      refine lv_iconst (v := (0 : Int32)) hx hb dX12_until_39 (by decide) ?_
      refine lv_istore (lv' := [(4, .int ((0 : Int32))), (0, .ref a0), (1, .int c1), (2, .int c2), (3, .int c3)]) hx hb dX12_until_40 hl (by decide) rfl (fun ls hl => ?_)
      exact b_X12_until_42 cx hkn hL0 hK0 fu M12 ((0 : Int32)) H locs ls h w (lv_sub hl [1, 2, 3, 4, 0] rfl)
    · have h := x_t h k9
      exact b_X12_until_21 cx hkn hL0 hK0 M6 H locs ls h w (lv_sub hl [0] rfl)
-- X11_isAnyOnHighway
theorem wi_X11_isAnyOnHighway_X10 : ∀ w ∈ wsX100, w ∈ wsX11_isAnyOnHighway := by decide +kernel
theorem wi_X11_isAnyOnHighway_X11 : ∀ w ∈ wsX110, w ∈ wsX11_isAnyOnHighway := by decide +kernel
theorem wi_X11_isAnyOnHighway_X12 : ∀ w ∈ wsX120, w ∈ wsX11_isAnyOnHighway := by decide +kernel
abbrev rmX11_isAnyOnHighway : Room := { frames := 2, cells := 0, slots := 0, locals := 48 }
def m_X11_isAnyOnHighway_2 (G : gS) (a0 : Nat)  : Nat → mS → Int32 → Option (mS × Int32)
  | 0, _, _ => none
  | n + 1, M, v1 => o_rf (gP G a0 15) (fun q1 => o_rf (gP G q1 11) (fun q2 => (if (mI M q2 3) ≤ v1 then o_ck ((0 : Int32) = 0 ∨ (0 : Int32) = 1) (some (M, (0 : Int32))) else o_cl (m_X11_period G M a0 v1) (fun M5 r6 => (if r6 ≤ 0 then o_bd (v1 + 1 : Int32) (fun x9 => m_X11_isAnyOnHighway_2 G a0 n M5 x9) else o_ck ((1 : Int32) = 0 ∨ (1 : Int32) = 1) (some (M5, (1 : Int32))))))))
def m_X11_isAnyOnHighway (G : gS) (M : mS) (a0 : Nat) : Option (mS × Int32) := m_X11_isAnyOnHighway_2 G a0 fu M ((0 : Int32))
set_option maxHeartbeats 4000000 in
set_option maxRecDepth 100000 in
theorem b_X11_isAnyOnHighway_2 {p : Program} {e : Env} {s : State} {m : MethodId} {args : Array Value} {below : List Frame} {meth : Method} {c : Code} {A : Nat → Prop} {l : Launch} {D : va_G} {cy : cyS} {G : gS} (cx : cX p s m args meth c cX11_isAnyOnHighway RX11 2 (some .boolean) wsX11_isAnyOnHighway D cy G A) {k0 n0 : Nat} (hkn : k0 ≤ (rmX11_isAnyOnHighway).cells ∧ n0 ≤ (rmX11_isAnyOnHighway).slots) {M' : mS} {r : Int32} {a0 : Nat} (hL0 : a0 ∈ gL G) (hK0 : gK G a0 = 10)  : ∀ (n : Nat), ∀ (M : mS) (v1 : Int32) (H : Heap) (locs : List Loc) (ls : Array Slot), m_X11_isAnyOnHighway_2 G a0 n M v1 = some (M', r) → wd D cy G M A s.heap H locs → lv_has ls 2 [(0, .ref a0), (1, .int v1)] → W p l e rmX11_isAnyOnHighway s m args below meth c H locs k0 n0 (MQ below (va_Qi (fun (r' : Int32) (_ : Unit) => r' = r) (fun _ t => wOut D cy G M' t) A) args s k0 n0 A) (F0 m 2 ls []) := by
  obtain ⟨hx, hb, hml, hown, hts, hr, hlocks, hK, hA, hG, hsx⟩ := id cx
  intro n
  induction n with
  | zero =>
    intro M v1 H locs ls h w hl
    have h : none = some _ := h
    cases h
  | succ n ih =>
    intro M v1 H locs ls h w hl
    rw [m_X11_isAnyOnHighway_2] at h
    refine lv_iload_n hx hb dX11_isAnyOnHighway_2 rfl (lv_at hl 1 rfl) ?_
    refine lv_aload_n hx hb dX11_isAnyOnHighway_3 rfl (lv_at hl 0 rfl) ?_
    obtain ⟨q1, eq1, h⟩ := x_rf h
    obtain ⟨hLq1, hKq1⟩ := wt_q hG hL0 hK0 eq1
    have hKq1 : gK G q1 = 11 := hKq1
    refine r_getR (k := 15) cx w hL0 hK0 (by decide) rfl wi_X11_isAnyOnHighway_X11 (by decide) rfl eq1 (List.mem_of_getElem? (i := 1) rfl) dX11_isAnyOnHighway_4 ?_
    obtain ⟨q2, eq2, h⟩ := x_rf h
    obtain ⟨hLq2, hKq2⟩ := wt_q hG hLq1 hKq1 eq2
    have hKq2 : gK G q2 = 9 := hKq2
    refine r_getRN (k := 11) cx w hLq1 hKq1 (by decide) rfl wi_X11_isAnyOnHighway_X12 (by decide) rfl eq2 (nwF cx (q := (RX11, 72, "FlagAntsModel", "plan", "LFlagAntsModel$Plan;", "FlagAntsModel")) (List.mem_of_getElem? (i := 30) rfl)) dX11_isAnyOnHighway_7 ?_
    refine r_getIN (k := 3) (v := .int (mI M q2 3)) cx w hLq2 hKq2 (by decide) rfl wi_X11_isAnyOnHighway_X10 (by decide) rfl (nwF cx (q := (RX11, 106, "FlagAntsModel$Plan", "ants", "I", "FlagAntsModel")) (List.mem_of_getElem? (i := 38) rfl)) dX11_isAnyOnHighway_10 ?_
    refine lv_icmp_ge (tgt := 32) hx hb dX11_isAnyOnHighway_13 (by decide) (fun k3 => ?_) (fun k3 => ?_)
    · have h := x_t h k3
      refine lv_iconst (v := (0 : Int32)) hx hb dX11_isAnyOnHighway_32 (by decide) ?_
      obtain ⟨z4, h⟩ := x_ck h
      exact r_zret cx w z4 h dX11_isAnyOnHighway_33
    · have h := x_f h k3
      refine lv_aload_n hx hb dX11_isAnyOnHighway_16 rfl (lv_at hl 0 rfl) ?_
      refine lv_iload_n hx hb dX11_isAnyOnHighway_17 rfl (lv_at hl 1 rfl) ?_
      obtain ⟨M5, r6, y7, h⟩ := x_cl h
      refine r_callVi (As := [.int v1]) (rest := []) cx w hkn hl.1 (k_X11_period hG hL0 hK0 y7) (cwV 1 hts gX11_isAnyOnHighway_X11_period rfl rfl rfl (by decide +kernel) ⟨Nat.le_of_ble_eq_true rfl, Nat.le_of_ble_eq_true rfl⟩) hL0 hK0 (by decide) rfl rfl rfl (Nat.le_of_ble_eq_true rfl) dX11_isAnyOnHighway_18 (fun H locs w => ?_)
      refine lv_if_le (tgt := 26) hx hb dX11_isAnyOnHighway_21 (by decide) (fun k8 => ?_) (fun k8 => ?_)
      · have h := x_t h k8
        obtain ⟨x9, ex9, h⟩ := x_bd h
        refine lv_iinc (v := x9) (lv' := [(1, .int x9), (0, .ref a0)]) hx hb dX11_isAnyOnHighway_26 hl (k := 1) rfl (by rw [ex9]; rfl) (by decide) rfl (fun ls hl => ?_)
        refine lv_goto (tgt := 2) hx hb dX11_isAnyOnHighway_29 (by decide) ?_
        exact ih M5 x9 H locs ls h w (lv_sub hl [1, 0] rfl)
      · have h := x_f h k8
        refine lv_iconst (v := (1 : Int32)) hx hb dX11_isAnyOnHighway_24 (by decide) ?_
        obtain ⟨z10, h⟩ := x_ck h
        exact r_zret cx w z10 h dX11_isAnyOnHighway_25
set_option maxHeartbeats 4000000 in
set_option maxRecDepth 100000 in
theorem k_X11_isAnyOnHighway {l : Launch} {D : va_G} {cy : cyS} {G : gS} {M M' : mS} {r : Int32} {a0 : Nat} (hG : wt G) (hL0 : a0 ∈ gL G) (hK0 : gK G a0 = 10) (h : m_X11_isAnyOnHighway G M a0 = some (M', r)) : ctI l yX11_isAnyOnHighway wsX11_isAnyOnHighway rmX11_isAnyOnHighway D cy G M [.ref a0] M' r := by
  unfold m_X11_isAnyOnHighway at h
  refine ctI_of (cc := cX11_isAnyOnHighway) (nL := 2) (ret := (some .boolean)) (lv := [(0, .ref a0)]) hG (by decide) rfl ⟨rfl, rfl⟩ (Nat.le_of_ble_eq_true rfl) rfl ?_
  intro p e s m args below meth c A ls cx w hl
  obtain ⟨hx, hb, hml, hown, hts, hr, hlocks, hK, hA, -, hsx⟩ := id cx
  have hkn : 0 ≤ (rmX11_isAnyOnHighway).cells ∧ 0 ≤ (rmX11_isAnyOnHighway).slots := ⟨Nat.zero_le _, Nat.zero_le _⟩
  refine lv_iconst (v := (0 : Int32)) hx hb dX11_isAnyOnHighway_0 (by decide) ?_
  refine lv_istore_n (lv' := [(1, .int ((0 : Int32))), (0, .ref a0)]) hx hb dX11_isAnyOnHighway_1 rfl hl (by decide) rfl (fun ls hl => ?_)
  exact b_X11_isAnyOnHighway_2 cx hkn hL0 hK0 fu M ((0 : Int32)) s.heap [] ls h w (lv_sub hl [1, 0] rfl)
-- X12_found
theorem wi_X12_found_X12 : ∀ w ∈ wsX120, w ∈ wsX12_found := by decide +kernel
abbrev rmX12_found : Room := { frames := 5, cells := 0, slots := 0, locals := 129 }
def m_X12_found_19 (G : gS) (a0 : Nat)  : Nat → mS → Int32 → Option (mS × Int32)
  | 0, _, _ => none
  | n + 1, M, v1 => (if (2000 : Int32) < v1 then some (M, (-1 : Int32)) else o_rf (gP G a0 14) (fun q2 => o_cl (m_X11_isAnyOnHighway G M q2) (fun M3 r4 => (if r4 = 0 then o_rf (gP G a0 14) (fun q7 => o_cl (m_X11_pass G M3 q7) (fun M8 r9 => o_bd (v1 + 1 : Int32) (fun x11 => m_X12_found_19 G a0 n M8 x11))) else some (M3, v1)))))
def m_X12_found (G : gS) (M : mS) (a0 : Nat) : Option (mS × Int32) := o_wI M a0 0 (0 : Int32) (fun M1 => o_rf (gP G a0 14) (fun q2 => o_rf (gP G a0 13) (fun q3 => o_cl (m_X11_become G M1 q2 q3) (fun M4 r5 => o_ck (r5 ∈ gL G ∧ gK G r5 = 10) (m_X12_found_19 G a0 fu M4 ((0 : Int32)))))))
set_option maxHeartbeats 4000000 in
set_option maxRecDepth 100000 in
theorem b_X12_found_19 {p : Program} {e : Env} {s : State} {m : MethodId} {args : Array Value} {below : List Frame} {meth : Method} {c : Code} {A : Nat → Prop} {l : Launch} {D : va_G} {cy : cyS} {G : gS} (cx : cX p s m args meth c cX12_found RX12 2 (some .int) wsX12_found D cy G A) {k0 n0 : Nat} (hkn : k0 ≤ (rmX12_found).cells ∧ n0 ≤ (rmX12_found).slots) {M' : mS} {r : Int32} {a0 : Nat} (hL0 : a0 ∈ gL G) (hK0 : gK G a0 = 11)  : ∀ (n : Nat), ∀ (M : mS) (v1 : Int32) (H : Heap) (locs : List Loc) (ls : Array Slot), m_X12_found_19 G a0 n M v1 = some (M', r) → wd D cy G M A s.heap H locs → lv_has ls 2 [(0, .ref a0), (1, .int v1)] → W p l e rmX12_found s m args below meth c H locs k0 n0 (MQ below (va_Qi (fun (r' : Int32) (_ : Unit) => r' = r) (fun _ t => wOut D cy G M' t) A) args s k0 n0 A) (F0 m 19 ls []) := by
  obtain ⟨hx, hb, hml, hown, hts, hr, hlocks, hK, hA, hG, hsx⟩ := id cx
  intro n
  induction n with
  | zero =>
    intro M v1 H locs ls h w hl
    have h : none = some _ := h
    cases h
  | succ n ih =>
    intro M v1 H locs ls h w hl
    rw [m_X12_found_19] at h
    refine lv_iload_n hx hb dX12_found_19 rfl (lv_at hl 1 rfl) ?_
    refine lv_sipush (v := (2000 : Int32)) hx hb dX12_found_20 (by decide) ?_
    refine lv_icmp_gt (tgt := 51) hx hb dX12_found_23 (by decide) (fun k1 => ?_) (fun k1 => ?_)
    · have h := x_t h k1
      refine lv_iconst (v := (-1 : Int32)) hx hb dX12_found_51 (by decide) ?_
      exact r_iret cx w h dX12_found_52
    · have h := x_f h k1
      refine lv_aload_n hx hb dX12_found_26 rfl (lv_at hl 0 rfl) ?_
      obtain ⟨q2, eq2, h⟩ := x_rf h
      obtain ⟨hLq2, hKq2⟩ := wt_q hG hL0 hK0 eq2
      have hKq2 : gK G q2 = 10 := hKq2
      refine r_getR (k := 14) cx w hL0 hK0 (by decide) rfl wi_X12_found_X12 (by decide) rfl eq2 (List.mem_of_getElem? (i := 2) rfl) dX12_found_27 ?_
      obtain ⟨M3, r4, y5, h⟩ := x_cl h
      refine r_callVi (As := []) (rest := []) cx w hkn hl.1 (k_X11_isAnyOnHighway hG hLq2 hKq2 y5) (cwV 0 hts gX12_found_X11_isAnyOnHighway rfl rfl rfl (by decide +kernel) ⟨Nat.le_of_ble_eq_true rfl, Nat.le_of_ble_eq_true rfl⟩) hLq2 hKq2 (by decide) rfl rfl rfl (Nat.le_of_ble_eq_true rfl) dX12_found_30 (fun H locs w => ?_)
      refine lv_if_eq (tgt := 38) hx hb dX12_found_33 (by decide) (fun k6 => ?_) (fun k6 => ?_)
      · have h := x_t h k6
        refine lv_aload_n hx hb dX12_found_38 rfl (lv_at hl 0 rfl) ?_
        obtain ⟨q7, eq7, h⟩ := x_rf h
        obtain ⟨hLq7, hKq7⟩ := wt_q hG hL0 hK0 eq7
        have hKq7 : gK G q7 = 10 := hKq7
        refine r_getR (k := 14) cx w hL0 hK0 (by decide) rfl wi_X12_found_X12 (by decide) rfl eq7 (List.mem_of_getElem? (i := 2) rfl) dX12_found_39 ?_
        obtain ⟨M8, r9, y10, h⟩ := x_cl h
        refine r_callVv (As := []) (rest := []) cx w hkn hl.1 (k_X11_pass hG hLq7 hKq7 y10) (cwV 0 hts gX12_found_X11_pass rfl rfl rfl (by decide +kernel) ⟨Nat.le_of_ble_eq_true rfl, Nat.le_of_ble_eq_true rfl⟩) hLq7 hKq7 (by decide) rfl rfl rfl (Nat.le_of_ble_eq_true rfl) dX12_found_42 (fun H locs w => ?_)
        obtain ⟨x11, ex11, h⟩ := x_bd h
        refine lv_iinc (v := x11) (lv' := [(1, .int x11), (0, .ref a0)]) hx hb dX12_found_45 hl (k := 1) rfl (by rw [ex11]; rfl) (by decide) rfl (fun ls hl => ?_)
        refine lv_goto (tgt := 19) hx hb dX12_found_48 (by decide) ?_
        exact ih M8 x11 H locs ls h w (lv_sub hl [1, 0] rfl)
      · have h := x_f h k6
        refine lv_iload_n hx hb dX12_found_36 rfl (lv_at hl 1 rfl) ?_
        exact r_iret cx w h dX12_found_37
set_option maxHeartbeats 4000000 in
set_option maxRecDepth 100000 in
theorem k_X12_found {l : Launch} {D : va_G} {cy : cyS} {G : gS} {M M' : mS} {r : Int32} {a0 : Nat} (hG : wt G) (hL0 : a0 ∈ gL G) (hK0 : gK G a0 = 11) (h : m_X12_found G M a0 = some (M', r)) : ctI l yX12_found wsX12_found rmX12_found D cy G M [.ref a0] M' r := by
  unfold m_X12_found at h
  refine ctI_of (cc := cX12_found) (nL := 2) (ret := (some .int)) (lv := [(0, .ref a0)]) hG (by decide) rfl ⟨rfl, rfl⟩ (Nat.le_of_ble_eq_true rfl) rfl ?_
  intro p e s m args below meth c A ls cx w hl
  obtain ⟨hx, hb, hml, hown, hts, hr, hlocks, hK, hA, -, hsx⟩ := id cx
  have hkn : 0 ≤ (rmX12_found).cells ∧ 0 ≤ (rmX12_found).slots := ⟨Nat.zero_le _, Nat.zero_le _⟩
  refine lv_aload_n hx hb dX12_found_0 rfl (lv_at hl 0 rfl) ?_
  refine lv_iconst (v := (0 : Int32)) hx hb dX12_found_1 (by decide) ?_
  obtain ⟨M1, eM1, h⟩ := x_wI h
  refine r_putI (k := 0) (ty := .int) cx w tyX12 tyX12_ok nmX12 hL0 hK0 (by decide) rfl wi_X12_found_X12 (by decide) rfl rfl rfl rfl st_11_0 (ln_11 _ _ (by decide)) (List.mem_of_getElem? (i := 1) rfl) dX12_found_2 eM1 (fun H locs w => ?_)
  refine lv_aload_n hx hb dX12_found_5 rfl (lv_at hl 0 rfl) ?_
  obtain ⟨q2, eq2, h⟩ := x_rf h
  obtain ⟨hLq2, hKq2⟩ := wt_q hG hL0 hK0 eq2
  have hKq2 : gK G q2 = 10 := hKq2
  refine r_getR (k := 14) cx w hL0 hK0 (by decide) rfl wi_X12_found_X12 (by decide) rfl eq2 (List.mem_of_getElem? (i := 2) rfl) dX12_found_6 ?_
  refine lv_aload_n hx hb dX12_found_9 rfl (lv_at hl 0 rfl) ?_
  obtain ⟨q3, eq3, h⟩ := x_rf h
  obtain ⟨hLq3, hKq3⟩ := wt_q hG hL0 hK0 eq3
  have hKq3 : gK G q3 = 10 := hKq3
  refine r_getR (k := 13) cx w hL0 hK0 (by decide) rfl wi_X12_found_X12 (by decide) rfl eq3 (List.mem_of_getElem? (i := 3) rfl) dX12_found_10 ?_
  obtain ⟨M4, r5, y6, h⟩ := x_cl h
  refine r_callVr (As := [.ref q3]) (rest := []) cx w hkn hl.1 (k_X11_become hG hLq2 hKq2 hLq3 hKq3 y6) (cwV 1 hts gX12_found_X11_become rfl rfl rfl (by decide +kernel) ⟨Nat.le_of_ble_eq_true rfl, Nat.le_of_ble_eq_true rfl⟩) hLq2 hKq2 (by decide) rfl rfl rfl (Nat.le_of_ble_eq_true rfl) dX12_found_13 (fun H locs w => ?_)
  obtain ⟨⟨hLr5, hKr5⟩, h⟩ := x_ck h
  refine lv_pop hx hb dX12_found_16 rfl ?_
  refine lv_iconst (v := (0 : Int32)) hx hb dX12_found_17 (by decide) ?_
  refine lv_istore_n (lv' := [(1, .int ((0 : Int32))), (0, .ref a0)]) hx hb dX12_found_18 rfl hl (by decide) rfl (fun ls hl => ?_)
  exact b_X12_found_19 cx hkn hL0 hK0 fu M4 ((0 : Int32)) H locs ls h w (lv_sub hl [1, 0] rfl)
-- X12_advise
theorem wi_X12_advise_X12 : ∀ w ∈ wsX120, w ∈ wsX12_advise := by decide +kernel
abbrev rmX12_advise : Room := { frames := 6, cells := 0, slots := 0, locals := 151 }
def m_X12_advise_103 (G : gS) (a0 : Nat) (c1 : Int32) (kb46 : mS → Int32 → Int32 → Int32 → Option (mS × Int32)) (M : mS) (v2 : Int32) (v3 : Int32) (v4 : Int32) : Option (mS × Int32) := o_bd (v4 + 8 : Int32) (fun x1 => kb46 M v2 v3 x1)
def m_X12_advise_46 (G : gS) (a0 : Nat) (c1 : Int32)  : Nat → mS → Int32 → Int32 → Int32 → Option (mS × Int32)
  | 0, _, _, _, _ => none
  | n + 1, M, v2, v3, v4 => (if (64 : Int32) ≤ v4 then some (M, v2) else o_rf (gP G a0 14) (fun q2 => o_rf (gP G a0 13) (fun q3 => o_cl (m_X11_become G M q2 q3) (fun M4 r5 => o_ck (r5 ∈ gL G ∧ gK G r5 = 10) (o_cl (m_X11_wash G M4 r5 v4 (v4 + (7 : Int32))) (fun M8 r9 => o_rf (gP G a0 14) (fun q11 => o_cl (m_X11_pass_ G M8 q11 c1) (fun M12 r13 => o_ck (r13 ∈ gL G ∧ gK G r13 = 10) (o_cl (m_X11_dark G M12 r13) (fun M16 r17 => (if r17 < v3 then m_X12_advise_103 G a0 c1 (fun M v2 v3 v4 => m_X12_advise_46 G a0 c1 n M v2 v3 v4) M16 v4 r17 v4 else m_X12_advise_103 G a0 c1 (fun M v2 v3 v4 => m_X12_advise_46 G a0 c1 n M v2 v3 v4) M16 v2 v3 v4)))))))))))
def m_X12_advise (G : gS) (M : mS) (a0 : Nat) (c1 : Int32) : Option (mS × Int32) := o_wI M a0 0 (0 : Int32) (fun M1 => o_cl (m_X12_isIn G M1 c1 (1 : Int32) (300 : Int32)) (fun M2 r3 => (if r3 = 0 then o_cl (m_X12_no G M2 a0 (1 : Int32)) (fun M19 r20 => some (M19, r20)) else o_rf (gP G a0 14) (fun q6 => o_rf (gP G a0 13) (fun q7 => o_cl (m_X11_become G M2 q6 q7) (fun M8 r9 => o_ck (r9 ∈ gL G ∧ gK G r9 = 10) (o_cl (m_X11_pass_ G M8 r9 c1) (fun M12 r13 => o_ck (r13 ∈ gL G ∧ gK G r13 = 10) (o_cl (m_X11_dark G M12 r13) (fun M16 r17 => m_X12_advise_46 G a0 c1 fu M16 ((-1 : Int32)) r17 ((0 : Int32))))))))))))
set_option maxHeartbeats 4000000 in
set_option maxRecDepth 100000 in
theorem b_X12_advise_103 {p : Program} {e : Env} {s : State} {m : MethodId} {args : Array Value} {below : List Frame} {meth : Method} {c : Code} {A : Nat → Prop} {l : Launch} {D : va_G} {cy : cyS} {G : gS} (cx : cX p s m args meth c cX12_advise RX12 6 (some .int) wsX12_advise D cy G A) {k0 n0 : Nat} (hkn : k0 ≤ (rmX12_advise).cells ∧ n0 ≤ (rmX12_advise).slots) {M' : mS} {r : Int32} {a0 : Nat} {c1 : Int32} (hL0 : a0 ∈ gL G) (hK0 : gK G a0 = 11) {kb46 : mS → Int32 → Int32 → Int32 → Option (mS × Int32)} (hkb46 : ∀ (M : mS) (v2 : Int32) (v3 : Int32) (v4 : Int32) (H : Heap) (locs : List Loc) (ls : Array Slot), kb46 M v2 v3 v4 = some (M', r) → wd D cy G M A s.heap H locs → lv_has ls 6 [(0, .ref a0), (1, .int c1), (2, .int v2), (3, .int v3), (4, .int v4)] → W p l e rmX12_advise s m args below meth c H locs k0 n0 (MQ below (va_Qi (fun (r' : Int32) (_ : Unit) => r' = r) (fun _ t => wOut D cy G M' t) A) args s k0 n0 A) (F0 m 46 ls [])) : ∀ (M : mS) (v2 : Int32) (v3 : Int32) (v4 : Int32) (H : Heap) (locs : List Loc) (ls : Array Slot), m_X12_advise_103 G a0 c1 kb46 M v2 v3 v4 = some (M', r) → wd D cy G M A s.heap H locs → lv_has ls 6 [(0, .ref a0), (1, .int c1), (2, .int v2), (3, .int v3), (4, .int v4)] → W p l e rmX12_advise s m args below meth c H locs k0 n0 (MQ below (va_Qi (fun (r' : Int32) (_ : Unit) => r' = r) (fun _ t => wOut D cy G M' t) A) args s k0 n0 A) (F0 m 103 ls []) := by
  obtain ⟨hx, hb, hml, hown, hts, hr, hlocks, hK, hA, hG, hsx⟩ := id cx
  intro M v2 v3 v4 H locs ls h w hl
  unfold m_X12_advise_103 at h
  obtain ⟨x1, ex1, h⟩ := x_bd h
  refine lv_iinc (v := x1) (lv' := [(4, .int x1), (0, .ref a0), (1, .int c1), (2, .int v2), (3, .int v3)]) hx hb dX12_advise_103 hl (k := 4) rfl (by rw [ex1]; rfl) (by decide) rfl (fun ls hl => ?_)
  refine lv_goto (tgt := 46) hx hb dX12_advise_106 (by decide) ?_
  exact hkb46 M v2 v3 x1 H locs ls h w (lv_sub hl [1, 2, 3, 4, 0] rfl)
set_option maxHeartbeats 4000000 in
set_option maxRecDepth 100000 in
theorem b_X12_advise_46 {p : Program} {e : Env} {s : State} {m : MethodId} {args : Array Value} {below : List Frame} {meth : Method} {c : Code} {A : Nat → Prop} {l : Launch} {D : va_G} {cy : cyS} {G : gS} (cx : cX p s m args meth c cX12_advise RX12 6 (some .int) wsX12_advise D cy G A) {k0 n0 : Nat} (hkn : k0 ≤ (rmX12_advise).cells ∧ n0 ≤ (rmX12_advise).slots) {M' : mS} {r : Int32} {a0 : Nat} {c1 : Int32} (hL0 : a0 ∈ gL G) (hK0 : gK G a0 = 11)  : ∀ (n : Nat), ∀ (M : mS) (v2 : Int32) (v3 : Int32) (v4 : Int32) (H : Heap) (locs : List Loc) (ls : Array Slot), m_X12_advise_46 G a0 c1 n M v2 v3 v4 = some (M', r) → wd D cy G M A s.heap H locs → lv_has ls 6 [(0, .ref a0), (1, .int c1), (2, .int v2), (3, .int v3), (4, .int v4)] → W p l e rmX12_advise s m args below meth c H locs k0 n0 (MQ below (va_Qi (fun (r' : Int32) (_ : Unit) => r' = r) (fun _ t => wOut D cy G M' t) A) args s k0 n0 A) (F0 m 46 ls []) := by
  obtain ⟨hx, hb, hml, hown, hts, hr, hlocks, hK, hA, hG, hsx⟩ := id cx
  intro n
  induction n with
  | zero =>
    intro M v2 v3 v4 H locs ls h w hl
    have h : none = some _ := h
    cases h
  | succ n ih =>
    intro M v2 v3 v4 H locs ls h w hl
    rw [m_X12_advise_46] at h
    refine lv_iload hx hb dX12_advise_46 (lv_at hl 4 rfl) ?_
    refine lv_bipush (v := (64 : Int32)) hx hb dX12_advise_48 (by decide) ?_
    refine lv_icmp_ge (tgt := 109) hx hb dX12_advise_50 (by decide) (fun k1 => ?_) (fun k1 => ?_)
    · have h := x_t h k1
      refine lv_iload_n hx hb dX12_advise_109 rfl (lv_at hl 2 rfl) ?_
      exact r_iret cx w h dX12_advise_110
    · have h := x_f h k1
      refine lv_aload_n hx hb dX12_advise_53 rfl (lv_at hl 0 rfl) ?_
      obtain ⟨q2, eq2, h⟩ := x_rf h
      obtain ⟨hLq2, hKq2⟩ := wt_q hG hL0 hK0 eq2
      have hKq2 : gK G q2 = 10 := hKq2
      refine r_getR (k := 14) cx w hL0 hK0 (by decide) rfl wi_X12_advise_X12 (by decide) rfl eq2 (List.mem_of_getElem? (i := 2) rfl) dX12_advise_54 ?_
      refine lv_aload_n hx hb dX12_advise_57 rfl (lv_at hl 0 rfl) ?_
      obtain ⟨q3, eq3, h⟩ := x_rf h
      obtain ⟨hLq3, hKq3⟩ := wt_q hG hL0 hK0 eq3
      have hKq3 : gK G q3 = 10 := hKq3
      refine r_getR (k := 13) cx w hL0 hK0 (by decide) rfl wi_X12_advise_X12 (by decide) rfl eq3 (List.mem_of_getElem? (i := 3) rfl) dX12_advise_58 ?_
      obtain ⟨M4, r5, y6, h⟩ := x_cl h
      refine r_callVr (As := [.ref q3]) (rest := []) cx w hkn hl.1 (k_X11_become hG hLq2 hKq2 hLq3 hKq3 y6) (cwV 1 hts gX12_advise_X11_become rfl rfl rfl (by decide +kernel) ⟨Nat.le_of_ble_eq_true rfl, Nat.le_of_ble_eq_true rfl⟩) hLq2 hKq2 (by decide) rfl rfl rfl (Nat.le_of_ble_eq_true rfl) dX12_advise_61 (fun H locs w => ?_)
      obtain ⟨⟨hLr5, hKr5⟩, h⟩ := x_ck h
      refine lv_iload hx hb dX12_advise_64 (lv_at hl 4 rfl) ?_
      refine lv_iload hx hb dX12_advise_66 (lv_at hl 4 rfl) ?_
      refine lv_bipush (v := (7 : Int32)) hx hb dX12_advise_68 (by decide) ?_
      refine lv_iadd hx hb dX12_advise_70 ?_
      obtain ⟨M8, r9, y10, h⟩ := x_cl h
      refine r_callVi (As := [.int v4, .int ((v4 + (7 : Int32)))]) (rest := []) cx w hkn hl.1 (k_X11_wash hG hLr5 hKr5 y10) (cwV 2 hts gX12_advise_X11_wash rfl rfl rfl (by decide +kernel) ⟨Nat.le_of_ble_eq_true rfl, Nat.le_of_ble_eq_true rfl⟩) hLr5 hKr5 (by decide) rfl rfl rfl (Nat.le_of_ble_eq_true rfl) dX12_advise_71 (fun H locs w => ?_)
      refine lv_pop hx hb dX12_advise_74 rfl ?_
      refine lv_aload_n hx hb dX12_advise_75 rfl (lv_at hl 0 rfl) ?_
      obtain ⟨q11, eq11, h⟩ := x_rf h
      obtain ⟨hLq11, hKq11⟩ := wt_q hG hL0 hK0 eq11
      have hKq11 : gK G q11 = 10 := hKq11
      refine r_getR (k := 14) cx w hL0 hK0 (by decide) rfl wi_X12_advise_X12 (by decide) rfl eq11 (List.mem_of_getElem? (i := 2) rfl) dX12_advise_76 ?_
      refine lv_iload_n hx hb dX12_advise_79 rfl (lv_at hl 1 rfl) ?_
      obtain ⟨M12, r13, y14, h⟩ := x_cl h
      refine r_callVr (As := [.int c1]) (rest := []) cx w hkn hl.1 (k_X11_pass_ hG hLq11 hKq11 y14) (cwV 1 hts gX12_advise_X11_pass_ rfl rfl rfl (by decide +kernel) ⟨Nat.le_of_ble_eq_true rfl, Nat.le_of_ble_eq_true rfl⟩) hLq11 hKq11 (by decide) rfl rfl rfl (Nat.le_of_ble_eq_true rfl) dX12_advise_80 (fun H locs w => ?_)
      obtain ⟨⟨hLr13, hKr13⟩, h⟩ := x_ck h
      obtain ⟨M16, r17, y18, h⟩ := x_cl h
      refine r_callVi (As := []) (rest := []) cx w hkn hl.1 (k_X11_dark hG hLr13 hKr13 y18) (cwV 0 hts gX12_advise_X11_dark rfl rfl rfl (by decide +kernel) ⟨Nat.le_of_ble_eq_true rfl, Nat.le_of_ble_eq_true rfl⟩) hLr13 hKr13 (by decide) rfl rfl rfl (Nat.le_of_ble_eq_true rfl) dX12_advise_83 (fun H locs w => ?_)
      refine lv_istore (lv' := [(5, .int r17), (0, .ref a0), (1, .int c1), (2, .int v2), (3, .int v3), (4, .int v4)]) hx hb dX12_advise_86 hl (by decide) rfl (fun ls hl => ?_)
      refine lv_iload hx hb dX12_advise_88 (lv_at hl 0 rfl) ?_
      refine lv_iload_n hx hb dX12_advise_90 rfl (lv_at hl 4 rfl) ?_
      refine lv_icmp_lt (tgt := 97) hx hb dX12_advise_91 (by decide) (fun k19 => ?_) (fun k19 => ?_)
      · have h := x_t h k19
        refine lv_iload hx hb dX12_advise_97 (lv_at hl 5 rfl) ?_
        refine lv_istore_n (lv' := [(2, .int v4), (5, .int r17), (0, .ref a0), (1, .int c1), (3, .int v3), (4, .int v4)]) hx hb dX12_advise_99 rfl hl (by decide) rfl (fun ls hl => ?_)
        refine lv_iload hx hb dX12_advise_100 (lv_at hl 1 rfl) ?_
        refine lv_istore_n (lv' := [(3, .int r17), (2, .int v4), (5, .int r17), (0, .ref a0), (1, .int c1), (4, .int v4)]) hx hb dX12_advise_102 rfl hl (by decide) rfl (fun ls hl => ?_)
        exact b_X12_advise_103 cx hkn hL0 hK0 (hkb46 := ih) M16 v4 r17 v4 H locs ls h w (lv_sub hl [3, 4, 1, 0, 5] rfl)
      · have h := x_f h k19
        refine lv_goto (tgt := 103) hx hb dX12_advise_94 (by decide) ?_
        exact b_X12_advise_103 cx hkn hL0 hK0 (hkb46 := ih) M16 v2 v3 v4 H locs ls h w (lv_sub hl [1, 2, 3, 4, 5] rfl)
set_option maxHeartbeats 4000000 in
set_option maxRecDepth 100000 in
theorem k_X12_advise {l : Launch} {D : va_G} {cy : cyS} {G : gS} {M M' : mS} {r : Int32} {a0 : Nat} {c1 : Int32} (hG : wt G) (hL0 : a0 ∈ gL G) (hK0 : gK G a0 = 11) (h : m_X12_advise G M a0 c1 = some (M', r)) : ctI l yX12_advise wsX12_advise rmX12_advise D cy G M [.ref a0, .int c1] M' r := by
  unfold m_X12_advise at h
  refine ctI_of (cc := cX12_advise) (nL := 6) (ret := (some .int)) (lv := [(0, .ref a0), (1, .int c1)]) hG (by decide) rfl ⟨rfl, rfl⟩ (Nat.le_of_ble_eq_true rfl) rfl ?_
  intro p e s m args below meth c A ls cx w hl
  obtain ⟨hx, hb, hml, hown, hts, hr, hlocks, hK, hA, -, hsx⟩ := id cx
  have hkn : 0 ≤ (rmX12_advise).cells ∧ 0 ≤ (rmX12_advise).slots := ⟨Nat.zero_le _, Nat.zero_le _⟩
  refine lv_aload_n hx hb dX12_advise_0 rfl (lv_at hl 0 rfl) ?_
  refine lv_iconst (v := (0 : Int32)) hx hb dX12_advise_1 (by decide) ?_
  obtain ⟨M1, eM1, h⟩ := x_wI h
  refine r_putI (k := 0) (ty := .int) cx w tyX12 tyX12_ok nmX12 hL0 hK0 (by decide) rfl wi_X12_advise_X12 (by decide) rfl rfl rfl rfl st_11_0 (ln_11 _ _ (by decide)) (List.mem_of_getElem? (i := 1) rfl) dX12_advise_2 eM1 (fun H locs w => ?_)
  refine lv_iload_n hx hb dX12_advise_5 rfl (lv_at hl 1 rfl) ?_
  refine lv_iconst (v := (1 : Int32)) hx hb dX12_advise_6 (by decide) ?_
  refine lv_sipush (v := (300 : Int32)) hx hb dX12_advise_7 (by decide) ?_
  obtain ⟨M2, r3, y4, h⟩ := x_cl h
  refine r_callSi (As := [.int c1, .int ((1 : Int32)), .int ((300 : Int32))]) (rest := []) cx w hkn hl.1 (k_X12_isIn hG y4) (va_cwS 3 hts gX12_advise_X12_isIn rfl rfl rfl (by decide +kernel) ⟨Nat.le_of_ble_eq_true rfl, Nat.le_of_ble_eq_true rfl⟩) rfl rfl (Nat.le_of_ble_eq_true rfl) dX12_advise_10 (fun H locs w => ?_)
  refine lv_if_ne (tgt := 22) hx hb dX12_advise_13 (by decide) (fun k5 => ?_) (fun k5 => ?_)
  · have h := x_f h k5
    refine lv_iconst (v := (-1 : Int32)) hx hb dX12_advise_22 (by decide) ?_
    refine lv_istore_n (lv' := [(2, .int ((-1 : Int32))), (0, .ref a0), (1, .int c1)]) hx hb dX12_advise_23 rfl hl (by decide) rfl (fun ls hl => ?_)
    refine lv_aload_n hx hb dX12_advise_24 rfl (lv_at hl 1 rfl) ?_
    obtain ⟨q6, eq6, h⟩ := x_rf h
    obtain ⟨hLq6, hKq6⟩ := wt_q hG hL0 hK0 eq6
    have hKq6 : gK G q6 = 10 := hKq6
    refine r_getR (k := 14) cx w hL0 hK0 (by decide) rfl wi_X12_advise_X12 (by decide) rfl eq6 (List.mem_of_getElem? (i := 2) rfl) dX12_advise_25 ?_
    refine lv_aload_n hx hb dX12_advise_28 rfl (lv_at hl 1 rfl) ?_
    obtain ⟨q7, eq7, h⟩ := x_rf h
    obtain ⟨hLq7, hKq7⟩ := wt_q hG hL0 hK0 eq7
    have hKq7 : gK G q7 = 10 := hKq7
    refine r_getR (k := 13) cx w hL0 hK0 (by decide) rfl wi_X12_advise_X12 (by decide) rfl eq7 (List.mem_of_getElem? (i := 3) rfl) dX12_advise_29 ?_
    obtain ⟨M8, r9, y10, h⟩ := x_cl h
    refine r_callVr (As := [.ref q7]) (rest := []) cx w hkn hl.1 (k_X11_become hG hLq6 hKq6 hLq7 hKq7 y10) (cwV 1 hts gX12_advise_X11_become rfl rfl rfl (by decide +kernel) ⟨Nat.le_of_ble_eq_true rfl, Nat.le_of_ble_eq_true rfl⟩) hLq6 hKq6 (by decide) rfl rfl rfl (Nat.le_of_ble_eq_true rfl) dX12_advise_32 (fun H locs w => ?_)
    obtain ⟨⟨hLr9, hKr9⟩, h⟩ := x_ck h
    refine lv_iload_n hx hb dX12_advise_35 rfl (lv_at hl 2 rfl) ?_
    obtain ⟨M12, r13, y14, h⟩ := x_cl h
    refine r_callVr (As := [.int c1]) (rest := []) cx w hkn hl.1 (k_X11_pass_ hG hLr9 hKr9 y14) (cwV 1 hts gX12_advise_X11_pass_ rfl rfl rfl (by decide +kernel) ⟨Nat.le_of_ble_eq_true rfl, Nat.le_of_ble_eq_true rfl⟩) hLr9 hKr9 (by decide) rfl rfl rfl (Nat.le_of_ble_eq_true rfl) dX12_advise_36 (fun H locs w => ?_)
    obtain ⟨⟨hLr13, hKr13⟩, h⟩ := x_ck h
    obtain ⟨M16, r17, y18, h⟩ := x_cl h
    refine r_callVi (As := []) (rest := []) cx w hkn hl.1 (k_X11_dark hG hLr13 hKr13 y18) (cwV 0 hts gX12_advise_X11_dark rfl rfl rfl (by decide +kernel) ⟨Nat.le_of_ble_eq_true rfl, Nat.le_of_ble_eq_true rfl⟩) hLr13 hKr13 (by decide) rfl rfl rfl (Nat.le_of_ble_eq_true rfl) dX12_advise_39 (fun H locs w => ?_)
    refine lv_istore_n (lv' := [(3, .int r17), (2, .int ((-1 : Int32))), (0, .ref a0), (1, .int c1)]) hx hb dX12_advise_42 rfl hl (by decide) rfl (fun ls hl => ?_)
    refine lv_iconst (v := (0 : Int32)) hx hb dX12_advise_43 (by decide) ?_
    refine lv_istore (lv' := [(4, .int ((0 : Int32))), (3, .int r17), (2, .int ((-1 : Int32))), (0, .ref a0), (1, .int c1)]) hx hb dX12_advise_44 hl (by decide) rfl (fun ls hl => ?_)
    exact b_X12_advise_46 cx hkn hL0 hK0 fu M16 ((-1 : Int32)) r17 ((0 : Int32)) H locs ls h w (lv_sub hl [3, 4, 2, 1, 0] rfl)
  · have h := x_t h k5
    refine lv_aload_n hx hb dX12_advise_16 rfl (lv_at hl 0 rfl) ?_
    refine lv_iconst (v := (1 : Int32)) hx hb dX12_advise_17 (by decide) ?_
    obtain ⟨M19, r20, y21, h⟩ := x_cl h
    refine r_callVi (As := [.int ((1 : Int32))]) (rest := []) cx w hkn hl.1 (k_X12_no hG hL0 hK0 y21) (cwV 1 hts gX12_advise_X12_no rfl rfl rfl (by decide +kernel) ⟨Nat.le_of_ble_eq_true rfl, Nat.le_of_ble_eq_true rfl⟩) hL0 hK0 (by decide) rfl rfl rfl (Nat.le_of_ble_eq_true rfl) dX12_advise_18 (fun H locs w => ?_)
    exact r_iret cx w h dX12_advise_21
-- X12_mean
theorem wi_X12_mean_X12 : ∀ w ∈ wsX120, w ∈ wsX12_mean := by decide +kernel
abbrev rmX12_mean : Room := { frames := 1, cells := 0, slots := 0, locals := 25 }
def m_X12_mean (G : gS) (M : mS) (a0 : Nat) : Option (mS × UInt64) := o_wI M a0 0 (0 : Int32) (fun M1 => o_rf (gP G a0 13) (fun q2 => o_cl (m_X11_sum G M1 q2) (fun M3 r4 => o_ck ((FP.ddiv (FP.i2d r4) (4661225614328463360 : UInt64)) &&& 0x7fffffffffffffff ≤ 0x7ff0000000000000) (some (M3, (FP.ddiv (FP.i2d r4) (4661225614328463360 : UInt64)))))))
set_option maxHeartbeats 4000000 in
set_option maxRecDepth 100000 in
theorem k_X12_mean {l : Launch} {D : va_G} {cy : cyS} {G : gS} {M M' : mS} {r : UInt64} {a0 : Nat} (hG : wt G) (hL0 : a0 ∈ gL G) (hK0 : gK G a0 = 11) (h : m_X12_mean G M a0 = some (M', r)) : ctD l yX12_mean wsX12_mean rmX12_mean D cy G M [.ref a0] M' r := by
  unfold m_X12_mean at h
  refine ctD_of (cc := cX12_mean) (nL := 1) (ret := (some .double)) (lv := [(0, .ref a0)]) hG (by decide) rfl ⟨rfl, rfl⟩ (Nat.le_of_ble_eq_true rfl) rfl ?_
  intro p e s m args below meth c A ls cx w hl
  obtain ⟨hx, hb, hml, hown, hts, hr, hlocks, hK, hA, -, hsx⟩ := id cx
  have hkn : 0 ≤ (rmX12_mean).cells ∧ 0 ≤ (rmX12_mean).slots := ⟨Nat.zero_le _, Nat.zero_le _⟩
  refine lv_aload_n hx hb dX12_mean_0 rfl (lv_at hl 0 rfl) ?_
  refine lv_iconst (v := (0 : Int32)) hx hb dX12_mean_1 (by decide) ?_
  obtain ⟨M1, eM1, h⟩ := x_wI h
  refine r_putI (k := 0) (ty := .int) cx w tyX12 tyX12_ok nmX12 hL0 hK0 (by decide) rfl wi_X12_mean_X12 (by decide) rfl rfl rfl rfl st_11_0 (ln_11 _ _ (by decide)) (List.mem_of_getElem? (i := 1) rfl) dX12_mean_2 eM1 (fun H locs w => ?_)
  refine lv_aload_n hx hb dX12_mean_5 rfl (lv_at hl 0 rfl) ?_
  obtain ⟨q2, eq2, h⟩ := x_rf h
  obtain ⟨hLq2, hKq2⟩ := wt_q hG hL0 hK0 eq2
  have hKq2 : gK G q2 = 10 := hKq2
  refine r_getR (k := 13) cx w hL0 hK0 (by decide) rfl wi_X12_mean_X12 (by decide) rfl eq2 (List.mem_of_getElem? (i := 2) rfl) dX12_mean_6 ?_
  obtain ⟨M3, r4, y5, h⟩ := x_cl h
  refine r_callVNi (As := []) (rest := []) cx w hkn hl.1 (k_X11_sum hG hLq2 hKq2 y5) ⟨va_cnB 0 hts gX12_mean_X11_sum_n375 rfl rfl rfl (nwM cx (q := (RX12, 375, yX11_sum, "FlagAntsModel")) (List.mem_of_getElem? (i := 8) rfl)) (hts _ (List.mem_of_getElem? (i := 5) rfl)) (by decide +kernel) ⟨Nat.le_of_ble_eq_true rfl, Nat.le_of_ble_eq_true rfl⟩, hts _ (List.mem_of_getElem? (i := 4) rfl), hts _ (List.mem_of_getElem? (i := 6) rfl)⟩ hLq2 hKq2 (by decide) rfl rfl rfl (Nat.le_of_ble_eq_true rfl) dX12_mean_9 (fun H locs w => ?_)
  refine lv_i2d hx hb dX12_mean_12 ?_
  refine lv_ldc2d (v := 4661225614328463360) hx hb hown (hts (.constantDouble RX12 378 (4661225614328463360)) (List.mem_of_getElem? (i := 3) rfl)) dX12_mean_13 ?_
  obtain ⟨z6, h⟩ := x_ck h
  refine lv_ddiv hx hb dX12_mean_16 z6 ?_
  exact r_dret cx w h dX12_mean_17
