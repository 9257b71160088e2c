-- X0_beginPath
theorem wi_X0_beginPath_X0 : ∀ w ∈ wsX00, w ∈ wsX0_beginPath := by decide +kernel
abbrev rmX0_beginPath : Room := { frames := 0, cells := 0, slots := 0, locals := 0 }
def m_X0_beginPath (G : gS) (M : mS) (a0 : Nat) : Option (mS × Unit) := o_wI M a0 6 (0 : Int32) (fun M1 => o_wI M1 a0 7 (0 : Int32) (fun M2 => some (M2, ())))
set_option maxHeartbeats 4000000 in
set_option maxRecDepth 100000 in
theorem k_X0_beginPath {l : Launch} {D : va_G} {cy : cyS} {G : gS} {M M' : mS} {a0 : Nat} (hG : wt G) (hL0 : a0 ∈ gL G) (hK0 : gK G a0 = 0) (h : m_X0_beginPath G M a0 = some (M', ())) : ctV l yX0_beginPath wsX0_beginPath rmX0_beginPath D cy G M [.ref a0] M' := by
  unfold m_X0_beginPath at h
  refine ctV_of (cc := cX0_beginPath) (nL := 1) (ret := none) (lv := [(0, .ref a0)]) hG (by decide) rfl ⟨rfl, rfl⟩ (Nat.le_of_ble_eq_true rfl) rfl ?_
  intro p e s m args below meth c A ls cx w hl
  obtain ⟨hx, hb, hml, hown, hts, hr, hlocks, hK, hA, -, hsx⟩ := id cx
  have hkn : 0 ≤ (rmX0_beginPath).cells ∧ 0 ≤ (rmX0_beginPath).slots := ⟨Nat.zero_le _, Nat.zero_le _⟩
  refine lv_aload_n hx hb dX0_beginPath_0 rfl (lv_at hl 0 rfl) ?_
  refine lv_iconst (v := (0 : Int32)) hx hb dX0_beginPath_1 (by decide) ?_
  obtain ⟨M1, eM1, h⟩ := x_wI h
  refine r_putI (k := 6) (ty := .int) cx w tyX0 tyX0_ok nmX0 hL0 hK0 (by decide) rfl wi_X0_beginPath_X0 (by decide) rfl rfl rfl rfl st_0_6 (ln_0 _ _ (by decide)) (List.mem_of_getElem? (i := 1) rfl) dX0_beginPath_2 eM1 (fun H locs w => ?_)
  refine lv_aload_n hx hb dX0_beginPath_5 rfl (lv_at hl 0 rfl) ?_
  refine lv_iconst (v := (0 : Int32)) hx hb dX0_beginPath_6 (by decide) ?_
  obtain ⟨M2, eM2, h⟩ := x_wI h
  refine r_putI (k := 7) (ty := .int) cx w tyX0 tyX0_ok nmX0 hL0 hK0 (by decide) rfl wi_X0_beginPath_X0 (by decide) rfl rfl rfl rfl st_0_7 (ln_0 _ _ (by decide)) (List.mem_of_getElem? (i := 2) rfl) dX0_beginPath_7 eM2 (fun H locs w => ?_)
  exact r_vret cx w h dX0_beginPath_10
-- X0_turnTo
theorem wi_X0_turnTo_X0 : ∀ w ∈ wsX00, w ∈ wsX0_turnTo := by decide +kernel
abbrev rmX0_turnTo : Room := { frames := 1, cells := 0, slots := 0, locals := 20 }
def m_X0_turnTo (G : gS) (M : mS) (a0 : Nat) (c1 : Int32) : Option (mS × Unit) := o_wI M a0 3 c1 (fun M1 => o_cl (m_X0_beginPath G M1 a0) (fun M2 r3 => some (M2, ())))
set_option maxHeartbeats 4000000 in
set_option maxRecDepth 100000 in
theorem k_X0_turnTo {l : Launch} {D : va_G} {cy : cyS} {G : gS} {M M' : mS} {a0 : Nat} {c1 : Int32} (hG : wt G) (hL0 : a0 ∈ gL G) (hK0 : gK G a0 = 0) (h : m_X0_turnTo G M a0 c1 = some (M', ())) : ctV l yX0_turnTo wsX0_turnTo rmX0_turnTo D cy G M [.ref a0, .int c1] M' := by
  unfold m_X0_turnTo at h
  refine ctV_of (cc := cX0_turnTo) (nL := 2) (ret := none) (lv := [(0, .ref a0), (1, .int c1)]) hG (by decide) rfl ⟨rfl, rfl⟩ (Nat.le_of_ble_eq_true rfl) rfl ?_
  intro p e s m args below meth c A ls cx w hl
  obtain ⟨hx, hb, hml, hown, hts, hr, hlocks, hK, hA, -, hsx⟩ := id cx
  have hkn : 0 ≤ (rmX0_turnTo).cells ∧ 0 ≤ (rmX0_turnTo).slots := ⟨Nat.zero_le _, Nat.zero_le _⟩
  refine lv_aload_n hx hb dX0_turnTo_0 rfl (lv_at hl 0 rfl) ?_
  refine lv_iload_n hx hb dX0_turnTo_1 rfl (lv_at hl 1 rfl) ?_
  obtain ⟨M1, eM1, h⟩ := x_wI h
  refine r_putI (k := 3) (ty := .int) cx w tyX0 tyX0_ok nmX0 hL0 hK0 (by decide) rfl wi_X0_turnTo_X0 (by decide) rfl rfl rfl rfl st_0_3 (ln_0 _ _ (by decide)) (List.mem_of_getElem? (i := 1) rfl) dX0_turnTo_2 eM1 (fun H locs w => ?_)
  refine lv_aload_n hx hb dX0_turnTo_5 rfl (lv_at hl 0 rfl) ?_
  obtain ⟨M2, r3, y4, h⟩ := x_cl h
  refine r_callVv (As := []) (rest := []) cx w hkn hl.1 (k_X0_beginPath hG hL0 hK0 y4) (cwV 0 hts gX0_turnTo_X0_beginPath rfl rfl rfl (by decide +kernel) ⟨Nat.le_of_ble_eq_true rfl, Nat.le_of_ble_eq_true rfl⟩) hL0 hK0 (by decide) rfl rfl rfl (Nat.le_of_ble_eq_true rfl) dX0_turnTo_6 (fun H locs w => ?_)
  exact r_vret cx w h dX0_turnTo_9
-- X0_stoneUnder
theorem wi_X0_stoneUnder_X0 : ∀ w ∈ wsX00, w ∈ wsX0_stoneUnder := by decide +kernel
abbrev rmX0_stoneUnder : Room := { frames := 0, cells := 0, slots := 0, locals := 0 }
def m_X0_stoneUnder (G : gS) (M : mS) (a0 : Nat) : Option (mS × Int32) := some (M, (((mI M a0 2) * (64 : Int32)) + (mI M a0 1)))
set_option maxHeartbeats 4000000 in
set_option maxRecDepth 100000 in
theorem k_X0_stoneUnder {l : Launch} {D : va_G} {cy : cyS} {G : gS} {M M' : mS} {r : Int32} {a0 : Nat} (hG : wt G) (hL0 : a0 ∈ gL G) (hK0 : gK G a0 = 0) (h : m_X0_stoneUnder G M a0 = some (M', r)) : ctI l yX0_stoneUnder wsX0_stoneUnder rmX0_stoneUnder D cy G M [.ref a0] M' r := by
  unfold m_X0_stoneUnder at h
  refine ctI_of (cc := cX0_stoneUnder) (nL := 1) (ret := (some .int)) (lv := [(0, .ref a0)]) hG (by decide) rfl ⟨rfl, rfl⟩ (Nat.le_of_ble_eq_true rfl) rfl ?_
  intro p e s m args below meth c A ls cx w hl
  obtain ⟨hx, hb, hml, hown, hts, hr, hlocks, hK, hA, -, hsx⟩ := id cx
  have hkn : 0 ≤ (rmX0_stoneUnder).cells ∧ 0 ≤ (rmX0_stoneUnder).slots := ⟨Nat.zero_le _, Nat.zero_le _⟩
  refine lv_aload_n hx hb dX0_stoneUnder_0 rfl (lv_at hl 0 rfl) ?_
  refine r_getI (k := 2) (v := .int (mI M a0 2)) cx w hL0 hK0 (by decide) rfl wi_X0_stoneUnder_X0 (by decide) rfl (List.mem_of_getElem? (i := 1) rfl) dX0_stoneUnder_1 ?_
  refine lv_bipush (v := (64 : Int32)) hx hb dX0_stoneUnder_4 (by decide) ?_
  refine lv_imul hx hb dX0_stoneUnder_6 ?_
  refine lv_aload_n hx hb dX0_stoneUnder_7 rfl (lv_at hl 0 rfl) ?_
  refine r_getI (k := 1) (v := .int (mI M a0 1)) cx w hL0 hK0 (by decide) rfl wi_X0_stoneUnder_X0 (by decide) rfl (List.mem_of_getElem? (i := 2) rfl) dX0_stoneUnder_8 ?_
  refine lv_iadd hx hb dX0_stoneUnder_11 ?_
  exact r_iret cx w h dX0_stoneUnder_12
-- X0_moveTo
theorem wi_X0_moveTo_X0 : ∀ w ∈ wsX00, w ∈ wsX0_moveTo := by decide +kernel
abbrev rmX0_moveTo : Room := { frames := 1, cells := 0, slots := 0, locals := 20 }
def m_X0_moveTo (G : gS) (M : mS) (a0 : Nat) (c1 : Int32) (c2 : Int32) : Option (mS × Unit) := o_wI M a0 1 c1 (fun M1 => o_wI M1 a0 2 c2 (fun M2 => o_cl (m_X0_beginPath G M2 a0) (fun M3 r4 => some (M3, ()))))
set_option maxHeartbeats 4000000 in
set_option maxRecDepth 100000 in
theorem k_X0_moveTo {l : Launch} {D : va_G} {cy : cyS} {G : gS} {M M' : mS} {a0 : Nat} {c1 : Int32} {c2 : Int32} (hG : wt G) (hL0 : a0 ∈ gL G) (hK0 : gK G a0 = 0) (h : m_X0_moveTo G M a0 c1 c2 = some (M', ())) : ctV l yX0_moveTo wsX0_moveTo rmX0_moveTo D cy G M [.ref a0, .int c1, .int c2] M' := by
  unfold m_X0_moveTo at h
  refine ctV_of (cc := cX0_moveTo) (nL := 3) (ret := none) (lv := [(0, .ref a0), (1, .int c1), (2, .int c2)]) hG (by decide) rfl ⟨rfl, rfl⟩ (Nat.le_of_ble_eq_true rfl) rfl ?_
  intro p e s m args below meth c A ls cx w hl
  obtain ⟨hx, hb, hml, hown, hts, hr, hlocks, hK, hA, -, hsx⟩ := id cx
  have hkn : 0 ≤ (rmX0_moveTo).cells ∧ 0 ≤ (rmX0_moveTo).slots := ⟨Nat.zero_le _, Nat.zero_le _⟩
  refine lv_aload_n hx hb dX0_moveTo_0 rfl (lv_at hl 0 rfl) ?_
  refine lv_iload_n hx hb dX0_moveTo_1 rfl (lv_at hl 1 rfl) ?_
  obtain ⟨M1, eM1, h⟩ := x_wI h
  refine r_putI (k := 1) (ty := .int) cx w tyX0 tyX0_ok nmX0 hL0 hK0 (by decide) rfl wi_X0_moveTo_X0 (by decide) rfl rfl rfl rfl st_0_1 (ln_0 _ _ (by decide)) (List.mem_of_getElem? (i := 1) rfl) dX0_moveTo_2 eM1 (fun H locs w => ?_)
  refine lv_aload_n hx hb dX0_moveTo_5 rfl (lv_at hl 0 rfl) ?_
  refine lv_iload_n hx hb dX0_moveTo_6 rfl (lv_at hl 2 rfl) ?_
  obtain ⟨M2, eM2, h⟩ := x_wI h
  refine r_putI (k := 2) (ty := .int) cx w tyX0 tyX0_ok nmX0 hL0 hK0 (by decide) rfl wi_X0_moveTo_X0 (by decide) rfl rfl rfl rfl st_0_2 (ln_0 _ _ (by decide)) (List.mem_of_getElem? (i := 2) rfl) dX0_moveTo_7 eM2 (fun H locs w => ?_)
  refine lv_aload_n hx hb dX0_moveTo_10 rfl (lv_at hl 0 rfl) ?_
  obtain ⟨M3, r4, y5, h⟩ := x_cl h
  refine r_callVv (As := []) (rest := []) cx w hkn hl.1 (k_X0_beginPath hG hL0 hK0 y5) (cwV 0 hts gX0_moveTo_X0_beginPath rfl rfl rfl (by decide +kernel) ⟨Nat.le_of_ble_eq_true rfl, Nat.le_of_ble_eq_true rfl⟩) hL0 hK0 (by decide) rfl rfl rfl (Nat.le_of_ble_eq_true rfl) dX0_moveTo_11 (fun H locs w => ?_)
  exact r_vret cx w h dX0_moveTo_14
-- X0_sideOfStep
theorem wi_X0_sideOfStep_X0 : ∀ w ∈ wsX00, w ∈ wsX0_sideOfStep := by decide +kernel
abbrev rmX0_sideOfStep : Room := { frames := 0, cells := 0, slots := 0, locals := 0 }
def m_X0_sideOfStep (G : gS) (M : mS) (a0 : Nat) (c1 : Int32) : Option (mS × Int32) := o_rf (gP G a0 8) (fun q1 => o_ix (((mI M a0 6) - c1) &&& (511 : Int32)) (gN G q1) (some (M, ((mI M q1 (Int32.toNatClampNeg (((mI M a0 6) - c1) &&& (511 : Int32)))) &&& (3 : Int32)))))
set_option maxHeartbeats 4000000 in
set_option maxRecDepth 100000 in
theorem k_X0_sideOfStep {l : Launch} {D : va_G} {cy : cyS} {G : gS} {M M' : mS} {r : Int32} {a0 : Nat} {c1 : Int32} (hG : wt G) (hL0 : a0 ∈ gL G) (hK0 : gK G a0 = 0) (h : m_X0_sideOfStep G M a0 c1 = some (M', r)) : ctI l yX0_sideOfStep wsX0_sideOfStep rmX0_sideOfStep D cy G M [.ref a0, .int c1] M' r := by
  unfold m_X0_sideOfStep at h
  refine ctI_of (cc := cX0_sideOfStep) (nL := 2) (ret := (some .int)) (lv := [(0, .ref a0), (1, .int c1)]) hG (by decide) rfl ⟨rfl, rfl⟩ (Nat.le_of_ble_eq_true rfl) rfl ?_
  intro p e s m args below meth c A ls cx w hl
  obtain ⟨hx, hb, hml, hown, hts, hr, hlocks, hK, hA, -, hsx⟩ := id cx
  have hkn : 0 ≤ (rmX0_sideOfStep).cells ∧ 0 ≤ (rmX0_sideOfStep).slots := ⟨Nat.zero_le _, Nat.zero_le _⟩
  refine lv_aload_n hx hb dX0_sideOfStep_0 rfl (lv_at hl 0 rfl) ?_
  obtain ⟨q1, eq1, h⟩ := x_rf h
  obtain ⟨hLq1, hKq1⟩ := wt_q hG hL0 hK0 eq1
  have hKq1 : gK G q1 = 12 := hKq1
  refine r_getR (k := 8) cx w hL0 hK0 (by decide) rfl wi_X0_sideOfStep_X0 (by decide) rfl eq1 (List.mem_of_getElem? (i := 1) rfl) dX0_sideOfStep_1 ?_
  refine lv_aload_n hx hb dX0_sideOfStep_4 rfl (lv_at hl 0 rfl) ?_
  refine r_getI (k := 6) (v := .int (mI M a0 6)) cx w hL0 hK0 (by decide) rfl wi_X0_sideOfStep_X0 (by decide) rfl (List.mem_of_getElem? (i := 2) rfl) dX0_sideOfStep_5 ?_
  refine lv_iload_n hx hb dX0_sideOfStep_8 rfl (lv_at hl 1 rfl) ?_
  refine lv_isub hx hb dX0_sideOfStep_9 ?_
  refine lv_sipush (v := (511 : Int32)) hx hb dX0_sideOfStep_10 (by decide) ?_
  refine lv_iand hx hb dX0_sideOfStep_13 ?_
  obtain ⟨z2, h⟩ := x_ix h
  refine r_iald cx w hLq1 hKq1 z2 dX0_sideOfStep_14 ?_
  refine lv_iconst (v := (3 : Int32)) hx hb dX0_sideOfStep_15 (by decide) ?_
  refine lv_iand hx hb dX0_sideOfStep_16 ?_
  exact r_iret cx w h dX0_sideOfStep_17
-- X0_repeats
theorem wi_X0_repeats_X0 : ∀ w ∈ wsX00, w ∈ wsX0_repeats := by decide +kernel
abbrev rmX0_repeats : Room := { frames := 0, cells := 0, slots := 0, locals := 0 }
def m_X0_repeats_9 (G : gS) (a0 : Nat) (c1 : Int32)  : Nat → mS → Int32 → Int32 → Option (mS × Int32)
  | 0, _, _, _ => none
  | n + 1, M, v2, v3 => (if ((2 : Int32) * c1) < v3 then o_ck ((1 : Int32) = 0 ∨ (1 : Int32) = 1) (some (M, (1 : Int32))) else o_rf (gP G a0 8) (fun q3 => o_ix (((mI M a0 6) - v3) &&& (511 : Int32)) (gN G q3) (o_rf (gP G a0 8) (fun q5 => o_ix ((v2 - v3) &&& (511 : Int32)) (gN G q5) ((if (mI M q3 (Int32.toNatClampNeg (((mI M a0 6) - v3) &&& (511 : Int32)))) = (mI M q5 (Int32.toNatClampNeg ((v2 - v3) &&& (511 : Int32)))) then o_bd (v3 + 1 : Int32) (fun x8 => m_X0_repeats_9 G a0 c1 n M v2 x8) else o_ck ((0 : Int32) = 0 ∨ (0 : Int32) = 1) (some (M, (0 : Int32)))))))))
def m_X0_repeats (G : gS) (M : mS) (a0 : Nat) (c1 : Int32) : Option (mS × Int32) := o_bd (((mI M a0 6) - c1)) (fun x1 => m_X0_repeats_9 G a0 c1 fu M x1 ((1 : Int32)))
set_option maxHeartbeats 4000000 in
set_option maxRecDepth 100000 in
theorem b_X0_repeats_9 {p : Program} {e : Env} {s : State} {m : MethodId} {args : Array Value} {below : List Frame} {meth : Method} {c : Code} {A : Nat → Prop} {l : Launch} {D : va_G} {cy : cyS} {G : gS} (cx : cX p s m args meth c cX0_repeats RX0 4 (some .boolean) wsX0_repeats D cy G A) {k0 n0 : Nat} (hkn : k0 ≤ (rmX0_repeats).cells ∧ n0 ≤ (rmX0_repeats).slots) {M' : mS} {r : Int32} {a0 : Nat} {c1 : Int32} (hL0 : a0 ∈ gL G) (hK0 : gK G a0 = 0)  : ∀ (n : Nat), ∀ (M : mS) (v2 : Int32) (v3 : Int32) (H : Heap) (locs : List Loc) (ls : Array Slot), m_X0_repeats_9 G a0 c1 n M v2 v3 = some (M', r) → wd D cy G M A s.heap H locs → lv_has ls 4 [(0, .ref a0), (1, .int c1), (2, .int v2), (3, .int v3)] → W p l e rmX0_repeats s m args below meth c H locs k0 n0 (MQ below (va_Qi (fun (r' : Int32) (_ : Unit) => r' = r) (fun _ t => wOut D cy G M' t) A) args s k0 n0 A) (F0 m 9 ls []) := by
  obtain ⟨hx, hb, hml, hown, hts, hr, hlocks, hK, hA, hG, hsx⟩ := id cx
  intro n
  induction n with
  | zero =>
    intro M v2 v3 H locs ls h w hl
    have h : none = some _ := h
    cases h
  | succ n ih =>
    intro M v2 v3 H locs ls h w hl
    rw [m_X0_repeats_9] at h
    refine lv_iload_n hx hb dX0_repeats_9 rfl (lv_at hl 3 rfl) ?_
    refine lv_iconst (v := (2 : Int32)) hx hb dX0_repeats_10 (by decide) ?_
    refine lv_iload_n hx hb dX0_repeats_11 rfl (lv_at hl 1 rfl) ?_
    refine lv_imul hx hb dX0_repeats_12 ?_
    refine lv_icmp_gt (tgt := 54) hx hb dX0_repeats_13 (by decide) (fun k1 => ?_) (fun k1 => ?_)
    · have h := x_t h k1
      refine lv_iconst (v := (1 : Int32)) hx hb dX0_repeats_54 (by decide) ?_
      obtain ⟨z2, h⟩ := x_ck h
      exact r_zret cx w z2 h dX0_repeats_55
    · have h := x_f h k1
      refine lv_aload_n hx hb dX0_repeats_16 rfl (lv_at hl 0 rfl) ?_
      obtain ⟨q3, eq3, h⟩ := x_rf h
      obtain ⟨hLq3, hKq3⟩ := wt_q hG hL0 hK0 eq3
      have hKq3 : gK G q3 = 12 := hKq3
      refine r_getR (k := 8) cx w hL0 hK0 (by decide) rfl wi_X0_repeats_X0 (by decide) rfl eq3 (List.mem_of_getElem? (i := 2) rfl) dX0_repeats_17 ?_
      refine lv_aload_n hx hb dX0_repeats_20 rfl (lv_at hl 0 rfl) ?_
      refine r_getI (k := 6) (v := .int (mI M a0 6)) cx w hL0 hK0 (by decide) rfl wi_X0_repeats_X0 (by decide) rfl (List.mem_of_getElem? (i := 1) rfl) dX0_repeats_21 ?_
      refine lv_iload_n hx hb dX0_repeats_24 rfl (lv_at hl 3 rfl) ?_
      refine lv_isub hx hb dX0_repeats_25 ?_
      refine lv_sipush (v := (511 : Int32)) hx hb dX0_repeats_26 (by decide) ?_
      refine lv_iand hx hb dX0_repeats_29 ?_
      obtain ⟨z4, h⟩ := x_ix h
      refine r_iald cx w hLq3 hKq3 z4 dX0_repeats_30 ?_
      refine lv_aload_n hx hb dX0_repeats_31 rfl (lv_at hl 0 rfl) ?_
      obtain ⟨q5, eq5, h⟩ := x_rf h
      obtain ⟨hLq5, hKq5⟩ := wt_q hG hL0 hK0 eq5
      have hKq5 : gK G q5 = 12 := hKq5
      refine r_getR (k := 8) cx w hL0 hK0 (by decide) rfl wi_X0_repeats_X0 (by decide) rfl eq5 (List.mem_of_getElem? (i := 2) rfl) dX0_repeats_32 ?_
      refine lv_iload_n hx hb dX0_repeats_35 rfl (lv_at hl 2 rfl) ?_
      refine lv_iload_n hx hb dX0_repeats_36 rfl (lv_at hl 3 rfl) ?_
      refine lv_isub hx hb dX0_repeats_37 ?_
      refine lv_sipush (v := (511 : Int32)) hx hb dX0_repeats_38 (by decide) ?_
      refine lv_iand hx hb dX0_repeats_41 ?_
      obtain ⟨z6, h⟩ := x_ix h
      refine r_iald cx w hLq5 hKq5 z6 dX0_repeats_42 ?_
      refine lv_icmp_eq (tgt := 48) hx hb dX0_repeats_43 (by decide) (fun k7 => ?_) (fun k7 => ?_)
      · have h := x_t h k7
        obtain ⟨x8, ex8, h⟩ := x_bd h
        refine lv_iinc (v := x8) (lv' := [(3, .int x8), (0, .ref a0), (1, .int c1), (2, .int v2)]) hx hb dX0_repeats_48 hl (k := 3) rfl (by rw [ex8]; rfl) (by decide) rfl (fun ls hl => ?_)
        refine lv_goto (tgt := 9) hx hb dX0_repeats_51 (by decide) ?_
        exact ih M v2 x8 H locs ls h w (lv_sub hl [1, 2, 3, 0] rfl)
      · have h := x_f h k7
        refine lv_iconst (v := (0 : Int32)) hx hb dX0_repeats_46 (by decide) ?_
        obtain ⟨z9, h⟩ := x_ck h
        exact r_zret cx w z9 h dX0_repeats_47
set_option maxHeartbeats 4000000 in
set_option maxRecDepth 100000 in
theorem k_X0_repeats {l : Launch} {D : va_G} {cy : cyS} {G : gS} {M M' : mS} {r : Int32} {a0 : Nat} {c1 : Int32} (hG : wt G) (hL0 : a0 ∈ gL G) (hK0 : gK G a0 = 0) (h : m_X0_repeats G M a0 c1 = some (M', r)) : ctI l yX0_repeats wsX0_repeats rmX0_repeats D cy G M [.ref a0, .int c1] M' r := by
  unfold m_X0_repeats at h
  refine ctI_of (cc := cX0_repeats) (nL := 4) (ret := (some .boolean)) (lv := [(0, .ref a0), (1, .int c1)]) hG (by decide) rfl ⟨rfl, rfl⟩ (Nat.le_of_ble_eq_true rfl) rfl ?_
  intro p e s m args below meth c A ls cx w hl
  obtain ⟨hx, hb, hml, hown, hts, hr, hlocks, hK, hA, -, hsx⟩ := id cx
  have hkn : 0 ≤ (rmX0_repeats).cells ∧ 0 ≤ (rmX0_repeats).slots := ⟨Nat.zero_le _, Nat.zero_le _⟩
  refine lv_aload_n hx hb dX0_repeats_0 rfl (lv_at hl 0 rfl) ?_
  refine r_getI (k := 6) (v := .int (mI M a0 6)) cx w hL0 hK0 (by decide) rfl wi_X0_repeats_X0 (by decide) rfl (List.mem_of_getElem? (i := 1) rfl) dX0_repeats_1 ?_
  refine lv_iload_n hx hb dX0_repeats_4 rfl (lv_at hl 1 rfl) ?_
  refine lv_isub hx hb dX0_repeats_5 ?_
  obtain ⟨x1, ex1, h⟩ := x_bd h
  refine r_topI ex1 ?_
  refine lv_istore_n (lv' := [(2, .int x1), (0, .ref a0), (1, .int c1)]) hx hb dX0_repeats_6 rfl hl (by decide) rfl (fun ls hl => ?_)
  refine lv_iconst (v := (1 : Int32)) hx hb dX0_repeats_7 (by decide) ?_
  refine lv_istore_n (lv' := [(3, .int ((1 : Int32))), (2, .int x1), (0, .ref a0), (1, .int c1)]) hx hb dX0_repeats_8 rfl hl (by decide) rfl (fun ls hl => ?_)
  exact b_X0_repeats_9 cx hkn hL0 hK0 fu M x1 ((1 : Int32)) s.heap [] ls h w (lv_sub hl [2, 3, 1, 0] rfl)
-- X0_period
theorem wi_X0_period_X0 : ∀ w ∈ wsX00, w ∈ wsX0_period := by decide +kernel
abbrev rmX0_period : Room := { frames := 1, cells := 0, slots := 0, locals := 23 }
def m_X0_period_99 (G : gS) (a0 : Nat)  (M : mS)  : Option (mS × Int32) := some (M, (mI M a0 7))
def m_X0_period_93 (G : gS) (a0 : Nat) (kb24 : mS → Int32 → Int32 → Int32 → Option (mS × Int32)) (M : mS) (v1 : Int32) (v2 : Int32) (v3 : Int32) : Option (mS × Int32) := o_bd (v3 + 1 : Int32) (fun x1 => kb24 M v1 v2 x1)
def m_X0_period_80 (G : gS) (a0 : Nat) (kb24 : mS → Int32 → Int32 → Int32 → Option (mS × Int32)) (M : mS) (v1 : Int32) (v2 : Int32) (v3 : Int32) : Option (mS × Int32) := o_cl (m_X0_repeats G M a0 v3) (fun M1 r2 => (if r2 = 0 then m_X0_period_93 G a0 kb24 M1 v1 v2 v3 else o_wI M1 a0 7 v3 (fun M5 => m_X0_period_93 G a0 kb24 M5 v1 v2 v3)))
def m_X0_period_24 (G : gS) (a0 : Nat)  : Nat → mS → Int32 → Int32 → Int32 → Option (mS × Int32)
  | 0, _, _, _, _ => none
  | n + 1, M, v1, v2, v3 => (if (120 : Int32) < v3 then m_X0_period_99 G a0 M else (if (mI M a0 6) < ((3 : Int32) * v3) then m_X0_period_99 G a0 M else (if (mI M a0 7) = 0 then o_cl (m_X0_sideOfStep G M a0 v3) (fun M4 r5 => o_ix r5 4 (o_bd ((v1 + (f_E (Int32.toNatClampNeg r5)))) (fun x9 => o_ix r5 4 (o_bd ((v2 + (f_S (Int32.toNatClampNeg r5)))) (fun x12 => (if x9 = 0 then (if x12 = 0 then m_X0_period_93 G a0 (fun M v1 v2 v3 => m_X0_period_24 G a0 n M v1 v2 v3) M4 x9 x12 v3 else m_X0_period_80 G a0 (fun M v1 v2 v3 => m_X0_period_24 G a0 n M v1 v2 v3) M4 x9 x12 v3) else m_X0_period_80 G a0 (fun M v1 v2 v3 => m_X0_period_24 G a0 n M v1 v2 v3) M4 x9 x12 v3)))))) else m_X0_period_99 G a0 M)))
def m_X0_period (G : gS) (M : mS) (a0 : Nat) : Option (mS × Int32) := (if (mI M a0 7) = (-1 : Int32) then o_wI M a0 7 (0 : Int32) (fun M2 => m_X0_period_24 G a0 fu M2 ((0 : Int32)) ((0 : Int32)) ((1 : Int32))) else some (M, (mI M a0 7)))
set_option maxHeartbeats 4000000 in
set_option maxRecDepth 100000 in
theorem b_X0_period_99 {p : Program} {e : Env} {s : State} {m : MethodId} {args : Array Value} {below : List Frame} {meth : Method} {c : Code} {A : Nat → Prop} {l : Launch} {D : va_G} {cy : cyS} {G : gS} (cx : cX p s m args meth c cX0_period RX0 5 (some .int) wsX0_period D cy G A) {k0 n0 : Nat} (hkn : k0 ≤ (rmX0_period).cells ∧ n0 ≤ (rmX0_period).slots) {M' : mS} {r : Int32} {a0 : Nat} (hL0 : a0 ∈ gL G) (hK0 : gK G a0 = 0)  : ∀ (M : mS) (H : Heap) (locs : List Loc) (ls : Array Slot), m_X0_period_99 G a0 M = some (M', r) → wd D cy G M A s.heap H locs → lv_has ls 5 [(0, .ref a0)] → W p l e rmX0_period s m args below meth c H locs k0 n0 (MQ below (va_Qi (fun (r' : Int32) (_ : Unit) => r' = r) (fun _ t => wOut D cy G M' t) A) args s k0 n0 A) (F0 m 99 ls []) := by
  obtain ⟨hx, hb, hml, hown, hts, hr, hlocks, hK, hA, hG, hsx⟩ := id cx
  intro M H locs ls h w hl
  unfold m_X0_period_99 at h
  refine lv_aload_n hx hb dX0_period_99 rfl (lv_at hl 0 rfl) ?_
  refine r_getI (k := 7) (v := .int (mI M a0 7)) cx w hL0 hK0 (by decide) rfl wi_X0_period_X0 (by decide) rfl (List.mem_of_getElem? (i := 1) rfl) dX0_period_100 ?_
  exact r_iret cx w h dX0_period_103
set_option maxHeartbeats 4000000 in
set_option maxRecDepth 100000 in
theorem b_X0_period_93 {p : Program} {e : Env} {s : State} {m : MethodId} {args : Array Value} {below : List Frame} {meth : Method} {c : Code} {A : Nat → Prop} {l : Launch} {D : va_G} {cy : cyS} {G : gS} (cx : cX p s m args meth c cX0_period RX0 5 (some .int) wsX0_period D cy G A) {k0 n0 : Nat} (hkn : k0 ≤ (rmX0_period).cells ∧ n0 ≤ (rmX0_period).slots) {M' : mS} {r : Int32} {a0 : Nat} (hL0 : a0 ∈ gL G) (hK0 : gK G a0 = 0) {kb24 : mS → Int32 → Int32 → Int32 → Option (mS × Int32)} (hkb24 : ∀ (M : mS) (v1 : Int32) (v2 : Int32) (v3 : Int32) (H : Heap) (locs : List Loc) (ls : Array Slot), kb24 M v1 v2 v3 = some (M', r) → wd D cy G M A s.heap H locs → lv_has ls 5 [(0, .ref a0), (1, .int v1), (2, .int v2), (3, .int v3)] → W p l e rmX0_period s m args below meth c H locs k0 n0 (MQ below (va_Qi (fun (r' : Int32) (_ : Unit) => r' = r) (fun _ t => wOut D cy G M' t) A) args s k0 n0 A) (F0 m 24 ls [])) : ∀ (M : mS) (v1 : Int32) (v2 : Int32) (v3 : Int32) (H : Heap) (locs : List Loc) (ls : Array Slot), m_X0_period_93 G a0 kb24 M v1 v2 v3 = some (M', r) → wd D cy G M A s.heap H locs → lv_has ls 5 [(0, .ref a0), (1, .int v1), (2, .int v2), (3, .int v3)] → W p l e rmX0_period s m args below meth c H locs k0 n0 (MQ below (va_Qi (fun (r' : Int32) (_ : Unit) => r' = r) (fun _ t => wOut D cy G M' t) A) args s k0 n0 A) (F0 m 93 ls []) := by
  obtain ⟨hx, hb, hml, hown, hts, hr, hlocks, hK, hA, hG, hsx⟩ := id cx
  intro M v1 v2 v3 H locs ls h w hl
  unfold m_X0_period_93 at h
  obtain ⟨x1, ex1, h⟩ := x_bd h
  refine lv_iinc (v := x1) (lv' := [(3, .int x1), (0, .ref a0), (1, .int v1), (2, .int v2)]) hx hb dX0_period_93 hl (k := 3) rfl (by rw [ex1]; rfl) (by decide) rfl (fun ls hl => ?_)
  refine lv_goto (tgt := 24) hx hb dX0_period_96 (by decide) ?_
  exact hkb24 M v1 v2 x1 H locs ls h w (lv_sub hl [1, 2, 3, 0] rfl)
set_option maxHeartbeats 4000000 in
set_option maxRecDepth 100000 in
theorem b_X0_period_80 {p : Program} {e : Env} {s : State} {m : MethodId} {args : Array Value} {below : List Frame} {meth : Method} {c : Code} {A : Nat → Prop} {l : Launch} {D : va_G} {cy : cyS} {G : gS} (cx : cX p s m args meth c cX0_period RX0 5 (some .int) wsX0_period D cy G A) {k0 n0 : Nat} (hkn : k0 ≤ (rmX0_period).cells ∧ n0 ≤ (rmX0_period).slots) {M' : mS} {r : Int32} {a0 : Nat} (hL0 : a0 ∈ gL G) (hK0 : gK G a0 = 0) {kb24 : mS → Int32 → Int32 → Int32 → Option (mS × Int32)} (hkb24 : ∀ (M : mS) (v1 : Int32) (v2 : Int32) (v3 : Int32) (H : Heap) (locs : List Loc) (ls : Array Slot), kb24 M v1 v2 v3 = some (M', r) → wd D cy G M A s.heap H locs → lv_has ls 5 [(0, .ref a0), (1, .int v1), (2, .int v2), (3, .int v3)] → W p l e rmX0_period s m args below meth c H locs k0 n0 (MQ below (va_Qi (fun (r' : Int32) (_ : Unit) => r' = r) (fun _ t => wOut D cy G M' t) A) args s k0 n0 A) (F0 m 24 ls [])) : ∀ (M : mS) (v1 : Int32) (v2 : Int32) (v3 : Int32) (H : Heap) (locs : List Loc) (ls : Array Slot), m_X0_period_80 G a0 kb24 M v1 v2 v3 = some (M', r) → wd D cy G M A s.heap H locs → lv_has ls 5 [(0, .ref a0), (1, .int v1), (2, .int v2), (3, .int v3)] → W p l e rmX0_period s m args below meth c H locs k0 n0 (MQ below (va_Qi (fun (r' : Int32) (_ : Unit) => r' = r) (fun _ t => wOut D cy G M' t) A) args s k0 n0 A) (F0 m 80 ls []) := by
  obtain ⟨hx, hb, hml, hown, hts, hr, hlocks, hK, hA, hG, hsx⟩ := id cx
  intro M v1 v2 v3 H locs ls h w hl
  unfold m_X0_period_80 at h
  refine lv_aload_n hx hb dX0_period_80 rfl (lv_at hl 0 rfl) ?_
  refine lv_iload_n hx hb dX0_period_81 rfl (lv_at hl 3 rfl) ?_
  obtain ⟨M1, r2, y3, h⟩ := x_cl h
  refine r_callVi (As := [.int v3]) (rest := []) cx w hkn hl.1 (k_X0_repeats hG hL0 hK0 y3) (cwV 1 hts gX0_period_X0_repeats rfl rfl rfl (by decide +kernel) ⟨Nat.le_of_ble_eq_true rfl, Nat.le_of_ble_eq_true rfl⟩) hL0 hK0 (by decide) rfl rfl rfl (Nat.le_of_ble_eq_true rfl) dX0_period_82 (fun H locs w => ?_)
  refine lv_if_eq (tgt := 93) hx hb dX0_period_85 (by decide) (fun k4 => ?_) (fun k4 => ?_)
  · have h := x_t h k4
    exact b_X0_period_93 cx hkn hL0 hK0 (hkb24 := hkb24) M1 v1 v2 v3 H locs ls h w (lv_sub hl [0, 1, 2, 3] rfl)
  · have h := x_f h k4
    refine lv_aload_n hx hb dX0_period_88 rfl (lv_at hl 0 rfl) ?_
    refine lv_iload_n hx hb dX0_period_89 rfl (lv_at hl 3 rfl) ?_
    obtain ⟨M5, eM5, h⟩ := x_wI h
    refine r_putI (k := 7) (ty := .int) cx w tyX0 tyX0_ok nmX0 hL0 hK0 (by decide) rfl wi_X0_period_X0 (by decide) rfl rfl rfl rfl st_0_7 (ln_0 _ _ (by decide)) (List.mem_of_getElem? (i := 1) rfl) dX0_period_90 eM5 (fun H locs w => ?_)
    exact b_X0_period_93 cx hkn hL0 hK0 (hkb24 := hkb24) M5 v1 v2 v3 H locs ls h w (lv_sub hl [0, 1, 2, 3] rfl)
set_option maxHeartbeats 4000000 in
set_option maxRecDepth 100000 in
theorem b_X0_period_24 {p : Program} {e : Env} {s : State} {m : MethodId} {args : Array Value} {below : List Frame} {meth : Method} {c : Code} {A : Nat → Prop} {l : Launch} {D : va_G} {cy : cyS} {G : gS} (cx : cX p s m args meth c cX0_period RX0 5 (some .int) wsX0_period D cy G A) {k0 n0 : Nat} (hkn : k0 ≤ (rmX0_period).cells ∧ n0 ≤ (rmX0_period).slots) {M' : mS} {r : Int32} {a0 : Nat} (hL0 : a0 ∈ gL G) (hK0 : gK G a0 = 0)  : ∀ (n : Nat), ∀ (M : mS) (v1 : Int32) (v2 : Int32) (v3 : Int32) (H : Heap) (locs : List Loc) (ls : Array Slot), m_X0_period_24 G a0 n M v1 v2 v3 = some (M', r) → wd D cy G M A s.heap H locs → lv_has ls 5 [(0, .ref a0), (1, .int v1), (2, .int v2), (3, .int v3)] → W p l e rmX0_period s m args below meth c H locs k0 n0 (MQ below (va_Qi (fun (r' : Int32) (_ : Unit) => r' = r) (fun _ t => wOut D cy G M' t) A) args s k0 n0 A) (F0 m 24 ls []) := by
  obtain ⟨hx, hb, hml, hown, hts, hr, hlocks, hK, hA, hG, hsx⟩ := id cx
  intro n
  induction n with
  | zero =>
    intro M v1 v2 v3 H locs ls h w hl
    have h : none = some _ := h
    cases h
  | succ n ih =>
    intro M v1 v2 v3 H locs ls h w hl
    rw [m_X0_period_24] at h
    refine lv_iload_n hx hb dX0_period_24 rfl (lv_at hl 3 rfl) ?_
    refine lv_bipush (v := (120 : Int32)) hx hb dX0_period_25 (by decide) ?_
    refine lv_icmp_gt (tgt := 99) hx hb dX0_period_27 (by decide) (fun k1 => ?_) (fun k1 => ?_)
    · have h := x_t h k1
      exact b_X0_period_99 cx hkn hL0 hK0 M H locs ls h w (lv_sub hl [0] rfl)
    · have h := x_f h k1
      refine lv_iconst (v := (3 : Int32)) hx hb dX0_period_30 (by decide) ?_
      refine lv_iload_n hx hb dX0_period_31 rfl (lv_at hl 3 rfl) ?_
      refine lv_imul hx hb dX0_period_32 ?_
      refine lv_aload_n hx hb dX0_period_33 rfl (lv_at hl 0 rfl) ?_
      refine r_getI (k := 6) (v := .int (mI M a0 6)) cx w hL0 hK0 (by decide) rfl wi_X0_period_X0 (by decide) rfl (List.mem_of_getElem? (i := 2) rfl) dX0_period_34 ?_
      refine lv_icmp_gt (tgt := 99) hx hb dX0_period_37 (by decide) (fun k2 => ?_) (fun k2 => ?_)
      · have h := x_t h k2
        exact b_X0_period_99 cx hkn hL0 hK0 M H locs ls h w (lv_sub hl [0] rfl)
      · have h := x_f h k2
        refine lv_aload_n hx hb dX0_period_40 rfl (lv_at hl 0 rfl) ?_
        refine r_getI (k := 7) (v := .int (mI M a0 7)) cx w hL0 hK0 (by decide) rfl wi_X0_period_X0 (by decide) rfl (List.mem_of_getElem? (i := 1) rfl) dX0_period_41 ?_
        refine lv_if_ne (tgt := 99) hx hb dX0_period_44 (by decide) (fun k3 => ?_) (fun k3 => ?_)
        · have h := x_f h k3
          exact b_X0_period_99 cx hkn hL0 hK0 M H locs ls h w (lv_sub hl [0] rfl)
        · have h := x_t h k3
          refine lv_aload_n hx hb dX0_period_47 rfl (lv_at hl 0 rfl) ?_
          refine lv_iload_n hx hb dX0_period_48 rfl (lv_at hl 3 rfl) ?_
          obtain ⟨M4, r5, y6, h⟩ := x_cl h
          refine r_callVi (As := [.int v3]) (rest := []) cx w hkn hl.1 (k_X0_sideOfStep hG hL0 hK0 y6) (cwV 1 hts gX0_period_X0_sideOfStep rfl rfl rfl (by decide +kernel) ⟨Nat.le_of_ble_eq_true rfl, Nat.le_of_ble_eq_true rfl⟩) hL0 hK0 (by decide) rfl rfl rfl (Nat.le_of_ble_eq_true rfl) dX0_period_49 (fun H locs w => ?_)
          refine lv_istore (lv' := [(4, .int r5), (0, .ref a0), (1, .int v1), (2, .int v2), (3, .int v3)]) hx hb dX0_period_52 hl (by decide) rfl (fun ls hl => ?_)
          refine lv_iload_n hx hb dX0_period_54 rfl (lv_at hl 2 rfl) ?_
          refine r_gets cx w hsx.1 (List.mem_of_getElem? (i := 3) rfl) dX0_period_55 (fun b7 hb7 => ?_)
          refine lv_iload hx hb dX0_period_58 (lv_at hl 0 rfl) ?_
          obtain ⟨z8, h⟩ := x_ix h
          refine r_sld cx w hb7 z8 dX0_period_60 ?_
          refine lv_iadd hx hb dX0_period_61 ?_
          obtain ⟨x9, ex9, h⟩ := x_bd h
          refine r_topI ex9 ?_
          refine lv_istore_n (lv' := [(1, .int x9), (4, .int r5), (0, .ref a0), (2, .int v2), (3, .int v3)]) hx hb dX0_period_62 rfl hl (by decide) rfl (fun ls hl => ?_)
          refine lv_iload_n hx hb dX0_period_63 rfl (lv_at hl 3 rfl) ?_
          refine r_gets cx w hsx.2.1 (List.mem_of_getElem? (i := 4) rfl) dX0_period_64 (fun b10 hb10 => ?_)
          refine lv_iload hx hb dX0_period_67 (lv_at hl 1 rfl) ?_
          obtain ⟨z11, h⟩ := x_ix h
          refine r_sld cx w hb10 z11 dX0_period_69 ?_
          refine lv_iadd hx hb dX0_period_70 ?_
          obtain ⟨x12, ex12, h⟩ := x_bd h
          refine r_topI ex12 ?_
          refine lv_istore_n (lv' := [(2, .int x12), (1, .int x9), (4, .int r5), (0, .ref a0), (3, .int v3)]) hx hb dX0_period_71 rfl hl (by decide) rfl (fun ls hl => ?_)
          refine lv_iload_n hx hb dX0_period_72 rfl (lv_at hl 1 rfl) ?_
          refine lv_if_ne (tgt := 80) hx hb dX0_period_73 (by decide) (fun k13 => ?_) (fun k13 => ?_)
          · have h := x_f h k13
            exact b_X0_period_80 cx hkn hL0 hK0 (hkb24 := ih) M4 x9 x12 v3 H locs ls h w (lv_sub hl [3, 1, 0, 4] rfl)
          · have h := x_t h k13
            refine lv_iload_n hx hb dX0_period_76 rfl (lv_at hl 0 rfl) ?_
            refine lv_if_eq (tgt := 93) hx hb dX0_period_77 (by decide) (fun k14 => ?_) (fun k14 => ?_)
            · have h := x_t h k14
              exact b_X0_period_93 cx hkn hL0 hK0 (hkb24 := ih) M4 x9 x12 v3 H locs ls h w (lv_sub hl [3, 1, 0, 4] rfl)
            · have h := x_f h k14
              exact b_X0_period_80 cx hkn hL0 hK0 (hkb24 := ih) M4 x9 x12 v3 H locs ls h w (lv_sub hl [3, 1, 0, 4] rfl)
set_option maxHeartbeats 4000000 in
set_option maxRecDepth 100000 in
theorem k_X0_period {l : Launch} {D : va_G} {cy : cyS} {G : gS} {M M' : mS} {r : Int32} {a0 : Nat} (hG : wt G) (hL0 : a0 ∈ gL G) (hK0 : gK G a0 = 0) (h : m_X0_period G M a0 = some (M', r)) : ctI l yX0_period wsX0_period rmX0_period D cy G M [.ref a0] M' r := by
  unfold m_X0_period at h
  refine ctI_of (cc := cX0_period) (nL := 5) (ret := (some .int)) (lv := [(0, .ref a0)]) hG (by decide) rfl ⟨rfl, rfl⟩ (Nat.le_of_ble_eq_true rfl) rfl ?_
  intro p e s m args below meth c A ls cx w hl
  obtain ⟨hx, hb, hml, hown, hts, hr, hlocks, hK, hA, -, hsx⟩ := id cx
  have hkn : 0 ≤ (rmX0_period).cells ∧ 0 ≤ (rmX0_period).slots := ⟨Nat.zero_le _, Nat.zero_le _⟩
  refine lv_aload_n hx hb dX0_period_0 rfl (lv_at hl 0 rfl) ?_
  refine r_getI (k := 7) (v := .int (mI M a0 7)) cx w hL0 hK0 (by decide) rfl wi_X0_period_X0 (by decide) rfl (List.mem_of_getElem? (i := 1) rfl) dX0_period_1 ?_
  refine lv_iconst (v := (-1 : Int32)) hx hb dX0_period_4 (by decide) ?_
  refine lv_icmp_eq (tgt := 13) hx hb dX0_period_5 (by decide) (fun k1 => ?_) (fun k1 => ?_)
  · have h := x_t h k1
    refine lv_aload_n hx hb dX0_period_13 rfl (lv_at hl 0 rfl) ?_
    refine lv_iconst (v := (0 : Int32)) hx hb dX0_period_14 (by decide) ?_
    obtain ⟨M2, eM2, h⟩ := x_wI h
    refine r_putI (k := 7) (ty := .int) cx w tyX0 tyX0_ok nmX0 hL0 hK0 (by decide) rfl wi_X0_period_X0 (by decide) rfl rfl rfl rfl st_0_7 (ln_0 _ _ (by decide)) (List.mem_of_getElem? (i := 1) rfl) dX0_period_15 eM2 (fun H locs w => ?_)
    refine lv_iconst (v := (0 : Int32)) hx hb dX0_period_18 (by decide) ?_
    refine lv_istore_n (lv' := [(1, .int ((0 : Int32))), (0, .ref a0)]) hx hb dX0_period_19 rfl hl (by decide) rfl (fun ls hl => ?_)
    refine lv_iconst (v := (0 : Int32)) hx hb dX0_period_20 (by decide) ?_
    refine lv_istore_n (lv' := [(2, .int ((0 : Int32))), (1, .int ((0 : Int32))), (0, .ref a0)]) hx hb dX0_period_21 rfl hl (by decide) rfl (fun ls hl => ?_)
    refine lv_iconst (v := (1 : Int32)) hx hb dX0_period_22 (by decide) ?_
    refine lv_istore_n (lv' := [(3, .int ((1 : Int32))), (2, .int ((0 : Int32))), (1, .int ((0 : Int32))), (0, .ref a0)]) hx hb dX0_period_23 rfl hl (by decide) rfl (fun ls hl => ?_)
    exact b_X0_period_24 cx hkn hL0 hK0 fu M2 ((0 : Int32)) ((0 : Int32)) ((1 : Int32)) H locs ls h w (lv_sub hl [3, 2, 1, 0] rfl)
  · have h := x_f h k1
    refine lv_aload_n hx hb dX0_period_8 rfl (lv_at hl 0 rfl) ?_
    refine r_getI (k := 7) (v := .int (mI M a0 7)) cx w hL0 hK0 (by decide) rfl wi_X0_period_X0 (by decide) rfl (List.mem_of_getElem? (i := 1) rfl) dX0_period_9 ?_
    exact r_iret cx w h dX0_period_12
-- X0_go
theorem wi_X0_go_X0 : ∀ w ∈ wsX00, w ∈ wsX0_go := by decide +kernel
abbrev rmX0_go : Room := { frames := 0, cells := 0, slots := 0, locals := 0 }
def m_X0_go (G : gS) (M : mS) (a0 : Nat) (c1 : Int32) : Option (mS × Unit) := o_ix (c1 &&& (3 : Int32)) 4 (o_wI M a0 3 (((mI M a0 3) + (f_T (Int32.toNatClampNeg (c1 &&& (3 : Int32))))) &&& (3 : Int32)) (fun M3 => o_ix (mI M3 a0 3) 4 (o_wI M3 a0 1 (((mI M3 a0 1) + (f_E (Int32.toNatClampNeg (mI M3 a0 3)))) &&& (63 : Int32)) (fun M6 => o_ix (mI M6 a0 3) 4 (o_wI M6 a0 2 (((mI M6 a0 2) + (f_S (Int32.toNatClampNeg (mI M6 a0 3)))) &&& (63 : Int32)) (fun M9 => o_rf (gP G a0 8) (fun q10 => o_ix ((mI M9 a0 6) &&& (511 : Int32)) (gN G q10) (o_wI M9 q10 (Int32.toNatClampNeg ((mI M9 a0 6) &&& (511 : Int32))) (mI M9 a0 3) (fun M12 => o_wI M12 a0 6 ((mI M12 a0 6) + (1 : Int32)) (fun M13 => o_wI M13 a0 5 ((mI M13 a0 5) + (1 : Int32)) (fun M14 => o_wI M14 a0 7 (-1 : Int32) (fun M15 => some (M15, ())))))))))))))
set_option maxHeartbeats 4000000 in
set_option maxRecDepth 100000 in
theorem k_X0_go {l : Launch} {D : va_G} {cy : cyS} {G : gS} {M M' : mS} {a0 : Nat} {c1 : Int32} (hG : wt G) (hL0 : a0 ∈ gL G) (hK0 : gK G a0 = 0) (h : m_X0_go G M a0 c1 = some (M', ())) : ctV l yX0_go wsX0_go rmX0_go D cy G M [.ref a0, .int c1] M' := by
  unfold m_X0_go at h
  refine ctV_of (cc := cX0_go) (nL := 2) (ret := none) (lv := [(0, .ref a0), (1, .int c1)]) hG (by decide) rfl ⟨rfl, rfl⟩ (Nat.le_of_ble_eq_true rfl) rfl ?_
  intro p e s m args below meth c A ls cx w hl
  obtain ⟨hx, hb, hml, hown, hts, hr, hlocks, hK, hA, -, hsx⟩ := id cx
  have hkn : 0 ≤ (rmX0_go).cells ∧ 0 ≤ (rmX0_go).slots := ⟨Nat.zero_le _, Nat.zero_le _⟩
  refine lv_aload_n hx hb dX0_go_0 rfl (lv_at hl 0 rfl) ?_
  refine lv_aload_n hx hb dX0_go_1 rfl (lv_at hl 0 rfl) ?_
  refine r_getI (k := 3) (v := .int (mI M a0 3)) cx w hL0 hK0 (by decide) rfl wi_X0_go_X0 (by decide) rfl (List.mem_of_getElem? (i := 1) rfl) dX0_go_2 ?_
  refine r_gets cx w hsx.2.2.1 (List.mem_of_getElem? (i := 2) rfl) dX0_go_5 (fun b1 hb1 => ?_)
  refine lv_iload_n hx hb dX0_go_8 rfl (lv_at hl 1 rfl) ?_
  refine lv_iconst (v := (3 : Int32)) hx hb dX0_go_9 (by decide) ?_
  refine lv_iand hx hb dX0_go_10 ?_
  obtain ⟨z2, h⟩ := x_ix h
  refine r_sld cx w hb1 z2 dX0_go_11 ?_
  refine lv_iadd hx hb dX0_go_12 ?_
  refine lv_iconst (v := (3 : Int32)) hx hb dX0_go_13 (by decide) ?_
  refine lv_iand hx hb dX0_go_14 ?_
  obtain ⟨M3, eM3, h⟩ := x_wI h
  refine r_putI (k := 3) (ty := .int) cx w tyX0 tyX0_ok nmX0 hL0 hK0 (by decide) rfl wi_X0_go_X0 (by decide) rfl rfl rfl rfl st_0_3 (ln_0 _ _ (by decide)) (List.mem_of_getElem? (i := 1) rfl) dX0_go_15 eM3 (fun H locs w => ?_)
  refine lv_aload_n hx hb dX0_go_18 rfl (lv_at hl 0 rfl) ?_
  refine lv_aload_n hx hb dX0_go_19 rfl (lv_at hl 0 rfl) ?_
  refine r_getI (k := 1) (v := .int (mI M3 a0 1)) cx w hL0 hK0 (by decide) rfl wi_X0_go_X0 (by decide) rfl (List.mem_of_getElem? (i := 3) rfl) dX0_go_20 ?_
  refine r_gets cx w hsx.1 (List.mem_of_getElem? (i := 4) rfl) dX0_go_23 (fun b4 hb4 => ?_)
  refine lv_aload_n hx hb dX0_go_26 rfl (lv_at hl 0 rfl) ?_
  refine r_getI (k := 3) (v := .int (mI M3 a0 3)) cx w hL0 hK0 (by decide) rfl wi_X0_go_X0 (by decide) rfl (List.mem_of_getElem? (i := 1) rfl) dX0_go_27 ?_
  obtain ⟨z5, h⟩ := x_ix h
  refine r_sld cx w hb4 z5 dX0_go_30 ?_
  refine lv_iadd hx hb dX0_go_31 ?_
  refine lv_bipush (v := (63 : Int32)) hx hb dX0_go_32 (by decide) ?_
  refine lv_iand hx hb dX0_go_34 ?_
  obtain ⟨M6, eM6, h⟩ := x_wI h
  refine r_putI (k := 1) (ty := .int) cx w tyX0 tyX0_ok nmX0 hL0 hK0 (by decide) rfl wi_X0_go_X0 (by decide) rfl rfl rfl rfl st_0_1 (ln_0 _ _ (by decide)) (List.mem_of_getElem? (i := 3) rfl) dX0_go_35 eM6 (fun H locs w => ?_)
  refine lv_aload_n hx hb dX0_go_38 rfl (lv_at hl 0 rfl) ?_
  refine lv_aload_n hx hb dX0_go_39 rfl (lv_at hl 0 rfl) ?_
  refine r_getI (k := 2) (v := .int (mI M6 a0 2)) cx w hL0 hK0 (by decide) rfl wi_X0_go_X0 (by decide) rfl (List.mem_of_getElem? (i := 5) rfl) dX0_go_40 ?_
  refine r_gets cx w hsx.2.1 (List.mem_of_getElem? (i := 6) rfl) dX0_go_43 (fun b7 hb7 => ?_)
  refine lv_aload_n hx hb dX0_go_46 rfl (lv_at hl 0 rfl) ?_
  refine r_getI (k := 3) (v := .int (mI M6 a0 3)) cx w hL0 hK0 (by decide) rfl wi_X0_go_X0 (by decide) rfl (List.mem_of_getElem? (i := 1) rfl) dX0_go_47 ?_
  obtain ⟨z8, h⟩ := x_ix h
  refine r_sld cx w hb7 z8 dX0_go_50 ?_
  refine lv_iadd hx hb dX0_go_51 ?_
  refine lv_bipush (v := (63 : Int32)) hx hb dX0_go_52 (by decide) ?_
  refine lv_iand hx hb dX0_go_54 ?_
  obtain ⟨M9, eM9, h⟩ := x_wI h
  refine r_putI (k := 2) (ty := .int) cx w tyX0 tyX0_ok nmX0 hL0 hK0 (by decide) rfl wi_X0_go_X0 (by decide) rfl rfl rfl rfl st_0_2 (ln_0 _ _ (by decide)) (List.mem_of_getElem? (i := 5) rfl) dX0_go_55 eM9 (fun H locs w => ?_)
  refine lv_aload_n hx hb dX0_go_58 rfl (lv_at hl 0 rfl) ?_
  obtain ⟨q10, eq10, h⟩ := x_rf h
  obtain ⟨hLq10, hKq10⟩ := wt_q hG hL0 hK0 eq10
  have hKq10 : gK G q10 = 12 := hKq10
  refine r_getR (k := 8) cx w hL0 hK0 (by decide) rfl wi_X0_go_X0 (by decide) rfl eq10 (List.mem_of_getElem? (i := 7) rfl) dX0_go_59 ?_
  refine lv_aload_n hx hb dX0_go_62 rfl (lv_at hl 0 rfl) ?_
  refine r_getI (k := 6) (v := .int (mI M9 a0 6)) cx w hL0 hK0 (by decide) rfl wi_X0_go_X0 (by decide) rfl (List.mem_of_getElem? (i := 8) rfl) dX0_go_63 ?_
  refine lv_sipush (v := (511 : Int32)) hx hb dX0_go_66 (by decide) ?_
  refine lv_iand hx hb dX0_go_69 ?_
  refine lv_aload_n hx hb dX0_go_70 rfl (lv_at hl 0 rfl) ?_
  refine r_getI (k := 3) (v := .int (mI M9 a0 3)) cx w hL0 hK0 (by decide) rfl wi_X0_go_X0 (by decide) rfl (List.mem_of_getElem? (i := 1) rfl) dX0_go_71 ?_
  obtain ⟨z11, h⟩ := x_ix h
  obtain ⟨M12, eM12, h⟩ := x_wI h
  refine r_iast cx w hLq10 hKq10 z11 dX0_go_74 eM12 (fun H locs w => ?_)
  refine lv_aload_n hx hb dX0_go_75 rfl (lv_at hl 0 rfl) ?_
  refine lv_dup hx hb dX0_go_76 rfl ?_
  refine r_getI (k := 6) (v := .int (mI M12 a0 6)) cx w hL0 hK0 (by decide) rfl wi_X0_go_X0 (by decide) rfl (List.mem_of_getElem? (i := 8) rfl) dX0_go_77 ?_
  refine lv_iconst (v := (1 : Int32)) hx hb dX0_go_80 (by decide) ?_
  refine lv_iadd hx hb dX0_go_81 ?_
  obtain ⟨M13, eM13, h⟩ := x_wI h
  refine r_putI (k := 6) (ty := .int) cx w tyX0 tyX0_ok nmX0 hL0 hK0 (by decide) rfl wi_X0_go_X0 (by decide) rfl rfl rfl rfl st_0_6 (ln_0 _ _ (by decide)) (List.mem_of_getElem? (i := 8) rfl) dX0_go_82 eM13 (fun H locs w => ?_)
  refine lv_aload_n hx hb dX0_go_85 rfl (lv_at hl 0 rfl) ?_
  refine lv_dup hx hb dX0_go_86 rfl ?_
  refine r_getI (k := 5) (v := .int (mI M13 a0 5)) cx w hL0 hK0 (by decide) rfl wi_X0_go_X0 (by decide) rfl (List.mem_of_getElem? (i := 9) rfl) dX0_go_87 ?_
  refine lv_iconst (v := (1 : Int32)) hx hb dX0_go_90 (by decide) ?_
  refine lv_iadd hx hb dX0_go_91 ?_
  obtain ⟨M14, eM14, h⟩ := x_wI h
  refine r_putI (k := 5) (ty := .int) cx w tyX0 tyX0_ok nmX0 hL0 hK0 (by decide) rfl wi_X0_go_X0 (by decide) rfl rfl rfl rfl st_0_5 (ln_0 _ _ (by decide)) (List.mem_of_getElem? (i := 9) rfl) dX0_go_92 eM14 (fun H locs w => ?_)
  refine lv_aload_n hx hb dX0_go_95 rfl (lv_at hl 0 rfl) ?_
  refine lv_iconst (v := (-1 : Int32)) hx hb dX0_go_96 (by decide) ?_
  obtain ⟨M15, eM15, h⟩ := x_wI h
  refine r_putI (k := 7) (ty := .int) cx w tyX0 tyX0_ok nmX0 hL0 hK0 (by decide) rfl wi_X0_go_X0 (by decide) rfl rfl rfl rfl st_0_7 (ln_0 _ _ (by decide)) (List.mem_of_getElem? (i := 10) rfl) dX0_go_97 eM15 (fun H locs w => ?_)
  exact r_vret cx w h dX0_go_100
-- X0_clear
theorem wi_X0_clear_X0 : ∀ w ∈ wsX00, w ∈ wsX0_clear := by decide +kernel
abbrev rmX0_clear : Room := { frames := 1, cells := 0, slots := 0, locals := 20 }
def m_X0_clear (G : gS) (M : mS) (a0 : Nat) : Option (mS × Unit) := o_wI M a0 0 (0 : Int32) (fun M1 => o_wI M1 a0 1 (0 : Int32) (fun M2 => o_wI M2 a0 2 (0 : Int32) (fun M3 => o_wI M3 a0 3 (0 : Int32) (fun M4 => o_ck ((1 : Int32) = 0 ∨ (1 : Int32) = 1) (o_wI M4 a0 4 (1 : Int32) (fun M6 => o_wI M6 a0 5 (0 : Int32) (fun M7 => o_cl (m_X0_beginPath G M7 a0) (fun M8 r9 => some (M8, ())))))))))
set_option maxHeartbeats 4000000 in
set_option maxRecDepth 100000 in
theorem k_X0_clear {l : Launch} {D : va_G} {cy : cyS} {G : gS} {M M' : mS} {a0 : Nat} (hG : wt G) (hL0 : a0 ∈ gL G) (hK0 : gK G a0 = 0) (h : m_X0_clear G M a0 = some (M', ())) : ctV l yX0_clear wsX0_clear rmX0_clear D cy G M [.ref a0] M' := by
  unfold m_X0_clear at h
  refine ctV_of (cc := cX0_clear) (nL := 1) (ret := none) (lv := [(0, .ref a0)]) hG (by decide) rfl ⟨rfl, rfl⟩ (Nat.le_of_ble_eq_true rfl) rfl ?_
  intro p e s m args below meth c A ls cx w hl
  obtain ⟨hx, hb, hml, hown, hts, hr, hlocks, hK, hA, -, hsx⟩ := id cx
  have hkn : 0 ≤ (rmX0_clear).cells ∧ 0 ≤ (rmX0_clear).slots := ⟨Nat.zero_le _, Nat.zero_le _⟩
  refine lv_aload_n hx hb dX0_clear_0 rfl (lv_at hl 0 rfl) ?_
  refine lv_iconst (v := (0 : Int32)) hx hb dX0_clear_1 (by decide) ?_
  obtain ⟨M1, eM1, h⟩ := x_wI h
  refine r_putI (k := 0) (ty := .int) cx w tyX0 tyX0_ok nmX0 hL0 hK0 (by decide) rfl wi_X0_clear_X0 (by decide) rfl rfl rfl rfl st_0_0 (ln_0 _ _ (by decide)) (List.mem_of_getElem? (i := 1) rfl) dX0_clear_2 eM1 (fun H locs w => ?_)
  refine lv_aload_n hx hb dX0_clear_5 rfl (lv_at hl 0 rfl) ?_
  refine lv_iconst (v := (0 : Int32)) hx hb dX0_clear_6 (by decide) ?_
  obtain ⟨M2, eM2, h⟩ := x_wI h
  refine r_putI (k := 1) (ty := .int) cx w tyX0 tyX0_ok nmX0 hL0 hK0 (by decide) rfl wi_X0_clear_X0 (by decide) rfl rfl rfl rfl st_0_1 (ln_0 _ _ (by decide)) (List.mem_of_getElem? (i := 2) rfl) dX0_clear_7 eM2 (fun H locs w => ?_)
  refine lv_aload_n hx hb dX0_clear_10 rfl (lv_at hl 0 rfl) ?_
  refine lv_iconst (v := (0 : Int32)) hx hb dX0_clear_11 (by decide) ?_
  obtain ⟨M3, eM3, h⟩ := x_wI h
  refine r_putI (k := 2) (ty := .int) cx w tyX0 tyX0_ok nmX0 hL0 hK0 (by decide) rfl wi_X0_clear_X0 (by decide) rfl rfl rfl rfl st_0_2 (ln_0 _ _ (by decide)) (List.mem_of_getElem? (i := 3) rfl) dX0_clear_12 eM3 (fun H locs w => ?_)
  refine lv_aload_n hx hb dX0_clear_15 rfl (lv_at hl 0 rfl) ?_
  refine lv_iconst (v := (0 : Int32)) hx hb dX0_clear_16 (by decide) ?_
  obtain ⟨M4, eM4, h⟩ := x_wI h
  refine r_putI (k := 3) (ty := .int) cx w tyX0 tyX0_ok nmX0 hL0 hK0 (by decide) rfl wi_X0_clear_X0 (by decide) rfl rfl rfl rfl st_0_3 (ln_0 _ _ (by decide)) (List.mem_of_getElem? (i := 4) rfl) dX0_clear_17 eM4 (fun H locs w => ?_)
  refine lv_aload_n hx hb dX0_clear_20 rfl (lv_at hl 0 rfl) ?_
  refine lv_iconst (v := (1 : Int32)) hx hb dX0_clear_21 (by decide) ?_
  obtain ⟨z5, h⟩ := x_ck h
  obtain ⟨M6, eM6, h⟩ := x_wI h
  refine r_putI (k := 4) (ty := .boolean) cx w tyX0 tyX0_ok nmX0 hL0 hK0 (by decide) rfl wi_X0_clear_X0 (by decide) rfl rfl (z_nar z5) (z_fit z5) st_0_4 (ln_0 _ _ (by decide)) (List.mem_of_getElem? (i := 5) rfl) dX0_clear_22 eM6 (fun H locs w => ?_)
  refine lv_aload_n hx hb dX0_clear_25 rfl (lv_at hl 0 rfl) ?_
  refine lv_iconst (v := (0 : Int32)) hx hb dX0_clear_26 (by decide) ?_
  obtain ⟨M7, eM7, h⟩ := x_wI h
  refine r_putI (k := 5) (ty := .int) cx w tyX0 tyX0_ok nmX0 hL0 hK0 (by decide) rfl wi_X0_clear_X0 (by decide) rfl rfl rfl rfl st_0_5 (ln_0 _ _ (by decide)) (List.mem_of_getElem? (i := 6) rfl) dX0_clear_27 eM7 (fun H locs w => ?_)
  refine lv_aload_n hx hb dX0_clear_30 rfl (lv_at hl 0 rfl) ?_
  obtain ⟨M8, r9, y10, h⟩ := x_cl h
  refine r_callVv (As := []) (rest := []) cx w hkn hl.1 (k_X0_beginPath hG hL0 hK0 y10) (cwV 0 hts gX0_clear_X0_beginPath rfl rfl rfl (by decide +kernel) ⟨Nat.le_of_ble_eq_true rfl, Nat.le_of_ble_eq_true rfl⟩) hL0 hK0 (by decide) rfl rfl rfl (Nat.le_of_ble_eq_true rfl) dX0_clear_31 (fun H locs w => ?_)
  exact r_vret cx w h dX0_clear_34
-- X0_copyFrom
theorem wi_X0_copyFrom_X0 : ∀ w ∈ wsX00, w ∈ wsX0_copyFrom := by decide +kernel
abbrev rmX0_copyFrom : Room := { frames := 1, cells := 0, slots := 0, locals := 60 }
def m_X0_copyFrom (G : gS) (M : mS) (a0 : Nat) (a1 : Nat) : Option (mS × Unit) := o_wI M a0 0 (mI M a1 0) (fun M1 => o_wI M1 a0 1 (mI M1 a1 1) (fun M2 => o_wI M2 a0 2 (mI M2 a1 2) (fun M3 => o_wI M3 a0 3 (mI M3 a1 3) (fun M4 => o_ck ((mI M4 a1 4) = 0 ∨ (mI M4 a1 4) = 1) (o_wI M4 a0 4 (mI M4 a1 4) (fun M6 => o_wI M6 a0 5 (mI M6 a1 5) (fun M7 => o_wI M7 a0 6 (mI M7 a1 6) (fun M8 => o_wI M8 a0 7 (mI M8 a1 7) (fun M9 => o_rf (gP G a1 8) (fun q10 => o_rf (gP G a0 8) (fun q11 => o_ck (¬ (512 : Int32) < 0 ∧ Int32.toNatClampNeg (512 : Int32) ≤ gN G q10 ∧ Int32.toNatClampNeg (512 : Int32) ≤ gN G q11) (o_wC M9 q11 (cpy0 (mI M9 q10) (mI M9 q11) (Int32.toNatClampNeg (512 : Int32))) (fun M13 => some (M13, ()))))))))))))))
set_option maxHeartbeats 4000000 in
set_option maxRecDepth 100000 in
theorem k_X0_copyFrom {l : Launch} {D : va_G} {cy : cyS} {G : gS} {M M' : mS} {a0 : Nat} {a1 : Nat} (hG : wt G) (hL0 : a0 ∈ gL G) (hK0 : gK G a0 = 0) (hL1 : a1 ∈ gL G) (hK1 : gK G a1 = 0) (h : m_X0_copyFrom G M a0 a1 = some (M', ())) : ctV l yX0_copyFrom wsX0_copyFrom rmX0_copyFrom D cy G M [.ref a0, .ref a1] M' := by
  unfold m_X0_copyFrom at h
  refine ctV_of (cc := cX0_copyFrom) (nL := 2) (ret := none) (lv := [(0, .ref a0), (1, .ref a1)]) hG (by decide) rfl ⟨rfl, rfl⟩ (Nat.le_of_ble_eq_true rfl) rfl ?_
  intro p e s m args below meth c A ls cx w hl
  obtain ⟨hx, hb, hml, hown, hts, hr, hlocks, hK, hA, -, hsx⟩ := id cx
  have hkn : 0 ≤ (rmX0_copyFrom).cells ∧ 0 ≤ (rmX0_copyFrom).slots := ⟨Nat.zero_le _, Nat.zero_le _⟩
  refine lv_aload_n hx hb dX0_copyFrom_0 rfl (lv_at hl 0 rfl) ?_
  refine lv_aload_n hx hb dX0_copyFrom_1 rfl (lv_at hl 1 rfl) ?_
  refine r_getI (k := 0) (v := .int (mI M a1 0)) cx w hL1 hK1 (by decide) rfl wi_X0_copyFrom_X0 (by decide) rfl (List.mem_of_getElem? (i := 1) rfl) dX0_copyFrom_2 ?_
  obtain ⟨M1, eM1, h⟩ := x_wI h
  refine r_putI (k := 0) (ty := .int) cx w tyX0 tyX0_ok nmX0 hL0 hK0 (by decide) rfl wi_X0_copyFrom_X0 (by decide) rfl rfl rfl rfl st_0_0 (ln_0 _ _ (by decide)) (List.mem_of_getElem? (i := 1) rfl) dX0_copyFrom_5 eM1 (fun H locs w => ?_)
  refine lv_aload_n hx hb dX0_copyFrom_8 rfl (lv_at hl 0 rfl) ?_
  refine lv_aload_n hx hb dX0_copyFrom_9 rfl (lv_at hl 1 rfl) ?_
  refine r_getI (k := 1) (v := .int (mI M1 a1 1)) cx w hL1 hK1 (by decide) rfl wi_X0_copyFrom_X0 (by decide) rfl (List.mem_of_getElem? (i := 2) rfl) dX0_copyFrom_10 ?_
  obtain ⟨M2, eM2, h⟩ := x_wI h
  refine r_putI (k := 1) (ty := .int) cx w tyX0 tyX0_ok nmX0 hL0 hK0 (by decide) rfl wi_X0_copyFrom_X0 (by decide) rfl rfl rfl rfl st_0_1 (ln_0 _ _ (by decide)) (List.mem_of_getElem? (i := 2) rfl) dX0_copyFrom_13 eM2 (fun H locs w => ?_)
  refine lv_aload_n hx hb dX0_copyFrom_16 rfl (lv_at hl 0 rfl) ?_
  refine lv_aload_n hx hb dX0_copyFrom_17 rfl (lv_at hl 1 rfl) ?_
  refine r_getI (k := 2) (v := .int (mI M2 a1 2)) cx w hL1 hK1 (by decide) rfl wi_X0_copyFrom_X0 (by decide) rfl (List.mem_of_getElem? (i := 3) rfl) dX0_copyFrom_18 ?_
  obtain ⟨M3, eM3, h⟩ := x_wI h
  refine r_putI (k := 2) (ty := .int) cx w tyX0 tyX0_ok nmX0 hL0 hK0 (by decide) rfl wi_X0_copyFrom_X0 (by decide) rfl rfl rfl rfl st_0_2 (ln_0 _ _ (by decide)) (List.mem_of_getElem? (i := 3) rfl) dX0_copyFrom_21 eM3 (fun H locs w => ?_)
  refine lv_aload_n hx hb dX0_copyFrom_24 rfl (lv_at hl 0 rfl) ?_
  refine lv_aload_n hx hb dX0_copyFrom_25 rfl (lv_at hl 1 rfl) ?_
  refine r_getI (k := 3) (v := .int (mI M3 a1 3)) cx w hL1 hK1 (by decide) rfl wi_X0_copyFrom_X0 (by decide) rfl (List.mem_of_getElem? (i := 4) rfl) dX0_copyFrom_26 ?_
  obtain ⟨M4, eM4, h⟩ := x_wI h
  refine r_putI (k := 3) (ty := .int) cx w tyX0 tyX0_ok nmX0 hL0 hK0 (by decide) rfl wi_X0_copyFrom_X0 (by decide) rfl rfl rfl rfl st_0_3 (ln_0 _ _ (by decide)) (List.mem_of_getElem? (i := 4) rfl) dX0_copyFrom_29 eM4 (fun H locs w => ?_)
  refine lv_aload_n hx hb dX0_copyFrom_32 rfl (lv_at hl 0 rfl) ?_
  refine lv_aload_n hx hb dX0_copyFrom_33 rfl (lv_at hl 1 rfl) ?_
  refine r_getI (k := 4) (v := .int (mI M4 a1 4)) cx w hL1 hK1 (by decide) rfl wi_X0_copyFrom_X0 (by decide) rfl (List.mem_of_getElem? (i := 5) rfl) dX0_copyFrom_34 ?_
  obtain ⟨z5, h⟩ := x_ck h
  obtain ⟨M6, eM6, h⟩ := x_wI h
  refine r_putI (k := 4) (ty := .boolean) cx w tyX0 tyX0_ok nmX0 hL0 hK0 (by decide) rfl wi_X0_copyFrom_X0 (by decide) rfl rfl (z_nar z5) (z_fit z5) st_0_4 (ln_0 _ _ (by decide)) (List.mem_of_getElem? (i := 5) rfl) dX0_copyFrom_37 eM6 (fun H locs w => ?_)
  refine lv_aload_n hx hb dX0_copyFrom_40 rfl (lv_at hl 0 rfl) ?_
  refine lv_aload_n hx hb dX0_copyFrom_41 rfl (lv_at hl 1 rfl) ?_
  refine r_getI (k := 5) (v := .int (mI M6 a1 5)) cx w hL1 hK1 (by decide) rfl wi_X0_copyFrom_X0 (by decide) rfl (List.mem_of_getElem? (i := 6) rfl) dX0_copyFrom_42 ?_
  obtain ⟨M7, eM7, h⟩ := x_wI h
  refine r_putI (k := 5) (ty := .int) cx w tyX0 tyX0_ok nmX0 hL0 hK0 (by decide) rfl wi_X0_copyFrom_X0 (by decide) rfl rfl rfl rfl st_0_5 (ln_0 _ _ (by decide)) (List.mem_of_getElem? (i := 6) rfl) dX0_copyFrom_45 eM7 (fun H locs w => ?_)
  refine lv_aload_n hx hb dX0_copyFrom_48 rfl (lv_at hl 0 rfl) ?_
  refine lv_aload_n hx hb dX0_copyFrom_49 rfl (lv_at hl 1 rfl) ?_
  refine r_getI (k := 6) (v := .int (mI M7 a1 6)) cx w hL1 hK1 (by decide) rfl wi_X0_copyFrom_X0 (by decide) rfl (List.mem_of_getElem? (i := 7) rfl) dX0_copyFrom_50 ?_
  obtain ⟨M8, eM8, h⟩ := x_wI h
  refine r_putI (k := 6) (ty := .int) cx w tyX0 tyX0_ok nmX0 hL0 hK0 (by decide) rfl wi_X0_copyFrom_X0 (by decide) rfl rfl rfl rfl st_0_6 (ln_0 _ _ (by decide)) (List.mem_of_getElem? (i := 7) rfl) dX0_copyFrom_53 eM8 (fun H locs w => ?_)
  refine lv_aload_n hx hb dX0_copyFrom_56 rfl (lv_at hl 0 rfl) ?_
  refine lv_aload_n hx hb dX0_copyFrom_57 rfl (lv_at hl 1 rfl) ?_
  refine r_getI (k := 7) (v := .int (mI M8 a1 7)) cx w hL1 hK1 (by decide) rfl wi_X0_copyFrom_X0 (by decide) rfl (List.mem_of_getElem? (i := 8) rfl) dX0_copyFrom_58 ?_
  obtain ⟨M9, eM9, h⟩ := x_wI h
  refine r_putI (k := 7) (ty := .int) cx w tyX0 tyX0_ok nmX0 hL0 hK0 (by decide) rfl wi_X0_copyFrom_X0 (by decide) rfl rfl rfl rfl st_0_7 (ln_0 _ _ (by decide)) (List.mem_of_getElem? (i := 8) rfl) dX0_copyFrom_61 eM9 (fun H locs w => ?_)
  refine lv_aload_n hx hb dX0_copyFrom_64 rfl (lv_at hl 1 rfl) ?_
  obtain ⟨q10, eq10, h⟩ := x_rf h
  obtain ⟨hLq10, hKq10⟩ := wt_q hG hL1 hK1 eq10
  have hKq10 : gK G q10 = 12 := hKq10
  refine r_getR (k := 8) cx w hL1 hK1 (by decide) rfl wi_X0_copyFrom_X0 (by decide) rfl eq10 (List.mem_of_getElem? (i := 9) rfl) dX0_copyFrom_65 ?_
  refine lv_iconst (v := (0 : Int32)) hx hb dX0_copyFrom_68 (by decide) ?_
  refine lv_aload_n hx hb dX0_copyFrom_69 rfl (lv_at hl 0 rfl) ?_
  obtain ⟨q11, eq11, h⟩ := x_rf h
  obtain ⟨hLq11, hKq11⟩ := wt_q hG hL0 hK0 eq11
  have hKq11 : gK G q11 = 12 := hKq11
  refine r_getR (k := 8) cx w hL0 hK0 (by decide) rfl wi_X0_copyFrom_X0 (by decide) rfl eq11 (List.mem_of_getElem? (i := 9) rfl) dX0_copyFrom_70 ?_
  refine lv_iconst (v := (0 : Int32)) hx hb dX0_copyFrom_73 (by decide) ?_
  refine lv_sipush (v := (512 : Int32)) hx hb dX0_copyFrom_74 (by decide) ?_
  obtain ⟨z12, h⟩ := x_ck h
  obtain ⟨M13, eM13, h⟩ := x_wC h
  refine r_copy cx w (hml.trans hl.1.symm) (hts _ (List.mem_of_getElem? (i := 10) rfl)) (hts _ (List.mem_of_getElem? (i := 11) rfl)) (hts _ (List.mem_of_getElem? (i := 12) rfl)) (hts _ (List.mem_of_getElem? (i := 13) rfl)) hLq10 hKq10 hLq11 hKq11 z12 (Nat.le_of_ble_eq_true rfl) (Nat.le_of_ble_eq_true rfl) dX0_copyFrom_77 eM13 (fun H locs w => ?_)
  exact r_vret cx w h dX0_copyFrom_80
-- X0_eastOfPeriod
abbrev rmX0_eastOfPeriod : Room := { frames := 2, cells := 0, slots := 0, locals := 47 }
def m_X0_eastOfPeriod_7 (G : gS) (a0 : Nat)  : Nat → mS → Int32 → Int32 → Option (mS × Int32)
  | 0, _, _, _ => none
  | n + 1, M, v1, v2 => (if v2 ≤ 0 then some (M, v1) else o_cl (m_X0_sideOfStep G M a0 v2) (fun M3 r4 => o_ix r4 4 (o_bd ((v1 + (f_E (Int32.toNatClampNeg r4)))) (fun x7 => o_bd (v2 + (-1) : Int32) (fun x8 => m_X0_eastOfPeriod_7 G a0 n M3 x7 x8)))))
def m_X0_eastOfPeriod (G : gS) (M : mS) (a0 : Nat) : Option (mS × Int32) := o_cl (m_X0_period G M a0) (fun M1 r2 => m_X0_eastOfPeriod_7 G a0 fu M1 ((0 : Int32)) r2)
set_option maxHeartbeats 4000000 in
set_option maxRecDepth 100000 in
theorem b_X0_eastOfPeriod_7 {p : Program} {e : Env} {s : State} {m : MethodId} {args : Array Value} {below : List Frame} {meth : Method} {c : Code} {A : Nat → Prop} {l : Launch} {D : va_G} {cy : cyS} {G : gS} (cx : cX p s m args meth c cX0_eastOfPeriod RX0 3 (some .int) wsX0_eastOfPeriod D cy G A) {k0 n0 : Nat} (hkn : k0 ≤ (rmX0_eastOfPeriod).cells ∧ n0 ≤ (rmX0_eastOfPeriod).slots) {M' : mS} {r : Int32} {a0 : Nat} (hL0 : a0 ∈ gL G) (hK0 : gK G a0 = 0)  : ∀ (n : Nat), ∀ (M : mS) (v1 : Int32) (v2 : Int32) (H : Heap) (locs : List Loc) (ls : Array Slot), m_X0_eastOfPeriod_7 G a0 n M v1 v2 = some (M', r) → wd D cy G M A s.heap H locs → lv_has ls 3 [(0, .ref a0), (1, .int v1), (2, .int v2)] → W p l e rmX0_eastOfPeriod s m args below meth c H locs k0 n0 (MQ below (va_Qi (fun (r' : Int32) (_ : Unit) => r' = r) (fun _ t => wOut D cy G M' t) A) args s k0 n0 A) (F0 m 7 ls []) := by
  obtain ⟨hx, hb, hml, hown, hts, hr, hlocks, hK, hA, hG, hsx⟩ := id cx
  intro n
  induction n with
  | zero =>
    intro M v1 v2 H locs ls h w hl
    have h : none = some _ := h
    cases h
  | succ n ih =>
    intro M v1 v2 H locs ls h w hl
    rw [m_X0_eastOfPeriod_7] at h
    refine lv_iload_n hx hb dX0_eastOfPeriod_7 rfl (lv_at hl 2 rfl) ?_
    refine lv_if_le (tgt := 29) hx hb dX0_eastOfPeriod_8 (by decide) (fun k1 => ?_) (fun k1 => ?_)
    · have h := x_t h k1
      refine lv_iload_n hx hb dX0_eastOfPeriod_29 rfl (lv_at hl 1 rfl) ?_
      exact r_iret cx w h dX0_eastOfPeriod_30
    · have h := x_f h k1
      refine lv_iload_n hx hb dX0_eastOfPeriod_11 rfl (lv_at hl 1 rfl) ?_
      refine r_gets cx w hsx.1 (List.mem_of_getElem? (i := 1) rfl) dX0_eastOfPeriod_12 (fun b2 hb2 => ?_)
      refine lv_aload_n hx hb dX0_eastOfPeriod_15 rfl (lv_at hl 0 rfl) ?_
      refine lv_iload_n hx hb dX0_eastOfPeriod_16 rfl (lv_at hl 2 rfl) ?_
      obtain ⟨M3, r4, y5, h⟩ := x_cl h
      refine r_callVi (As := [.int v2]) (rest := [.ref b2, .int v1]) cx w hkn hl.1 (k_X0_sideOfStep hG hL0 hK0 y5) (cwV 1 hts gX0_eastOfPeriod_X0_sideOfStep rfl rfl rfl (by decide +kernel) ⟨Nat.le_of_ble_eq_true rfl, Nat.le_of_ble_eq_true rfl⟩) hL0 hK0 (by decide) rfl rfl rfl (Nat.le_of_ble_eq_true rfl) dX0_eastOfPeriod_17 (fun H locs w => ?_)
      obtain ⟨z6, h⟩ := x_ix h
      refine r_sld cx w hb2 z6 dX0_eastOfPeriod_20 ?_
      refine lv_iadd hx hb dX0_eastOfPeriod_21 ?_
      obtain ⟨x7, ex7, h⟩ := x_bd h
      refine r_topI ex7 ?_
      refine lv_istore_n (lv' := [(1, .int x7), (0, .ref a0), (2, .int v2)]) hx hb dX0_eastOfPeriod_22 rfl hl (by decide) rfl (fun ls hl => ?_)
      obtain ⟨x8, ex8, h⟩ := x_bd h
      refine lv_iinc (v := x8) (lv' := [(2, .int x8), (1, .int x7), (0, .ref a0)]) hx hb dX0_eastOfPeriod_23 hl (k := 2) rfl (by rw [ex8]; rfl) (by decide) rfl (fun ls hl => ?_)
      refine lv_goto (tgt := 7) hx hb dX0_eastOfPeriod_26 (by decide) ?_
      exact ih M3 x7 x8 H locs ls h w (lv_sub hl [2, 1, 0] rfl)
set_option maxHeartbeats 4000000 in
set_option maxRecDepth 100000 in
theorem k_X0_eastOfPeriod {l : Launch} {D : va_G} {cy : cyS} {G : gS} {M M' : mS} {r : Int32} {a0 : Nat} (hG : wt G) (hL0 : a0 ∈ gL G) (hK0 : gK G a0 = 0) (h : m_X0_eastOfPeriod G M a0 = some (M', r)) : ctI l yX0_eastOfPeriod wsX0_eastOfPeriod rmX0_eastOfPeriod D cy G M [.ref a0] M' r := by
  unfold m_X0_eastOfPeriod at h
  refine ctI_of (cc := cX0_eastOfPeriod) (nL := 3) (ret := (some .int)) (lv := [(0, .ref a0)]) hG (by decide) rfl ⟨rfl, rfl⟩ (Nat.le_of_ble_eq_true rfl) rfl ?_
  intro p e s m args below meth c A ls cx w hl
  obtain ⟨hx, hb, hml, hown, hts, hr, hlocks, hK, hA, -, hsx⟩ := id cx
  have hkn : 0 ≤ (rmX0_eastOfPeriod).cells ∧ 0 ≤ (rmX0_eastOfPeriod).slots := ⟨Nat.zero_le _, Nat.zero_le _⟩
  refine lv_iconst (v := (0 : Int32)) hx hb dX0_eastOfPeriod_0 (by decide) ?_
  refine lv_istore_n (lv' := [(1, .int ((0 : Int32))), (0, .ref a0)]) hx hb dX0_eastOfPeriod_1 rfl hl (by decide) rfl (fun ls hl => ?_)
  refine lv_aload_n hx hb dX0_eastOfPeriod_2 rfl (lv_at hl 1 rfl) ?_
  obtain ⟨M1, r2, y3, h⟩ := x_cl h
  refine r_callVi (As := []) (rest := []) cx w hkn hl.1 (k_X0_period hG hL0 hK0 y3) (cwV 0 hts gX0_eastOfPeriod_X0_period rfl rfl rfl (by decide +kernel) ⟨Nat.le_of_ble_eq_true rfl, Nat.le_of_ble_eq_true rfl⟩) hL0 hK0 (by decide) rfl rfl rfl (Nat.le_of_ble_eq_true rfl) dX0_eastOfPeriod_3 (fun H locs w => ?_)
  refine lv_istore_n (lv' := [(2, .int r2), (1, .int ((0 : Int32))), (0, .ref a0)]) hx hb dX0_eastOfPeriod_6 rfl hl (by decide) rfl (fun ls hl => ?_)
  exact b_X0_eastOfPeriod_7 cx hkn hL0 hK0 fu M1 ((0 : Int32)) r2 H locs ls h w (lv_sub hl [2, 1, 0] rfl)
-- X0_southOfPeriod
abbrev rmX0_southOfPeriod : Room := { frames := 2, cells := 0, slots := 0, locals := 47 }
def m_X0_southOfPeriod_7 (G : gS) (a0 : Nat)  : Nat → mS → Int32 → Int32 → Option (mS × Int32)
  | 0, _, _, _ => none
  | n + 1, M, v1, v2 => (if v2 ≤ 0 then some (M, v1) else o_cl (m_X0_sideOfStep G M a0 v2) (fun M3 r4 => o_ix r4 4 (o_bd ((v1 + (f_S (Int32.toNatClampNeg r4)))) (fun x7 => o_bd (v2 + (-1) : Int32) (fun x8 => m_X0_southOfPeriod_7 G a0 n M3 x7 x8)))))
def m_X0_southOfPeriod (G : gS) (M : mS) (a0 : Nat) : Option (mS × Int32) := o_cl (m_X0_period G M a0) (fun M1 r2 => m_X0_southOfPeriod_7 G a0 fu M1 ((0 : Int32)) r2)
set_option maxHeartbeats 4000000 in
set_option maxRecDepth 100000 in
theorem b_X0_southOfPeriod_7 {p : Program} {e : Env} {s : State} {m : MethodId} {args : Array Value} {below : List Frame} {meth : Method} {c : Code} {A : Nat → Prop} {l : Launch} {D : va_G} {cy : cyS} {G : gS} (cx : cX p s m args meth c cX0_southOfPeriod RX0 3 (some .int) wsX0_southOfPeriod D cy G A) {k0 n0 : Nat} (hkn : k0 ≤ (rmX0_southOfPeriod).cells ∧ n0 ≤ (rmX0_southOfPeriod).slots) {M' : mS} {r : Int32} {a0 : Nat} (hL0 : a0 ∈ gL G) (hK0 : gK G a0 = 0)  : ∀ (n : Nat), ∀ (M : mS) (v1 : Int32) (v2 : Int32) (H : Heap) (locs : List Loc) (ls : Array Slot), m_X0_southOfPeriod_7 G a0 n M v1 v2 = some (M', r) → wd D cy G M A s.heap H locs → lv_has ls 3 [(0, .ref a0), (1, .int v1), (2, .int v2)] → W p l e rmX0_southOfPeriod s m args below meth c H locs k0 n0 (MQ below (va_Qi (fun (r' : Int32) (_ : Unit) => r' = r) (fun _ t => wOut D cy G M' t) A) args s k0 n0 A) (F0 m 7 ls []) := by
  obtain ⟨hx, hb, hml, hown, hts, hr, hlocks, hK, hA, hG, hsx⟩ := id cx
  intro n
  induction n with
  | zero =>
    intro M v1 v2 H locs ls h w hl
    have h : none = some _ := h
    cases h
  | succ n ih =>
    intro M v1 v2 H locs ls h w hl
    rw [m_X0_southOfPeriod_7] at h
    refine lv_iload_n hx hb dX0_southOfPeriod_7 rfl (lv_at hl 2 rfl) ?_
    refine lv_if_le (tgt := 29) hx hb dX0_southOfPeriod_8 (by decide) (fun k1 => ?_) (fun k1 => ?_)
    · have h := x_t h k1
      refine lv_iload_n hx hb dX0_southOfPeriod_29 rfl (lv_at hl 1 rfl) ?_
      exact r_iret cx w h dX0_southOfPeriod_30
    · have h := x_f h k1
      refine lv_iload_n hx hb dX0_southOfPeriod_11 rfl (lv_at hl 1 rfl) ?_
      refine r_gets cx w hsx.2.1 (List.mem_of_getElem? (i := 1) rfl) dX0_southOfPeriod_12 (fun b2 hb2 => ?_)
      refine lv_aload_n hx hb dX0_southOfPeriod_15 rfl (lv_at hl 0 rfl) ?_
      refine lv_iload_n hx hb dX0_southOfPeriod_16 rfl (lv_at hl 2 rfl) ?_
      obtain ⟨M3, r4, y5, h⟩ := x_cl h
      refine r_callVi (As := [.int v2]) (rest := [.ref b2, .int v1]) cx w hkn hl.1 (k_X0_sideOfStep hG hL0 hK0 y5) (cwV 1 hts gX0_southOfPeriod_X0_sideOfStep rfl rfl rfl (by decide +kernel) ⟨Nat.le_of_ble_eq_true rfl, Nat.le_of_ble_eq_true rfl⟩) hL0 hK0 (by decide) rfl rfl rfl (Nat.le_of_ble_eq_true rfl) dX0_southOfPeriod_17 (fun H locs w => ?_)
      obtain ⟨z6, h⟩ := x_ix h
      refine r_sld cx w hb2 z6 dX0_southOfPeriod_20 ?_
      refine lv_iadd hx hb dX0_southOfPeriod_21 ?_
      obtain ⟨x7, ex7, h⟩ := x_bd h
      refine r_topI ex7 ?_
      refine lv_istore_n (lv' := [(1, .int x7), (0, .ref a0), (2, .int v2)]) hx hb dX0_southOfPeriod_22 rfl hl (by decide) rfl (fun ls hl => ?_)
      obtain ⟨x8, ex8, h⟩ := x_bd h
      refine lv_iinc (v := x8) (lv' := [(2, .int x8), (1, .int x7), (0, .ref a0)]) hx hb dX0_southOfPeriod_23 hl (k := 2) rfl (by rw [ex8]; rfl) (by decide) rfl (fun ls hl => ?_)
      refine lv_goto (tgt := 7) hx hb dX0_southOfPeriod_26 (by decide) ?_
      exact ih M3 x7 x8 H locs ls h w (lv_sub hl [2, 1, 0] rfl)
set_option maxHeartbeats 4000000 in
set_option maxRecDepth 100000 in
theorem k_X0_southOfPeriod {l : Launch} {D : va_G} {cy : cyS} {G : gS} {M M' : mS} {r : Int32} {a0 : Nat} (hG : wt G) (hL0 : a0 ∈ gL G) (hK0 : gK G a0 = 0) (h : m_X0_southOfPeriod G M a0 = some (M', r)) : ctI l yX0_southOfPeriod wsX0_southOfPeriod rmX0_southOfPeriod D cy G M [.ref a0] M' r := by
  unfold m_X0_southOfPeriod at h
  refine ctI_of (cc := cX0_southOfPeriod) (nL := 3) (ret := (some .int)) (lv := [(0, .ref a0)]) hG (by decide) rfl ⟨rfl, rfl⟩ (Nat.le_of_ble_eq_true rfl) rfl ?_
  intro p e s m args below meth c A ls cx w hl
  obtain ⟨hx, hb, hml, hown, hts, hr, hlocks, hK, hA, -, hsx⟩ := id cx
  have hkn : 0 ≤ (rmX0_southOfPeriod).cells ∧ 0 ≤ (rmX0_southOfPeriod).slots := ⟨Nat.zero_le _, Nat.zero_le _⟩
  refine lv_iconst (v := (0 : Int32)) hx hb dX0_southOfPeriod_0 (by decide) ?_
  refine lv_istore_n (lv' := [(1, .int ((0 : Int32))), (0, .ref a0)]) hx hb dX0_southOfPeriod_1 rfl hl (by decide) rfl (fun ls hl => ?_)
  refine lv_aload_n hx hb dX0_southOfPeriod_2 rfl (lv_at hl 1 rfl) ?_
  obtain ⟨M1, r2, y3, h⟩ := x_cl h
  refine r_callVi (As := []) (rest := []) cx w hkn hl.1 (k_X0_period hG hL0 hK0 y3) (cwV 0 hts gX0_southOfPeriod_X0_period rfl rfl rfl (by decide +kernel) ⟨Nat.le_of_ble_eq_true rfl, Nat.le_of_ble_eq_true rfl⟩) hL0 hK0 (by decide) rfl rfl rfl (Nat.le_of_ble_eq_true rfl) dX0_southOfPeriod_3 (fun H locs w => ?_)
  refine lv_istore_n (lv' := [(2, .int r2), (1, .int ((0 : Int32))), (0, .ref a0)]) hx hb dX0_southOfPeriod_6 rfl hl (by decide) rfl (fun ls hl => ?_)
  exact b_X0_southOfPeriod_7 cx hkn hL0 hK0 fu M1 ((0 : Int32)) r2 H locs ls h w (lv_sub hl [2, 1, 0] rfl)
-- X0_answer
theorem wi_X0_answer_X0 : ∀ w ∈ wsX00, w ∈ wsX0_answer := by decide +kernel
abbrev rmX0_answer : Room := { frames := 3, cells := 0, slots := 0, locals := 69 }
def m_X0_answer (G : gS) (M : mS) (a0 : Nat) (c1 : Int32) : Option (mS × Int32) := (if c1 = 0 then some (M, (mI M a0 0)) else if c1 = 1 then some (M, (mI M a0 1)) else if c1 = 2 then some (M, (mI M a0 2)) else if c1 = 3 then some (M, (mI M a0 3)) else if c1 = 4 then (if (mI M a0 4) = 0 then some (M, (0 : Int32)) else some (M, (1 : Int32))) else if c1 = 5 then some (M, (mI M a0 5)) else if c1 = 6 then o_cl (m_X0_period G M a0) (fun M9 r10 => some (M9, r10)) else if c1 = 7 then o_cl (m_X0_eastOfPeriod G M a0) (fun M13 r14 => some (M13, r14)) else if c1 = 8 then o_cl (m_X0_southOfPeriod G M a0) (fun M17 r18 => some (M17, r18)) else some (M, (0 : Int32)))
set_option maxHeartbeats 4000000 in
set_option maxRecDepth 100000 in
theorem k_X0_answer {l : Launch} {D : va_G} {cy : cyS} {G : gS} {M M' : mS} {r : Int32} {a0 : Nat} {c1 : Int32} (hG : wt G) (hL0 : a0 ∈ gL G) (hK0 : gK G a0 = 0) (h : m_X0_answer G M a0 c1 = some (M', r)) : ctI l yX0_answer wsX0_answer rmX0_answer D cy G M [.ref a0, .int c1] M' r := by
  unfold m_X0_answer at h
  refine ctI_of (cc := cX0_answer) (nL := 2) (ret := (some .int)) (lv := [(0, .ref a0), (1, .int c1)]) hG (by decide) rfl ⟨rfl, rfl⟩ (Nat.le_of_ble_eq_true rfl) rfl ?_
  intro p e s m args below meth c A ls cx w hl
  obtain ⟨hx, hb, hml, hown, hts, hr, hlocks, hK, hA, -, hsx⟩ := id cx
  have hkn : 0 ≤ (rmX0_answer).cells ∧ 0 ≤ (rmX0_answer).slots := ⟨Nat.zero_le _, Nat.zero_le _⟩
  refine lv_iload_n hx hb dX0_answer_0 rfl (lv_at hl 1 rfl) ?_
  rcases Decidable.em (c1 = 0) with k1 | k1
  · have h := x_t h k1
    rw [k1]
    refine lv_tableIn (tgt := 52) hx hb dX0_answer_1 (by decide) (by decide) rfl (by decide) ?_
    refine lv_aload_n hx hb dX0_answer_52 rfl (lv_at hl 0 rfl) ?_
    refine r_getI (k := 0) (v := .int (mI M a0 0)) cx w hL0 hK0 (by decide) rfl wi_X0_answer_X0 (by decide) rfl (List.mem_of_getElem? (i := 1) rfl) dX0_answer_53 ?_
    exact r_iret cx w h dX0_answer_56
  · have h := x_f h k1
    rcases Decidable.em (c1 = 1) with k2 | k2
    · have h := x_t h k2
      rw [k2]
      refine lv_tableIn (tgt := 57) hx hb dX0_answer_1 (by decide) (by decide) rfl (by decide) ?_
      refine lv_aload_n hx hb dX0_answer_57 rfl (lv_at hl 0 rfl) ?_
      refine r_getI (k := 1) (v := .int (mI M a0 1)) cx w hL0 hK0 (by decide) rfl wi_X0_answer_X0 (by decide) rfl (List.mem_of_getElem? (i := 2) rfl) dX0_answer_58 ?_
      exact r_iret cx w h dX0_answer_61
    · have h := x_f h k2
      rcases Decidable.em (c1 = 2) with k3 | k3
      · have h := x_t h k3
        rw [k3]
        refine lv_tableIn (tgt := 62) hx hb dX0_answer_1 (by decide) (by decide) rfl (by decide) ?_
        refine lv_aload_n hx hb dX0_answer_62 rfl (lv_at hl 0 rfl) ?_
        refine r_getI (k := 2) (v := .int (mI M a0 2)) cx w hL0 hK0 (by decide) rfl wi_X0_answer_X0 (by decide) rfl (List.mem_of_getElem? (i := 3) rfl) dX0_answer_63 ?_
        exact r_iret cx w h dX0_answer_66
      · have h := x_f h k3
        rcases Decidable.em (c1 = 3) with k4 | k4
        · have h := x_t h k4
          rw [k4]
          refine lv_tableIn (tgt := 67) hx hb dX0_answer_1 (by decide) (by decide) rfl (by decide) ?_
          refine lv_aload_n hx hb dX0_answer_67 rfl (lv_at hl 0 rfl) ?_
          refine r_getI (k := 3) (v := .int (mI M a0 3)) cx w hL0 hK0 (by decide) rfl wi_X0_answer_X0 (by decide) rfl (List.mem_of_getElem? (i := 4) rfl) dX0_answer_68 ?_
          exact r_iret cx w h dX0_answer_71
        · have h := x_f h k4
          rcases Decidable.em (c1 = 4) with k5 | k5
          · have h := x_t h k5
            rw [k5]
            refine lv_tableIn (tgt := 72) hx hb dX0_answer_1 (by decide) (by decide) rfl (by decide) ?_
            refine lv_aload_n hx hb dX0_answer_72 rfl (lv_at hl 0 rfl) ?_
            refine r_getI (k := 4) (v := .int (mI M a0 4)) cx w hL0 hK0 (by decide) rfl wi_X0_answer_X0 (by decide) rfl (List.mem_of_getElem? (i := 5) rfl) dX0_answer_73 ?_
            refine lv_if_eq (tgt := 83) hx hb dX0_answer_76 (by decide) (fun k6 => ?_) (fun k6 => ?_)
            · have h := x_t h k6
              refine lv_iconst (v := (0 : Int32)) hx hb dX0_answer_83 (by decide) ?_
              exact r_iret cx w h dX0_answer_84
            · have h := x_f h k6
              refine lv_iconst (v := (1 : Int32)) hx hb dX0_answer_79 (by decide) ?_
              refine lv_goto (tgt := 84) hx hb dX0_answer_80 (by decide) ?_
              exact r_iret cx w h dX0_answer_84
          · have h := x_f h k5
            rcases Decidable.em (c1 = 5) with k7 | k7
            · have h := x_t h k7
              rw [k7]
              refine lv_tableIn (tgt := 85) hx hb dX0_answer_1 (by decide) (by decide) rfl (by decide) ?_
              refine lv_aload_n hx hb dX0_answer_85 rfl (lv_at hl 0 rfl) ?_
              refine r_getI (k := 5) (v := .int (mI M a0 5)) cx w hL0 hK0 (by decide) rfl wi_X0_answer_X0 (by decide) rfl (List.mem_of_getElem? (i := 6) rfl) dX0_answer_86 ?_
              exact r_iret cx w h dX0_answer_89
            · have h := x_f h k7
              rcases Decidable.em (c1 = 6) with k8 | k8
              · have h := x_t h k8
                rw [k8]
                refine lv_tableIn (tgt := 90) hx hb dX0_answer_1 (by decide) (by decide) rfl (by decide) ?_
                refine lv_aload_n hx hb dX0_answer_90 rfl (lv_at hl 0 rfl) ?_
                obtain ⟨M9, r10, y11, h⟩ := x_cl h
                refine r_callVi (As := []) (rest := []) cx w hkn hl.1 (k_X0_period hG hL0 hK0 y11) (cwV 0 hts gX0_answer_X0_period rfl rfl rfl (by decide +kernel) ⟨Nat.le_of_ble_eq_true rfl, Nat.le_of_ble_eq_true rfl⟩) hL0 hK0 (by decide) rfl rfl rfl (Nat.le_of_ble_eq_true rfl) dX0_answer_91 (fun H locs w => ?_)
                exact r_iret cx w h dX0_answer_94
              · have h := x_f h k8
                rcases Decidable.em (c1 = 7) with k12 | k12
                · have h := x_t h k12
                  rw [k12]
                  refine lv_tableIn (tgt := 95) hx hb dX0_answer_1 (by decide) (by decide) rfl (by decide) ?_
                  refine lv_aload_n hx hb dX0_answer_95 rfl (lv_at hl 0 rfl) ?_
                  obtain ⟨M13, r14, y15, h⟩ := x_cl h
                  refine r_callVi (As := []) (rest := []) cx w hkn hl.1 (k_X0_eastOfPeriod hG hL0 hK0 y15) (cwV 0 hts gX0_answer_X0_eastOfPeriod rfl rfl rfl (by decide +kernel) ⟨Nat.le_of_ble_eq_true rfl, Nat.le_of_ble_eq_true rfl⟩) hL0 hK0 (by decide) rfl rfl rfl (Nat.le_of_ble_eq_true rfl) dX0_answer_96 (fun H locs w => ?_)
                  exact r_iret cx w h dX0_answer_99
                · have h := x_f h k12
                  rcases Decidable.em (c1 = 8) with k16 | k16
                  · have h := x_t h k16
                    rw [k16]
                    refine lv_tableIn (tgt := 100) hx hb dX0_answer_1 (by decide) (by decide) rfl (by decide) ?_
                    refine lv_aload_n hx hb dX0_answer_100 rfl (lv_at hl 0 rfl) ?_
                    obtain ⟨M17, r18, y19, h⟩ := x_cl h
                    refine r_callVi (As := []) (rest := []) cx w hkn hl.1 (k_X0_southOfPeriod hG hL0 hK0 y19) (cwV 0 hts gX0_answer_X0_southOfPeriod rfl rfl rfl (by decide +kernel) ⟨Nat.le_of_ble_eq_true rfl, Nat.le_of_ble_eq_true rfl⟩) hL0 hK0 (by decide) rfl rfl rfl (Nat.le_of_ble_eq_true rfl) dX0_answer_101 (fun H locs w => ?_)
                    exact r_iret cx w h dX0_answer_104
                  · have h := x_f h k16
                    refine lv_tableOut (tgt := 105) hx hb dX0_answer_1 (by have nk1 : Int32.toInt c1 ≠ 0 := fun hh => k1 (Int32.toInt_inj.mp hh); have nk2 : Int32.toInt c1 ≠ 1 := fun hh => k2 (Int32.toInt_inj.mp hh); have nk3 : Int32.toInt c1 ≠ 2 := fun hh => k3 (Int32.toInt_inj.mp hh); have nk4 : Int32.toInt c1 ≠ 3 := fun hh => k4 (Int32.toInt_inj.mp hh); have nk5 : Int32.toInt c1 ≠ 4 := fun hh => k5 (Int32.toInt_inj.mp hh); have nk7 : Int32.toInt c1 ≠ 5 := fun hh => k7 (Int32.toInt_inj.mp hh); have nk8 : Int32.toInt c1 ≠ 6 := fun hh => k8 (Int32.toInt_inj.mp hh); have nk12 : Int32.toInt c1 ≠ 7 := fun hh => k12 (Int32.toInt_inj.mp hh); have nk16 : Int32.toInt c1 ≠ 8 := fun hh => k16 (Int32.toInt_inj.mp hh); omega) (by decide) ?_
                    refine lv_iconst (v := (0 : Int32)) hx hb dX0_answer_105 (by decide) ?_
                    exact r_iret cx w h dX0_answer_106
