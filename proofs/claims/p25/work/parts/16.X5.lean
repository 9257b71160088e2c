-- X5_faceOther
theorem wi_X5_faceOther_X0 : ∀ w ∈ wsX00, w ∈ wsX5_faceOther := by decide +kernel
abbrev rmX5_faceOther : Room := { frames := 2, cells := 0, slots := 0, locals := 41 }
def m_X5_faceOther (G : gS) (M : mS) (a0 : Nat) (c1 : Int32) : Option (mS × Int32) := (if (mI M a0 3) = c1 then o_ck ((0 : Int32) = 0 ∨ (0 : Int32) = 1) (some (M, (0 : Int32))) else o_cl (m_X0_turnTo G M a0 c1) (fun M2 r3 => o_ck ((1 : Int32) = 0 ∨ (1 : Int32) = 1) (some (M2, (1 : Int32)))))
set_option maxHeartbeats 4000000 in
set_option maxRecDepth 100000 in
theorem k_X5_faceOther {l : Launch} {D : va_G} {cy : cyS} {G : gS} {M M' : mS} {r : Int32} {a0 : Nat} {c1 : Int32} (hG : wt G) (hL0 : a0 ∈ gL G) (hK0 : gK G a0 = 0) (h : m_X5_faceOther G M a0 c1 = some (M', r)) : ctI l yX5_faceOther wsX5_faceOther rmX5_faceOther D cy G M [.ref a0, .int c1] M' r := by
  unfold m_X5_faceOther at h
  refine ctI_of (cc := cX5_faceOther) (nL := 2) (ret := (some .boolean)) (lv := [(0, .ref a0), (1, .int c1)]) hG (by decide) rfl ⟨rfl, rfl⟩ (Nat.le_of_ble_eq_true rfl) rfl ?_
  intro p e s m args below meth c A ls cx w hl
  obtain ⟨hx, hb, hml, hown, hts, hr, hlocks, hK, hA, -, hsx⟩ := id cx
  have hkn : 0 ≤ (rmX5_faceOther).cells ∧ 0 ≤ (rmX5_faceOther).slots := ⟨Nat.zero_le _, Nat.zero_le _⟩
  refine lv_aload_n hx hb dX5_faceOther_0 rfl (lv_at hl 0 rfl) ?_
  refine r_getI (k := 3) (v := .int (mI M a0 3)) cx w hL0 hK0 (by decide) rfl wi_X5_faceOther_X0 (by decide) rfl (List.mem_of_getElem? (i := 1) rfl) dX5_faceOther_1 ?_
  refine lv_iload_n hx hb dX5_faceOther_4 rfl (lv_at hl 1 rfl) ?_
  refine lv_icmp_ne (tgt := 10) hx hb dX5_faceOther_5 (by decide) (fun k1 => ?_) (fun k1 => ?_)
  · have h := x_f h k1
    refine lv_aload_n hx hb dX5_faceOther_10 rfl (lv_at hl 0 rfl) ?_
    refine lv_iload_n hx hb dX5_faceOther_11 rfl (lv_at hl 1 rfl) ?_
    obtain ⟨M2, r3, y4, h⟩ := x_cl h
    refine r_callVv (As := [.int c1]) (rest := []) cx w hkn hl.1 (k_X0_turnTo hG hL0 hK0 y4) (cwV 1 hts gX5_faceOther_X0_turnTo rfl rfl rfl (by decide +kernel) ⟨Nat.le_of_ble_eq_true rfl, Nat.le_of_ble_eq_true rfl⟩) hL0 hK0 (by decide) rfl rfl rfl (Nat.le_of_ble_eq_true rfl) dX5_faceOther_12 (fun H locs w => ?_)
    refine lv_iconst (v := (1 : Int32)) hx hb dX5_faceOther_15 (by decide) ?_
    obtain ⟨z5, h⟩ := x_ck h
    exact r_zret cx w z5 h dX5_faceOther_16
  · have h := x_t h k1
    refine lv_iconst (v := (0 : Int32)) hx hb dX5_faceOther_8 (by decide) ?_
    obtain ⟨z6, h⟩ := x_ck h
    exact r_zret cx w z6 h dX5_faceOther_9
-- X5_carryOut
theorem wi_X5_carryOut_X0 : ∀ w ∈ wsX00, w ∈ wsX5_carryOut := by decide +kernel
theorem wi_X5_carryOut_X3 : ∀ w ∈ wsX30, w ∈ wsX5_carryOut := by decide +kernel
theorem wi_X5_carryOut_X5 : ∀ w ∈ wsX50, w ∈ wsX5_carryOut := by decide +kernel
theorem wi_X5_carryOut_X8 : ∀ w ∈ wsX80, w ∈ wsX5_carryOut := by decide +kernel
abbrev rmX5_carryOut : Room := { frames := 4, cells := 0, slots := 0, locals := 91 }
def m_X5_carryOut_120 (G : gS) (a0 : Nat) (c1 : Int32) (a2 : Nat)  (M : mS) (v6 : Nat) (v7 : Int32) (s0 : Int32) : Option (mS × Int32) := o_ck (v7 = 0 ∨ v7 = 1) (o_wI M v6 4 v7 (fun M2 => o_ck (s0 = 0 ∨ s0 = 1) (some (M2, s0))))
def m_X5_carryOut_103 (G : gS) (a0 : Nat) (c1 : Int32) (a2 : Nat)  (M : mS) (v6 : Nat) (s0 : Int32) : Option (mS × Int32) := (if (mI M v6 4) = s0 then m_X5_carryOut_120 G a0 c1 a2 M v6 s0 ((0 : Int32)) else m_X5_carryOut_120 G a0 c1 a2 M v6 s0 ((1 : Int32)))
def m_X5_carryOut (G : gS) (M : mS) (a0 : Nat) (c1 : Int32) (a2 : Nat) : Option (mS × Int32) := o_rf (gP G a0 0) (fun q1 => o_rf (gP G q1 5) (fun q2 => o_ix c1 (gN G q2) (o_bd ((mI M q2 (Int32.toNatClampNeg c1))) (fun x4 => o_rf (gP G a0 0) (fun q5 => o_rf (gP G q5 6) (fun q6 => o_ix c1 (gN G q6) (o_bd ((mI M q6 (Int32.toNatClampNeg c1))) (fun x8 => o_rf (gP G a0 0) (fun q9 => o_rf (gP G q9 4) (fun q10 => o_ix c1 (gN G q10) (o_bd ((mI M q10 (Int32.toNatClampNeg c1))) (fun x12 => (if x12 = (214 : Int32) then o_cl (m_X8_washRows G M a2 x4 x8) (fun M28 r29 => (if r29 ≤ 0 then o_ck ((0 : Int32) = 0 ∨ (0 : Int32) = 1) (some (M28, (0 : Int32))) else o_ck ((1 : Int32) = 0 ∨ (1 : Int32) = 1) (some (M28, (1 : Int32))))) else o_cl (m_X8_hasAnt G M a2 x4) (fun M14 r15 => (if r15 = 0 then o_ck ((0 : Int32) = 0 ∨ (0 : Int32) = 1) (some (M14, (0 : Int32))) else o_rf (gP G a2 3) (fun q18 => o_ix x4 (gN G q18) (o_rf (gP G q18 (Int32.toNatClampNeg x4)) (fun q20 => (if x12 = (216 : Int32) then o_cl (m_X5_faceOther G M14 q20 x8) (fun M23 r24 => o_ck (r24 = 0 ∨ r24 = 1) (some (M23, r24))) else (if x12 = (218 : Int32) then m_X5_carryOut_103 G a0 c1 a2 M14 q20 ((1 : Int32)) else m_X5_carryOut_103 G a0 c1 a2 M14 q20 ((0 : Int32))))))))))))))))))))))
set_option maxHeartbeats 4000000 in
set_option maxRecDepth 100000 in
theorem b_X5_carryOut_120 {p : Program} {e : Env} {s : State} {m : MethodId} {args : Array Value} {below : List Frame} {meth : Method} {c : Code} {A : Nat → Prop} {l : Launch} {D : va_G} {cy : cyS} {G : gS} (cx : cX p s m args meth c cX5_carryOut RX5 9 (some .boolean) wsX5_carryOut D cy G A) {k0 n0 : Nat} (hkn : k0 ≤ (rmX5_carryOut).cells ∧ n0 ≤ (rmX5_carryOut).slots) {M' : mS} {r : Int32} {a0 : Nat} {c1 : Int32} {a2 : Nat} (hL0 : a0 ∈ gL G) (hK0 : gK G a0 = 4) (hL2 : a2 ∈ gL G) (hK2 : gK G a2 = 7)  : ∀ (M : mS) (v6 : Nat) (v7 : Int32) (s0 : Int32) (H : Heap) (locs : List Loc) (ls : Array Slot), v6 ∈ gL G → gK G v6 = 0 → m_X5_carryOut_120 G a0 c1 a2 M v6 v7 s0 = some (M', r) → wd D cy G M A s.heap H locs → lv_has ls 9 [(6, .ref v6), (7, .int v7)] → W p l e rmX5_carryOut s m args below meth c H locs k0 n0 (MQ below (va_Qi (fun (r' : Int32) (_ : Unit) => r' = r) (fun _ t => wOut D cy G M' t) A) args s k0 n0 A) (F0 m 120 ls [.int s0]) := by
  obtain ⟨hx, hb, hml, hown, hts, hr, hlocks, hK, hA, hG, hsx⟩ := id cx
  intro M v6 v7 s0 H locs ls gL6 gK6 h w hl
  unfold m_X5_carryOut_120 at h
  refine lv_istore (lv' := [(8, .int s0), (6, .ref v6), (7, .int v7)]) hx hb dX5_carryOut_120 hl (by decide) rfl (fun ls hl => ?_)
  refine lv_aload hx hb dX5_carryOut_122 (lv_at hl 1 rfl) ?_
  refine lv_iload hx hb dX5_carryOut_124 (lv_at hl 2 rfl) ?_
  obtain ⟨z1, h⟩ := x_ck h
  obtain ⟨M2, eM2, h⟩ := x_wI h
  refine r_putI (k := 4) (ty := .boolean) cx w tyX0 tyX0_ok nmX0 gL6 gK6 (by decide) rfl wi_X5_carryOut_X0 (by decide) rfl rfl (z_nar z1) (z_fit z1) st_0_4 (ln_0 _ _ (by decide)) (List.mem_of_getElem? (i := 6) rfl) dX5_carryOut_126 eM2 (fun H locs w => ?_)
  refine lv_iload hx hb dX5_carryOut_129 (lv_at hl 0 rfl) ?_
  obtain ⟨z3, h⟩ := x_ck h
  exact r_zret cx w z3 h dX5_carryOut_131
set_option maxHeartbeats 4000000 in
set_option maxRecDepth 100000 in
theorem b_X5_carryOut_103 {p : Program} {e : Env} {s : State} {m : MethodId} {args : Array Value} {below : List Frame} {meth : Method} {c : Code} {A : Nat → Prop} {l : Launch} {D : va_G} {cy : cyS} {G : gS} (cx : cX p s m args meth c cX5_carryOut RX5 9 (some .boolean) wsX5_carryOut D cy G A) {k0 n0 : Nat} (hkn : k0 ≤ (rmX5_carryOut).cells ∧ n0 ≤ (rmX5_carryOut).slots) {M' : mS} {r : Int32} {a0 : Nat} {c1 : Int32} {a2 : Nat} (hL0 : a0 ∈ gL G) (hK0 : gK G a0 = 4) (hL2 : a2 ∈ gL G) (hK2 : gK G a2 = 7)  : ∀ (M : mS) (v6 : Nat) (s0 : Int32) (H : Heap) (locs : List Loc) (ls : Array Slot), v6 ∈ gL G → gK G v6 = 0 → m_X5_carryOut_103 G a0 c1 a2 M v6 s0 = some (M', r) → wd D cy G M A s.heap H locs → lv_has ls 9 [(6, .ref v6)] → W p l e rmX5_carryOut s m args below meth c H locs k0 n0 (MQ below (va_Qi (fun (r' : Int32) (_ : Unit) => r' = r) (fun _ t => wOut D cy G M' t) A) args s k0 n0 A) (F0 m 103 ls [.int s0]) := by
  obtain ⟨hx, hb, hml, hown, hts, hr, hlocks, hK, hA, hG, hsx⟩ := id cx
  intro M v6 s0 H locs ls gL6 gK6 h w hl
  unfold m_X5_carryOut_103 at h
  refine lv_istore (lv' := [(7, .int s0), (6, .ref v6)]) hx hb dX5_carryOut_103 hl (by decide) rfl (fun ls hl => ?_)
  refine lv_aload hx hb dX5_carryOut_105 (lv_at hl 1 rfl) ?_
  refine r_getI (k := 4) (v := .int (mI M v6 4)) cx w gL6 gK6 (by decide) rfl wi_X5_carryOut_X0 (by decide) rfl (List.mem_of_getElem? (i := 6) rfl) dX5_carryOut_107 ?_
  refine lv_iload hx hb dX5_carryOut_110 (lv_at hl 0 rfl) ?_
  refine lv_icmp_eq (tgt := 119) hx hb dX5_carryOut_112 (by decide) (fun k1 => ?_) (fun k1 => ?_)
  · have h := x_t h k1
    refine lv_iconst (v := (0 : Int32)) hx hb dX5_carryOut_119 (by decide) ?_
    exact b_X5_carryOut_120 cx hkn hL0 hK0 hL2 hK2 M v6 s0 ((0 : Int32)) H locs ls gL6 gK6 h w (lv_sub hl [1, 0] rfl)
  · have h := x_f h k1
    refine lv_iconst (v := (1 : Int32)) hx hb dX5_carryOut_115 (by decide) ?_
    refine lv_goto (tgt := 120) hx hb dX5_carryOut_116 (by decide) ?_
    exact b_X5_carryOut_120 cx hkn hL0 hK0 hL2 hK2 M v6 s0 ((1 : Int32)) H locs ls gL6 gK6 h w (lv_sub hl [1, 0] rfl)
set_option maxHeartbeats 4000000 in
set_option maxRecDepth 100000 in
theorem k_X5_carryOut {l : Launch} {D : va_G} {cy : cyS} {G : gS} {M M' : mS} {r : Int32} {a0 : Nat} {c1 : Int32} {a2 : Nat} (hG : wt G) (hL0 : a0 ∈ gL G) (hK0 : gK G a0 = 4) (hL2 : a2 ∈ gL G) (hK2 : gK G a2 = 7) (h : m_X5_carryOut G M a0 c1 a2 = some (M', r)) : ctI l yX5_carryOut wsX5_carryOut rmX5_carryOut D cy G M [.ref a0, .int c1, .ref a2] M' r := by
  unfold m_X5_carryOut at h
  refine ctI_of (cc := cX5_carryOut) (nL := 9) (ret := (some .boolean)) (lv := [(0, .ref a0), (1, .int c1), (2, .ref a2)]) hG (by decide) rfl ⟨rfl, rfl⟩ (Nat.le_of_ble_eq_true rfl) rfl ?_
  intro p e s m args below meth c A ls cx w hl
  obtain ⟨hx, hb, hml, hown, hts, hr, hlocks, hK, hA, -, hsx⟩ := id cx
  have hkn : 0 ≤ (rmX5_carryOut).cells ∧ 0 ≤ (rmX5_carryOut).slots := ⟨Nat.zero_le _, Nat.zero_le _⟩
  refine lv_aload_n hx hb dX5_carryOut_0 rfl (lv_at hl 0 rfl) ?_
  obtain ⟨q1, eq1, h⟩ := x_rf h
  obtain ⟨hLq1, hKq1⟩ := wt_q hG hL0 hK0 eq1
  have hKq1 : gK G q1 = 2 := hKq1
  refine r_getR (k := 0) cx w hL0 hK0 (by decide) rfl wi_X5_carryOut_X5 (by decide) rfl eq1 (List.mem_of_getElem? (i := 1) rfl) dX5_carryOut_1 ?_
  obtain ⟨q2, eq2, h⟩ := x_rf h
  obtain ⟨hLq2, hKq2⟩ := wt_q hG hLq1 hKq1 eq2
  have hKq2 : gK G q2 = 12 := hKq2
  refine r_getR (k := 5) cx w hLq1 hKq1 (by decide) rfl wi_X5_carryOut_X3 (by decide) rfl eq2 (List.mem_of_getElem? (i := 2) rfl) dX5_carryOut_4 ?_
  refine lv_iload_n hx hb dX5_carryOut_7 rfl (lv_at hl 1 rfl) ?_
  obtain ⟨z3, h⟩ := x_ix h
  refine r_iald cx w hLq2 hKq2 z3 dX5_carryOut_8 ?_
  obtain ⟨x4, ex4, h⟩ := x_bd h
  refine r_topI ex4 ?_
  refine lv_istore_n (lv' := [(3, .int x4), (0, .ref a0), (1, .int c1), (2, .ref a2)]) hx hb dX5_carryOut_9 rfl hl (by decide) rfl (fun ls hl => ?_)
  refine lv_aload_n hx hb dX5_carryOut_10 rfl (lv_at hl 1 rfl) ?_
  obtain ⟨q5, eq5, h⟩ := x_rf h
  obtain ⟨hLq5, hKq5⟩ := wt_q hG hL0 hK0 eq5
  have hKq5 : gK G q5 = 2 := hKq5
  refine r_getR (k := 0) cx w hL0 hK0 (by decide) rfl wi_X5_carryOut_X5 (by decide) rfl eq5 (List.mem_of_getElem? (i := 1) rfl) dX5_carryOut_11 ?_
  obtain ⟨q6, eq6, h⟩ := x_rf h
  obtain ⟨hLq6, hKq6⟩ := wt_q hG hLq5 hKq5 eq6
  have hKq6 : gK G q6 = 12 := hKq6
  refine r_getR (k := 6) cx w hLq5 hKq5 (by decide) rfl wi_X5_carryOut_X3 (by decide) rfl eq6 (List.mem_of_getElem? (i := 3) rfl) dX5_carryOut_14 ?_
  refine lv_iload_n hx hb dX5_carryOut_17 rfl (lv_at hl 2 rfl) ?_
  obtain ⟨z7, h⟩ := x_ix h
  refine r_iald cx w hLq6 hKq6 z7 dX5_carryOut_18 ?_
  obtain ⟨x8, ex8, h⟩ := x_bd h
  refine r_topI ex8 ?_
  refine lv_istore (lv' := [(4, .int x8), (3, .int x4), (0, .ref a0), (1, .int c1), (2, .ref a2)]) hx hb dX5_carryOut_19 hl (by decide) rfl (fun ls hl => ?_)
  refine lv_aload_n hx hb dX5_carryOut_21 rfl (lv_at hl 2 rfl) ?_
  obtain ⟨q9, eq9, h⟩ := x_rf h
  obtain ⟨hLq9, hKq9⟩ := wt_q hG hL0 hK0 eq9
  have hKq9 : gK G q9 = 2 := hKq9
  refine r_getR (k := 0) cx w hL0 hK0 (by decide) rfl wi_X5_carryOut_X5 (by decide) rfl eq9 (List.mem_of_getElem? (i := 1) rfl) dX5_carryOut_22 ?_
  obtain ⟨q10, eq10, h⟩ := x_rf h
  obtain ⟨hLq10, hKq10⟩ := wt_q hG hLq9 hKq9 eq10
  have hKq10 : gK G q10 = 12 := hKq10
  refine r_getR (k := 4) cx w hLq9 hKq9 (by decide) rfl wi_X5_carryOut_X3 (by decide) rfl eq10 (List.mem_of_getElem? (i := 4) rfl) dX5_carryOut_25 ?_
  refine lv_iload_n hx hb dX5_carryOut_28 rfl (lv_at hl 3 rfl) ?_
  obtain ⟨z11, h⟩ := x_ix h
  refine r_iald cx w hLq10 hKq10 z11 dX5_carryOut_29 ?_
  obtain ⟨x12, ex12, h⟩ := x_bd h
  refine r_topI ex12 ?_
  refine lv_istore (lv' := [(5, .int x12), (4, .int x8), (3, .int x4), (0, .ref a0), (1, .int c1), (2, .ref a2)]) hx hb dX5_carryOut_30 hl (by decide) rfl (fun ls hl => ?_)
  refine lv_iload hx hb dX5_carryOut_32 (lv_at hl 0 rfl) ?_
  refine lv_sipush (v := (214 : Int32)) hx hb dX5_carryOut_34 (by decide) ?_
  refine lv_icmp_ne (tgt := 56) hx hb dX5_carryOut_37 (by decide) (fun k13 => ?_) (fun k13 => ?_)
  · have h := x_f h k13
    refine lv_aload_n hx hb dX5_carryOut_56 rfl (lv_at hl 5 rfl) ?_
    refine lv_iload_n hx hb dX5_carryOut_57 rfl (lv_at hl 2 rfl) ?_
    obtain ⟨M14, r15, y16, h⟩ := x_cl h
    refine r_callVi (As := [.int x4]) (rest := []) cx w hkn hl.1 (k_X8_hasAnt hG hL2 hK2 y16) (cwV 1 hts gX5_carryOut_X8_hasAnt rfl rfl rfl (by decide +kernel) ⟨Nat.le_of_ble_eq_true rfl, Nat.le_of_ble_eq_true rfl⟩) hL2 hK2 (by decide) rfl rfl rfl (Nat.le_of_ble_eq_true rfl) dX5_carryOut_58 (fun H locs w => ?_)
    refine lv_if_ne (tgt := 66) hx hb dX5_carryOut_61 (by decide) (fun k17 => ?_) (fun k17 => ?_)
    · have h := x_f h k17
      refine lv_aload_n hx hb dX5_carryOut_66 rfl (lv_at hl 5 rfl) ?_
      obtain ⟨q18, eq18, h⟩ := x_rf h
      obtain ⟨hLq18, hKq18⟩ := wt_q hG hL2 hK2 eq18
      have hKq18 : gK G q18 = 14 := hKq18
      refine r_getR (k := 3) cx w hL2 hK2 (by decide) rfl wi_X5_carryOut_X8 (by decide) rfl eq18 (List.mem_of_getElem? (i := 5) rfl) dX5_carryOut_67 ?_
      refine lv_iload_n hx hb dX5_carryOut_70 rfl (lv_at hl 2 rfl) ?_
      obtain ⟨z19, h⟩ := x_ix h
      obtain ⟨q20, eq20, h⟩ := x_rf h
      obtain ⟨hLq20, hKq20⟩ := wt_q hG hLq18 hKq18 eq20
      have hKq20 : gK G q20 = 0 := hKq20
      refine r_aald cx w hLq18 hKq18 z19 eq20 dX5_carryOut_71 ?_
      refine lv_astore (lv' := [(6, .ref q20), (5, .int x12), (4, .int x8), (3, .int x4), (0, .ref a0), (1, .int c1), (2, .ref a2)]) hx hb dX5_carryOut_72 hl (by decide) rfl (fun ls hl => ?_)
      refine lv_iload hx hb dX5_carryOut_74 (lv_at hl 1 rfl) ?_
      refine lv_sipush (v := (216 : Int32)) hx hb dX5_carryOut_76 (by decide) ?_
      refine lv_icmp_ne (tgt := 90) hx hb dX5_carryOut_79 (by decide) (fun k21 => ?_) (fun k21 => ?_)
      · have h := x_f h k21
        refine lv_iload hx hb dX5_carryOut_90 (lv_at hl 1 rfl) ?_
        refine lv_sipush (v := (218 : Int32)) hx hb dX5_carryOut_92 (by decide) ?_
        refine lv_icmp_ne (tgt := 102) hx hb dX5_carryOut_95 (by decide) (fun k22 => ?_) (fun k22 => ?_)
        · have h := x_f h k22
          refine lv_iconst (v := (0 : Int32)) hx hb dX5_carryOut_102 (by decide) ?_
          exact b_X5_carryOut_103 cx hkn hL0 hK0 hL2 hK2 M14 q20 ((0 : Int32)) H locs ls hLq20 hKq20 h w (lv_sub hl [0] rfl)
        · have h := x_t h k22
          refine lv_iconst (v := (1 : Int32)) hx hb dX5_carryOut_98 (by decide) ?_
          refine lv_goto (tgt := 103) hx hb dX5_carryOut_99 (by decide) ?_
          exact b_X5_carryOut_103 cx hkn hL0 hK0 hL2 hK2 M14 q20 ((1 : Int32)) H locs ls hLq20 hKq20 h w (lv_sub hl [0] rfl)
      · have h := x_t h k21
        refine lv_aload hx hb dX5_carryOut_82 (lv_at hl 0 rfl) ?_
        refine lv_iload hx hb dX5_carryOut_84 (lv_at hl 2 rfl) ?_
        obtain ⟨M23, r24, y25, h⟩ := x_cl h
        refine r_callSi (As := [.ref q20, .int x8]) (rest := []) cx w hkn hl.1 (k_X5_faceOther hG hLq20 hKq20 y25) (va_cwS 2 hts gX5_carryOut_X5_faceOther rfl rfl rfl (by decide +kernel) ⟨Nat.le_of_ble_eq_true rfl, Nat.le_of_ble_eq_true rfl⟩) rfl rfl (Nat.le_of_ble_eq_true rfl) dX5_carryOut_86 (fun H locs w => ?_)
        obtain ⟨z26, h⟩ := x_ck h
        exact r_zret cx w z26 h dX5_carryOut_89
    · have h := x_t h k17
      refine lv_iconst (v := (0 : Int32)) hx hb dX5_carryOut_64 (by decide) ?_
      obtain ⟨z27, h⟩ := x_ck h
      exact r_zret cx w z27 h dX5_carryOut_65
  · have h := x_t h k13
    refine lv_aload_n hx hb dX5_carryOut_40 rfl (lv_at hl 5 rfl) ?_
    refine lv_iload_n hx hb dX5_carryOut_41 rfl (lv_at hl 2 rfl) ?_
    refine lv_iload hx hb dX5_carryOut_42 (lv_at hl 1 rfl) ?_
    obtain ⟨M28, r29, y30, h⟩ := x_cl h
    refine r_callVi (As := [.int x4, .int x8]) (rest := []) cx w hkn hl.1 (k_X8_washRows hG hL2 hK2 y30) (cwV 2 hts gX5_carryOut_X8_washRows rfl rfl rfl (by decide +kernel) ⟨Nat.le_of_ble_eq_true rfl, Nat.le_of_ble_eq_true rfl⟩) hL2 hK2 (by decide) rfl rfl rfl (Nat.le_of_ble_eq_true rfl) dX5_carryOut_44 (fun H locs w => ?_)
    refine lv_if_le (tgt := 54) hx hb dX5_carryOut_47 (by decide) (fun k31 => ?_) (fun k31 => ?_)
    · have h := x_t h k31
      refine lv_iconst (v := (0 : Int32)) hx hb dX5_carryOut_54 (by decide) ?_
      obtain ⟨z32, h⟩ := x_ck h
      exact r_zret cx w z32 h dX5_carryOut_55
    · have h := x_f h k31
      refine lv_iconst (v := (1 : Int32)) hx hb dX5_carryOut_50 (by decide) ?_
      refine lv_goto (tgt := 55) hx hb dX5_carryOut_51 (by decide) ?_
      obtain ⟨z33, h⟩ := x_ck h
      exact r_zret cx w z33 h dX5_carryOut_55
-- X5_moveAnt
theorem wi_X5_moveAnt_X0 : ∀ w ∈ wsX00, w ∈ wsX5_moveAnt := by decide +kernel
theorem wi_X5_moveAnt_X5 : ∀ w ∈ wsX50, w ∈ wsX5_moveAnt := by decide +kernel
abbrev rmX5_moveAnt : Room := { frames := 2, cells := 0, slots := 0, locals := 45 }
def m_X5_moveAnt (G : gS) (M : mS) (a0 : Nat) (a1 : Nat) (a2 : Nat) : Option (mS × Unit) := o_cl (m_X0_stoneUnder G M a1) (fun M1 r2 => o_cl (m_X8_colourAt G M1 a2 r2) (fun M4 r5 => o_rf (gP G a0 0) (fun q7 => o_cl (m_X3_turnFor G M4 q7 (mI M4 a1 0) r5) (fun M8 r9 => o_rf (gP G a0 0) (fun q11 => o_cl (m_X3_remainder G M8 q11 (mI M8 a1 0) (r5 + (1 : Int32))) (fun M12 r13 => o_cl (m_X8_setStone G M12 a2 r2 r13) (fun M15 r16 => o_cl (m_X0_go G M15 a1 r9) (fun M18 r19 => some (M18, ())))))))))
set_option maxHeartbeats 4000000 in
set_option maxRecDepth 100000 in
theorem k_X5_moveAnt {l : Launch} {D : va_G} {cy : cyS} {G : gS} {M M' : mS} {a0 : Nat} {a1 : Nat} {a2 : Nat} (hG : wt G) (hL0 : a0 ∈ gL G) (hK0 : gK G a0 = 4) (hL1 : a1 ∈ gL G) (hK1 : gK G a1 = 0) (hL2 : a2 ∈ gL G) (hK2 : gK G a2 = 7) (h : m_X5_moveAnt G M a0 a1 a2 = some (M', ())) : ctV l yX5_moveAnt wsX5_moveAnt rmX5_moveAnt D cy G M [.ref a0, .ref a1, .ref a2] M' := by
  unfold m_X5_moveAnt at h
  refine ctV_of (cc := cX5_moveAnt) (nL := 6) (ret := none) (lv := [(0, .ref a0), (1, .ref a1), (2, .ref a2)]) hG (by decide) rfl ⟨rfl, rfl⟩ (Nat.le_of_ble_eq_true rfl) rfl ?_
  intro p e s m args below meth c A ls cx w hl
  obtain ⟨hx, hb, hml, hown, hts, hr, hlocks, hK, hA, -, hsx⟩ := id cx
  have hkn : 0 ≤ (rmX5_moveAnt).cells ∧ 0 ≤ (rmX5_moveAnt).slots := ⟨Nat.zero_le _, Nat.zero_le _⟩
  refine lv_aload_n hx hb dX5_moveAnt_0 rfl (lv_at hl 1 rfl) ?_
  obtain ⟨M1, r2, y3, h⟩ := x_cl h
  refine r_callVi (As := []) (rest := []) cx w hkn hl.1 (k_X0_stoneUnder hG hL1 hK1 y3) (cwV 0 hts gX5_moveAnt_X0_stoneUnder rfl rfl rfl (by decide +kernel) ⟨Nat.le_of_ble_eq_true rfl, Nat.le_of_ble_eq_true rfl⟩) hL1 hK1 (by decide) rfl rfl rfl (Nat.le_of_ble_eq_true rfl) dX5_moveAnt_1 (fun H locs w => ?_)
  refine lv_istore_n (lv' := [(3, .int r2), (0, .ref a0), (1, .ref a1), (2, .ref a2)]) hx hb dX5_moveAnt_4 rfl hl (by decide) rfl (fun ls hl => ?_)
  refine lv_aload_n hx hb dX5_moveAnt_5 rfl (lv_at hl 3 rfl) ?_
  refine lv_iload_n hx hb dX5_moveAnt_6 rfl (lv_at hl 0 rfl) ?_
  obtain ⟨M4, r5, y6, h⟩ := x_cl h
  refine r_callVi (As := [.int r2]) (rest := []) cx w hkn hl.1 (k_X8_colourAt hG hL2 hK2 y6) (cwV 1 hts gX5_moveAnt_X8_colourAt rfl rfl rfl (by decide +kernel) ⟨Nat.le_of_ble_eq_true rfl, Nat.le_of_ble_eq_true rfl⟩) hL2 hK2 (by decide) rfl rfl rfl (Nat.le_of_ble_eq_true rfl) dX5_moveAnt_7 (fun H locs w => ?_)
  refine lv_istore (lv' := [(4, .int r5), (3, .int r2), (0, .ref a0), (1, .ref a1), (2, .ref a2)]) hx hb dX5_moveAnt_10 hl (by decide) rfl (fun ls hl => ?_)
  refine lv_aload_n hx hb dX5_moveAnt_12 rfl (lv_at hl 2 rfl) ?_
  obtain ⟨q7, eq7, h⟩ := x_rf h
  obtain ⟨hLq7, hKq7⟩ := wt_q hG hL0 hK0 eq7
  have hKq7 : gK G q7 = 2 := hKq7
  refine r_getR (k := 0) cx w hL0 hK0 (by decide) rfl wi_X5_moveAnt_X5 (by decide) rfl eq7 (List.mem_of_getElem? (i := 1) rfl) dX5_moveAnt_13 ?_
  refine lv_aload_n hx hb dX5_moveAnt_16 rfl (lv_at hl 3 rfl) ?_
  refine r_getI (k := 0) (v := .int (mI M4 a1 0)) cx w hL1 hK1 (by decide) rfl wi_X5_moveAnt_X0 (by decide) rfl (List.mem_of_getElem? (i := 2) rfl) dX5_moveAnt_17 ?_
  refine lv_iload hx hb dX5_moveAnt_20 (lv_at hl 0 rfl) ?_
  obtain ⟨M8, r9, y10, h⟩ := x_cl h
  refine r_callVi (As := [.int ((mI M4 a1 0)), .int r5]) (rest := []) cx w hkn hl.1 (k_X3_turnFor hG hLq7 hKq7 y10) (cwV 2 hts gX5_moveAnt_X3_turnFor rfl rfl rfl (by decide +kernel) ⟨Nat.le_of_ble_eq_true rfl, Nat.le_of_ble_eq_true rfl⟩) hLq7 hKq7 (by decide) rfl rfl rfl (Nat.le_of_ble_eq_true rfl) dX5_moveAnt_22 (fun H locs w => ?_)
  refine lv_istore (lv' := [(5, .int r9), (4, .int r5), (3, .int r2), (0, .ref a0), (1, .ref a1), (2, .ref a2)]) hx hb dX5_moveAnt_25 hl (by decide) rfl (fun ls hl => ?_)
  refine lv_aload_n hx hb dX5_moveAnt_27 rfl (lv_at hl 5 rfl) ?_
  refine lv_iload_n hx hb dX5_moveAnt_28 rfl (lv_at hl 2 rfl) ?_
  refine lv_aload_n hx hb dX5_moveAnt_29 rfl (lv_at hl 3 rfl) ?_
  obtain ⟨q11, eq11, h⟩ := x_rf h
  obtain ⟨hLq11, hKq11⟩ := wt_q hG hL0 hK0 eq11
  have hKq11 : gK G q11 = 2 := hKq11
  refine r_getR (k := 0) cx w hL0 hK0 (by decide) rfl wi_X5_moveAnt_X5 (by decide) rfl eq11 (List.mem_of_getElem? (i := 1) rfl) dX5_moveAnt_30 ?_
  refine lv_aload_n hx hb dX5_moveAnt_33 rfl (lv_at hl 4 rfl) ?_
  refine r_getI (k := 0) (v := .int (mI M8 a1 0)) cx w hL1 hK1 (by decide) rfl wi_X5_moveAnt_X0 (by decide) rfl (List.mem_of_getElem? (i := 2) rfl) dX5_moveAnt_34 ?_
  refine lv_iload hx hb dX5_moveAnt_37 (lv_at hl 1 rfl) ?_
  refine lv_iconst (v := (1 : Int32)) hx hb dX5_moveAnt_39 (by decide) ?_
  refine lv_iadd hx hb dX5_moveAnt_40 ?_
  obtain ⟨M12, r13, y14, h⟩ := x_cl h
  refine r_callVi (As := [.int ((mI M8 a1 0)), .int ((r5 + (1 : Int32)))]) (rest := [.int r2, .ref a2]) cx w hkn hl.1 (k_X3_remainder hG hLq11 hKq11 y14) (cwV 2 hts gX5_moveAnt_X3_remainder rfl rfl rfl (by decide +kernel) ⟨Nat.le_of_ble_eq_true rfl, Nat.le_of_ble_eq_true rfl⟩) hLq11 hKq11 (by decide) rfl rfl rfl (Nat.le_of_ble_eq_true rfl) dX5_moveAnt_41 (fun H locs w => ?_)
  obtain ⟨M15, r16, y17, h⟩ := x_cl h
  refine r_callVv (As := [.int r2, .int r13]) (rest := []) cx w hkn hl.1 (k_X8_setStone hG hL2 hK2 y17) (cwV 2 hts gX5_moveAnt_X8_setStone rfl rfl rfl (by decide +kernel) ⟨Nat.le_of_ble_eq_true rfl, Nat.le_of_ble_eq_true rfl⟩) hL2 hK2 (by decide) rfl rfl rfl (Nat.le_of_ble_eq_true rfl) dX5_moveAnt_44 (fun H locs w => ?_)
  refine lv_aload_n hx hb dX5_moveAnt_47 rfl (lv_at hl 4 rfl) ?_
  refine lv_iload hx hb dX5_moveAnt_48 (lv_at hl 0 rfl) ?_
  obtain ⟨M18, r19, y20, h⟩ := x_cl h
  refine r_callVv (As := [.int r9]) (rest := []) cx w hkn hl.1 (k_X0_go hG hL1 hK1 y20) (cwV 1 hts gX5_moveAnt_X0_go rfl rfl rfl (by decide +kernel) ⟨Nat.le_of_ble_eq_true rfl, Nat.le_of_ble_eq_true rfl⟩) hL1 hK1 (by decide) rfl rfl rfl (Nat.le_of_ble_eq_true rfl) dX5_moveAnt_50 (fun H locs w => ?_)
  exact r_vret cx w h dX5_moveAnt_53
-- X5_makeStep
theorem wi_X5_makeStep_X0 : ∀ w ∈ wsX00, w ∈ wsX5_makeStep := by decide +kernel
theorem wi_X5_makeStep_X3 : ∀ w ∈ wsX30, w ∈ wsX5_makeStep := by decide +kernel
theorem wi_X5_makeStep_X5 : ∀ w ∈ wsX50, w ∈ wsX5_makeStep := by decide +kernel
theorem wi_X5_makeStep_X8 : ∀ w ∈ wsX80, w ∈ wsX5_makeStep := by decide +kernel
abbrev rmX5_makeStep : Room := { frames := 5, cells := 0, slots := 0, locals := 133 }
def m_X5_makeStep_105 (G : gS) (a0 : Nat) (a1 : Nat)  (M : mS)  : Option (mS × Unit) := o_cl (m_X8_countMeetings G M a1) (fun M1 r2 => o_wI M1 a1 5 ((mI M1 a1 5) + (1 : Int32)) (fun M4 => some (M4, ())))
def m_X5_makeStep_99 (G : gS) (a0 : Nat) (a1 : Nat) (kb62 : mS → Int32 → Option (mS × Unit)) (M : mS) (v2 : Int32) : Option (mS × Unit) := o_bd (v2 + 1 : Int32) (fun x1 => kb62 M x1)
def m_X5_makeStep_62 (G : gS) (a0 : Nat) (a1 : Nat)  : Nat → mS → Int32 → Option (mS × Unit)
  | 0, _, _ => none
  | n + 1, M, v2 => (if (mI M a1 4) ≤ v2 then m_X5_makeStep_105 G a0 a1 M else (if (6 : Int32) ≤ v2 then m_X5_makeStep_105 G a0 a1 M else o_rf (gP G a1 3) (fun q3 => o_ix v2 (gN G q3) (o_rf (gP G q3 (Int32.toNatClampNeg v2)) (fun q5 => (if (mI M q5 4) = 0 then m_X5_makeStep_99 G a0 a1 (fun M v2 => m_X5_makeStep_62 G a0 a1 n M v2) M v2 else o_rf (gP G a1 3) (fun q7 => o_ix v2 (gN G q7) (o_rf (gP G q7 (Int32.toNatClampNeg v2)) (fun q9 => o_cl (m_X5_moveAnt G M a0 q9 a1) (fun M10 r11 => m_X5_makeStep_99 G a0 a1 (fun M v2 => m_X5_makeStep_62 G a0 a1 n M v2) M10 v2))))))))))
def m_X5_makeStep_60 (G : gS) (a0 : Nat) (a1 : Nat)  (M : mS)  : Option (mS × Unit) := m_X5_makeStep_62 G a0 a1 fu M ((0 : Int32))
def m_X5_makeStep_54 (G : gS) (a0 : Nat) (a1 : Nat) (kb2 : mS → Int32 → Option (mS × Unit)) (M : mS) (v2 : Int32) : Option (mS × Unit) := o_bd (v2 + 1 : Int32) (fun x1 => kb2 M x1)
def m_X5_makeStep_2 (G : gS) (a0 : Nat) (a1 : Nat)  : Nat → mS → Int32 → Option (mS × Unit)
  | 0, _, _ => none
  | n + 1, M, v2 => o_rf (gP G a0 0) (fun q1 => (if (mI M q1 3) ≤ v2 then m_X5_makeStep_60 G a0 a1 M else (if (20 : Int32) ≤ v2 then m_X5_makeStep_60 G a0 a1 M else o_rf (gP G a0 1) (fun q4 => o_rf (gP G a0 0) (fun q5 => o_cl (m_X4_holds G M q4 q5 v2 a1) (fun M6 r7 => (if r7 = 0 then m_X5_makeStep_54 G a0 a1 (fun M v2 => m_X5_makeStep_2 G a0 a1 n M v2) M6 v2 else o_cl (m_X5_carryOut G M6 a0 v2 a1) (fun M10 r11 => (if r11 = 0 then m_X5_makeStep_54 G a0 a1 (fun M v2 => m_X5_makeStep_2 G a0 a1 n M v2) M10 v2 else o_wI M10 a1 8 ((mI M10 a1 8) + (1 : Int32)) (fun M14 => m_X5_makeStep_54 G a0 a1 (fun M v2 => m_X5_makeStep_2 G a0 a1 n M v2) M14 v2))))))))))
def m_X5_makeStep (G : gS) (M : mS) (a0 : Nat) (a1 : Nat) : Option (mS × Unit) := m_X5_makeStep_2 G a0 a1 fu M ((0 : Int32))
set_option maxHeartbeats 4000000 in
set_option maxRecDepth 100000 in
theorem b_X5_makeStep_105 {p : Program} {e : Env} {s : State} {m : MethodId} {args : Array Value} {below : List Frame} {meth : Method} {c : Code} {A : Nat → Prop} {l : Launch} {D : va_G} {cy : cyS} {G : gS} (cx : cX p s m args meth c cX5_makeStep RX5 3 none wsX5_makeStep D cy G A) {k0 n0 : Nat} (hkn : k0 ≤ (rmX5_makeStep).cells ∧ n0 ≤ (rmX5_makeStep).slots) {M' : mS} {a0 : Nat} {a1 : Nat} (hL0 : a0 ∈ gL G) (hK0 : gK G a0 = 4) (hL1 : a1 ∈ gL G) (hK1 : gK G a1 = 7)  : ∀ (M : mS) (H : Heap) (locs : List Loc) (ls : Array Slot), m_X5_makeStep_105 G a0 a1 M = some (M', ()) → wd D cy G M A s.heap H locs → lv_has ls 3 [(1, .ref a1)] → W p l e rmX5_makeStep s m args below meth c H locs k0 n0 (MQ below (va_Qv (fun (_ : Unit) => True) (fun _ t => wOut D cy G M' t) A) args s k0 n0 A) (F0 m 105 ls []) := by
  obtain ⟨hx, hb, hml, hown, hts, hr, hlocks, hK, hA, hG, hsx⟩ := id cx
  intro M H locs ls h w hl
  unfold m_X5_makeStep_105 at h
  refine lv_aload_n hx hb dX5_makeStep_105 rfl (lv_at hl 0 rfl) ?_
  obtain ⟨M1, r2, y3, h⟩ := x_cl h
  refine r_callVv (As := []) (rest := []) cx w hkn hl.1 (k_X8_countMeetings hG hL1 hK1 y3) (cwV 0 hts gX5_makeStep_X8_countMeetings rfl rfl rfl (by decide +kernel) ⟨Nat.le_of_ble_eq_true rfl, Nat.le_of_ble_eq_true rfl⟩) hL1 hK1 (by decide) rfl rfl rfl (Nat.le_of_ble_eq_true rfl) dX5_makeStep_106 (fun H locs w => ?_)
  refine lv_aload_n hx hb dX5_makeStep_109 rfl (lv_at hl 0 rfl) ?_
  refine lv_dup hx hb dX5_makeStep_110 rfl ?_
  refine r_getI (k := 5) (v := .int (mI M1 a1 5)) cx w hL1 hK1 (by decide) rfl wi_X5_makeStep_X8 (by decide) rfl (List.mem_of_getElem? (i := 8) rfl) dX5_makeStep_111 ?_
  refine lv_iconst (v := (1 : Int32)) hx hb dX5_makeStep_114 (by decide) ?_
  refine lv_iadd hx hb dX5_makeStep_115 ?_
  obtain ⟨M4, eM4, h⟩ := x_wI h
  refine r_putI (k := 5) (ty := .int) cx w tyX8 tyX8_ok nmX8 hL1 hK1 (by decide) rfl wi_X5_makeStep_X8 (by decide) rfl rfl rfl rfl st_7_5 (ln_7 _ _ (by decide)) (List.mem_of_getElem? (i := 8) rfl) dX5_makeStep_116 eM4 (fun H locs w => ?_)
  exact r_vret cx w h dX5_makeStep_119
set_option maxHeartbeats 4000000 in
set_option maxRecDepth 100000 in
theorem b_X5_makeStep_99 {p : Program} {e : Env} {s : State} {m : MethodId} {args : Array Value} {below : List Frame} {meth : Method} {c : Code} {A : Nat → Prop} {l : Launch} {D : va_G} {cy : cyS} {G : gS} (cx : cX p s m args meth c cX5_makeStep RX5 3 none wsX5_makeStep D cy G A) {k0 n0 : Nat} (hkn : k0 ≤ (rmX5_makeStep).cells ∧ n0 ≤ (rmX5_makeStep).slots) {M' : mS} {a0 : Nat} {a1 : Nat} (hL0 : a0 ∈ gL G) (hK0 : gK G a0 = 4) (hL1 : a1 ∈ gL G) (hK1 : gK G a1 = 7) {kb62 : mS → Int32 → Option (mS × Unit)} (hkb62 : ∀ (M : mS) (v2 : Int32) (H : Heap) (locs : List Loc) (ls : Array Slot), kb62 M v2 = some (M', ()) → wd D cy G M A s.heap H locs → lv_has ls 3 [(0, .ref a0), (1, .ref a1), (2, .int v2)] → W p l e rmX5_makeStep s m args below meth c H locs k0 n0 (MQ below (va_Qv (fun (_ : Unit) => True) (fun _ t => wOut D cy G M' t) A) args s k0 n0 A) (F0 m 62 ls [])) : ∀ (M : mS) (v2 : Int32) (H : Heap) (locs : List Loc) (ls : Array Slot), m_X5_makeStep_99 G a0 a1 kb62 M v2 = some (M', ()) → wd D cy G M A s.heap H locs → lv_has ls 3 [(0, .ref a0), (1, .ref a1), (2, .int v2)] → W p l e rmX5_makeStep s m args below meth c H locs k0 n0 (MQ below (va_Qv (fun (_ : Unit) => True) (fun _ t => wOut D cy G M' t) A) args s k0 n0 A) (F0 m 99 ls []) := by
  obtain ⟨hx, hb, hml, hown, hts, hr, hlocks, hK, hA, hG, hsx⟩ := id cx
  intro M v2 H locs ls h w hl
  unfold m_X5_makeStep_99 at h
  obtain ⟨x1, ex1, h⟩ := x_bd h
  refine lv_iinc (v := x1) (lv' := [(2, .int x1), (0, .ref a0), (1, .ref a1)]) hx hb dX5_makeStep_99 hl (k := 2) rfl (by rw [ex1]; rfl) (by decide) rfl (fun ls hl => ?_)
  refine lv_goto (tgt := 62) hx hb dX5_makeStep_102 (by decide) ?_
  exact hkb62 M x1 H locs ls h w (lv_sub hl [1, 2, 0] rfl)
set_option maxHeartbeats 4000000 in
set_option maxRecDepth 100000 in
theorem b_X5_makeStep_62 {p : Program} {e : Env} {s : State} {m : MethodId} {args : Array Value} {below : List Frame} {meth : Method} {c : Code} {A : Nat → Prop} {l : Launch} {D : va_G} {cy : cyS} {G : gS} (cx : cX p s m args meth c cX5_makeStep RX5 3 none wsX5_makeStep D cy G A) {k0 n0 : Nat} (hkn : k0 ≤ (rmX5_makeStep).cells ∧ n0 ≤ (rmX5_makeStep).slots) {M' : mS} {a0 : Nat} {a1 : Nat} (hL0 : a0 ∈ gL G) (hK0 : gK G a0 = 4) (hL1 : a1 ∈ gL G) (hK1 : gK G a1 = 7)  : ∀ (n : Nat), ∀ (M : mS) (v2 : Int32) (H : Heap) (locs : List Loc) (ls : Array Slot), m_X5_makeStep_62 G a0 a1 n M v2 = some (M', ()) → wd D cy G M A s.heap H locs → lv_has ls 3 [(0, .ref a0), (1, .ref a1), (2, .int v2)] → W p l e rmX5_makeStep s m args below meth c H locs k0 n0 (MQ below (va_Qv (fun (_ : Unit) => True) (fun _ t => wOut D cy G M' t) A) args s k0 n0 A) (F0 m 62 ls []) := by
  obtain ⟨hx, hb, hml, hown, hts, hr, hlocks, hK, hA, hG, hsx⟩ := id cx
  intro n
  induction n with
  | zero =>
    intro M v2 H locs ls h w hl
    have h : none = some _ := h
    cases h
  | succ n ih =>
    intro M v2 H locs ls h w hl
    rw [m_X5_makeStep_62] at h
    refine lv_iload_n hx hb dX5_makeStep_62 rfl (lv_at hl 2 rfl) ?_
    refine lv_aload_n hx hb dX5_makeStep_63 rfl (lv_at hl 1 rfl) ?_
    refine r_getI (k := 4) (v := .int (mI M a1 4)) cx w hL1 hK1 (by decide) rfl wi_X5_makeStep_X8 (by decide) rfl (List.mem_of_getElem? (i := 5) rfl) dX5_makeStep_64 ?_
    refine lv_icmp_ge (tgt := 105) hx hb dX5_makeStep_67 (by decide) (fun k1 => ?_) (fun k1 => ?_)
    · have h := x_t h k1
      exact b_X5_makeStep_105 cx hkn hL0 hK0 hL1 hK1 M H locs ls h w (lv_sub hl [1] rfl)
    · have h := x_f h k1
      refine lv_iload_n hx hb dX5_makeStep_70 rfl (lv_at hl 2 rfl) ?_
      refine lv_bipush (v := (6 : Int32)) hx hb dX5_makeStep_71 (by decide) ?_
      refine lv_icmp_ge (tgt := 105) hx hb dX5_makeStep_73 (by decide) (fun k2 => ?_) (fun k2 => ?_)
      · have h := x_t h k2
        exact b_X5_makeStep_105 cx hkn hL0 hK0 hL1 hK1 M H locs ls h w (lv_sub hl [1] rfl)
      · have h := x_f h k2
        refine lv_aload_n hx hb dX5_makeStep_76 rfl (lv_at hl 1 rfl) ?_
        obtain ⟨q3, eq3, h⟩ := x_rf h
        obtain ⟨hLq3, hKq3⟩ := wt_q hG hL1 hK1 eq3
        have hKq3 : gK G q3 = 14 := hKq3
        refine r_getR (k := 3) cx w hL1 hK1 (by decide) rfl wi_X5_makeStep_X8 (by decide) rfl eq3 (List.mem_of_getElem? (i := 6) rfl) dX5_makeStep_77 ?_
        refine lv_iload_n hx hb dX5_makeStep_80 rfl (lv_at hl 2 rfl) ?_
        obtain ⟨z4, h⟩ := x_ix h
        obtain ⟨q5, eq5, h⟩ := x_rf h
        obtain ⟨hLq5, hKq5⟩ := wt_q hG hLq3 hKq3 eq5
        have hKq5 : gK G q5 = 0 := hKq5
        refine r_aald cx w hLq3 hKq3 z4 eq5 dX5_makeStep_81 ?_
        refine r_getI (k := 4) (v := .int (mI M q5 4)) cx w hLq5 hKq5 (by decide) rfl wi_X5_makeStep_X0 (by decide) rfl (List.mem_of_getElem? (i := 7) rfl) dX5_makeStep_82 ?_
        refine lv_if_eq (tgt := 99) hx hb dX5_makeStep_85 (by decide) (fun k6 => ?_) (fun k6 => ?_)
        · have h := x_t h k6
          exact b_X5_makeStep_99 cx hkn hL0 hK0 hL1 hK1 (hkb62 := ih) M v2 H locs ls h w (lv_sub hl [0, 1, 2] rfl)
        · have h := x_f h k6
          refine lv_aload_n hx hb dX5_makeStep_88 rfl (lv_at hl 0 rfl) ?_
          refine lv_aload_n hx hb dX5_makeStep_89 rfl (lv_at hl 1 rfl) ?_
          obtain ⟨q7, eq7, h⟩ := x_rf h
          obtain ⟨hLq7, hKq7⟩ := wt_q hG hL1 hK1 eq7
          have hKq7 : gK G q7 = 14 := hKq7
          refine r_getR (k := 3) cx w hL1 hK1 (by decide) rfl wi_X5_makeStep_X8 (by decide) rfl eq7 (List.mem_of_getElem? (i := 6) rfl) dX5_makeStep_90 ?_
          refine lv_iload_n hx hb dX5_makeStep_93 rfl (lv_at hl 2 rfl) ?_
          obtain ⟨z8, h⟩ := x_ix h
          obtain ⟨q9, eq9, h⟩ := x_rf h
          obtain ⟨hLq9, hKq9⟩ := wt_q hG hLq7 hKq7 eq9
          have hKq9 : gK G q9 = 0 := hKq9
          refine r_aald cx w hLq7 hKq7 z8 eq9 dX5_makeStep_94 ?_
          refine lv_aload_n hx hb dX5_makeStep_95 rfl (lv_at hl 1 rfl) ?_
          obtain ⟨M10, r11, y12, h⟩ := x_cl h
          refine r_callVv (As := [.ref q9, .ref a1]) (rest := []) cx w hkn hl.1 (k_X5_moveAnt hG hL0 hK0 hLq9 hKq9 hL1 hK1 y12) (cwV 2 hts gX5_makeStep_X5_moveAnt rfl rfl rfl (by decide +kernel) ⟨Nat.le_of_ble_eq_true rfl, Nat.le_of_ble_eq_true rfl⟩) hL0 hK0 (by decide) rfl rfl rfl (Nat.le_of_ble_eq_true rfl) dX5_makeStep_96 (fun H locs w => ?_)
          exact b_X5_makeStep_99 cx hkn hL0 hK0 hL1 hK1 (hkb62 := ih) M10 v2 H locs ls h w (lv_sub hl [0, 1, 2] rfl)
set_option maxHeartbeats 4000000 in
set_option maxRecDepth 100000 in
theorem b_X5_makeStep_60 {p : Program} {e : Env} {s : State} {m : MethodId} {args : Array Value} {below : List Frame} {meth : Method} {c : Code} {A : Nat → Prop} {l : Launch} {D : va_G} {cy : cyS} {G : gS} (cx : cX p s m args meth c cX5_makeStep RX5 3 none wsX5_makeStep D cy G A) {k0 n0 : Nat} (hkn : k0 ≤ (rmX5_makeStep).cells ∧ n0 ≤ (rmX5_makeStep).slots) {M' : mS} {a0 : Nat} {a1 : Nat} (hL0 : a0 ∈ gL G) (hK0 : gK G a0 = 4) (hL1 : a1 ∈ gL G) (hK1 : gK G a1 = 7)  : ∀ (M : mS) (H : Heap) (locs : List Loc) (ls : Array Slot), m_X5_makeStep_60 G a0 a1 M = some (M', ()) → wd D cy G M A s.heap H locs → lv_has ls 3 [(0, .ref a0), (1, .ref a1)] → W p l e rmX5_makeStep s m args below meth c H locs k0 n0 (MQ below (va_Qv (fun (_ : Unit) => True) (fun _ t => wOut D cy G M' t) A) args s k0 n0 A) (F0 m 60 ls []) := by
  obtain ⟨hx, hb, hml, hown, hts, hr, hlocks, hK, hA, hG, hsx⟩ := id cx
  intro M H locs ls h w hl
  unfold m_X5_makeStep_60 at h
  refine lv_iconst (v := (0 : Int32)) hx hb dX5_makeStep_60 (by decide) ?_
  refine lv_istore_n (lv' := [(2, .int ((0 : Int32))), (0, .ref a0), (1, .ref a1)]) hx hb dX5_makeStep_61 rfl hl (by decide) rfl (fun ls hl => ?_)
  exact b_X5_makeStep_62 cx hkn hL0 hK0 hL1 hK1 fu M ((0 : Int32)) H locs ls h w (lv_sub hl [1, 2, 0] rfl)
set_option maxHeartbeats 4000000 in
set_option maxRecDepth 100000 in
theorem b_X5_makeStep_54 {p : Program} {e : Env} {s : State} {m : MethodId} {args : Array Value} {below : List Frame} {meth : Method} {c : Code} {A : Nat → Prop} {l : Launch} {D : va_G} {cy : cyS} {G : gS} (cx : cX p s m args meth c cX5_makeStep RX5 3 none wsX5_makeStep D cy G A) {k0 n0 : Nat} (hkn : k0 ≤ (rmX5_makeStep).cells ∧ n0 ≤ (rmX5_makeStep).slots) {M' : mS} {a0 : Nat} {a1 : Nat} (hL0 : a0 ∈ gL G) (hK0 : gK G a0 = 4) (hL1 : a1 ∈ gL G) (hK1 : gK G a1 = 7) {kb2 : mS → Int32 → Option (mS × Unit)} (hkb2 : ∀ (M : mS) (v2 : Int32) (H : Heap) (locs : List Loc) (ls : Array Slot), kb2 M v2 = some (M', ()) → wd D cy G M A s.heap H locs → lv_has ls 3 [(0, .ref a0), (1, .ref a1), (2, .int v2)] → W p l e rmX5_makeStep s m args below meth c H locs k0 n0 (MQ below (va_Qv (fun (_ : Unit) => True) (fun _ t => wOut D cy G M' t) A) args s k0 n0 A) (F0 m 2 ls [])) : ∀ (M : mS) (v2 : Int32) (H : Heap) (locs : List Loc) (ls : Array Slot), m_X5_makeStep_54 G a0 a1 kb2 M v2 = some (M', ()) → wd D cy G M A s.heap H locs → lv_has ls 3 [(0, .ref a0), (1, .ref a1), (2, .int v2)] → W p l e rmX5_makeStep s m args below meth c H locs k0 n0 (MQ below (va_Qv (fun (_ : Unit) => True) (fun _ t => wOut D cy G M' t) A) args s k0 n0 A) (F0 m 54 ls []) := by
  obtain ⟨hx, hb, hml, hown, hts, hr, hlocks, hK, hA, hG, hsx⟩ := id cx
  intro M v2 H locs ls h w hl
  unfold m_X5_makeStep_54 at h
  obtain ⟨x1, ex1, h⟩ := x_bd h
  refine lv_iinc (v := x1) (lv' := [(2, .int x1), (0, .ref a0), (1, .ref a1)]) hx hb dX5_makeStep_54 hl (k := 2) rfl (by rw [ex1]; rfl) (by decide) rfl (fun ls hl => ?_)
  refine lv_goto (tgt := 2) hx hb dX5_makeStep_57 (by decide) ?_
  exact hkb2 M x1 H locs ls h w (lv_sub hl [1, 2, 0] rfl)
set_option maxHeartbeats 4000000 in
set_option maxRecDepth 100000 in
theorem b_X5_makeStep_2 {p : Program} {e : Env} {s : State} {m : MethodId} {args : Array Value} {below : List Frame} {meth : Method} {c : Code} {A : Nat → Prop} {l : Launch} {D : va_G} {cy : cyS} {G : gS} (cx : cX p s m args meth c cX5_makeStep RX5 3 none wsX5_makeStep D cy G A) {k0 n0 : Nat} (hkn : k0 ≤ (rmX5_makeStep).cells ∧ n0 ≤ (rmX5_makeStep).slots) {M' : mS} {a0 : Nat} {a1 : Nat} (hL0 : a0 ∈ gL G) (hK0 : gK G a0 = 4) (hL1 : a1 ∈ gL G) (hK1 : gK G a1 = 7)  : ∀ (n : Nat), ∀ (M : mS) (v2 : Int32) (H : Heap) (locs : List Loc) (ls : Array Slot), m_X5_makeStep_2 G a0 a1 n M v2 = some (M', ()) → wd D cy G M A s.heap H locs → lv_has ls 3 [(0, .ref a0), (1, .ref a1), (2, .int v2)] → W p l e rmX5_makeStep s m args below meth c H locs k0 n0 (MQ below (va_Qv (fun (_ : Unit) => True) (fun _ t => wOut D cy G M' t) A) args s k0 n0 A) (F0 m 2 ls []) := by
  obtain ⟨hx, hb, hml, hown, hts, hr, hlocks, hK, hA, hG, hsx⟩ := id cx
  intro n
  induction n with
  | zero =>
    intro M v2 H locs ls h w hl
    have h : none = some _ := h
    cases h
  | succ n ih =>
    intro M v2 H locs ls h w hl
    rw [m_X5_makeStep_2] at h
    refine lv_iload_n hx hb dX5_makeStep_2 rfl (lv_at hl 2 rfl) ?_
    refine lv_aload_n hx hb dX5_makeStep_3 rfl (lv_at hl 0 rfl) ?_
    obtain ⟨q1, eq1, h⟩ := x_rf h
    obtain ⟨hLq1, hKq1⟩ := wt_q hG hL0 hK0 eq1
    have hKq1 : gK G q1 = 2 := hKq1
    refine r_getR (k := 0) cx w hL0 hK0 (by decide) rfl wi_X5_makeStep_X5 (by decide) rfl eq1 (List.mem_of_getElem? (i := 1) rfl) dX5_makeStep_4 ?_
    refine r_getI (k := 3) (v := .int (mI M q1 3)) cx w hLq1 hKq1 (by decide) rfl wi_X5_makeStep_X3 (by decide) rfl (List.mem_of_getElem? (i := 2) rfl) dX5_makeStep_7 ?_
    refine lv_icmp_ge (tgt := 60) hx hb dX5_makeStep_10 (by decide) (fun k2 => ?_) (fun k2 => ?_)
    · have h := x_t h k2
      exact b_X5_makeStep_60 cx hkn hL0 hK0 hL1 hK1 M H locs ls h w (lv_sub hl [0, 1] rfl)
    · have h := x_f h k2
      refine lv_iload_n hx hb dX5_makeStep_13 rfl (lv_at hl 2 rfl) ?_
      refine lv_bipush (v := (20 : Int32)) hx hb dX5_makeStep_14 (by decide) ?_
      refine lv_icmp_ge (tgt := 60) hx hb dX5_makeStep_16 (by decide) (fun k3 => ?_) (fun k3 => ?_)
      · have h := x_t h k3
        exact b_X5_makeStep_60 cx hkn hL0 hK0 hL1 hK1 M H locs ls h w (lv_sub hl [0, 1] rfl)
      · have h := x_f h k3
        refine lv_aload_n hx hb dX5_makeStep_19 rfl (lv_at hl 0 rfl) ?_
        obtain ⟨q4, eq4, h⟩ := x_rf h
        obtain ⟨hLq4, hKq4⟩ := wt_q hG hL0 hK0 eq4
        have hKq4 : gK G q4 = 3 := hKq4
        refine r_getR (k := 1) cx w hL0 hK0 (by decide) rfl wi_X5_makeStep_X5 (by decide) rfl eq4 (List.mem_of_getElem? (i := 3) rfl) dX5_makeStep_20 ?_
        refine lv_aload_n hx hb dX5_makeStep_23 rfl (lv_at hl 0 rfl) ?_
        obtain ⟨q5, eq5, h⟩ := x_rf h
        obtain ⟨hLq5, hKq5⟩ := wt_q hG hL0 hK0 eq5
        have hKq5 : gK G q5 = 2 := hKq5
        refine r_getR (k := 0) cx w hL0 hK0 (by decide) rfl wi_X5_makeStep_X5 (by decide) rfl eq5 (List.mem_of_getElem? (i := 1) rfl) dX5_makeStep_24 ?_
        refine lv_iload_n hx hb dX5_makeStep_27 rfl (lv_at hl 2 rfl) ?_
        refine lv_aload_n hx hb dX5_makeStep_28 rfl (lv_at hl 1 rfl) ?_
        obtain ⟨M6, r7, y8, h⟩ := x_cl h
        refine r_callVi (As := [.ref q5, .int v2, .ref a1]) (rest := []) cx w hkn hl.1 (k_X4_holds hG hLq4 hKq4 hLq5 hKq5 hL1 hK1 y8) (cwV 3 hts gX5_makeStep_X4_holds rfl rfl rfl (by decide +kernel) ⟨Nat.le_of_ble_eq_true rfl, Nat.le_of_ble_eq_true rfl⟩) hLq4 hKq4 (by decide) rfl rfl rfl (Nat.le_of_ble_eq_true rfl) dX5_makeStep_29 (fun H locs w => ?_)
        refine lv_if_eq (tgt := 54) hx hb dX5_makeStep_32 (by decide) (fun k9 => ?_) (fun k9 => ?_)
        · have h := x_t h k9
          exact b_X5_makeStep_54 cx hkn hL0 hK0 hL1 hK1 (hkb2 := ih) M6 v2 H locs ls h w (lv_sub hl [0, 1, 2] rfl)
        · have h := x_f h k9
          refine lv_aload_n hx hb dX5_makeStep_35 rfl (lv_at hl 0 rfl) ?_
          refine lv_iload_n hx hb dX5_makeStep_36 rfl (lv_at hl 2 rfl) ?_
          refine lv_aload_n hx hb dX5_makeStep_37 rfl (lv_at hl 1 rfl) ?_
          obtain ⟨M10, r11, y12, h⟩ := x_cl h
          refine r_callVi (As := [.int v2, .ref a1]) (rest := []) cx w hkn hl.1 (k_X5_carryOut hG hL0 hK0 hL1 hK1 y12) (cwV 2 hts gX5_makeStep_X5_carryOut rfl rfl rfl (by decide +kernel) ⟨Nat.le_of_ble_eq_true rfl, Nat.le_of_ble_eq_true rfl⟩) hL0 hK0 (by decide) rfl rfl rfl (Nat.le_of_ble_eq_true rfl) dX5_makeStep_38 (fun H locs w => ?_)
          refine lv_if_eq (tgt := 54) hx hb dX5_makeStep_41 (by decide) (fun k13 => ?_) (fun k13 => ?_)
          · have h := x_t h k13
            exact b_X5_makeStep_54 cx hkn hL0 hK0 hL1 hK1 (hkb2 := ih) M10 v2 H locs ls h w (lv_sub hl [0, 1, 2] rfl)
          · have h := x_f h k13
            refine lv_aload_n hx hb dX5_makeStep_44 rfl (lv_at hl 1 rfl) ?_
            refine lv_dup hx hb dX5_makeStep_45 rfl ?_
            refine r_getI (k := 8) (v := .int (mI M10 a1 8)) cx w hL1 hK1 (by decide) rfl wi_X5_makeStep_X8 (by decide) rfl (List.mem_of_getElem? (i := 4) rfl) dX5_makeStep_46 ?_
            refine lv_iconst (v := (1 : Int32)) hx hb dX5_makeStep_49 (by decide) ?_
            refine lv_iadd hx hb dX5_makeStep_50 ?_
            obtain ⟨M14, eM14, h⟩ := x_wI h
            refine r_putI (k := 8) (ty := .int) cx w tyX8 tyX8_ok nmX8 hL1 hK1 (by decide) rfl wi_X5_makeStep_X8 (by decide) rfl rfl rfl rfl st_7_8 (ln_7 _ _ (by decide)) (List.mem_of_getElem? (i := 4) rfl) dX5_makeStep_51 eM14 (fun H locs w => ?_)
            exact b_X5_makeStep_54 cx hkn hL0 hK0 hL1 hK1 (hkb2 := ih) M14 v2 H locs ls h w (lv_sub hl [0, 1, 2] rfl)
set_option maxHeartbeats 4000000 in
set_option maxRecDepth 100000 in
theorem k_X5_makeStep {l : Launch} {D : va_G} {cy : cyS} {G : gS} {M M' : mS} {a0 : Nat} {a1 : Nat} (hG : wt G) (hL0 : a0 ∈ gL G) (hK0 : gK G a0 = 4) (hL1 : a1 ∈ gL G) (hK1 : gK G a1 = 7) (h : m_X5_makeStep G M a0 a1 = some (M', ())) : ctV l yX5_makeStep wsX5_makeStep rmX5_makeStep D cy G M [.ref a0, .ref a1] M' := by
  unfold m_X5_makeStep at h
  refine ctV_of (cc := cX5_makeStep) (nL := 3) (ret := none) (lv := [(0, .ref a0), (1, .ref a1)]) hG (by decide) rfl ⟨rfl, rfl⟩ (Nat.le_of_ble_eq_true rfl) rfl ?_
  intro p e s m args below meth c A ls cx w hl
  obtain ⟨hx, hb, hml, hown, hts, hr, hlocks, hK, hA, -, hsx⟩ := id cx
  have hkn : 0 ≤ (rmX5_makeStep).cells ∧ 0 ≤ (rmX5_makeStep).slots := ⟨Nat.zero_le _, Nat.zero_le _⟩
  refine lv_iconst (v := (0 : Int32)) hx hb dX5_makeStep_0 (by decide) ?_
  refine lv_istore_n (lv' := [(2, .int ((0 : Int32))), (0, .ref a0), (1, .ref a1)]) hx hb dX5_makeStep_1 rfl hl (by decide) rfl (fun ls hl => ?_)
  exact b_X5_makeStep_2 cx hkn hL0 hK0 hL1 hK1 fu M ((0 : Int32)) s.heap [] ls h w (lv_sub hl [1, 2, 0] rfl)
-- X5_makeSteps
abbrev rmX5_makeSteps : Room := { frames := 6, cells := 0, slots := 0, locals := 155 }
def m_X5_makeSteps_2 (G : gS) (a0 : Nat) (a1 : Nat) (c2 : Int32)  : Nat → mS → Int32 → Option (mS × Unit)
  | 0, _, _ => none
  | n + 1, M, v3 => (if c2 ≤ v3 then some (M, ()) else o_cl (m_X5_makeStep G M a0 a1) (fun M2 r3 => o_bd (v3 + 1 : Int32) (fun x5 => m_X5_makeSteps_2 G a0 a1 c2 n M2 x5)))
def m_X5_makeSteps (G : gS) (M : mS) (a0 : Nat) (a1 : Nat) (c2 : Int32) : Option (mS × Unit) := m_X5_makeSteps_2 G a0 a1 c2 fu M ((0 : Int32))
set_option maxHeartbeats 4000000 in
set_option maxRecDepth 100000 in
theorem b_X5_makeSteps_2 {p : Program} {e : Env} {s : State} {m : MethodId} {args : Array Value} {below : List Frame} {meth : Method} {c : Code} {A : Nat → Prop} {l : Launch} {D : va_G} {cy : cyS} {G : gS} (cx : cX p s m args meth c cX5_makeSteps RX5 4 none wsX5_makeSteps D cy G A) {k0 n0 : Nat} (hkn : k0 ≤ (rmX5_makeSteps).cells ∧ n0 ≤ (rmX5_makeSteps).slots) {M' : mS} {a0 : Nat} {a1 : Nat} {c2 : Int32} (hL0 : a0 ∈ gL G) (hK0 : gK G a0 = 4) (hL1 : a1 ∈ gL G) (hK1 : gK G a1 = 7)  : ∀ (n : Nat), ∀ (M : mS) (v3 : Int32) (H : Heap) (locs : List Loc) (ls : Array Slot), m_X5_makeSteps_2 G a0 a1 c2 n M v3 = some (M', ()) → wd D cy G M A s.heap H locs → lv_has ls 4 [(0, .ref a0), (1, .ref a1), (2, .int c2), (3, .int v3)] → W p l e rmX5_makeSteps s m args below meth c H locs k0 n0 (MQ below (va_Qv (fun (_ : Unit) => True) (fun _ t => wOut D cy G M' t) A) args s k0 n0 A) (F0 m 2 ls []) := by
  obtain ⟨hx, hb, hml, hown, hts, hr, hlocks, hK, hA, hG, hsx⟩ := id cx
  intro n
  induction n with
  | zero =>
    intro M v3 H locs ls h w hl
    have h : none = some _ := h
    cases h
  | succ n ih =>
    intro M v3 H locs ls h w hl
    rw [m_X5_makeSteps_2] at h
    refine lv_iload_n hx hb dX5_makeSteps_2 rfl (lv_at hl 3 rfl) ?_
    refine lv_iload_n hx hb dX5_makeSteps_3 rfl (lv_at hl 2 rfl) ?_
    refine lv_icmp_ge (tgt := 18) hx hb dX5_makeSteps_4 (by decide) (fun k1 => ?_) (fun k1 => ?_)
    · have h := x_t h k1
      exact r_vret cx w h dX5_makeSteps_18
    · have h := x_f h k1
      refine lv_aload_n hx hb dX5_makeSteps_7 rfl (lv_at hl 0 rfl) ?_
      refine lv_aload_n hx hb dX5_makeSteps_8 rfl (lv_at hl 1 rfl) ?_
      obtain ⟨M2, r3, y4, h⟩ := x_cl h
      refine r_callVv (As := [.ref a1]) (rest := []) cx w hkn hl.1 (k_X5_makeStep hG hL0 hK0 hL1 hK1 y4) (cwV 1 hts gX5_makeSteps_X5_makeStep rfl rfl rfl (by decide +kernel) ⟨Nat.le_of_ble_eq_true rfl, Nat.le_of_ble_eq_true rfl⟩) hL0 hK0 (by decide) rfl rfl rfl (Nat.le_of_ble_eq_true rfl) dX5_makeSteps_9 (fun H locs w => ?_)
      obtain ⟨x5, ex5, h⟩ := x_bd h
      refine lv_iinc (v := x5) (lv' := [(3, .int x5), (0, .ref a0), (1, .ref a1), (2, .int c2)]) hx hb dX5_makeSteps_12 hl (k := 3) rfl (by rw [ex5]; rfl) (by decide) rfl (fun ls hl => ?_)
      refine lv_goto (tgt := 2) hx hb dX5_makeSteps_15 (by decide) ?_
      exact ih M2 x5 H locs ls h w (lv_sub hl [1, 2, 3, 0] rfl)
set_option maxHeartbeats 4000000 in
set_option maxRecDepth 100000 in
theorem k_X5_makeSteps {l : Launch} {D : va_G} {cy : cyS} {G : gS} {M M' : mS} {a0 : Nat} {a1 : Nat} {c2 : Int32} (hG : wt G) (hL0 : a0 ∈ gL G) (hK0 : gK G a0 = 4) (hL1 : a1 ∈ gL G) (hK1 : gK G a1 = 7) (h : m_X5_makeSteps G M a0 a1 c2 = some (M', ())) : ctV l yX5_makeSteps wsX5_makeSteps rmX5_makeSteps D cy G M [.ref a0, .ref a1, .int c2] M' := by
  unfold m_X5_makeSteps at h
  refine ctV_of (cc := cX5_makeSteps) (nL := 4) (ret := none) (lv := [(0, .ref a0), (1, .ref a1), (2, .int c2)]) hG (by decide) rfl ⟨rfl, rfl⟩ (Nat.le_of_ble_eq_true rfl) rfl ?_
  intro p e s m args below meth c A ls cx w hl
  obtain ⟨hx, hb, hml, hown, hts, hr, hlocks, hK, hA, -, hsx⟩ := id cx
  have hkn : 0 ≤ (rmX5_makeSteps).cells ∧ 0 ≤ (rmX5_makeSteps).slots := ⟨Nat.zero_le _, Nat.zero_le _⟩
  refine lv_iconst (v := (0 : Int32)) hx hb dX5_makeSteps_0 (by decide) ?_
  refine lv_istore_n (lv' := [(3, .int ((0 : Int32))), (0, .ref a0), (1, .ref a1), (2, .int c2)]) hx hb dX5_makeSteps_1 rfl hl (by decide) rfl (fun ls hl => ?_)
  exact b_X5_makeSteps_2 cx hkn hL0 hK0 hL1 hK1 fu M ((0 : Int32)) s.heap [] ls h w (lv_sub hl [1, 2, 3, 0] rfl)
