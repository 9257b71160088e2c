-- X3_remainder
theorem wi_X3_remainder_X3 : ∀ w ∈ wsX30, w ∈ wsX3_remainder := by decide +kernel
abbrev rmX3_remainder : Room := { frames := 0, cells := 0, slots := 0, locals := 0 }
def m_X3_remainder_37 (G : gS) (a0 : Nat) (c1 : Int32) (c2 : Int32)  (M : mS)  : Option (mS × Int32) := some (M, (0 : Int32))
def m_X3_remainder_22 (G : gS) (a0 : Nat) (c1 : Int32) (c2 : Int32)  (M : mS) (s0 : Int32) : Option (mS × Int32) := (if s0 ≤ 0 then m_X3_remainder_37 G a0 c1 c2 M else (if c2 < 0 then m_X3_remainder_37 G a0 c1 c2 M else o_ck (¬ s0 = 0) (some (M, (c2 - c2 / s0 * s0)))))
def m_X3_remainder_21 (G : gS) (a0 : Nat) (c1 : Int32) (c2 : Int32)  (M : mS)  : Option (mS × Int32) := m_X3_remainder_22 G a0 c1 c2 M ((0 : Int32))
def m_X3_remainder (G : gS) (M : mS) (a0 : Nat) (c1 : Int32) (c2 : Int32) : Option (mS × Int32) := (if c1 < 0 then m_X3_remainder_21 G a0 c1 c2 M else (if (mI M a0 0) ≤ c1 then m_X3_remainder_21 G a0 c1 c2 M else o_rf (gP G a0 1) (fun q3 => o_ix c1 (gN G q3) (m_X3_remainder_22 G a0 c1 c2 M ((mI M q3 (Int32.toNatClampNeg c1)))))))
set_option maxHeartbeats 4000000 in
set_option maxRecDepth 100000 in
theorem b_X3_remainder_37 {p : Program} {e : Env} {s : State} {m : MethodId} {args : Array Value} {below : List Frame} {meth : Method} {c : Code} {A : Nat → Prop} {l : Launch} {D : va_G} {cy : cyS} {G : gS} (cx : cX p s m args meth c cX3_remainder RX3 4 (some .int) wsX3_remainder D cy G A) {k0 n0 : Nat} (hkn : k0 ≤ (rmX3_remainder).cells ∧ n0 ≤ (rmX3_remainder).slots) {M' : mS} {r : Int32} {a0 : Nat} {c1 : Int32} {c2 : Int32} (hL0 : a0 ∈ gL G) (hK0 : gK G a0 = 2)  : ∀ (M : mS) (H : Heap) (locs : List Loc) (ls : Array Slot), m_X3_remainder_37 G a0 c1 c2 M = some (M', r) → wd D cy G M A s.heap H locs → lv_has ls 4 [] → W p l e rmX3_remainder s m args below meth c H locs k0 n0 (MQ below (va_Qi (fun (r' : Int32) (_ : Unit) => r' = r) (fun _ t => wOut D cy G M' t) A) args s k0 n0 A) (F0 m 37 ls []) := by
  obtain ⟨hx, hb, hml, hown, hts, hr, hlocks, hK, hA, hG, hsx⟩ := id cx
  intro M H locs ls h w hl
  unfold m_X3_remainder_37 at h
  refine lv_iconst (v := (0 : Int32)) hx hb dX3_remainder_37 (by decide) ?_
  exact r_iret cx w h dX3_remainder_38
set_option maxHeartbeats 4000000 in
set_option maxRecDepth 100000 in
theorem b_X3_remainder_22 {p : Program} {e : Env} {s : State} {m : MethodId} {args : Array Value} {below : List Frame} {meth : Method} {c : Code} {A : Nat → Prop} {l : Launch} {D : va_G} {cy : cyS} {G : gS} (cx : cX p s m args meth c cX3_remainder RX3 4 (some .int) wsX3_remainder D cy G A) {k0 n0 : Nat} (hkn : k0 ≤ (rmX3_remainder).cells ∧ n0 ≤ (rmX3_remainder).slots) {M' : mS} {r : Int32} {a0 : Nat} {c1 : Int32} {c2 : Int32} (hL0 : a0 ∈ gL G) (hK0 : gK G a0 = 2)  : ∀ (M : mS) (s0 : Int32) (H : Heap) (locs : List Loc) (ls : Array Slot), m_X3_remainder_22 G a0 c1 c2 M s0 = some (M', r) → wd D cy G M A s.heap H locs → lv_has ls 4 [(2, .int c2)] → W p l e rmX3_remainder s m args below meth c H locs k0 n0 (MQ below (va_Qi (fun (r' : Int32) (_ : Unit) => r' = r) (fun _ t => wOut D cy G M' t) A) args s k0 n0 A) (F0 m 22 ls [.int s0]) := by
  obtain ⟨hx, hb, hml, hown, hts, hr, hlocks, hK, hA, hG, hsx⟩ := id cx
  intro M s0 H locs ls h w hl
  unfold m_X3_remainder_22 at h
  refine lv_istore_n (lv' := [(3, .int s0), (2, .int c2)]) hx hb dX3_remainder_22 rfl hl (by decide) rfl (fun ls hl => ?_)
  refine lv_iload_n hx hb dX3_remainder_23 rfl (lv_at hl 0 rfl) ?_
  refine lv_if_le (tgt := 37) hx hb dX3_remainder_24 (by decide) (fun k1 => ?_) (fun k1 => ?_)
  · have h := x_t h k1
    exact b_X3_remainder_37 cx hkn hL0 hK0 M H locs ls h w (lv_sub hl [] rfl)
  · have h := x_f h k1
    refine lv_iload_n hx hb dX3_remainder_27 rfl (lv_at hl 1 rfl) ?_
    refine lv_if_lt (tgt := 37) hx hb dX3_remainder_28 (by decide) (fun k2 => ?_) (fun k2 => ?_)
    · have h := x_t h k2
      exact b_X3_remainder_37 cx hkn hL0 hK0 M H locs ls h w (lv_sub hl [] rfl)
    · have h := x_f h k2
      refine lv_iload_n hx hb dX3_remainder_31 rfl (lv_at hl 1 rfl) ?_
      refine lv_iload_n hx hb dX3_remainder_32 rfl (lv_at hl 0 rfl) ?_
      obtain ⟨z3, h⟩ := x_ck h
      refine lv_irem hx hb dX3_remainder_33 z3 ?_
      refine lv_goto (tgt := 38) hx hb dX3_remainder_34 (by decide) ?_
      exact r_iret cx w h dX3_remainder_38
set_option maxHeartbeats 4000000 in
set_option maxRecDepth 100000 in
theorem b_X3_remainder_21 {p : Program} {e : Env} {s : State} {m : MethodId} {args : Array Value} {below : List Frame} {meth : Method} {c : Code} {A : Nat → Prop} {l : Launch} {D : va_G} {cy : cyS} {G : gS} (cx : cX p s m args meth c cX3_remainder RX3 4 (some .int) wsX3_remainder D cy G A) {k0 n0 : Nat} (hkn : k0 ≤ (rmX3_remainder).cells ∧ n0 ≤ (rmX3_remainder).slots) {M' : mS} {r : Int32} {a0 : Nat} {c1 : Int32} {c2 : Int32} (hL0 : a0 ∈ gL G) (hK0 : gK G a0 = 2)  : ∀ (M : mS) (H : Heap) (locs : List Loc) (ls : Array Slot), m_X3_remainder_21 G a0 c1 c2 M = some (M', r) → wd D cy G M A s.heap H locs → lv_has ls 4 [(2, .int c2)] → W p l e rmX3_remainder s m args below meth c H locs k0 n0 (MQ below (va_Qi (fun (r' : Int32) (_ : Unit) => r' = r) (fun _ t => wOut D cy G M' t) A) args s k0 n0 A) (F0 m 21 ls []) := by
  obtain ⟨hx, hb, hml, hown, hts, hr, hlocks, hK, hA, hG, hsx⟩ := id cx
  intro M H locs ls h w hl
  unfold m_X3_remainder_21 at h
  refine lv_iconst (v := (0 : Int32)) hx hb dX3_remainder_21 (by decide) ?_
  exact b_X3_remainder_22 cx hkn hL0 hK0 M ((0 : Int32)) H locs ls h w (lv_sub hl [0] rfl)
set_option maxHeartbeats 4000000 in
set_option maxRecDepth 100000 in
theorem k_X3_remainder {l : Launch} {D : va_G} {cy : cyS} {G : gS} {M M' : mS} {r : Int32} {a0 : Nat} {c1 : Int32} {c2 : Int32} (hG : wt G) (hL0 : a0 ∈ gL G) (hK0 : gK G a0 = 2) (h : m_X3_remainder G M a0 c1 c2 = some (M', r)) : ctI l yX3_remainder wsX3_remainder rmX3_remainder D cy G M [.ref a0, .int c1, .int c2] M' r := by
  unfold m_X3_remainder at h
  refine ctI_of (cc := cX3_remainder) (nL := 4) (ret := (some .int)) (lv := [(0, .ref a0), (1, .int c1), (2, .int c2)]) hG (by decide) rfl ⟨rfl, rfl⟩ (Nat.le_of_ble_eq_true rfl) rfl ?_
  intro p e s m args below meth c A ls cx w hl
  obtain ⟨hx, hb, hml, hown, hts, hr, hlocks, hK, hA, -, hsx⟩ := id cx
  have hkn : 0 ≤ (rmX3_remainder).cells ∧ 0 ≤ (rmX3_remainder).slots := ⟨Nat.zero_le _, Nat.zero_le _⟩
  refine lv_iload_n hx hb dX3_remainder_0 rfl (lv_at hl 1 rfl) ?_
  refine lv_if_lt (tgt := 21) hx hb dX3_remainder_1 (by decide) (fun k1 => ?_) (fun k1 => ?_)
  · have h := x_t h k1
    exact b_X3_remainder_21 cx hkn hL0 hK0 M s.heap [] ls h w (lv_sub hl [2] rfl)
  · have h := x_f h k1
    refine lv_iload_n hx hb dX3_remainder_4 rfl (lv_at hl 1 rfl) ?_
    refine lv_aload_n hx hb dX3_remainder_5 rfl (lv_at hl 0 rfl) ?_
    refine r_getI (k := 0) (v := .int (mI M a0 0)) cx w hL0 hK0 (by decide) rfl wi_X3_remainder_X3 (by decide) rfl (List.mem_of_getElem? (i := 1) rfl) dX3_remainder_6 ?_
    refine lv_icmp_ge (tgt := 21) hx hb dX3_remainder_9 (by decide) (fun k2 => ?_) (fun k2 => ?_)
    · have h := x_t h k2
      exact b_X3_remainder_21 cx hkn hL0 hK0 M s.heap [] ls h w (lv_sub hl [2] rfl)
    · have h := x_f h k2
      refine lv_aload_n hx hb dX3_remainder_12 rfl (lv_at hl 0 rfl) ?_
      obtain ⟨q3, eq3, h⟩ := x_rf h
      obtain ⟨hLq3, hKq3⟩ := wt_q hG hL0 hK0 eq3
      have hKq3 : gK G q3 = 12 := hKq3
      refine r_getR (k := 1) cx w hL0 hK0 (by decide) rfl wi_X3_remainder_X3 (by decide) rfl eq3 (List.mem_of_getElem? (i := 2) rfl) dX3_remainder_13 ?_
      refine lv_iload_n hx hb dX3_remainder_16 rfl (lv_at hl 1 rfl) ?_
      obtain ⟨z4, h⟩ := x_ix h
      refine r_iald cx w hLq3 hKq3 z4 dX3_remainder_17 ?_
      refine lv_goto (tgt := 22) hx hb dX3_remainder_18 (by decide) ?_
      exact b_X3_remainder_22 cx hkn hL0 hK0 M ((mI M q3 (Int32.toNatClampNeg c1))) s.heap [] ls h w (lv_sub hl [2] rfl)
-- X3_turnFor
theorem wi_X3_turnFor_X3 : ∀ w ∈ wsX30, w ∈ wsX3_turnFor := by decide +kernel
abbrev rmX3_turnFor : Room := { frames := 1, cells := 0, slots := 0, locals := 23 }
def m_X3_turnFor_31 (G : gS) (a0 : Nat) (c1 : Int32) (c2 : Int32)  (M : mS)  : Option (mS × Int32) := some (M, (0 : Int32))
def m_X3_turnFor (G : gS) (M : mS) (a0 : Nat) (c1 : Int32) (c2 : Int32) : Option (mS × Int32) := (if c1 < 0 then m_X3_turnFor_31 G a0 c1 c2 M else (if (mI M a0 0) ≤ c1 then m_X3_turnFor_31 G a0 c1 c2 M else o_rf (gP G a0 2) (fun q3 => o_cl (m_X3_remainder G M a0 c1 c2) (fun M4 r5 => o_ix ((c1 * (6 : Int32)) + r5) (gN G q3) (some (M4, (mI M4 q3 (Int32.toNatClampNeg ((c1 * (6 : Int32)) + r5)))))))))
set_option maxHeartbeats 4000000 in
set_option maxRecDepth 100000 in
theorem b_X3_turnFor_31 {p : Program} {e : Env} {s : State} {m : MethodId} {args : Array Value} {below : List Frame} {meth : Method} {c : Code} {A : Nat → Prop} {l : Launch} {D : va_G} {cy : cyS} {G : gS} (cx : cX p s m args meth c cX3_turnFor RX3 3 (some .int) wsX3_turnFor D cy G A) {k0 n0 : Nat} (hkn : k0 ≤ (rmX3_turnFor).cells ∧ n0 ≤ (rmX3_turnFor).slots) {M' : mS} {r : Int32} {a0 : Nat} {c1 : Int32} {c2 : Int32} (hL0 : a0 ∈ gL G) (hK0 : gK G a0 = 2)  : ∀ (M : mS) (H : Heap) (locs : List Loc) (ls : Array Slot), m_X3_turnFor_31 G a0 c1 c2 M = some (M', r) → wd D cy G M A s.heap H locs → lv_has ls 3 [] → W p l e rmX3_turnFor s m args below meth c H locs k0 n0 (MQ below (va_Qi (fun (r' : Int32) (_ : Unit) => r' = r) (fun _ t => wOut D cy G M' t) A) args s k0 n0 A) (F0 m 31 ls []) := by
  obtain ⟨hx, hb, hml, hown, hts, hr, hlocks, hK, hA, hG, hsx⟩ := id cx
  intro M H locs ls h w hl
  unfold m_X3_turnFor_31 at h
  refine lv_iconst (v := (0 : Int32)) hx hb dX3_turnFor_31 (by decide) ?_
  exact r_iret cx w h dX3_turnFor_32
set_option maxHeartbeats 4000000 in
set_option maxRecDepth 100000 in
theorem k_X3_turnFor {l : Launch} {D : va_G} {cy : cyS} {G : gS} {M M' : mS} {r : Int32} {a0 : Nat} {c1 : Int32} {c2 : Int32} (hG : wt G) (hL0 : a0 ∈ gL G) (hK0 : gK G a0 = 2) (h : m_X3_turnFor G M a0 c1 c2 = some (M', r)) : ctI l yX3_turnFor wsX3_turnFor rmX3_turnFor D cy G M [.ref a0, .int c1, .int c2] M' r := by
  unfold m_X3_turnFor at h
  refine ctI_of (cc := cX3_turnFor) (nL := 3) (ret := (some .int)) (lv := [(0, .ref a0), (1, .int c1), (2, .int c2)]) hG (by decide) rfl ⟨rfl, rfl⟩ (Nat.le_of_ble_eq_true rfl) rfl ?_
  intro p e s m args below meth c A ls cx w hl
  obtain ⟨hx, hb, hml, hown, hts, hr, hlocks, hK, hA, -, hsx⟩ := id cx
  have hkn : 0 ≤ (rmX3_turnFor).cells ∧ 0 ≤ (rmX3_turnFor).slots := ⟨Nat.zero_le _, Nat.zero_le _⟩
  refine lv_iload_n hx hb dX3_turnFor_0 rfl (lv_at hl 1 rfl) ?_
  refine lv_if_lt (tgt := 31) hx hb dX3_turnFor_1 (by decide) (fun k1 => ?_) (fun k1 => ?_)
  · have h := x_t h k1
    exact b_X3_turnFor_31 cx hkn hL0 hK0 M s.heap [] ls h w (lv_sub hl [] rfl)
  · have h := x_f h k1
    refine lv_iload_n hx hb dX3_turnFor_4 rfl (lv_at hl 1 rfl) ?_
    refine lv_aload_n hx hb dX3_turnFor_5 rfl (lv_at hl 0 rfl) ?_
    refine r_getI (k := 0) (v := .int (mI M a0 0)) cx w hL0 hK0 (by decide) rfl wi_X3_turnFor_X3 (by decide) rfl (List.mem_of_getElem? (i := 1) rfl) dX3_turnFor_6 ?_
    refine lv_icmp_ge (tgt := 31) hx hb dX3_turnFor_9 (by decide) (fun k2 => ?_) (fun k2 => ?_)
    · have h := x_t h k2
      exact b_X3_turnFor_31 cx hkn hL0 hK0 M s.heap [] ls h w (lv_sub hl [] rfl)
    · have h := x_f h k2
      refine lv_aload_n hx hb dX3_turnFor_12 rfl (lv_at hl 0 rfl) ?_
      obtain ⟨q3, eq3, h⟩ := x_rf h
      obtain ⟨hLq3, hKq3⟩ := wt_q hG hL0 hK0 eq3
      have hKq3 : gK G q3 = 12 := hKq3
      refine r_getR (k := 2) cx w hL0 hK0 (by decide) rfl wi_X3_turnFor_X3 (by decide) rfl eq3 (List.mem_of_getElem? (i := 2) rfl) dX3_turnFor_13 ?_
      refine lv_iload_n hx hb dX3_turnFor_16 rfl (lv_at hl 1 rfl) ?_
      refine lv_bipush (v := (6 : Int32)) hx hb dX3_turnFor_17 (by decide) ?_
      refine lv_imul hx hb dX3_turnFor_19 ?_
      refine lv_aload_n hx hb dX3_turnFor_20 rfl (lv_at hl 0 rfl) ?_
      refine lv_iload_n hx hb dX3_turnFor_21 rfl (lv_at hl 1 rfl) ?_
      refine lv_iload_n hx hb dX3_turnFor_22 rfl (lv_at hl 2 rfl) ?_
      obtain ⟨M4, r5, y6, h⟩ := x_cl h
      refine r_callVi (As := [.int c1, .int c2]) (rest := [.int ((c1 * (6 : Int32))), .ref q3]) cx w hkn hl.1 (k_X3_remainder hG hL0 hK0 y6) (cwV 2 hts gX3_turnFor_X3_remainder rfl rfl rfl (by decide +kernel) ⟨Nat.le_of_ble_eq_true rfl, Nat.le_of_ble_eq_true rfl⟩) hL0 hK0 (by decide) rfl rfl rfl (Nat.le_of_ble_eq_true rfl) dX3_turnFor_23 (fun H locs w => ?_)
      refine lv_iadd hx hb dX3_turnFor_26 ?_
      obtain ⟨z7, h⟩ := x_ix h
      refine r_iald cx w hLq3 hKq3 z7 dX3_turnFor_27 ?_
      refine lv_goto (tgt := 32) hx hb dX3_turnFor_28 (by decide) ?_
      exact r_iret cx w h dX3_turnFor_32
-- X3_clear
theorem wi_X3_clear_X3 : ∀ w ∈ wsX30, w ∈ wsX3_clear := by decide +kernel
abbrev rmX3_clear : Room := { frames := 0, cells := 0, slots := 0, locals := 0 }
def m_X3_clear (G : gS) (M : mS) (a0 : Nat) : Option (mS × Unit) := o_wI M a0 0 (0 : Int32) (fun M1 => o_wI M1 a0 3 (0 : Int32) (fun M2 => o_wI M2 a0 8 (0 : Int32) (fun M3 => some (M3, ()))))
set_option maxHeartbeats 4000000 in
set_option maxRecDepth 100000 in
theorem k_X3_clear {l : Launch} {D : va_G} {cy : cyS} {G : gS} {M M' : mS} {a0 : Nat} (hG : wt G) (hL0 : a0 ∈ gL G) (hK0 : gK G a0 = 2) (h : m_X3_clear G M a0 = some (M', ())) : ctV l yX3_clear wsX3_clear rmX3_clear D cy G M [.ref a0] M' := by
  unfold m_X3_clear at h
  refine ctV_of (cc := cX3_clear) (nL := 1) (ret := none) (lv := [(0, .ref a0)]) hG (by decide) rfl ⟨rfl, rfl⟩ (Nat.le_of_ble_eq_true rfl) rfl ?_
  intro p e s m args below meth c A ls cx w hl
  obtain ⟨hx, hb, hml, hown, hts, hr, hlocks, hK, hA, -, hsx⟩ := id cx
  have hkn : 0 ≤ (rmX3_clear).cells ∧ 0 ≤ (rmX3_clear).slots := ⟨Nat.zero_le _, Nat.zero_le _⟩
  refine lv_aload_n hx hb dX3_clear_0 rfl (lv_at hl 0 rfl) ?_
  refine lv_iconst (v := (0 : Int32)) hx hb dX3_clear_1 (by decide) ?_
  obtain ⟨M1, eM1, h⟩ := x_wI h
  refine r_putI (k := 0) (ty := .int) cx w tyX3 tyX3_ok nmX3 hL0 hK0 (by decide) rfl wi_X3_clear_X3 (by decide) rfl rfl rfl rfl st_2_0 (ln_2 _ _ (by decide)) (List.mem_of_getElem? (i := 1) rfl) dX3_clear_2 eM1 (fun H locs w => ?_)
  refine lv_aload_n hx hb dX3_clear_5 rfl (lv_at hl 0 rfl) ?_
  refine lv_iconst (v := (0 : Int32)) hx hb dX3_clear_6 (by decide) ?_
  obtain ⟨M2, eM2, h⟩ := x_wI h
  refine r_putI (k := 3) (ty := .int) cx w tyX3 tyX3_ok nmX3 hL0 hK0 (by decide) rfl wi_X3_clear_X3 (by decide) rfl rfl rfl rfl st_2_3 (ln_2 _ _ (by decide)) (List.mem_of_getElem? (i := 2) rfl) dX3_clear_7 eM2 (fun H locs w => ?_)
  refine lv_aload_n hx hb dX3_clear_10 rfl (lv_at hl 0 rfl) ?_
  refine lv_iconst (v := (0 : Int32)) hx hb dX3_clear_11 (by decide) ?_
  obtain ⟨M3, eM3, h⟩ := x_wI h
  refine r_putI (k := 8) (ty := .int) cx w tyX3 tyX3_ok nmX3 hL0 hK0 (by decide) rfl wi_X3_clear_X3 (by decide) rfl rfl rfl rfl st_2_8 (ln_2 _ _ (by decide)) (List.mem_of_getElem? (i := 3) rfl) dX3_clear_12 eM3 (fun H locs w => ?_)
  exact r_vret cx w h dX3_clear_15
-- X3_beginRule
theorem wi_X3_beginRule_X3 : ∀ w ∈ wsX30, w ∈ wsX3_beginRule := by decide +kernel
abbrev rmX3_beginRule : Room := { frames := 0, cells := 0, slots := 0, locals := 0 }
def m_X3_beginRule (G : gS) (M : mS) (a0 : Nat) : Option (mS × Int32) := (if (mI M a0 0) < (5 : Int32) then o_rf (gP G a0 1) (fun q2 => o_ix (mI M a0 0) (gN G q2) (o_wI M q2 (Int32.toNatClampNeg (mI M a0 0)) (0 : Int32) (fun M4 => o_wI M4 a0 0 ((mI M4 a0 0) + (1 : Int32)) (fun M5 => o_ck ((1 : Int32) = 0 ∨ (1 : Int32) = 1) (some (M5, (1 : Int32))))))) else o_ck ((0 : Int32) = 0 ∨ (0 : Int32) = 1) (some (M, (0 : Int32))))
set_option maxHeartbeats 4000000 in
set_option maxRecDepth 100000 in
theorem k_X3_beginRule {l : Launch} {D : va_G} {cy : cyS} {G : gS} {M M' : mS} {r : Int32} {a0 : Nat} (hG : wt G) (hL0 : a0 ∈ gL G) (hK0 : gK G a0 = 2) (h : m_X3_beginRule G M a0 = some (M', r)) : ctI l yX3_beginRule wsX3_beginRule rmX3_beginRule D cy G M [.ref a0] M' r := by
  unfold m_X3_beginRule at h
  refine ctI_of (cc := cX3_beginRule) (nL := 1) (ret := (some .boolean)) (lv := [(0, .ref a0)]) hG (by decide) rfl ⟨rfl, rfl⟩ (Nat.le_of_ble_eq_true rfl) rfl ?_
  intro p e s m args below meth c A ls cx w hl
  obtain ⟨hx, hb, hml, hown, hts, hr, hlocks, hK, hA, -, hsx⟩ := id cx
  have hkn : 0 ≤ (rmX3_beginRule).cells ∧ 0 ≤ (rmX3_beginRule).slots := ⟨Nat.zero_le _, Nat.zero_le _⟩
  refine lv_aload_n hx hb dX3_beginRule_0 rfl (lv_at hl 0 rfl) ?_
  refine r_getI (k := 0) (v := .int (mI M a0 0)) cx w hL0 hK0 (by decide) rfl wi_X3_beginRule_X3 (by decide) rfl (List.mem_of_getElem? (i := 1) rfl) dX3_beginRule_1 ?_
  refine lv_iconst (v := (5 : Int32)) hx hb dX3_beginRule_4 (by decide) ?_
  refine lv_icmp_lt (tgt := 10) hx hb dX3_beginRule_5 (by decide) (fun k1 => ?_) (fun k1 => ?_)
  · have h := x_t h k1
    refine lv_aload_n hx hb dX3_beginRule_10 rfl (lv_at hl 0 rfl) ?_
    obtain ⟨q2, eq2, h⟩ := x_rf h
    obtain ⟨hLq2, hKq2⟩ := wt_q hG hL0 hK0 eq2
    have hKq2 : gK G q2 = 12 := hKq2
    refine r_getR (k := 1) cx w hL0 hK0 (by decide) rfl wi_X3_beginRule_X3 (by decide) rfl eq2 (List.mem_of_getElem? (i := 2) rfl) dX3_beginRule_11 ?_
    refine lv_aload_n hx hb dX3_beginRule_14 rfl (lv_at hl 0 rfl) ?_
    refine r_getI (k := 0) (v := .int (mI M a0 0)) cx w hL0 hK0 (by decide) rfl wi_X3_beginRule_X3 (by decide) rfl (List.mem_of_getElem? (i := 1) rfl) dX3_beginRule_15 ?_
    refine lv_iconst (v := (0 : Int32)) hx hb dX3_beginRule_18 (by decide) ?_
    obtain ⟨z3, h⟩ := x_ix h
    obtain ⟨M4, eM4, h⟩ := x_wI h
    refine r_iast cx w hLq2 hKq2 z3 dX3_beginRule_19 eM4 (fun H locs w => ?_)
    refine lv_aload_n hx hb dX3_beginRule_20 rfl (lv_at hl 0 rfl) ?_
    refine lv_dup hx hb dX3_beginRule_21 rfl ?_
    refine r_getI (k := 0) (v := .int (mI M4 a0 0)) cx w hL0 hK0 (by decide) rfl wi_X3_beginRule_X3 (by decide) rfl (List.mem_of_getElem? (i := 1) rfl) dX3_beginRule_22 ?_
    refine lv_iconst (v := (1 : Int32)) hx hb dX3_beginRule_25 (by decide) ?_
    refine lv_iadd hx hb dX3_beginRule_26 ?_
    obtain ⟨M5, eM5, h⟩ := x_wI h
    refine r_putI (k := 0) (ty := .int) cx w tyX3 tyX3_ok nmX3 hL0 hK0 (by decide) rfl wi_X3_beginRule_X3 (by decide) rfl rfl rfl rfl st_2_0 (ln_2 _ _ (by decide)) (List.mem_of_getElem? (i := 1) rfl) dX3_beginRule_27 eM5 (fun H locs w => ?_)
    refine lv_iconst (v := (1 : Int32)) hx hb dX3_beginRule_30 (by decide) ?_
    obtain ⟨z6, h⟩ := x_ck h
    exact r_zret cx w z6 h dX3_beginRule_31
  · have h := x_f h k1
    refine lv_iconst (v := (0 : Int32)) hx hb dX3_beginRule_8 (by decide) ?_
    obtain ⟨z7, h⟩ := x_ck h
    exact r_zret cx w z7 h dX3_beginRule_9
-- X3_addTurn
theorem wi_X3_addTurn_X3 : ∀ w ∈ wsX30, w ∈ wsX3_addTurn := by decide +kernel
abbrev rmX3_addTurn : Room := { frames := 0, cells := 0, slots := 0, locals := 0 }
def m_X3_addTurn_22 (G : gS) (a0 : Nat) (c1 : Int32)  (M : mS)  : Option (mS × Int32) := o_ck ((0 : Int32) = 0 ∨ (0 : Int32) = 1) (some (M, (0 : Int32)))
def m_X3_addTurn (G : gS) (M : mS) (a0 : Nat) (c1 : Int32) : Option (mS × Int32) := o_bd (((mI M a0 0) - (1 : Int32))) (fun x1 => (if x1 < 0 then m_X3_addTurn_22 G a0 c1 M else o_rf (gP G a0 1) (fun q3 => o_ix x1 (gN G q3) ((if (mI M q3 (Int32.toNatClampNeg x1)) < (6 : Int32) then o_rf (gP G a0 2) (fun q6 => o_rf (gP G a0 1) (fun q7 => o_ix x1 (gN G q7) (o_ix ((x1 * (6 : Int32)) + (mI M q7 (Int32.toNatClampNeg x1))) (gN G q6) (o_wI M q6 (Int32.toNatClampNeg ((x1 * (6 : Int32)) + (mI M q7 (Int32.toNatClampNeg x1)))) c1 (fun M10 => o_rf (gP G a0 1) (fun q11 => o_ix x1 (gN G q11) (o_ix x1 (gN G q11) (o_wI M10 q11 (Int32.toNatClampNeg x1) ((mI M10 q11 (Int32.toNatClampNeg x1)) + (1 : Int32)) (fun M14 => o_ck ((1 : Int32) = 0 ∨ (1 : Int32) = 1) (some (M14, (1 : Int32)))))))))))) else m_X3_addTurn_22 G a0 c1 M)))))
set_option maxHeartbeats 4000000 in
set_option maxRecDepth 100000 in
theorem b_X3_addTurn_22 {p : Program} {e : Env} {s : State} {m : MethodId} {args : Array Value} {below : List Frame} {meth : Method} {c : Code} {A : Nat → Prop} {l : Launch} {D : va_G} {cy : cyS} {G : gS} (cx : cX p s m args meth c cX3_addTurn RX3 3 (some .boolean) wsX3_addTurn D cy G A) {k0 n0 : Nat} (hkn : k0 ≤ (rmX3_addTurn).cells ∧ n0 ≤ (rmX3_addTurn).slots) {M' : mS} {r : Int32} {a0 : Nat} {c1 : Int32} (hL0 : a0 ∈ gL G) (hK0 : gK G a0 = 2)  : ∀ (M : mS) (H : Heap) (locs : List Loc) (ls : Array Slot), m_X3_addTurn_22 G a0 c1 M = some (M', r) → wd D cy G M A s.heap H locs → lv_has ls 3 [] → W p l e rmX3_addTurn s m args below meth c H locs k0 n0 (MQ below (va_Qi (fun (r' : Int32) (_ : Unit) => r' = r) (fun _ t => wOut D cy G M' t) A) args s k0 n0 A) (F0 m 22 ls []) := by
  obtain ⟨hx, hb, hml, hown, hts, hr, hlocks, hK, hA, hG, hsx⟩ := id cx
  intro M H locs ls h w hl
  unfold m_X3_addTurn_22 at h
  refine lv_iconst (v := (0 : Int32)) hx hb dX3_addTurn_22 (by decide) ?_
  obtain ⟨z1, h⟩ := x_ck h
  exact r_zret cx w z1 h dX3_addTurn_23
set_option maxHeartbeats 4000000 in
set_option maxRecDepth 100000 in
theorem k_X3_addTurn {l : Launch} {D : va_G} {cy : cyS} {G : gS} {M M' : mS} {r : Int32} {a0 : Nat} {c1 : Int32} (hG : wt G) (hL0 : a0 ∈ gL G) (hK0 : gK G a0 = 2) (h : m_X3_addTurn G M a0 c1 = some (M', r)) : ctI l yX3_addTurn wsX3_addTurn rmX3_addTurn D cy G M [.ref a0, .int c1] M' r := by
  unfold m_X3_addTurn at h
  refine ctI_of (cc := cX3_addTurn) (nL := 3) (ret := (some .boolean)) (lv := [(0, .ref a0), (1, .int c1)]) hG (by decide) rfl ⟨rfl, rfl⟩ (Nat.le_of_ble_eq_true rfl) rfl ?_
  intro p e s m args below meth c A ls cx w hl
  obtain ⟨hx, hb, hml, hown, hts, hr, hlocks, hK, hA, -, hsx⟩ := id cx
  have hkn : 0 ≤ (rmX3_addTurn).cells ∧ 0 ≤ (rmX3_addTurn).slots := ⟨Nat.zero_le _, Nat.zero_le _⟩
  refine lv_aload_n hx hb dX3_addTurn_0 rfl (lv_at hl 0 rfl) ?_
  refine r_getI (k := 0) (v := .int (mI M a0 0)) cx w hL0 hK0 (by decide) rfl wi_X3_addTurn_X3 (by decide) rfl (List.mem_of_getElem? (i := 1) rfl) dX3_addTurn_1 ?_
  refine lv_iconst (v := (1 : Int32)) hx hb dX3_addTurn_4 (by decide) ?_
  refine lv_isub hx hb dX3_addTurn_5 ?_
  obtain ⟨x1, ex1, h⟩ := x_bd h
  refine r_topI ex1 ?_
  refine lv_istore_n (lv' := [(2, .int x1), (0, .ref a0), (1, .int c1)]) hx hb dX3_addTurn_6 rfl hl (by decide) rfl (fun ls hl => ?_)
  refine lv_iload_n hx hb dX3_addTurn_7 rfl (lv_at hl 0 rfl) ?_
  refine lv_if_lt (tgt := 22) hx hb dX3_addTurn_8 (by decide) (fun k2 => ?_) (fun k2 => ?_)
  · have h := x_t h k2
    exact b_X3_addTurn_22 cx hkn hL0 hK0 M s.heap [] ls h w (lv_sub hl [] rfl)
  · have h := x_f h k2
    refine lv_aload_n hx hb dX3_addTurn_11 rfl (lv_at hl 1 rfl) ?_
    obtain ⟨q3, eq3, h⟩ := x_rf h
    obtain ⟨hLq3, hKq3⟩ := wt_q hG hL0 hK0 eq3
    have hKq3 : gK G q3 = 12 := hKq3
    refine r_getR (k := 1) cx w hL0 hK0 (by decide) rfl wi_X3_addTurn_X3 (by decide) rfl eq3 (List.mem_of_getElem? (i := 2) rfl) dX3_addTurn_12 ?_
    refine lv_iload_n hx hb dX3_addTurn_15 rfl (lv_at hl 0 rfl) ?_
    obtain ⟨z4, h⟩ := x_ix h
    refine r_iald cx w hLq3 hKq3 z4 dX3_addTurn_16 ?_
    refine lv_bipush (v := (6 : Int32)) hx hb dX3_addTurn_17 (by decide) ?_
    refine lv_icmp_lt (tgt := 24) hx hb dX3_addTurn_19 (by decide) (fun k5 => ?_) (fun k5 => ?_)
    · have h := x_t h k5
      refine lv_aload_n hx hb dX3_addTurn_24 rfl (lv_at hl 1 rfl) ?_
      obtain ⟨q6, eq6, h⟩ := x_rf h
      obtain ⟨hLq6, hKq6⟩ := wt_q hG hL0 hK0 eq6
      have hKq6 : gK G q6 = 12 := hKq6
      refine r_getR (k := 2) cx w hL0 hK0 (by decide) rfl wi_X3_addTurn_X3 (by decide) rfl eq6 (List.mem_of_getElem? (i := 3) rfl) dX3_addTurn_25 ?_
      refine lv_iload_n hx hb dX3_addTurn_28 rfl (lv_at hl 0 rfl) ?_
      refine lv_bipush (v := (6 : Int32)) hx hb dX3_addTurn_29 (by decide) ?_
      refine lv_imul hx hb dX3_addTurn_31 ?_
      refine lv_aload_n hx hb dX3_addTurn_32 rfl (lv_at hl 1 rfl) ?_
      obtain ⟨q7, eq7, h⟩ := x_rf h
      obtain ⟨hLq7, hKq7⟩ := wt_q hG hL0 hK0 eq7
      have hKq7 : gK G q7 = 12 := hKq7
      refine r_getR (k := 1) cx w hL0 hK0 (by decide) rfl wi_X3_addTurn_X3 (by decide) rfl eq7 (List.mem_of_getElem? (i := 2) rfl) dX3_addTurn_33 ?_
      refine lv_iload_n hx hb dX3_addTurn_36 rfl (lv_at hl 0 rfl) ?_
      obtain ⟨z8, h⟩ := x_ix h
      refine r_iald cx w hLq7 hKq7 z8 dX3_addTurn_37 ?_
      refine lv_iadd hx hb dX3_addTurn_38 ?_
      refine lv_iload_n hx hb dX3_addTurn_39 rfl (lv_at hl 2 rfl) ?_
      obtain ⟨z9, h⟩ := x_ix h
      obtain ⟨M10, eM10, h⟩ := x_wI h
      refine r_iast cx w hLq6 hKq6 z9 dX3_addTurn_40 eM10 (fun H locs w => ?_)
      refine lv_aload_n hx hb dX3_addTurn_41 rfl (lv_at hl 1 rfl) ?_
      obtain ⟨q11, eq11, h⟩ := x_rf h
      obtain ⟨hLq11, hKq11⟩ := wt_q hG hL0 hK0 eq11
      have hKq11 : gK G q11 = 12 := hKq11
      refine r_getR (k := 1) cx w hL0 hK0 (by decide) rfl wi_X3_addTurn_X3 (by decide) rfl eq11 (List.mem_of_getElem? (i := 2) rfl) dX3_addTurn_42 ?_
      refine lv_iload_n hx hb dX3_addTurn_45 rfl (lv_at hl 0 rfl) ?_
      refine lv_dup2_11 hx hb dX3_addTurn_46 rfl rfl ?_
      obtain ⟨z12, h⟩ := x_ix h
      refine r_iald cx w hLq11 hKq11 z12 dX3_addTurn_47 ?_
      refine lv_iconst (v := (1 : Int32)) hx hb dX3_addTurn_48 (by decide) ?_
      refine lv_iadd hx hb dX3_addTurn_49 ?_
      obtain ⟨z13, h⟩ := x_ix h
      obtain ⟨M14, eM14, h⟩ := x_wI h
      refine r_iast cx w hLq11 hKq11 z13 dX3_addTurn_50 eM14 (fun H locs w => ?_)
      refine lv_iconst (v := (1 : Int32)) hx hb dX3_addTurn_51 (by decide) ?_
      obtain ⟨z15, h⟩ := x_ck h
      exact r_zret cx w z15 h dX3_addTurn_52
    · have h := x_f h k5
      exact b_X3_addTurn_22 cx hkn hL0 hK0 M s.heap [] ls h w (lv_sub hl [] rfl)
-- X3_beginOrder
theorem wi_X3_beginOrder_X3 : ∀ w ∈ wsX30, w ∈ wsX3_beginOrder := by decide +kernel
abbrev rmX3_beginOrder : Room := { frames := 0, cells := 0, slots := 0, locals := 0 }
def m_X3_beginOrder (G : gS) (M : mS) (a0 : Nat) (c1 : Int32) : Option (mS × Int32) := (if (mI M a0 3) < (20 : Int32) then o_rf (gP G a0 4) (fun q2 => o_ix (mI M a0 3) (gN G q2) (o_wI M q2 (Int32.toNatClampNeg (mI M a0 3)) c1 (fun M4 => o_rf (gP G a0 5) (fun q5 => o_ix (mI M4 a0 3) (gN G q5) (o_wI M4 q5 (Int32.toNatClampNeg (mI M4 a0 3)) (0 : Int32) (fun M7 => o_rf (gP G a0 6) (fun q8 => o_ix (mI M7 a0 3) (gN G q8) (o_wI M7 q8 (Int32.toNatClampNeg (mI M7 a0 3)) (0 : Int32) (fun M10 => o_rf (gP G a0 7) (fun q11 => o_ix (mI M10 a0 3) (gN G q11) (o_wI M10 q11 (Int32.toNatClampNeg (mI M10 a0 3)) (mI M10 a0 8) (fun M13 => o_wI M13 a0 3 ((mI M13 a0 3) + (1 : Int32)) (fun M14 => o_ck ((1 : Int32) = 0 ∨ (1 : Int32) = 1) (some (M14, (1 : Int32)))))))))))))))) else o_ck ((0 : Int32) = 0 ∨ (0 : Int32) = 1) (some (M, (0 : Int32))))
set_option maxHeartbeats 4000000 in
set_option maxRecDepth 100000 in
theorem k_X3_beginOrder {l : Launch} {D : va_G} {cy : cyS} {G : gS} {M M' : mS} {r : Int32} {a0 : Nat} {c1 : Int32} (hG : wt G) (hL0 : a0 ∈ gL G) (hK0 : gK G a0 = 2) (h : m_X3_beginOrder G M a0 c1 = some (M', r)) : ctI l yX3_beginOrder wsX3_beginOrder rmX3_beginOrder D cy G M [.ref a0, .int c1] M' r := by
  unfold m_X3_beginOrder at h
  refine ctI_of (cc := cX3_beginOrder) (nL := 2) (ret := (some .boolean)) (lv := [(0, .ref a0), (1, .int c1)]) hG (by decide) rfl ⟨rfl, rfl⟩ (Nat.le_of_ble_eq_true rfl) rfl ?_
  intro p e s m args below meth c A ls cx w hl
  obtain ⟨hx, hb, hml, hown, hts, hr, hlocks, hK, hA, -, hsx⟩ := id cx
  have hkn : 0 ≤ (rmX3_beginOrder).cells ∧ 0 ≤ (rmX3_beginOrder).slots := ⟨Nat.zero_le _, Nat.zero_le _⟩
  refine lv_aload_n hx hb dX3_beginOrder_0 rfl (lv_at hl 0 rfl) ?_
  refine r_getI (k := 3) (v := .int (mI M a0 3)) cx w hL0 hK0 (by decide) rfl wi_X3_beginOrder_X3 (by decide) rfl (List.mem_of_getElem? (i := 1) rfl) dX3_beginOrder_1 ?_
  refine lv_bipush (v := (20 : Int32)) hx hb dX3_beginOrder_4 (by decide) ?_
  refine lv_icmp_lt (tgt := 11) hx hb dX3_beginOrder_6 (by decide) (fun k1 => ?_) (fun k1 => ?_)
  · have h := x_t h k1
    refine lv_aload_n hx hb dX3_beginOrder_11 rfl (lv_at hl 0 rfl) ?_
    obtain ⟨q2, eq2, h⟩ := x_rf h
    obtain ⟨hLq2, hKq2⟩ := wt_q hG hL0 hK0 eq2
    have hKq2 : gK G q2 = 12 := hKq2
    refine r_getR (k := 4) cx w hL0 hK0 (by decide) rfl wi_X3_beginOrder_X3 (by decide) rfl eq2 (List.mem_of_getElem? (i := 2) rfl) dX3_beginOrder_12 ?_
    refine lv_aload_n hx hb dX3_beginOrder_15 rfl (lv_at hl 0 rfl) ?_
    refine r_getI (k := 3) (v := .int (mI M a0 3)) cx w hL0 hK0 (by decide) rfl wi_X3_beginOrder_X3 (by decide) rfl (List.mem_of_getElem? (i := 1) rfl) dX3_beginOrder_16 ?_
    refine lv_iload_n hx hb dX3_beginOrder_19 rfl (lv_at hl 1 rfl) ?_
    obtain ⟨z3, h⟩ := x_ix h
    obtain ⟨M4, eM4, h⟩ := x_wI h
    refine r_iast cx w hLq2 hKq2 z3 dX3_beginOrder_20 eM4 (fun H locs w => ?_)
    refine lv_aload_n hx hb dX3_beginOrder_21 rfl (lv_at hl 0 rfl) ?_
    obtain ⟨q5, eq5, h⟩ := x_rf h
    obtain ⟨hLq5, hKq5⟩ := wt_q hG hL0 hK0 eq5
    have hKq5 : gK G q5 = 12 := hKq5
    refine r_getR (k := 5) cx w hL0 hK0 (by decide) rfl wi_X3_beginOrder_X3 (by decide) rfl eq5 (List.mem_of_getElem? (i := 3) rfl) dX3_beginOrder_22 ?_
    refine lv_aload_n hx hb dX3_beginOrder_25 rfl (lv_at hl 0 rfl) ?_
    refine r_getI (k := 3) (v := .int (mI M4 a0 3)) cx w hL0 hK0 (by decide) rfl wi_X3_beginOrder_X3 (by decide) rfl (List.mem_of_getElem? (i := 1) rfl) dX3_beginOrder_26 ?_
    refine lv_iconst (v := (0 : Int32)) hx hb dX3_beginOrder_29 (by decide) ?_
    obtain ⟨z6, h⟩ := x_ix h
    obtain ⟨M7, eM7, h⟩ := x_wI h
    refine r_iast cx w hLq5 hKq5 z6 dX3_beginOrder_30 eM7 (fun H locs w => ?_)
    refine lv_aload_n hx hb dX3_beginOrder_31 rfl (lv_at hl 0 rfl) ?_
    obtain ⟨q8, eq8, h⟩ := x_rf h
    obtain ⟨hLq8, hKq8⟩ := wt_q hG hL0 hK0 eq8
    have hKq8 : gK G q8 = 12 := hKq8
    refine r_getR (k := 6) cx w hL0 hK0 (by decide) rfl wi_X3_beginOrder_X3 (by decide) rfl eq8 (List.mem_of_getElem? (i := 4) rfl) dX3_beginOrder_32 ?_
    refine lv_aload_n hx hb dX3_beginOrder_35 rfl (lv_at hl 0 rfl) ?_
    refine r_getI (k := 3) (v := .int (mI M7 a0 3)) cx w hL0 hK0 (by decide) rfl wi_X3_beginOrder_X3 (by decide) rfl (List.mem_of_getElem? (i := 1) rfl) dX3_beginOrder_36 ?_
    refine lv_iconst (v := (0 : Int32)) hx hb dX3_beginOrder_39 (by decide) ?_
    obtain ⟨z9, h⟩ := x_ix h
    obtain ⟨M10, eM10, h⟩ := x_wI h
    refine r_iast cx w hLq8 hKq8 z9 dX3_beginOrder_40 eM10 (fun H locs w => ?_)
    refine lv_aload_n hx hb dX3_beginOrder_41 rfl (lv_at hl 0 rfl) ?_
    obtain ⟨q11, eq11, h⟩ := x_rf h
    obtain ⟨hLq11, hKq11⟩ := wt_q hG hL0 hK0 eq11
    have hKq11 : gK G q11 = 12 := hKq11
    refine r_getR (k := 7) cx w hL0 hK0 (by decide) rfl wi_X3_beginOrder_X3 (by decide) rfl eq11 (List.mem_of_getElem? (i := 5) rfl) dX3_beginOrder_42 ?_
    refine lv_aload_n hx hb dX3_beginOrder_45 rfl (lv_at hl 0 rfl) ?_
    refine r_getI (k := 3) (v := .int (mI M10 a0 3)) cx w hL0 hK0 (by decide) rfl wi_X3_beginOrder_X3 (by decide) rfl (List.mem_of_getElem? (i := 1) rfl) dX3_beginOrder_46 ?_
    refine lv_aload_n hx hb dX3_beginOrder_49 rfl (lv_at hl 0 rfl) ?_
    refine r_getI (k := 8) (v := .int (mI M10 a0 8)) cx w hL0 hK0 (by decide) rfl wi_X3_beginOrder_X3 (by decide) rfl (List.mem_of_getElem? (i := 6) rfl) dX3_beginOrder_50 ?_
    obtain ⟨z12, h⟩ := x_ix h
    obtain ⟨M13, eM13, h⟩ := x_wI h
    refine r_iast cx w hLq11 hKq11 z12 dX3_beginOrder_53 eM13 (fun H locs w => ?_)
    refine lv_aload_n hx hb dX3_beginOrder_54 rfl (lv_at hl 0 rfl) ?_
    refine lv_dup hx hb dX3_beginOrder_55 rfl ?_
    refine r_getI (k := 3) (v := .int (mI M13 a0 3)) cx w hL0 hK0 (by decide) rfl wi_X3_beginOrder_X3 (by decide) rfl (List.mem_of_getElem? (i := 1) rfl) dX3_beginOrder_56 ?_
    refine lv_iconst (v := (1 : Int32)) hx hb dX3_beginOrder_59 (by decide) ?_
    refine lv_iadd hx hb dX3_beginOrder_60 ?_
    obtain ⟨M14, eM14, h⟩ := x_wI h
    refine r_putI (k := 3) (ty := .int) cx w tyX3 tyX3_ok nmX3 hL0 hK0 (by decide) rfl wi_X3_beginOrder_X3 (by decide) rfl rfl rfl rfl st_2_3 (ln_2 _ _ (by decide)) (List.mem_of_getElem? (i := 1) rfl) dX3_beginOrder_61 eM14 (fun H locs w => ?_)
    refine lv_iconst (v := (1 : Int32)) hx hb dX3_beginOrder_64 (by decide) ?_
    obtain ⟨z15, h⟩ := x_ck h
    exact r_zret cx w z15 h dX3_beginOrder_65
  · have h := x_f h k1
    refine lv_iconst (v := (0 : Int32)) hx hb dX3_beginOrder_9 (by decide) ?_
    obtain ⟨z16, h⟩ := x_ck h
    exact r_zret cx w z16 h dX3_beginOrder_10
-- X3_setOrderNumbers
theorem wi_X3_setOrderNumbers_X3 : ∀ w ∈ wsX30, w ∈ wsX3_setOrderNumbers := by decide +kernel
abbrev rmX3_setOrderNumbers : Room := { frames := 0, cells := 0, slots := 0, locals := 0 }
def m_X3_setOrderNumbers (G : gS) (M : mS) (a0 : Nat) (c1 : Int32) (c2 : Int32) : Option (mS × Unit) := (if (mI M a0 3) ≤ 0 then some (M, ()) else o_rf (gP G a0 5) (fun q2 => o_ix ((mI M a0 3) - (1 : Int32)) (gN G q2) (o_wI M q2 (Int32.toNatClampNeg ((mI M a0 3) - (1 : Int32))) c1 (fun M4 => o_rf (gP G a0 6) (fun q5 => o_ix ((mI M4 a0 3) - (1 : Int32)) (gN G q5) (o_wI M4 q5 (Int32.toNatClampNeg ((mI M4 a0 3) - (1 : Int32))) c2 (fun M7 => some (M7, ()))))))))
set_option maxHeartbeats 4000000 in
set_option maxRecDepth 100000 in
theorem k_X3_setOrderNumbers {l : Launch} {D : va_G} {cy : cyS} {G : gS} {M M' : mS} {a0 : Nat} {c1 : Int32} {c2 : Int32} (hG : wt G) (hL0 : a0 ∈ gL G) (hK0 : gK G a0 = 2) (h : m_X3_setOrderNumbers G M a0 c1 c2 = some (M', ())) : ctV l yX3_setOrderNumbers wsX3_setOrderNumbers rmX3_setOrderNumbers D cy G M [.ref a0, .int c1, .int c2] M' := by
  unfold m_X3_setOrderNumbers at h
  refine ctV_of (cc := cX3_setOrderNumbers) (nL := 3) (ret := none) (lv := [(0, .ref a0), (1, .int c1), (2, .int c2)]) hG (by decide) rfl ⟨rfl, rfl⟩ (Nat.le_of_ble_eq_true rfl) rfl ?_
  intro p e s m args below meth c A ls cx w hl
  obtain ⟨hx, hb, hml, hown, hts, hr, hlocks, hK, hA, -, hsx⟩ := id cx
  have hkn : 0 ≤ (rmX3_setOrderNumbers).cells ∧ 0 ≤ (rmX3_setOrderNumbers).slots := ⟨Nat.zero_le _, Nat.zero_le _⟩
  refine lv_aload_n hx hb dX3_setOrderNumbers_0 rfl (lv_at hl 0 rfl) ?_
  refine r_getI (k := 3) (v := .int (mI M a0 3)) cx w hL0 hK0 (by decide) rfl wi_X3_setOrderNumbers_X3 (by decide) rfl (List.mem_of_getElem? (i := 1) rfl) dX3_setOrderNumbers_1 ?_
  refine lv_if_le (tgt := 31) hx hb dX3_setOrderNumbers_4 (by decide) (fun k1 => ?_) (fun k1 => ?_)
  · have h := x_t h k1
    exact r_vret cx w h dX3_setOrderNumbers_31
  · have h := x_f h k1
    refine lv_aload_n hx hb dX3_setOrderNumbers_7 rfl (lv_at hl 0 rfl) ?_
    obtain ⟨q2, eq2, h⟩ := x_rf h
    obtain ⟨hLq2, hKq2⟩ := wt_q hG hL0 hK0 eq2
    have hKq2 : gK G q2 = 12 := hKq2
    refine r_getR (k := 5) cx w hL0 hK0 (by decide) rfl wi_X3_setOrderNumbers_X3 (by decide) rfl eq2 (List.mem_of_getElem? (i := 2) rfl) dX3_setOrderNumbers_8 ?_
    refine lv_aload_n hx hb dX3_setOrderNumbers_11 rfl (lv_at hl 0 rfl) ?_
    refine r_getI (k := 3) (v := .int (mI M a0 3)) cx w hL0 hK0 (by decide) rfl wi_X3_setOrderNumbers_X3 (by decide) rfl (List.mem_of_getElem? (i := 1) rfl) dX3_setOrderNumbers_12 ?_
    refine lv_iconst (v := (1 : Int32)) hx hb dX3_setOrderNumbers_15 (by decide) ?_
    refine lv_isub hx hb dX3_setOrderNumbers_16 ?_
    refine lv_iload_n hx hb dX3_setOrderNumbers_17 rfl (lv_at hl 1 rfl) ?_
    obtain ⟨z3, h⟩ := x_ix h
    obtain ⟨M4, eM4, h⟩ := x_wI h
    refine r_iast cx w hLq2 hKq2 z3 dX3_setOrderNumbers_18 eM4 (fun H locs w => ?_)
    refine lv_aload_n hx hb dX3_setOrderNumbers_19 rfl (lv_at hl 0 rfl) ?_
    obtain ⟨q5, eq5, h⟩ := x_rf h
    obtain ⟨hLq5, hKq5⟩ := wt_q hG hL0 hK0 eq5
    have hKq5 : gK G q5 = 12 := hKq5
    refine r_getR (k := 6) cx w hL0 hK0 (by decide) rfl wi_X3_setOrderNumbers_X3 (by decide) rfl eq5 (List.mem_of_getElem? (i := 3) rfl) dX3_setOrderNumbers_20 ?_
    refine lv_aload_n hx hb dX3_setOrderNumbers_23 rfl (lv_at hl 0 rfl) ?_
    refine r_getI (k := 3) (v := .int (mI M4 a0 3)) cx w hL0 hK0 (by decide) rfl wi_X3_setOrderNumbers_X3 (by decide) rfl (List.mem_of_getElem? (i := 1) rfl) dX3_setOrderNumbers_24 ?_
    refine lv_iconst (v := (1 : Int32)) hx hb dX3_setOrderNumbers_27 (by decide) ?_
    refine lv_isub hx hb dX3_setOrderNumbers_28 ?_
    refine lv_iload_n hx hb dX3_setOrderNumbers_29 rfl (lv_at hl 2 rfl) ?_
    obtain ⟨z6, h⟩ := x_ix h
    obtain ⟨M7, eM7, h⟩ := x_wI h
    refine r_iast cx w hLq5 hKq5 z6 dX3_setOrderNumbers_30 eM7 (fun H locs w => ?_)
    exact r_vret cx w h dX3_setOrderNumbers_31
-- X3_addOperation
theorem wi_X3_addOperation_X3 : ∀ w ∈ wsX30, w ∈ wsX3_addOperation := by decide +kernel
abbrev rmX3_addOperation : Room := { frames := 0, cells := 0, slots := 0, locals := 0 }
def m_X3_addOperation (G : gS) (M : mS) (a0 : Nat) (c1 : Int32) (c2 : Int32) : Option (mS × Unit) := (if (mI M a0 3) ≤ 0 then some (M, ()) else (if (400 : Int32) ≤ (mI M a0 8) then some (M, ()) else o_rf (gP G a0 9) (fun q3 => o_ix (mI M a0 8) (gN G q3) (o_wI M q3 (Int32.toNatClampNeg (mI M a0 8)) c1 (fun M5 => o_rf (gP G a0 10) (fun q6 => o_ix (mI M5 a0 8) (gN G q6) (o_wI M5 q6 (Int32.toNatClampNeg (mI M5 a0 8)) c2 (fun M8 => o_wI M8 a0 8 ((mI M8 a0 8) + (1 : Int32)) (fun M9 => o_rf (gP G a0 7) (fun q10 => o_ix ((mI M9 a0 3) - (1 : Int32)) (gN G q10) (o_wI M9 q10 (Int32.toNatClampNeg ((mI M9 a0 3) - (1 : Int32))) (mI M9 a0 8) (fun M12 => some (M12, ())))))))))))))
set_option maxHeartbeats 4000000 in
set_option maxRecDepth 100000 in
theorem k_X3_addOperation {l : Launch} {D : va_G} {cy : cyS} {G : gS} {M M' : mS} {a0 : Nat} {c1 : Int32} {c2 : Int32} (hG : wt G) (hL0 : a0 ∈ gL G) (hK0 : gK G a0 = 2) (h : m_X3_addOperation G M a0 c1 c2 = some (M', ())) : ctV l yX3_addOperation wsX3_addOperation rmX3_addOperation D cy G M [.ref a0, .int c1, .int c2] M' := by
  unfold m_X3_addOperation at h
  refine ctV_of (cc := cX3_addOperation) (nL := 3) (ret := none) (lv := [(0, .ref a0), (1, .int c1), (2, .int c2)]) hG (by decide) rfl ⟨rfl, rfl⟩ (Nat.le_of_ble_eq_true rfl) rfl ?_
  intro p e s m args below meth c A ls cx w hl
  obtain ⟨hx, hb, hml, hown, hts, hr, hlocks, hK, hA, -, hsx⟩ := id cx
  have hkn : 0 ≤ (rmX3_addOperation).cells ∧ 0 ≤ (rmX3_addOperation).slots := ⟨Nat.zero_le _, Nat.zero_le _⟩
  refine lv_aload_n hx hb dX3_addOperation_0 rfl (lv_at hl 0 rfl) ?_
  refine r_getI (k := 3) (v := .int (mI M a0 3)) cx w hL0 hK0 (by decide) rfl wi_X3_addOperation_X3 (by decide) rfl (List.mem_of_getElem? (i := 1) rfl) dX3_addOperation_1 ?_
  refine lv_if_le (tgt := 62) hx hb dX3_addOperation_4 (by decide) (fun k1 => ?_) (fun k1 => ?_)
  · have h := x_t h k1
    exact r_vret cx w h dX3_addOperation_62
  · have h := x_f h k1
    refine lv_aload_n hx hb dX3_addOperation_7 rfl (lv_at hl 0 rfl) ?_
    refine r_getI (k := 8) (v := .int (mI M a0 8)) cx w hL0 hK0 (by decide) rfl wi_X3_addOperation_X3 (by decide) rfl (List.mem_of_getElem? (i := 2) rfl) dX3_addOperation_8 ?_
    refine lv_sipush (v := (400 : Int32)) hx hb dX3_addOperation_11 (by decide) ?_
    refine lv_icmp_ge (tgt := 62) hx hb dX3_addOperation_14 (by decide) (fun k2 => ?_) (fun k2 => ?_)
    · have h := x_t h k2
      exact r_vret cx w h dX3_addOperation_62
    · have h := x_f h k2
      refine lv_aload_n hx hb dX3_addOperation_17 rfl (lv_at hl 0 rfl) ?_
      obtain ⟨q3, eq3, h⟩ := x_rf h
      obtain ⟨hLq3, hKq3⟩ := wt_q hG hL0 hK0 eq3
      have hKq3 : gK G q3 = 12 := hKq3
      refine r_getR (k := 9) cx w hL0 hK0 (by decide) rfl wi_X3_addOperation_X3 (by decide) rfl eq3 (List.mem_of_getElem? (i := 3) rfl) dX3_addOperation_18 ?_
      refine lv_aload_n hx hb dX3_addOperation_21 rfl (lv_at hl 0 rfl) ?_
      refine r_getI (k := 8) (v := .int (mI M a0 8)) cx w hL0 hK0 (by decide) rfl wi_X3_addOperation_X3 (by decide) rfl (List.mem_of_getElem? (i := 2) rfl) dX3_addOperation_22 ?_
      refine lv_iload_n hx hb dX3_addOperation_25 rfl (lv_at hl 1 rfl) ?_
      obtain ⟨z4, h⟩ := x_ix h
      obtain ⟨M5, eM5, h⟩ := x_wI h
      refine r_iast cx w hLq3 hKq3 z4 dX3_addOperation_26 eM5 (fun H locs w => ?_)
      refine lv_aload_n hx hb dX3_addOperation_27 rfl (lv_at hl 0 rfl) ?_
      obtain ⟨q6, eq6, h⟩ := x_rf h
      obtain ⟨hLq6, hKq6⟩ := wt_q hG hL0 hK0 eq6
      have hKq6 : gK G q6 = 12 := hKq6
      refine r_getR (k := 10) cx w hL0 hK0 (by decide) rfl wi_X3_addOperation_X3 (by decide) rfl eq6 (List.mem_of_getElem? (i := 4) rfl) dX3_addOperation_28 ?_
      refine lv_aload_n hx hb dX3_addOperation_31 rfl (lv_at hl 0 rfl) ?_
      refine r_getI (k := 8) (v := .int (mI M5 a0 8)) cx w hL0 hK0 (by decide) rfl wi_X3_addOperation_X3 (by decide) rfl (List.mem_of_getElem? (i := 2) rfl) dX3_addOperation_32 ?_
      refine lv_iload_n hx hb dX3_addOperation_35 rfl (lv_at hl 2 rfl) ?_
      obtain ⟨z7, h⟩ := x_ix h
      obtain ⟨M8, eM8, h⟩ := x_wI h
      refine r_iast cx w hLq6 hKq6 z7 dX3_addOperation_36 eM8 (fun H locs w => ?_)
      refine lv_aload_n hx hb dX3_addOperation_37 rfl (lv_at hl 0 rfl) ?_
      refine lv_dup hx hb dX3_addOperation_38 rfl ?_
      refine r_getI (k := 8) (v := .int (mI M8 a0 8)) cx w hL0 hK0 (by decide) rfl wi_X3_addOperation_X3 (by decide) rfl (List.mem_of_getElem? (i := 2) rfl) dX3_addOperation_39 ?_
      refine lv_iconst (v := (1 : Int32)) hx hb dX3_addOperation_42 (by decide) ?_
      refine lv_iadd hx hb dX3_addOperation_43 ?_
      obtain ⟨M9, eM9, h⟩ := x_wI h
      refine r_putI (k := 8) (ty := .int) cx w tyX3 tyX3_ok nmX3 hL0 hK0 (by decide) rfl wi_X3_addOperation_X3 (by decide) rfl rfl rfl rfl st_2_8 (ln_2 _ _ (by decide)) (List.mem_of_getElem? (i := 2) rfl) dX3_addOperation_44 eM9 (fun H locs w => ?_)
      refine lv_aload_n hx hb dX3_addOperation_47 rfl (lv_at hl 0 rfl) ?_
      obtain ⟨q10, eq10, h⟩ := x_rf h
      obtain ⟨hLq10, hKq10⟩ := wt_q hG hL0 hK0 eq10
      have hKq10 : gK G q10 = 12 := hKq10
      refine r_getR (k := 7) cx w hL0 hK0 (by decide) rfl wi_X3_addOperation_X3 (by decide) rfl eq10 (List.mem_of_getElem? (i := 5) rfl) dX3_addOperation_48 ?_
      refine lv_aload_n hx hb dX3_addOperation_51 rfl (lv_at hl 0 rfl) ?_
      refine r_getI (k := 3) (v := .int (mI M9 a0 3)) cx w hL0 hK0 (by decide) rfl wi_X3_addOperation_X3 (by decide) rfl (List.mem_of_getElem? (i := 1) rfl) dX3_addOperation_52 ?_
      refine lv_iconst (v := (1 : Int32)) hx hb dX3_addOperation_55 (by decide) ?_
      refine lv_isub hx hb dX3_addOperation_56 ?_
      refine lv_aload_n hx hb dX3_addOperation_57 rfl (lv_at hl 0 rfl) ?_
      refine r_getI (k := 8) (v := .int (mI M9 a0 8)) cx w hL0 hK0 (by decide) rfl wi_X3_addOperation_X3 (by decide) rfl (List.mem_of_getElem? (i := 2) rfl) dX3_addOperation_58 ?_
      obtain ⟨z11, h⟩ := x_ix h
      obtain ⟨M12, eM12, h⟩ := x_wI h
      refine r_iast cx w hLq10 hKq10 z11 dX3_addOperation_61 eM12 (fun H locs w => ?_)
      exact r_vret cx w h dX3_addOperation_62
-- X3_copyFrom
theorem wi_X3_copyFrom_X3 : ∀ w ∈ wsX30, w ∈ wsX3_copyFrom := by decide +kernel
abbrev rmX3_copyFrom : Room := { frames := 1, cells := 0, slots := 0, locals := 60 }
def m_X3_copyFrom (G : gS) (M : mS) (a0 : Nat) (a1 : Nat) : Option (mS × Unit) := o_wI M a0 0 (mI M a1 0) (fun M1 => o_rf (gP G a1 1) (fun q2 => o_rf (gP G a0 1) (fun q3 => o_ck (¬ (5 : Int32) < 0 ∧ Int32.toNatClampNeg (5 : Int32) ≤ gN G q2 ∧ Int32.toNatClampNeg (5 : Int32) ≤ gN G q3) (o_wC M1 q3 (cpy0 (mI M1 q2) (mI M1 q3) (Int32.toNatClampNeg (5 : Int32))) (fun M5 => o_rf (gP G a1 2) (fun q6 => o_rf (gP G a0 2) (fun q7 => o_ck (¬ (30 : Int32) < 0 ∧ Int32.toNatClampNeg (30 : Int32) ≤ gN G q6 ∧ Int32.toNatClampNeg (30 : Int32) ≤ gN G q7) (o_wC M5 q7 (cpy0 (mI M5 q6) (mI M5 q7) (Int32.toNatClampNeg (30 : Int32))) (fun M9 => o_wI M9 a0 3 (mI M9 a1 3) (fun M10 => o_rf (gP G a1 4) (fun q11 => o_rf (gP G a0 4) (fun q12 => o_ck (¬ (20 : Int32) < 0 ∧ Int32.toNatClampNeg (20 : Int32) ≤ gN G q11 ∧ Int32.toNatClampNeg (20 : Int32) ≤ gN G q12) (o_wC M10 q12 (cpy0 (mI M10 q11) (mI M10 q12) (Int32.toNatClampNeg (20 : Int32))) (fun M14 => o_rf (gP G a1 5) (fun q15 => o_rf (gP G a0 5) (fun q16 => o_ck (¬ (20 : Int32) < 0 ∧ Int32.toNatClampNeg (20 : Int32) ≤ gN G q15 ∧ Int32.toNatClampNeg (20 : Int32) ≤ gN G q16) (o_wC M14 q16 (cpy0 (mI M14 q15) (mI M14 q16) (Int32.toNatClampNeg (20 : Int32))) (fun M18 => o_rf (gP G a1 6) (fun q19 => o_rf (gP G a0 6) (fun q20 => o_ck (¬ (20 : Int32) < 0 ∧ Int32.toNatClampNeg (20 : Int32) ≤ gN G q19 ∧ Int32.toNatClampNeg (20 : Int32) ≤ gN G q20) (o_wC M18 q20 (cpy0 (mI M18 q19) (mI M18 q20) (Int32.toNatClampNeg (20 : Int32))) (fun M22 => o_rf (gP G a1 7) (fun q23 => o_rf (gP G a0 7) (fun q24 => o_ck (¬ (20 : Int32) < 0 ∧ Int32.toNatClampNeg (20 : Int32) ≤ gN G q23 ∧ Int32.toNatClampNeg (20 : Int32) ≤ gN G q24) (o_wC M22 q24 (cpy0 (mI M22 q23) (mI M22 q24) (Int32.toNatClampNeg (20 : Int32))) (fun M26 => o_wI M26 a0 8 (mI M26 a1 8) (fun M27 => o_rf (gP G a1 9) (fun q28 => o_rf (gP G a0 9) (fun q29 => o_ck (¬ (400 : Int32) < 0 ∧ Int32.toNatClampNeg (400 : Int32) ≤ gN G q28 ∧ Int32.toNatClampNeg (400 : Int32) ≤ gN G q29) (o_wC M27 q29 (cpy0 (mI M27 q28) (mI M27 q29) (Int32.toNatClampNeg (400 : Int32))) (fun M31 => o_rf (gP G a1 10) (fun q32 => o_rf (gP G a0 10) (fun q33 => o_ck (¬ (400 : Int32) < 0 ∧ Int32.toNatClampNeg (400 : Int32) ≤ gN G q32 ∧ Int32.toNatClampNeg (400 : Int32) ≤ gN G q33) (o_wC M31 q33 (cpy0 (mI M31 q32) (mI M31 q33) (Int32.toNatClampNeg (400 : Int32))) (fun M35 => some (M35, ()))))))))))))))))))))))))))))))))))))
set_option maxHeartbeats 4000000 in
set_option maxRecDepth 100000 in
theorem k_X3_copyFrom {l : Launch} {D : va_G} {cy : cyS} {G : gS} {M M' : mS} {a0 : Nat} {a1 : Nat} (hG : wt G) (hL0 : a0 ∈ gL G) (hK0 : gK G a0 = 2) (hL1 : a1 ∈ gL G) (hK1 : gK G a1 = 2) (h : m_X3_copyFrom G M a0 a1 = some (M', ())) : ctV l yX3_copyFrom wsX3_copyFrom rmX3_copyFrom D cy G M [.ref a0, .ref a1] M' := by
  unfold m_X3_copyFrom at h
  refine ctV_of (cc := cX3_copyFrom) (nL := 2) (ret := none) (lv := [(0, .ref a0), (1, .ref a1)]) hG (by decide) rfl ⟨rfl, rfl⟩ (Nat.le_of_ble_eq_true rfl) rfl ?_
  intro p e s m args below meth c A ls cx w hl
  obtain ⟨hx, hb, hml, hown, hts, hr, hlocks, hK, hA, -, hsx⟩ := id cx
  have hkn : 0 ≤ (rmX3_copyFrom).cells ∧ 0 ≤ (rmX3_copyFrom).slots := ⟨Nat.zero_le _, Nat.zero_le _⟩
  refine lv_aload_n hx hb dX3_copyFrom_0 rfl (lv_at hl 0 rfl) ?_
  refine lv_aload_n hx hb dX3_copyFrom_1 rfl (lv_at hl 1 rfl) ?_
  refine r_getI (k := 0) (v := .int (mI M a1 0)) cx w hL1 hK1 (by decide) rfl wi_X3_copyFrom_X3 (by decide) rfl (List.mem_of_getElem? (i := 1) rfl) dX3_copyFrom_2 ?_
  obtain ⟨M1, eM1, h⟩ := x_wI h
  refine r_putI (k := 0) (ty := .int) cx w tyX3 tyX3_ok nmX3 hL0 hK0 (by decide) rfl wi_X3_copyFrom_X3 (by decide) rfl rfl rfl rfl st_2_0 (ln_2 _ _ (by decide)) (List.mem_of_getElem? (i := 1) rfl) dX3_copyFrom_5 eM1 (fun H locs w => ?_)
  refine lv_aload_n hx hb dX3_copyFrom_8 rfl (lv_at hl 1 rfl) ?_
  obtain ⟨q2, eq2, h⟩ := x_rf h
  obtain ⟨hLq2, hKq2⟩ := wt_q hG hL1 hK1 eq2
  have hKq2 : gK G q2 = 12 := hKq2
  refine r_getR (k := 1) cx w hL1 hK1 (by decide) rfl wi_X3_copyFrom_X3 (by decide) rfl eq2 (List.mem_of_getElem? (i := 2) rfl) dX3_copyFrom_9 ?_
  refine lv_iconst (v := (0 : Int32)) hx hb dX3_copyFrom_12 (by decide) ?_
  refine lv_aload_n hx hb dX3_copyFrom_13 rfl (lv_at hl 0 rfl) ?_
  obtain ⟨q3, eq3, h⟩ := x_rf h
  obtain ⟨hLq3, hKq3⟩ := wt_q hG hL0 hK0 eq3
  have hKq3 : gK G q3 = 12 := hKq3
  refine r_getR (k := 1) cx w hL0 hK0 (by decide) rfl wi_X3_copyFrom_X3 (by decide) rfl eq3 (List.mem_of_getElem? (i := 2) rfl) dX3_copyFrom_14 ?_
  refine lv_iconst (v := (0 : Int32)) hx hb dX3_copyFrom_17 (by decide) ?_
  refine lv_iconst (v := (5 : Int32)) hx hb dX3_copyFrom_18 (by decide) ?_
  obtain ⟨z4, h⟩ := x_ck h
  obtain ⟨M5, eM5, h⟩ := x_wC h
  refine r_copy cx w (hml.trans hl.1.symm) (hts _ (List.mem_of_getElem? (i := 3) rfl)) (hts _ (List.mem_of_getElem? (i := 4) rfl)) (hts _ (List.mem_of_getElem? (i := 5) rfl)) (hts _ (List.mem_of_getElem? (i := 6) rfl)) hLq2 hKq2 hLq3 hKq3 z4 (Nat.le_of_ble_eq_true rfl) (Nat.le_of_ble_eq_true rfl) dX3_copyFrom_19 eM5 (fun H locs w => ?_)
  refine lv_aload_n hx hb dX3_copyFrom_22 rfl (lv_at hl 1 rfl) ?_
  obtain ⟨q6, eq6, h⟩ := x_rf h
  obtain ⟨hLq6, hKq6⟩ := wt_q hG hL1 hK1 eq6
  have hKq6 : gK G q6 = 12 := hKq6
  refine r_getR (k := 2) cx w hL1 hK1 (by decide) rfl wi_X3_copyFrom_X3 (by decide) rfl eq6 (List.mem_of_getElem? (i := 7) rfl) dX3_copyFrom_23 ?_
  refine lv_iconst (v := (0 : Int32)) hx hb dX3_copyFrom_26 (by decide) ?_
  refine lv_aload_n hx hb dX3_copyFrom_27 rfl (lv_at hl 0 rfl) ?_
  obtain ⟨q7, eq7, h⟩ := x_rf h
  obtain ⟨hLq7, hKq7⟩ := wt_q hG hL0 hK0 eq7
  have hKq7 : gK G q7 = 12 := hKq7
  refine r_getR (k := 2) cx w hL0 hK0 (by decide) rfl wi_X3_copyFrom_X3 (by decide) rfl eq7 (List.mem_of_getElem? (i := 7) rfl) dX3_copyFrom_28 ?_
  refine lv_iconst (v := (0 : Int32)) hx hb dX3_copyFrom_31 (by decide) ?_
  refine lv_bipush (v := (30 : Int32)) hx hb dX3_copyFrom_32 (by decide) ?_
  obtain ⟨z8, h⟩ := x_ck h
  obtain ⟨M9, eM9, h⟩ := x_wC h
  refine r_copy cx w (hml.trans hl.1.symm) (hts _ (List.mem_of_getElem? (i := 3) rfl)) (hts _ (List.mem_of_getElem? (i := 4) rfl)) (hts _ (List.mem_of_getElem? (i := 5) rfl)) (hts _ (List.mem_of_getElem? (i := 6) rfl)) hLq6 hKq6 hLq7 hKq7 z8 (Nat.le_of_ble_eq_true rfl) (Nat.le_of_ble_eq_true rfl) dX3_copyFrom_34 eM9 (fun H locs w => ?_)
  refine lv_aload_n hx hb dX3_copyFrom_37 rfl (lv_at hl 0 rfl) ?_
  refine lv_aload_n hx hb dX3_copyFrom_38 rfl (lv_at hl 1 rfl) ?_
  refine r_getI (k := 3) (v := .int (mI M9 a1 3)) cx w hL1 hK1 (by decide) rfl wi_X3_copyFrom_X3 (by decide) rfl (List.mem_of_getElem? (i := 8) rfl) dX3_copyFrom_39 ?_
  obtain ⟨M10, eM10, h⟩ := x_wI h
  refine r_putI (k := 3) (ty := .int) cx w tyX3 tyX3_ok nmX3 hL0 hK0 (by decide) rfl wi_X3_copyFrom_X3 (by decide) rfl rfl rfl rfl st_2_3 (ln_2 _ _ (by decide)) (List.mem_of_getElem? (i := 8) rfl) dX3_copyFrom_42 eM10 (fun H locs w => ?_)
  refine lv_aload_n hx hb dX3_copyFrom_45 rfl (lv_at hl 1 rfl) ?_
  obtain ⟨q11, eq11, h⟩ := x_rf h
  obtain ⟨hLq11, hKq11⟩ := wt_q hG hL1 hK1 eq11
  have hKq11 : gK G q11 = 12 := hKq11
  refine r_getR (k := 4) cx w hL1 hK1 (by decide) rfl wi_X3_copyFrom_X3 (by decide) rfl eq11 (List.mem_of_getElem? (i := 9) rfl) dX3_copyFrom_46 ?_
  refine lv_iconst (v := (0 : Int32)) hx hb dX3_copyFrom_49 (by decide) ?_
  refine lv_aload_n hx hb dX3_copyFrom_50 rfl (lv_at hl 0 rfl) ?_
  obtain ⟨q12, eq12, h⟩ := x_rf h
  obtain ⟨hLq12, hKq12⟩ := wt_q hG hL0 hK0 eq12
  have hKq12 : gK G q12 = 12 := hKq12
  refine r_getR (k := 4) cx w hL0 hK0 (by decide) rfl wi_X3_copyFrom_X3 (by decide) rfl eq12 (List.mem_of_getElem? (i := 9) rfl) dX3_copyFrom_51 ?_
  refine lv_iconst (v := (0 : Int32)) hx hb dX3_copyFrom_54 (by decide) ?_
  refine lv_bipush (v := (20 : Int32)) hx hb dX3_copyFrom_55 (by decide) ?_
  obtain ⟨z13, h⟩ := x_ck h
  obtain ⟨M14, eM14, h⟩ := x_wC h
  refine r_copy cx w (hml.trans hl.1.symm) (hts _ (List.mem_of_getElem? (i := 3) rfl)) (hts _ (List.mem_of_getElem? (i := 4) rfl)) (hts _ (List.mem_of_getElem? (i := 5) rfl)) (hts _ (List.mem_of_getElem? (i := 6) rfl)) hLq11 hKq11 hLq12 hKq12 z13 (Nat.le_of_ble_eq_true rfl) (Nat.le_of_ble_eq_true rfl) dX3_copyFrom_57 eM14 (fun H locs w => ?_)
  refine lv_aload_n hx hb dX3_copyFrom_60 rfl (lv_at hl 1 rfl) ?_
  obtain ⟨q15, eq15, h⟩ := x_rf h
  obtain ⟨hLq15, hKq15⟩ := wt_q hG hL1 hK1 eq15
  have hKq15 : gK G q15 = 12 := hKq15
  refine r_getR (k := 5) cx w hL1 hK1 (by decide) rfl wi_X3_copyFrom_X3 (by decide) rfl eq15 (List.mem_of_getElem? (i := 10) rfl) dX3_copyFrom_61 ?_
  refine lv_iconst (v := (0 : Int32)) hx hb dX3_copyFrom_64 (by decide) ?_
  refine lv_aload_n hx hb dX3_copyFrom_65 rfl (lv_at hl 0 rfl) ?_
  obtain ⟨q16, eq16, h⟩ := x_rf h
  obtain ⟨hLq16, hKq16⟩ := wt_q hG hL0 hK0 eq16
  have hKq16 : gK G q16 = 12 := hKq16
  refine r_getR (k := 5) cx w hL0 hK0 (by decide) rfl wi_X3_copyFrom_X3 (by decide) rfl eq16 (List.mem_of_getElem? (i := 10) rfl) dX3_copyFrom_66 ?_
  refine lv_iconst (v := (0 : Int32)) hx hb dX3_copyFrom_69 (by decide) ?_
  refine lv_bipush (v := (20 : Int32)) hx hb dX3_copyFrom_70 (by decide) ?_
  obtain ⟨z17, h⟩ := x_ck h
  obtain ⟨M18, eM18, h⟩ := x_wC h
  refine r_copy cx w (hml.trans hl.1.symm) (hts _ (List.mem_of_getElem? (i := 3) rfl)) (hts _ (List.mem_of_getElem? (i := 4) rfl)) (hts _ (List.mem_of_getElem? (i := 5) rfl)) (hts _ (List.mem_of_getElem? (i := 6) rfl)) hLq15 hKq15 hLq16 hKq16 z17 (Nat.le_of_ble_eq_true rfl) (Nat.le_of_ble_eq_true rfl) dX3_copyFrom_72 eM18 (fun H locs w => ?_)
  refine lv_aload_n hx hb dX3_copyFrom_75 rfl (lv_at hl 1 rfl) ?_
  obtain ⟨q19, eq19, h⟩ := x_rf h
  obtain ⟨hLq19, hKq19⟩ := wt_q hG hL1 hK1 eq19
  have hKq19 : gK G q19 = 12 := hKq19
  refine r_getR (k := 6) cx w hL1 hK1 (by decide) rfl wi_X3_copyFrom_X3 (by decide) rfl eq19 (List.mem_of_getElem? (i := 11) rfl) dX3_copyFrom_76 ?_
  refine lv_iconst (v := (0 : Int32)) hx hb dX3_copyFrom_79 (by decide) ?_
  refine lv_aload_n hx hb dX3_copyFrom_80 rfl (lv_at hl 0 rfl) ?_
  obtain ⟨q20, eq20, h⟩ := x_rf h
  obtain ⟨hLq20, hKq20⟩ := wt_q hG hL0 hK0 eq20
  have hKq20 : gK G q20 = 12 := hKq20
  refine r_getR (k := 6) cx w hL0 hK0 (by decide) rfl wi_X3_copyFrom_X3 (by decide) rfl eq20 (List.mem_of_getElem? (i := 11) rfl) dX3_copyFrom_81 ?_
  refine lv_iconst (v := (0 : Int32)) hx hb dX3_copyFrom_84 (by decide) ?_
  refine lv_bipush (v := (20 : Int32)) hx hb dX3_copyFrom_85 (by decide) ?_
  obtain ⟨z21, h⟩ := x_ck h
  obtain ⟨M22, eM22, h⟩ := x_wC h
  refine r_copy cx w (hml.trans hl.1.symm) (hts _ (List.mem_of_getElem? (i := 3) rfl)) (hts _ (List.mem_of_getElem? (i := 4) rfl)) (hts _ (List.mem_of_getElem? (i := 5) rfl)) (hts _ (List.mem_of_getElem? (i := 6) rfl)) hLq19 hKq19 hLq20 hKq20 z21 (Nat.le_of_ble_eq_true rfl) (Nat.le_of_ble_eq_true rfl) dX3_copyFrom_87 eM22 (fun H locs w => ?_)
  refine lv_aload_n hx hb dX3_copyFrom_90 rfl (lv_at hl 1 rfl) ?_
  obtain ⟨q23, eq23, h⟩ := x_rf h
  obtain ⟨hLq23, hKq23⟩ := wt_q hG hL1 hK1 eq23
  have hKq23 : gK G q23 = 12 := hKq23
  refine r_getR (k := 7) cx w hL1 hK1 (by decide) rfl wi_X3_copyFrom_X3 (by decide) rfl eq23 (List.mem_of_getElem? (i := 12) rfl) dX3_copyFrom_91 ?_
  refine lv_iconst (v := (0 : Int32)) hx hb dX3_copyFrom_94 (by decide) ?_
  refine lv_aload_n hx hb dX3_copyFrom_95 rfl (lv_at hl 0 rfl) ?_
  obtain ⟨q24, eq24, h⟩ := x_rf h
  obtain ⟨hLq24, hKq24⟩ := wt_q hG hL0 hK0 eq24
  have hKq24 : gK G q24 = 12 := hKq24
  refine r_getR (k := 7) cx w hL0 hK0 (by decide) rfl wi_X3_copyFrom_X3 (by decide) rfl eq24 (List.mem_of_getElem? (i := 12) rfl) dX3_copyFrom_96 ?_
  refine lv_iconst (v := (0 : Int32)) hx hb dX3_copyFrom_99 (by decide) ?_
  refine lv_bipush (v := (20 : Int32)) hx hb dX3_copyFrom_100 (by decide) ?_
  obtain ⟨z25, h⟩ := x_ck h
  obtain ⟨M26, eM26, h⟩ := x_wC h
  refine r_copy cx w (hml.trans hl.1.symm) (hts _ (List.mem_of_getElem? (i := 3) rfl)) (hts _ (List.mem_of_getElem? (i := 4) rfl)) (hts _ (List.mem_of_getElem? (i := 5) rfl)) (hts _ (List.mem_of_getElem? (i := 6) rfl)) hLq23 hKq23 hLq24 hKq24 z25 (Nat.le_of_ble_eq_true rfl) (Nat.le_of_ble_eq_true rfl) dX3_copyFrom_102 eM26 (fun H locs w => ?_)
  refine lv_aload_n hx hb dX3_copyFrom_105 rfl (lv_at hl 0 rfl) ?_
  refine lv_aload_n hx hb dX3_copyFrom_106 rfl (lv_at hl 1 rfl) ?_
  refine r_getI (k := 8) (v := .int (mI M26 a1 8)) cx w hL1 hK1 (by decide) rfl wi_X3_copyFrom_X3 (by decide) rfl (List.mem_of_getElem? (i := 13) rfl) dX3_copyFrom_107 ?_
  obtain ⟨M27, eM27, h⟩ := x_wI h
  refine r_putI (k := 8) (ty := .int) cx w tyX3 tyX3_ok nmX3 hL0 hK0 (by decide) rfl wi_X3_copyFrom_X3 (by decide) rfl rfl rfl rfl st_2_8 (ln_2 _ _ (by decide)) (List.mem_of_getElem? (i := 13) rfl) dX3_copyFrom_110 eM27 (fun H locs w => ?_)
  refine lv_aload_n hx hb dX3_copyFrom_113 rfl (lv_at hl 1 rfl) ?_
  obtain ⟨q28, eq28, h⟩ := x_rf h
  obtain ⟨hLq28, hKq28⟩ := wt_q hG hL1 hK1 eq28
  have hKq28 : gK G q28 = 12 := hKq28
  refine r_getR (k := 9) cx w hL1 hK1 (by decide) rfl wi_X3_copyFrom_X3 (by decide) rfl eq28 (List.mem_of_getElem? (i := 14) rfl) dX3_copyFrom_114 ?_
  refine lv_iconst (v := (0 : Int32)) hx hb dX3_copyFrom_117 (by decide) ?_
  refine lv_aload_n hx hb dX3_copyFrom_118 rfl (lv_at hl 0 rfl) ?_
  obtain ⟨q29, eq29, h⟩ := x_rf h
  obtain ⟨hLq29, hKq29⟩ := wt_q hG hL0 hK0 eq29
  have hKq29 : gK G q29 = 12 := hKq29
  refine r_getR (k := 9) cx w hL0 hK0 (by decide) rfl wi_X3_copyFrom_X3 (by decide) rfl eq29 (List.mem_of_getElem? (i := 14) rfl) dX3_copyFrom_119 ?_
  refine lv_iconst (v := (0 : Int32)) hx hb dX3_copyFrom_122 (by decide) ?_
  refine lv_sipush (v := (400 : Int32)) hx hb dX3_copyFrom_123 (by decide) ?_
  obtain ⟨z30, h⟩ := x_ck h
  obtain ⟨M31, eM31, h⟩ := x_wC h
  refine r_copy cx w (hml.trans hl.1.symm) (hts _ (List.mem_of_getElem? (i := 3) rfl)) (hts _ (List.mem_of_getElem? (i := 4) rfl)) (hts _ (List.mem_of_getElem? (i := 5) rfl)) (hts _ (List.mem_of_getElem? (i := 6) rfl)) hLq28 hKq28 hLq29 hKq29 z30 (Nat.le_of_ble_eq_true rfl) (Nat.le_of_ble_eq_true rfl) dX3_copyFrom_126 eM31 (fun H locs w => ?_)
  refine lv_aload_n hx hb dX3_copyFrom_129 rfl (lv_at hl 1 rfl) ?_
  obtain ⟨q32, eq32, h⟩ := x_rf h
  obtain ⟨hLq32, hKq32⟩ := wt_q hG hL1 hK1 eq32
  have hKq32 : gK G q32 = 12 := hKq32
  refine r_getR (k := 10) cx w hL1 hK1 (by decide) rfl wi_X3_copyFrom_X3 (by decide) rfl eq32 (List.mem_of_getElem? (i := 15) rfl) dX3_copyFrom_130 ?_
  refine lv_iconst (v := (0 : Int32)) hx hb dX3_copyFrom_133 (by decide) ?_
  refine lv_aload_n hx hb dX3_copyFrom_134 rfl (lv_at hl 0 rfl) ?_
  obtain ⟨q33, eq33, h⟩ := x_rf h
  obtain ⟨hLq33, hKq33⟩ := wt_q hG hL0 hK0 eq33
  have hKq33 : gK G q33 = 12 := hKq33
  refine r_getR (k := 10) cx w hL0 hK0 (by decide) rfl wi_X3_copyFrom_X3 (by decide) rfl eq33 (List.mem_of_getElem? (i := 15) rfl) dX3_copyFrom_135 ?_
  refine lv_iconst (v := (0 : Int32)) hx hb dX3_copyFrom_138 (by decide) ?_
  refine lv_sipush (v := (400 : Int32)) hx hb dX3_copyFrom_139 (by decide) ?_
  obtain ⟨z34, h⟩ := x_ck h
  obtain ⟨M35, eM35, h⟩ := x_wC h
  refine r_copy cx w (hml.trans hl.1.symm) (hts _ (List.mem_of_getElem? (i := 3) rfl)) (hts _ (List.mem_of_getElem? (i := 4) rfl)) (hts _ (List.mem_of_getElem? (i := 5) rfl)) (hts _ (List.mem_of_getElem? (i := 6) rfl)) hLq32 hKq32 hLq33 hKq33 z34 (Nat.le_of_ble_eq_true rfl) (Nat.le_of_ble_eq_true rfl) dX3_copyFrom_142 eM35 (fun H locs w => ?_)
  exact r_vret cx w h dX3_copyFrom_145
