-- X9_isLine
abbrev rmX9_isLine : Room := { frames := 0, cells := 0, slots := 0, locals := 0 }
def m_X9_isLine_14 (G : gS) (c0 : Int32)  (M : mS)  : Option (mS × Int32) := o_ck ((0 : Int32) = 0 ∨ (0 : Int32) = 1) (some (M, (0 : Int32)))
def m_X9_isLine (G : gS) (M : mS) (c0 : Int32) : Option (mS × Int32) := (if c0 < 0 then m_X9_isLine_14 G c0 M else (if (64 : Int32) ≤ c0 then m_X9_isLine_14 G c0 M else o_ck ((1 : Int32) = 0 ∨ (1 : Int32) = 1) (some (M, (1 : Int32)))))
set_option maxHeartbeats 4000000 in
set_option maxRecDepth 100000 in
theorem b_X9_isLine_14 {p : Program} {e : Env} {s : State} {m : MethodId} {args : Array Value} {below : List Frame} {meth : Method} {c : Code} {A : Nat → Prop} {l : Launch} {D : va_G} {cy : cyS} {G : gS} (cx : cX p s m args meth c cX9_isLine RX9 1 (some .boolean) wsX9_isLine D cy G A) {k0 n0 : Nat} (hkn : k0 ≤ (rmX9_isLine).cells ∧ n0 ≤ (rmX9_isLine).slots) {M' : mS} {r : Int32} {c0 : Int32}   : ∀ (M : mS) (H : Heap) (locs : List Loc) (ls : Array Slot), m_X9_isLine_14 G c0 M = some (M', r) → wd D cy G M A s.heap H locs → lv_has ls 1 [] → W p l e rmX9_isLine s m args below meth c H locs k0 n0 (MQ below (va_Qi (fun (r' : Int32) (_ : Unit) => r' = r) (fun _ t => wOut D cy G M' t) A) args s k0 n0 A) (F0 m 14 ls []) := by
  obtain ⟨hx, hb, hml, hown, hts, hr, hlocks, hK, hA, hG, hsx⟩ := id cx
  intro M H locs ls h w hl
  unfold m_X9_isLine_14 at h
  refine lv_iconst (v := (0 : Int32)) hx hb dX9_isLine_14 (by decide) ?_
  obtain ⟨z1, h⟩ := x_ck h
  exact r_zret cx w z1 h dX9_isLine_15
set_option maxHeartbeats 4000000 in
set_option maxRecDepth 100000 in
theorem k_X9_isLine {l : Launch} {D : va_G} {cy : cyS} {G : gS} {M M' : mS} {r : Int32} {c0 : Int32} (hG : wt G)  (h : m_X9_isLine G M c0 = some (M', r)) : ctI l yX9_isLine wsX9_isLine rmX9_isLine D cy G M [.int c0] M' r := by
  unfold m_X9_isLine at h
  refine ctI_of (cc := cX9_isLine) (nL := 1) (ret := (some .boolean)) (lv := [(0, .int c0)]) hG (by decide) rfl ⟨rfl, rfl⟩ (Nat.le_of_ble_eq_true rfl) rfl ?_
  intro p e s m args below meth c A ls cx w hl
  obtain ⟨hx, hb, hml, hown, hts, hr, hlocks, hK, hA, -, hsx⟩ := id cx
  have hkn : 0 ≤ (rmX9_isLine).cells ∧ 0 ≤ (rmX9_isLine).slots := ⟨Nat.zero_le _, Nat.zero_le _⟩
  refine lv_iload_n hx hb dX9_isLine_0 rfl (lv_at hl 0 rfl) ?_
  refine lv_if_lt (tgt := 14) hx hb dX9_isLine_1 (by decide) (fun k1 => ?_) (fun k1 => ?_)
  · have h := x_t h k1
    exact b_X9_isLine_14 cx hkn M s.heap [] ls h w (lv_sub hl [] rfl)
  · have h := x_f h k1
    refine lv_iload_n hx hb dX9_isLine_4 rfl (lv_at hl 0 rfl) ?_
    refine lv_bipush (v := (64 : Int32)) hx hb dX9_isLine_5 (by decide) ?_
    refine lv_icmp_ge (tgt := 14) hx hb dX9_isLine_7 (by decide) (fun k2 => ?_) (fun k2 => ?_)
    · have h := x_t h k2
      exact b_X9_isLine_14 cx hkn M s.heap [] ls h w (lv_sub hl [] rfl)
    · have h := x_f h k2
      refine lv_iconst (v := (1 : Int32)) hx hb dX9_isLine_10 (by decide) ?_
      refine lv_goto (tgt := 15) hx hb dX9_isLine_11 (by decide) ?_
      obtain ⟨z3, h⟩ := x_ck h
      exact r_zret cx w z3 h dX9_isLine_15
-- X9_isStone
abbrev rmX9_isStone : Room := { frames := 1, cells := 0, slots := 0, locals := 20 }
def m_X9_isStone_18 (G : gS) (c0 : Int32) (c1 : Int32)  (M : mS)  : Option (mS × Int32) := o_ck ((0 : Int32) = 0 ∨ (0 : Int32) = 1) (some (M, (0 : Int32)))
def m_X9_isStone (G : gS) (M : mS) (c0 : Int32) (c1 : Int32) : Option (mS × Int32) := o_cl (m_X9_isLine G M c0) (fun M1 r2 => (if r2 = 0 then m_X9_isStone_18 G c0 c1 M1 else o_cl (m_X9_isLine G M1 c1) (fun M5 r6 => (if r6 = 0 then m_X9_isStone_18 G c0 c1 M5 else o_ck ((1 : Int32) = 0 ∨ (1 : Int32) = 1) (some (M5, (1 : Int32)))))))
set_option maxHeartbeats 4000000 in
set_option maxRecDepth 100000 in
theorem b_X9_isStone_18 {p : Program} {e : Env} {s : State} {m : MethodId} {args : Array Value} {below : List Frame} {meth : Method} {c : Code} {A : Nat → Prop} {l : Launch} {D : va_G} {cy : cyS} {G : gS} (cx : cX p s m args meth c cX9_isStone RX9 2 (some .boolean) wsX9_isStone D cy G A) {k0 n0 : Nat} (hkn : k0 ≤ (rmX9_isStone).cells ∧ n0 ≤ (rmX9_isStone).slots) {M' : mS} {r : Int32} {c0 : Int32} {c1 : Int32}   : ∀ (M : mS) (H : Heap) (locs : List Loc) (ls : Array Slot), m_X9_isStone_18 G c0 c1 M = some (M', r) → wd D cy G M A s.heap H locs → lv_has ls 2 [] → W p l e rmX9_isStone s m args below meth c H locs k0 n0 (MQ below (va_Qi (fun (r' : Int32) (_ : Unit) => r' = r) (fun _ t => wOut D cy G M' t) A) args s k0 n0 A) (F0 m 18 ls []) := by
  obtain ⟨hx, hb, hml, hown, hts, hr, hlocks, hK, hA, hG, hsx⟩ := id cx
  intro M H locs ls h w hl
  unfold m_X9_isStone_18 at h
  refine lv_iconst (v := (0 : Int32)) hx hb dX9_isStone_18 (by decide) ?_
  obtain ⟨z1, h⟩ := x_ck h
  exact r_zret cx w z1 h dX9_isStone_19
set_option maxHeartbeats 4000000 in
set_option maxRecDepth 100000 in
theorem k_X9_isStone {l : Launch} {D : va_G} {cy : cyS} {G : gS} {M M' : mS} {r : Int32} {c0 : Int32} {c1 : Int32} (hG : wt G)  (h : m_X9_isStone G M c0 c1 = some (M', r)) : ctI l yX9_isStone wsX9_isStone rmX9_isStone D cy G M [.int c0, .int c1] M' r := by
  unfold m_X9_isStone at h
  refine ctI_of (cc := cX9_isStone) (nL := 2) (ret := (some .boolean)) (lv := [(0, .int c0), (1, .int c1)]) hG (by decide) rfl ⟨rfl, rfl⟩ (Nat.le_of_ble_eq_true rfl) rfl ?_
  intro p e s m args below meth c A ls cx w hl
  obtain ⟨hx, hb, hml, hown, hts, hr, hlocks, hK, hA, -, hsx⟩ := id cx
  have hkn : 0 ≤ (rmX9_isStone).cells ∧ 0 ≤ (rmX9_isStone).slots := ⟨Nat.zero_le _, Nat.zero_le _⟩
  refine lv_iload_n hx hb dX9_isStone_0 rfl (lv_at hl 0 rfl) ?_
  obtain ⟨M1, r2, y3, h⟩ := x_cl h
  refine r_callSi (As := [.int c0]) (rest := []) cx w hkn hl.1 (k_X9_isLine hG y3) (va_cwS 1 hts gX9_isStone_X9_isLine rfl rfl rfl (by decide +kernel) ⟨Nat.le_of_ble_eq_true rfl, Nat.le_of_ble_eq_true rfl⟩) rfl rfl (Nat.le_of_ble_eq_true rfl) dX9_isStone_1 (fun H locs w => ?_)
  refine lv_if_eq (tgt := 18) hx hb dX9_isStone_4 (by decide) (fun k4 => ?_) (fun k4 => ?_)
  · have h := x_t h k4
    exact b_X9_isStone_18 cx hkn M1 H locs ls h w (lv_sub hl [] rfl)
  · have h := x_f h k4
    refine lv_iload_n hx hb dX9_isStone_7 rfl (lv_at hl 1 rfl) ?_
    obtain ⟨M5, r6, y7, h⟩ := x_cl h
    refine r_callSi (As := [.int c1]) (rest := []) cx w hkn hl.1 (k_X9_isLine hG y7) (va_cwS 1 hts gX9_isStone_X9_isLine rfl rfl rfl (by decide +kernel) ⟨Nat.le_of_ble_eq_true rfl, Nat.le_of_ble_eq_true rfl⟩) rfl rfl (Nat.le_of_ble_eq_true rfl) dX9_isStone_8 (fun H locs w => ?_)
    refine lv_if_eq (tgt := 18) hx hb dX9_isStone_11 (by decide) (fun k8 => ?_) (fun k8 => ?_)
    · have h := x_t h k8
      exact b_X9_isStone_18 cx hkn M5 H locs ls h w (lv_sub hl [] rfl)
    · have h := x_f h k8
      refine lv_iconst (v := (1 : Int32)) hx hb dX9_isStone_14 (by decide) ?_
      refine lv_goto (tgt := 19) hx hb dX9_isStone_15 (by decide) ?_
      obtain ⟨z9, h⟩ := x_ck h
      exact r_zret cx w z9 h dX9_isStone_19
-- X9_paint
theorem wi_X9_paint_X9 : ∀ w ∈ wsX90, w ∈ wsX9_paint := by decide +kernel
abbrev rmX9_paint : Room := { frames := 2, cells := 0, slots := 0, locals := 45 }
def m_X9_paint (G : gS) (M : mS) (a0 : Nat) (c1 : Int32) (c2 : Int32) (c3 : Int32) : Option (mS × Int32) := o_cl (m_X9_isStone G M c1 c2) (fun M1 r2 => (if r2 = 0 then none else o_cl (m_X9_isColour G M1 c3) (fun M5 r6 => (if r6 = 0 then none else o_bd (((c2 * (64 : Int32)) + c1)) (fun x9 => o_rf (gP G a0 2) (fun q10 => o_cl (m_X8_colourAt G M5 q10 x9) (fun M11 r12 => o_rf (gP G a0 2) (fun q14 => o_cl (m_X8_setStone G M11 q14 x9 c3) (fun M15 r16 => some (M15, r12))))))))))
set_option maxHeartbeats 4000000 in
set_option maxRecDepth 100000 in
theorem k_X9_paint {l : Launch} {D : va_G} {cy : cyS} {G : gS} {M M' : mS} {r : Int32} {a0 : Nat} {c1 : Int32} {c2 : Int32} {c3 : Int32} (hG : wt G) (hL0 : a0 ∈ gL G) (hK0 : gK G a0 = 8) (h : m_X9_paint G M a0 c1 c2 c3 = some (M', r)) : ctI l yX9_paint wsX9_paint rmX9_paint D cy G M [.ref a0, .int c1, .int c2, .int c3] M' r := by
  unfold m_X9_paint at h
  refine ctI_of (cc := cX9_paint) (nL := 6) (ret := (some .int)) (lv := [(0, .ref a0), (1, .int c1), (2, .int c2), (3, .int c3)]) hG (by decide) rfl ⟨rfl, rfl⟩ (Nat.le_of_ble_eq_true rfl) rfl ?_
  intro p e s m args below meth c A ls cx w hl
  obtain ⟨hx, hb, hml, hown, hts, hr, hlocks, hK, hA, -, hsx⟩ := id cx
  have hkn : 0 ≤ (rmX9_paint).cells ∧ 0 ≤ (rmX9_paint).slots := ⟨Nat.zero_le _, Nat.zero_le _⟩
  refine lv_iload_n hx hb dX9_paint_0 rfl (lv_at hl 1 rfl) ?_
  refine lv_iload_n hx hb dX9_paint_1 rfl (lv_at hl 2 rfl) ?_
  obtain ⟨M1, r2, y3, h⟩ := x_cl h
  refine r_callSi (As := [.int c1, .int c2]) (rest := []) cx w hkn hl.1 (k_X9_isStone hG y3) (va_cwS 2 hts gX9_paint_X9_isStone rfl rfl rfl (by decide +kernel) ⟨Nat.le_of_ble_eq_true rfl, Nat.le_of_ble_eq_true rfl⟩) rfl rfl (Nat.le_of_ble_eq_true rfl) dX9_paint_2 (fun H locs w => ?_)
  refine lv_if_ne (tgt := 18) hx hb dX9_paint_5 (by decide) (fun k4 => ?_) (fun k4 => ?_)
  · have h := x_f h k4
    refine lv_iload_n hx hb dX9_paint_18 rfl (lv_at hl 3 rfl) ?_
    obtain ⟨M5, r6, y7, h⟩ := x_cl h
    refine r_callSi (As := [.int c3]) (rest := []) cx w hkn hl.1 (k_X9_isColour hG y7) (va_cwS 1 hts gX9_paint_X9_isColour rfl rfl rfl (by decide +kernel) ⟨Nat.le_of_ble_eq_true rfl, Nat.le_of_ble_eq_true rfl⟩) rfl rfl (Nat.le_of_ble_eq_true rfl) dX9_paint_19 (fun H locs w => ?_)
    refine lv_if_ne (tgt := 35) hx hb dX9_paint_22 (by decide) (fun k8 => ?_) (fun k8 => ?_)
    · have h := x_f h k8
      refine lv_iload_n hx hb dX9_paint_35 rfl (lv_at hl 2 rfl) ?_
      refine lv_bipush (v := (64 : Int32)) hx hb dX9_paint_36 (by decide) ?_
      refine lv_imul hx hb dX9_paint_38 ?_
      refine lv_iload_n hx hb dX9_paint_39 rfl (lv_at hl 1 rfl) ?_
      refine lv_iadd hx hb dX9_paint_40 ?_
      obtain ⟨x9, ex9, h⟩ := x_bd h
      refine r_topI ex9 ?_
      refine lv_istore (lv' := [(4, .int x9), (0, .ref a0), (1, .int c1), (2, .int c2), (3, .int c3)]) hx hb dX9_paint_41 hl (by decide) rfl (fun ls hl => ?_)
      refine lv_aload_n hx hb dX9_paint_43 rfl (lv_at hl 1 rfl) ?_
      obtain ⟨q10, eq10, h⟩ := x_rf h
      obtain ⟨hLq10, hKq10⟩ := wt_q hG hL0 hK0 eq10
      have hKq10 : gK G q10 = 7 := hKq10
      refine r_getR (k := 2) cx w hL0 hK0 (by decide) rfl wi_X9_paint_X9 (by decide) rfl eq10 (List.mem_of_getElem? (i := 5) rfl) dX9_paint_44 ?_
      refine lv_iload hx hb dX9_paint_47 (lv_at hl 0 rfl) ?_
      obtain ⟨M11, r12, y13, h⟩ := x_cl h
      refine r_callVi (As := [.int x9]) (rest := []) cx w hkn hl.1 (k_X8_colourAt hG hLq10 hKq10 y13) (cwV 1 hts gX9_paint_X8_colourAt rfl rfl rfl (by decide +kernel) ⟨Nat.le_of_ble_eq_true rfl, Nat.le_of_ble_eq_true rfl⟩) hLq10 hKq10 (by decide) rfl rfl rfl (Nat.le_of_ble_eq_true rfl) dX9_paint_49 (fun H locs w => ?_)
      refine lv_istore (lv' := [(5, .int r12), (4, .int x9), (0, .ref a0), (1, .int c1), (2, .int c2), (3, .int c3)]) hx hb dX9_paint_52 hl (by decide) rfl (fun ls hl => ?_)
      refine lv_aload_n hx hb dX9_paint_54 rfl (lv_at hl 2 rfl) ?_
      obtain ⟨q14, eq14, h⟩ := x_rf h
      obtain ⟨hLq14, hKq14⟩ := wt_q hG hL0 hK0 eq14
      have hKq14 : gK G q14 = 7 := hKq14
      refine r_getR (k := 2) cx w hL0 hK0 (by decide) rfl wi_X9_paint_X9 (by decide) rfl eq14 (List.mem_of_getElem? (i := 5) rfl) dX9_paint_55 ?_
      refine lv_iload hx hb dX9_paint_58 (lv_at hl 1 rfl) ?_
      refine lv_iload_n hx hb dX9_paint_60 rfl (lv_at hl 5 rfl) ?_
      obtain ⟨M15, r16, y17, h⟩ := x_cl h
      refine r_callVv (As := [.int x9, .int c3]) (rest := []) cx w hkn hl.1 (k_X8_setStone hG hLq14 hKq14 y17) (cwV 2 hts gX9_paint_X8_setStone rfl rfl rfl (by decide +kernel) ⟨Nat.le_of_ble_eq_true rfl, Nat.le_of_ble_eq_true rfl⟩) hLq14 hKq14 (by decide) rfl rfl rfl (Nat.le_of_ble_eq_true rfl) dX9_paint_61 (fun H locs w => ?_)
      refine lv_iload hx hb dX9_paint_64 (lv_at hl 0 rfl) ?_
      exact r_iret cx w h dX9_paint_66
    · have h := x_t h k8
      have h : none = some _ := h
      cases h
  · have h := x_t h k4
    have h : none = some _ := h
    cases h
-- X9_wash
theorem wi_X9_wash_X9 : ∀ w ∈ wsX90, w ∈ wsX9_wash := by decide +kernel
abbrev rmX9_wash : Room := { frames := 4, cells := 0, slots := 0, locals := 91 }
def m_X9_wash_14 (G : gS) (a0 : Nat) (c1 : Int32) (c2 : Int32)  (M : mS)  : Option (mS × Int32) := none
def m_X9_wash (G : gS) (M : mS) (a0 : Nat) (c1 : Int32) (c2 : Int32) : Option (mS × Int32) := o_cl (m_X9_isLine G M c1) (fun M1 r2 => (if r2 = 0 then m_X9_wash_14 G a0 c1 c2 M1 else o_cl (m_X9_isLine G M1 c2) (fun M5 r6 => (if r6 = 0 then m_X9_wash_14 G a0 c1 c2 M5 else (if c1 ≤ c2 then o_rf (gP G a0 2) (fun q10 => o_cl (m_X8_washRows G M5 q10 c1 c2) (fun M11 r12 => some (M11, r12))) else none)))))
set_option maxHeartbeats 4000000 in
set_option maxRecDepth 100000 in
theorem b_X9_wash_14 {p : Program} {e : Env} {s : State} {m : MethodId} {args : Array Value} {below : List Frame} {meth : Method} {c : Code} {A : Nat → Prop} {l : Launch} {D : va_G} {cy : cyS} {G : gS} (cx : cX p s m args meth c cX9_wash RX9 3 (some .int) wsX9_wash D cy G A) {k0 n0 : Nat} (hkn : k0 ≤ (rmX9_wash).cells ∧ n0 ≤ (rmX9_wash).slots) {M' : mS} {r : Int32} {a0 : Nat} {c1 : Int32} {c2 : Int32} (hL0 : a0 ∈ gL G) (hK0 : gK G a0 = 8)  : ∀ (M : mS) (H : Heap) (locs : List Loc) (ls : Array Slot), m_X9_wash_14 G a0 c1 c2 M = some (M', r) → wd D cy G M A s.heap H locs → lv_has ls 3 [] → W p l e rmX9_wash s m args below meth c H locs k0 n0 (MQ below (va_Qi (fun (r' : Int32) (_ : Unit) => r' = r) (fun _ t => wOut D cy G M' t) A) args s k0 n0 A) (F0 m 14 ls []) := by
  obtain ⟨hx, hb, hml, hown, hts, hr, hlocks, hK, hA, hG, hsx⟩ := id cx
  intro M H locs ls h w hl
  unfold m_X9_wash_14 at h
  have h : none = some _ := h
  cases h
set_option maxHeartbeats 4000000 in
set_option maxRecDepth 100000 in
theorem k_X9_wash {l : Launch} {D : va_G} {cy : cyS} {G : gS} {M M' : mS} {r : Int32} {a0 : Nat} {c1 : Int32} {c2 : Int32} (hG : wt G) (hL0 : a0 ∈ gL G) (hK0 : gK G a0 = 8) (h : m_X9_wash G M a0 c1 c2 = some (M', r)) : ctI l yX9_wash wsX9_wash rmX9_wash D cy G M [.ref a0, .int c1, .int c2] M' r := by
  unfold m_X9_wash at h
  refine ctI_of (cc := cX9_wash) (nL := 3) (ret := (some .int)) (lv := [(0, .ref a0), (1, .int c1), (2, .int c2)]) hG (by decide) rfl ⟨rfl, rfl⟩ (Nat.le_of_ble_eq_true rfl) rfl ?_
  intro p e s m args below meth c A ls cx w hl
  obtain ⟨hx, hb, hml, hown, hts, hr, hlocks, hK, hA, -, hsx⟩ := id cx
  have hkn : 0 ≤ (rmX9_wash).cells ∧ 0 ≤ (rmX9_wash).slots := ⟨Nat.zero_le _, Nat.zero_le _⟩
  refine lv_iload_n hx hb dX9_wash_0 rfl (lv_at hl 1 rfl) ?_
  obtain ⟨M1, r2, y3, h⟩ := x_cl h
  refine r_callSi (As := [.int c1]) (rest := []) cx w hkn hl.1 (k_X9_isLine hG y3) (va_cwS 1 hts gX9_wash_X9_isLine rfl rfl rfl (by decide +kernel) ⟨Nat.le_of_ble_eq_true rfl, Nat.le_of_ble_eq_true rfl⟩) rfl rfl (Nat.le_of_ble_eq_true rfl) dX9_wash_1 (fun H locs w => ?_)
  refine lv_if_eq (tgt := 14) hx hb dX9_wash_4 (by decide) (fun k4 => ?_) (fun k4 => ?_)
  · have h := x_t h k4
    exact b_X9_wash_14 cx hkn hL0 hK0 M1 H locs ls h w (lv_sub hl [] rfl)
  · have h := x_f h k4
    refine lv_iload_n hx hb dX9_wash_7 rfl (lv_at hl 2 rfl) ?_
    obtain ⟨M5, r6, y7, h⟩ := x_cl h
    refine r_callSi (As := [.int c2]) (rest := []) cx w hkn hl.1 (k_X9_isLine hG y7) (va_cwS 1 hts gX9_wash_X9_isLine rfl rfl rfl (by decide +kernel) ⟨Nat.le_of_ble_eq_true rfl, Nat.le_of_ble_eq_true rfl⟩) rfl rfl (Nat.le_of_ble_eq_true rfl) dX9_wash_8 (fun H locs w => ?_)
    refine lv_if_ne (tgt := 24) hx hb dX9_wash_11 (by decide) (fun k8 => ?_) (fun k8 => ?_)
    · have h := x_f h k8
      refine lv_iload_n hx hb dX9_wash_24 rfl (lv_at hl 1 rfl) ?_
      refine lv_iload_n hx hb dX9_wash_25 rfl (lv_at hl 2 rfl) ?_
      refine lv_icmp_le (tgt := 39) hx hb dX9_wash_26 (by decide) (fun k9 => ?_) (fun k9 => ?_)
      · have h := x_t h k9
        refine lv_aload_n hx hb dX9_wash_39 rfl (lv_at hl 0 rfl) ?_
        obtain ⟨q10, eq10, h⟩ := x_rf h
        obtain ⟨hLq10, hKq10⟩ := wt_q hG hL0 hK0 eq10
        have hKq10 : gK G q10 = 7 := hKq10
        refine r_getR (k := 2) cx w hL0 hK0 (by decide) rfl wi_X9_wash_X9 (by decide) rfl eq10 (List.mem_of_getElem? (i := 5) rfl) dX9_wash_40 ?_
        refine lv_iload_n hx hb dX9_wash_43 rfl (lv_at hl 1 rfl) ?_
        refine lv_iload_n hx hb dX9_wash_44 rfl (lv_at hl 2 rfl) ?_
        obtain ⟨M11, r12, y13, h⟩ := x_cl h
        refine r_callVi (As := [.int c1, .int c2]) (rest := []) cx w hkn hl.1 (k_X8_washRows hG hLq10 hKq10 y13) (cwV 2 hts gX9_wash_X8_washRows rfl rfl rfl (by decide +kernel) ⟨Nat.le_of_ble_eq_true rfl, Nat.le_of_ble_eq_true rfl⟩) hLq10 hKq10 (by decide) rfl rfl rfl (Nat.le_of_ble_eq_true rfl) dX9_wash_45 (fun H locs w => ?_)
        exact r_iret cx w h dX9_wash_48
      · have h := x_f h k9
        have h : none = some _ := h
        cases h
    · have h := x_t h k8
      exact b_X9_wash_14 cx hkn hL0 hK0 M5 H locs ls h w (lv_sub hl [] rfl)
-- X9_isAnt
theorem wi_X9_isAnt_X8 : ∀ w ∈ wsX80, w ∈ wsX9_isAnt := by decide +kernel
theorem wi_X9_isAnt_X9 : ∀ w ∈ wsX90, w ∈ wsX9_isAnt := by decide +kernel
abbrev rmX9_isAnt : Room := { frames := 0, cells := 0, slots := 0, locals := 0 }
def m_X9_isAnt_19 (G : gS) (a0 : Nat) (c1 : Int32)  (M : mS)  : Option (mS × Int32) := o_ck ((0 : Int32) = 0 ∨ (0 : Int32) = 1) (some (M, (0 : Int32)))
def m_X9_isAnt (G : gS) (M : mS) (a0 : Nat) (c1 : Int32) : Option (mS × Int32) := (if c1 < 0 then m_X9_isAnt_19 G a0 c1 M else o_rf (gP G a0 2) (fun q2 => (if (mI M q2 4) ≤ c1 then m_X9_isAnt_19 G a0 c1 M else o_ck ((1 : Int32) = 0 ∨ (1 : Int32) = 1) (some (M, (1 : Int32))))))
set_option maxHeartbeats 4000000 in
set_option maxRecDepth 100000 in
theorem b_X9_isAnt_19 {p : Program} {e : Env} {s : State} {m : MethodId} {args : Array Value} {below : List Frame} {meth : Method} {c : Code} {A : Nat → Prop} {l : Launch} {D : va_G} {cy : cyS} {G : gS} (cx : cX p s m args meth c cX9_isAnt RX9 2 (some .boolean) wsX9_isAnt D cy G A) {k0 n0 : Nat} (hkn : k0 ≤ (rmX9_isAnt).cells ∧ n0 ≤ (rmX9_isAnt).slots) {M' : mS} {r : Int32} {a0 : Nat} {c1 : Int32} (hL0 : a0 ∈ gL G) (hK0 : gK G a0 = 8)  : ∀ (M : mS) (H : Heap) (locs : List Loc) (ls : Array Slot), m_X9_isAnt_19 G a0 c1 M = some (M', r) → wd D cy G M A s.heap H locs → lv_has ls 2 [] → W p l e rmX9_isAnt s m args below meth c H locs k0 n0 (MQ below (va_Qi (fun (r' : Int32) (_ : Unit) => r' = r) (fun _ t => wOut D cy G M' t) A) args s k0 n0 A) (F0 m 19 ls []) := by
  obtain ⟨hx, hb, hml, hown, hts, hr, hlocks, hK, hA, hG, hsx⟩ := id cx
  intro M H locs ls h w hl
  unfold m_X9_isAnt_19 at h
  refine lv_iconst (v := (0 : Int32)) hx hb dX9_isAnt_19 (by decide) ?_
  obtain ⟨z1, h⟩ := x_ck h
  exact r_zret cx w z1 h dX9_isAnt_20
set_option maxHeartbeats 4000000 in
set_option maxRecDepth 100000 in
theorem k_X9_isAnt {l : Launch} {D : va_G} {cy : cyS} {G : gS} {M M' : mS} {r : Int32} {a0 : Nat} {c1 : Int32} (hG : wt G) (hL0 : a0 ∈ gL G) (hK0 : gK G a0 = 8) (h : m_X9_isAnt G M a0 c1 = some (M', r)) : ctI l yX9_isAnt wsX9_isAnt rmX9_isAnt D cy G M [.ref a0, .int c1] M' r := by
  unfold m_X9_isAnt at h
  refine ctI_of (cc := cX9_isAnt) (nL := 2) (ret := (some .boolean)) (lv := [(0, .ref a0), (1, .int c1)]) hG (by decide) rfl ⟨rfl, rfl⟩ (Nat.le_of_ble_eq_true rfl) rfl ?_
  intro p e s m args below meth c A ls cx w hl
  obtain ⟨hx, hb, hml, hown, hts, hr, hlocks, hK, hA, -, hsx⟩ := id cx
  have hkn : 0 ≤ (rmX9_isAnt).cells ∧ 0 ≤ (rmX9_isAnt).slots := ⟨Nat.zero_le _, Nat.zero_le _⟩
  refine lv_iload_n hx hb dX9_isAnt_0 rfl (lv_at hl 1 rfl) ?_
  refine lv_if_lt (tgt := 19) hx hb dX9_isAnt_1 (by decide) (fun k1 => ?_) (fun k1 => ?_)
  · have h := x_t h k1
    exact b_X9_isAnt_19 cx hkn hL0 hK0 M s.heap [] ls h w (lv_sub hl [] rfl)
  · have h := x_f h k1
    refine lv_iload_n hx hb dX9_isAnt_4 rfl (lv_at hl 1 rfl) ?_
    refine lv_aload_n hx hb dX9_isAnt_5 rfl (lv_at hl 0 rfl) ?_
    obtain ⟨q2, eq2, h⟩ := x_rf h
    obtain ⟨hLq2, hKq2⟩ := wt_q hG hL0 hK0 eq2
    have hKq2 : gK G q2 = 7 := hKq2
    refine r_getR (k := 2) cx w hL0 hK0 (by decide) rfl wi_X9_isAnt_X9 (by decide) rfl eq2 (List.mem_of_getElem? (i := 1) rfl) dX9_isAnt_6 ?_
    refine r_getI (k := 4) (v := .int (mI M q2 4)) cx w hLq2 hKq2 (by decide) rfl wi_X9_isAnt_X8 (by decide) rfl (List.mem_of_getElem? (i := 2) rfl) dX9_isAnt_9 ?_
    refine lv_icmp_ge (tgt := 19) hx hb dX9_isAnt_12 (by decide) (fun k3 => ?_) (fun k3 => ?_)
    · have h := x_t h k3
      exact b_X9_isAnt_19 cx hkn hL0 hK0 M s.heap [] ls h w (lv_sub hl [] rfl)
    · have h := x_f h k3
      refine lv_iconst (v := (1 : Int32)) hx hb dX9_isAnt_15 (by decide) ?_
      refine lv_goto (tgt := 20) hx hb dX9_isAnt_16 (by decide) ?_
      obtain ⟨z4, h⟩ := x_ck h
      exact r_zret cx w z4 h dX9_isAnt_20
-- X9_face
theorem wi_X9_face_X0 : ∀ w ∈ wsX00, w ∈ wsX9_face := by decide +kernel
theorem wi_X9_face_X8 : ∀ w ∈ wsX80, w ∈ wsX9_face := by decide +kernel
theorem wi_X9_face_X9 : ∀ w ∈ wsX90, w ∈ wsX9_face := by decide +kernel
abbrev rmX9_face : Room := { frames := 2, cells := 0, slots := 0, locals := 41 }
def m_X9_face_17 (G : gS) (a0 : Nat) (c1 : Int32) (c2 : Int32)  (M : mS)  : Option (mS × Int32) := none
def m_X9_face (G : gS) (M : mS) (a0 : Nat) (c1 : Int32) (c2 : Int32) : Option (mS × Int32) := o_cl (m_X9_isAnt G M a0 c1) (fun M1 r2 => (if r2 = 0 then m_X9_face_17 G a0 c1 c2 M1 else (if c2 < 0 then m_X9_face_17 G a0 c1 c2 M1 else (if c2 < (4 : Int32) then o_rf (gP G a0 2) (fun q7 => o_rf (gP G q7 3) (fun q8 => o_ix c1 (gN G q8) (o_rf (gP G q8 (Int32.toNatClampNeg c1)) (fun q10 => o_bd ((mI M1 q10 3)) (fun x11 => o_rf (gP G a0 2) (fun q12 => o_rf (gP G q12 3) (fun q13 => o_ix c1 (gN G q13) (o_rf (gP G q13 (Int32.toNatClampNeg c1)) (fun q15 => o_cl (m_X0_turnTo G M1 q15 c2) (fun M16 r17 => some (M16, x11))))))))))) else m_X9_face_17 G a0 c1 c2 M1))))
set_option maxHeartbeats 4000000 in
set_option maxRecDepth 100000 in
theorem b_X9_face_17 {p : Program} {e : Env} {s : State} {m : MethodId} {args : Array Value} {below : List Frame} {meth : Method} {c : Code} {A : Nat → Prop} {l : Launch} {D : va_G} {cy : cyS} {G : gS} (cx : cX p s m args meth c cX9_face RX9 4 (some .int) wsX9_face D cy G A) {k0 n0 : Nat} (hkn : k0 ≤ (rmX9_face).cells ∧ n0 ≤ (rmX9_face).slots) {M' : mS} {r : Int32} {a0 : Nat} {c1 : Int32} {c2 : Int32} (hL0 : a0 ∈ gL G) (hK0 : gK G a0 = 8)  : ∀ (M : mS) (H : Heap) (locs : List Loc) (ls : Array Slot), m_X9_face_17 G a0 c1 c2 M = some (M', r) → wd D cy G M A s.heap H locs → lv_has ls 4 [] → W p l e rmX9_face s m args below meth c H locs k0 n0 (MQ below (va_Qi (fun (r' : Int32) (_ : Unit) => r' = r) (fun _ t => wOut D cy G M' t) A) args s k0 n0 A) (F0 m 17 ls []) := by
  obtain ⟨hx, hb, hml, hown, hts, hr, hlocks, hK, hA, hG, hsx⟩ := id cx
  intro M H locs ls h w hl
  unfold m_X9_face_17 at h
  have h : none = some _ := h
  cases h
set_option maxHeartbeats 4000000 in
set_option maxRecDepth 100000 in
theorem k_X9_face {l : Launch} {D : va_G} {cy : cyS} {G : gS} {M M' : mS} {r : Int32} {a0 : Nat} {c1 : Int32} {c2 : Int32} (hG : wt G) (hL0 : a0 ∈ gL G) (hK0 : gK G a0 = 8) (h : m_X9_face G M a0 c1 c2 = some (M', r)) : ctI l yX9_face wsX9_face rmX9_face D cy G M [.ref a0, .int c1, .int c2] M' r := by
  unfold m_X9_face at h
  refine ctI_of (cc := cX9_face) (nL := 4) (ret := (some .int)) (lv := [(0, .ref a0), (1, .int c1), (2, .int c2)]) hG (by decide) rfl ⟨rfl, rfl⟩ (Nat.le_of_ble_eq_true rfl) rfl ?_
  intro p e s m args below meth c A ls cx w hl
  obtain ⟨hx, hb, hml, hown, hts, hr, hlocks, hK, hA, -, hsx⟩ := id cx
  have hkn : 0 ≤ (rmX9_face).cells ∧ 0 ≤ (rmX9_face).slots := ⟨Nat.zero_le _, Nat.zero_le _⟩
  refine lv_aload_n hx hb dX9_face_0 rfl (lv_at hl 0 rfl) ?_
  refine lv_iload_n hx hb dX9_face_1 rfl (lv_at hl 1 rfl) ?_
  obtain ⟨M1, r2, y3, h⟩ := x_cl h
  refine r_callVi (As := [.int c1]) (rest := []) cx w hkn hl.1 (k_X9_isAnt hG hL0 hK0 y3) (cwV 1 hts gX9_face_X9_isAnt rfl rfl rfl (by decide +kernel) ⟨Nat.le_of_ble_eq_true rfl, Nat.le_of_ble_eq_true rfl⟩) hL0 hK0 (by decide) rfl rfl rfl (Nat.le_of_ble_eq_true rfl) dX9_face_2 (fun H locs w => ?_)
  refine lv_if_eq (tgt := 17) hx hb dX9_face_5 (by decide) (fun k4 => ?_) (fun k4 => ?_)
  · have h := x_t h k4
    exact b_X9_face_17 cx hkn hL0 hK0 M1 H locs ls h w (lv_sub hl [] rfl)
  · have h := x_f h k4
    refine lv_iload_n hx hb dX9_face_8 rfl (lv_at hl 2 rfl) ?_
    refine lv_if_lt (tgt := 17) hx hb dX9_face_9 (by decide) (fun k5 => ?_) (fun k5 => ?_)
    · have h := x_t h k5
      exact b_X9_face_17 cx hkn hL0 hK0 M1 H locs ls h w (lv_sub hl [] rfl)
    · have h := x_f h k5
      refine lv_iload_n hx hb dX9_face_12 rfl (lv_at hl 2 rfl) ?_
      refine lv_iconst (v := (4 : Int32)) hx hb dX9_face_13 (by decide) ?_
      refine lv_icmp_lt (tgt := 27) hx hb dX9_face_14 (by decide) (fun k6 => ?_) (fun k6 => ?_)
      · have h := x_t h k6
        refine lv_aload_n hx hb dX9_face_27 rfl (lv_at hl 0 rfl) ?_
        obtain ⟨q7, eq7, h⟩ := x_rf h
        obtain ⟨hLq7, hKq7⟩ := wt_q hG hL0 hK0 eq7
        have hKq7 : gK G q7 = 7 := hKq7
        refine r_getR (k := 2) cx w hL0 hK0 (by decide) rfl wi_X9_face_X9 (by decide) rfl eq7 (List.mem_of_getElem? (i := 3) rfl) dX9_face_28 ?_
        obtain ⟨q8, eq8, h⟩ := x_rf h
        obtain ⟨hLq8, hKq8⟩ := wt_q hG hLq7 hKq7 eq8
        have hKq8 : gK G q8 = 14 := hKq8
        refine r_getR (k := 3) cx w hLq7 hKq7 (by decide) rfl wi_X9_face_X8 (by decide) rfl eq8 (List.mem_of_getElem? (i := 4) rfl) dX9_face_31 ?_
        refine lv_iload_n hx hb dX9_face_34 rfl (lv_at hl 1 rfl) ?_
        obtain ⟨z9, h⟩ := x_ix h
        obtain ⟨q10, eq10, h⟩ := x_rf h
        obtain ⟨hLq10, hKq10⟩ := wt_q hG hLq8 hKq8 eq10
        have hKq10 : gK G q10 = 0 := hKq10
        refine r_aald cx w hLq8 hKq8 z9 eq10 dX9_face_35 ?_
        refine r_getI (k := 3) (v := .int (mI M1 q10 3)) cx w hLq10 hKq10 (by decide) rfl wi_X9_face_X0 (by decide) rfl (List.mem_of_getElem? (i := 5) rfl) dX9_face_36 ?_
        obtain ⟨x11, ex11, h⟩ := x_bd h
        refine r_topI ex11 ?_
        refine lv_istore_n (lv' := [(3, .int x11), (0, .ref a0), (1, .int c1), (2, .int c2)]) hx hb dX9_face_39 rfl hl (by decide) rfl (fun ls hl => ?_)
        refine lv_aload_n hx hb dX9_face_40 rfl (lv_at hl 1 rfl) ?_
        obtain ⟨q12, eq12, h⟩ := x_rf h
        obtain ⟨hLq12, hKq12⟩ := wt_q hG hL0 hK0 eq12
        have hKq12 : gK G q12 = 7 := hKq12
        refine r_getR (k := 2) cx w hL0 hK0 (by decide) rfl wi_X9_face_X9 (by decide) rfl eq12 (List.mem_of_getElem? (i := 3) rfl) dX9_face_41 ?_
        obtain ⟨q13, eq13, h⟩ := x_rf h
        obtain ⟨hLq13, hKq13⟩ := wt_q hG hLq12 hKq12 eq13
        have hKq13 : gK G q13 = 14 := hKq13
        refine r_getR (k := 3) cx w hLq12 hKq12 (by decide) rfl wi_X9_face_X8 (by decide) rfl eq13 (List.mem_of_getElem? (i := 4) rfl) dX9_face_44 ?_
        refine lv_iload_n hx hb dX9_face_47 rfl (lv_at hl 2 rfl) ?_
        obtain ⟨z14, h⟩ := x_ix h
        obtain ⟨q15, eq15, h⟩ := x_rf h
        obtain ⟨hLq15, hKq15⟩ := wt_q hG hLq13 hKq13 eq15
        have hKq15 : gK G q15 = 0 := hKq15
        refine r_aald cx w hLq13 hKq13 z14 eq15 dX9_face_48 ?_
        refine lv_iload_n hx hb dX9_face_49 rfl (lv_at hl 3 rfl) ?_
        obtain ⟨M16, r17, y18, h⟩ := x_cl h
        refine r_callVv (As := [.int c2]) (rest := []) cx w hkn hl.1 (k_X0_turnTo hG hLq15 hKq15 y18) (cwV 1 hts gX9_face_X0_turnTo rfl rfl rfl (by decide +kernel) ⟨Nat.le_of_ble_eq_true rfl, Nat.le_of_ble_eq_true rfl⟩) hLq15 hKq15 (by decide) rfl rfl rfl (Nat.le_of_ble_eq_true rfl) dX9_face_50 (fun H locs w => ?_)
        refine lv_iload_n hx hb dX9_face_53 rfl (lv_at hl 0 rfl) ?_
        exact r_iret cx w h dX9_face_54
      · have h := x_f h k6
        exact b_X9_face_17 cx hkn hL0 hK0 M1 H locs ls h w (lv_sub hl [] rfl)
-- X9_halt
theorem wi_X9_halt_X0 : ∀ w ∈ wsX00, w ∈ wsX9_halt := by decide +kernel
theorem wi_X9_halt_X8 : ∀ w ∈ wsX80, w ∈ wsX9_halt := by decide +kernel
theorem wi_X9_halt_X9 : ∀ w ∈ wsX90, w ∈ wsX9_halt := by decide +kernel
abbrev rmX9_halt : Room := { frames := 1, cells := 0, slots := 0, locals := 21 }
def m_X9_halt_47 (G : gS) (a0 : Nat) (c1 : Int32)  (M : mS) (s0 : Nat) (s1 : Int32) : Option (mS × Int32) := o_ck (s1 = 0 ∨ s1 = 1) (o_wI M s0 4 s1 (fun M2 => o_rf (gP G a0 2) (fun q3 => o_rf (gP G q3 3) (fun q4 => o_ix c1 (gN G q4) (o_rf (gP G q4 (Int32.toNatClampNeg c1)) (fun q6 => o_ck ((mI M2 q6 4) = 0 ∨ (mI M2 q6 4) = 1) (some (M2, (mI M2 q6 4)))))))))
def m_X9_halt (G : gS) (M : mS) (a0 : Nat) (c1 : Int32) : Option (mS × Int32) := o_cl (m_X9_isAnt G M a0 c1) (fun M1 r2 => (if r2 = 0 then none else o_rf (gP G a0 2) (fun q5 => o_rf (gP G q5 3) (fun q6 => o_ix c1 (gN G q6) (o_rf (gP G q6 (Int32.toNatClampNeg c1)) (fun q8 => o_rf (gP G a0 2) (fun q9 => o_rf (gP G q9 3) (fun q10 => o_ix c1 (gN G q10) (o_rf (gP G q10 (Int32.toNatClampNeg c1)) (fun q12 => (if (mI M1 q12 4) = 0 then m_X9_halt_47 G a0 c1 M1 q8 ((1 : Int32)) else m_X9_halt_47 G a0 c1 M1 q8 ((0 : Int32)))))))))))))
set_option maxHeartbeats 4000000 in
set_option maxRecDepth 100000 in
theorem b_X9_halt_47 {p : Program} {e : Env} {s : State} {m : MethodId} {args : Array Value} {below : List Frame} {meth : Method} {c : Code} {A : Nat → Prop} {l : Launch} {D : va_G} {cy : cyS} {G : gS} (cx : cX p s m args meth c cX9_halt RX9 2 (some .boolean) wsX9_halt D cy G A) {k0 n0 : Nat} (hkn : k0 ≤ (rmX9_halt).cells ∧ n0 ≤ (rmX9_halt).slots) {M' : mS} {r : Int32} {a0 : Nat} {c1 : Int32} (hL0 : a0 ∈ gL G) (hK0 : gK G a0 = 8)  : ∀ (M : mS) (s0 : Nat) (s1 : Int32) (H : Heap) (locs : List Loc) (ls : Array Slot), s0 ∈ gL G → gK G s0 = 0 → m_X9_halt_47 G a0 c1 M s0 s1 = some (M', r) → wd D cy G M A s.heap H locs → lv_has ls 2 [(0, .ref a0), (1, .int c1)] → W p l e rmX9_halt s m args below meth c H locs k0 n0 (MQ below (va_Qi (fun (r' : Int32) (_ : Unit) => r' = r) (fun _ t => wOut D cy G M' t) A) args s k0 n0 A) (F0 m 47 ls [.int s1, .ref s0]) := by
  obtain ⟨hx, hb, hml, hown, hts, hr, hlocks, hK, hA, hG, hsx⟩ := id cx
  intro M s0 s1 H locs ls sL0 sK0 h w hl
  unfold m_X9_halt_47 at h
  obtain ⟨z1, h⟩ := x_ck h
  obtain ⟨M2, eM2, h⟩ := x_wI h
  refine r_putI (k := 4) (ty := .boolean) cx w tyX0 tyX0_ok nmX0 sL0 sK0 (by decide) rfl wi_X9_halt_X0 (by decide) rfl rfl (z_nar z1) (z_fit z1) st_0_4 (ln_0 _ _ (by decide)) (List.mem_of_getElem? (i := 5) rfl) dX9_halt_47 eM2 (fun H locs w => ?_)
  refine lv_aload_n hx hb dX9_halt_50 rfl (lv_at hl 0 rfl) ?_
  obtain ⟨q3, eq3, h⟩ := x_rf h
  obtain ⟨hLq3, hKq3⟩ := wt_q hG hL0 hK0 eq3
  have hKq3 : gK G q3 = 7 := hKq3
  refine r_getR (k := 2) cx w hL0 hK0 (by decide) rfl wi_X9_halt_X9 (by decide) rfl eq3 (List.mem_of_getElem? (i := 3) rfl) dX9_halt_51 ?_
  obtain ⟨q4, eq4, h⟩ := x_rf h
  obtain ⟨hLq4, hKq4⟩ := wt_q hG hLq3 hKq3 eq4
  have hKq4 : gK G q4 = 14 := hKq4
  refine r_getR (k := 3) cx w hLq3 hKq3 (by decide) rfl wi_X9_halt_X8 (by decide) rfl eq4 (List.mem_of_getElem? (i := 4) rfl) dX9_halt_54 ?_
  refine lv_iload_n hx hb dX9_halt_57 rfl (lv_at hl 1 rfl) ?_
  obtain ⟨z5, h⟩ := x_ix h
  obtain ⟨q6, eq6, h⟩ := x_rf h
  obtain ⟨hLq6, hKq6⟩ := wt_q hG hLq4 hKq4 eq6
  have hKq6 : gK G q6 = 0 := hKq6
  refine r_aald cx w hLq4 hKq4 z5 eq6 dX9_halt_58 ?_
  refine r_getI (k := 4) (v := .int (mI M2 q6 4)) cx w hLq6 hKq6 (by decide) rfl wi_X9_halt_X0 (by decide) rfl (List.mem_of_getElem? (i := 5) rfl) dX9_halt_59 ?_
  obtain ⟨z7, h⟩ := x_ck h
  exact r_zret cx w z7 h dX9_halt_62
set_option maxHeartbeats 4000000 in
set_option maxRecDepth 100000 in
theorem k_X9_halt {l : Launch} {D : va_G} {cy : cyS} {G : gS} {M M' : mS} {r : Int32} {a0 : Nat} {c1 : Int32} (hG : wt G) (hL0 : a0 ∈ gL G) (hK0 : gK G a0 = 8) (h : m_X9_halt G M a0 c1 = some (M', r)) : ctI l yX9_halt wsX9_halt rmX9_halt D cy G M [.ref a0, .int c1] M' r := by
  unfold m_X9_halt at h
  refine ctI_of (cc := cX9_halt) (nL := 2) (ret := (some .boolean)) (lv := [(0, .ref a0), (1, .int c1)]) hG (by decide) rfl ⟨rfl, rfl⟩ (Nat.le_of_ble_eq_true rfl) rfl ?_
  intro p e s m args below meth c A ls cx w hl
  obtain ⟨hx, hb, hml, hown, hts, hr, hlocks, hK, hA, -, hsx⟩ := id cx
  have hkn : 0 ≤ (rmX9_halt).cells ∧ 0 ≤ (rmX9_halt).slots := ⟨Nat.zero_le _, Nat.zero_le _⟩
  refine lv_aload_n hx hb dX9_halt_0 rfl (lv_at hl 0 rfl) ?_
  refine lv_iload_n hx hb dX9_halt_1 rfl (lv_at hl 1 rfl) ?_
  obtain ⟨M1, r2, y3, h⟩ := x_cl h
  refine r_callVi (As := [.int c1]) (rest := []) cx w hkn hl.1 (k_X9_isAnt hG hL0 hK0 y3) (cwV 1 hts gX9_halt_X9_isAnt rfl rfl rfl (by decide +kernel) ⟨Nat.le_of_ble_eq_true rfl, Nat.le_of_ble_eq_true rfl⟩) hL0 hK0 (by decide) rfl rfl rfl (Nat.le_of_ble_eq_true rfl) dX9_halt_2 (fun H locs w => ?_)
  refine lv_if_ne (tgt := 18) hx hb dX9_halt_5 (by decide) (fun k4 => ?_) (fun k4 => ?_)
  · have h := x_f h k4
    refine lv_aload_n hx hb dX9_halt_18 rfl (lv_at hl 0 rfl) ?_
    obtain ⟨q5, eq5, h⟩ := x_rf h
    obtain ⟨hLq5, hKq5⟩ := wt_q hG hL0 hK0 eq5
    have hKq5 : gK G q5 = 7 := hKq5
    refine r_getR (k := 2) cx w hL0 hK0 (by decide) rfl wi_X9_halt_X9 (by decide) rfl eq5 (List.mem_of_getElem? (i := 3) rfl) dX9_halt_19 ?_
    obtain ⟨q6, eq6, h⟩ := x_rf h
    obtain ⟨hLq6, hKq6⟩ := wt_q hG hLq5 hKq5 eq6
    have hKq6 : gK G q6 = 14 := hKq6
    refine r_getR (k := 3) cx w hLq5 hKq5 (by decide) rfl wi_X9_halt_X8 (by decide) rfl eq6 (List.mem_of_getElem? (i := 4) rfl) dX9_halt_22 ?_
    refine lv_iload_n hx hb dX9_halt_25 rfl (lv_at hl 1 rfl) ?_
    obtain ⟨z7, h⟩ := x_ix h
    obtain ⟨q8, eq8, h⟩ := x_rf h
    obtain ⟨hLq8, hKq8⟩ := wt_q hG hLq6 hKq6 eq8
    have hKq8 : gK G q8 = 0 := hKq8
    refine r_aald cx w hLq6 hKq6 z7 eq8 dX9_halt_26 ?_
    refine lv_aload_n hx hb dX9_halt_27 rfl (lv_at hl 0 rfl) ?_
    obtain ⟨q9, eq9, h⟩ := x_rf h
    obtain ⟨hLq9, hKq9⟩ := wt_q hG hL0 hK0 eq9
    have hKq9 : gK G q9 = 7 := hKq9
    refine r_getR (k := 2) cx w hL0 hK0 (by decide) rfl wi_X9_halt_X9 (by decide) rfl eq9 (List.mem_of_getElem? (i := 3) rfl) dX9_halt_28 ?_
    obtain ⟨q10, eq10, h⟩ := x_rf h
    obtain ⟨hLq10, hKq10⟩ := wt_q hG hLq9 hKq9 eq10
    have hKq10 : gK G q10 = 14 := hKq10
    refine r_getR (k := 3) cx w hLq9 hKq9 (by decide) rfl wi_X9_halt_X8 (by decide) rfl eq10 (List.mem_of_getElem? (i := 4) rfl) dX9_halt_31 ?_
    refine lv_iload_n hx hb dX9_halt_34 rfl (lv_at hl 1 rfl) ?_
    obtain ⟨z11, h⟩ := x_ix h
    obtain ⟨q12, eq12, h⟩ := x_rf h
    obtain ⟨hLq12, hKq12⟩ := wt_q hG hLq10 hKq10 eq12
    have hKq12 : gK G q12 = 0 := hKq12
    refine r_aald cx w hLq10 hKq10 z11 eq12 dX9_halt_35 ?_
    refine r_getI (k := 4) (v := .int (mI M1 q12 4)) cx w hLq12 hKq12 (by decide) rfl wi_X9_halt_X0 (by decide) rfl (List.mem_of_getElem? (i := 5) rfl) dX9_halt_36 ?_
    refine lv_if_ne (tgt := 46) hx hb dX9_halt_39 (by decide) (fun k13 => ?_) (fun k13 => ?_)
    · have h := x_f h k13
      refine lv_iconst (v := (0 : Int32)) hx hb dX9_halt_46 (by decide) ?_
      exact b_X9_halt_47 cx hkn hL0 hK0 M1 q8 ((0 : Int32)) H locs ls hLq8 hKq8 h w (lv_sub hl [0, 1] rfl)
    · have h := x_t h k13
      refine lv_iconst (v := (1 : Int32)) hx hb dX9_halt_42 (by decide) ?_
      refine lv_goto (tgt := 47) hx hb dX9_halt_43 (by decide) ?_
      exact b_X9_halt_47 cx hkn hL0 hK0 M1 q8 ((1 : Int32)) H locs ls hLq8 hKq8 h w (lv_sub hl [0, 1] rfl)
  · have h := x_t h k4
    have h : none = some _ := h
    cases h
-- X9_place
theorem wi_X9_place_X8 : ∀ w ∈ wsX80, w ∈ wsX9_place := by decide +kernel
theorem wi_X9_place_X9 : ∀ w ∈ wsX90, w ∈ wsX9_place := by decide +kernel
abbrev rmX9_place : Room := { frames := 2, cells := 0, slots := 0, locals := 42 }
def m_X9_place_16 (G : gS) (a0 : Nat) (c1 : Int32) (c2 : Int32) (c3 : Int32)  (M : mS)  : Option (mS × Int32) := none
def m_X9_place (G : gS) (M : mS) (a0 : Nat) (c1 : Int32) (c2 : Int32) (c3 : Int32) : Option (mS × Int32) := o_cl (m_X9_isAnt G M a0 c1) (fun M1 r2 => (if r2 = 0 then m_X9_place_16 G a0 c1 c2 c3 M1 else o_cl (m_X9_isStone G M1 c2 c3) (fun M5 r6 => (if r6 = 0 then m_X9_place_16 G a0 c1 c2 c3 M5 else o_rf (gP G a0 2) (fun q9 => o_rf (gP G q9 3) (fun q10 => o_ix c1 (gN G q10) (o_rf (gP G q10 (Int32.toNatClampNeg c1)) (fun q12 => o_cl (m_X0_stoneUnder G M5 q12) (fun M13 r14 => o_rf (gP G a0 2) (fun q16 => o_rf (gP G q16 3) (fun q17 => o_ix c1 (gN G q17) (o_rf (gP G q17 (Int32.toNatClampNeg c1)) (fun q19 => o_cl (m_X0_moveTo G M13 q19 c2 c3) (fun M20 r21 => some (M20, r14)))))))))))))))
set_option maxHeartbeats 4000000 in
set_option maxRecDepth 100000 in
theorem b_X9_place_16 {p : Program} {e : Env} {s : State} {m : MethodId} {args : Array Value} {below : List Frame} {meth : Method} {c : Code} {A : Nat → Prop} {l : Launch} {D : va_G} {cy : cyS} {G : gS} (cx : cX p s m args meth c cX9_place RX9 5 (some .int) wsX9_place D cy G A) {k0 n0 : Nat} (hkn : k0 ≤ (rmX9_place).cells ∧ n0 ≤ (rmX9_place).slots) {M' : mS} {r : Int32} {a0 : Nat} {c1 : Int32} {c2 : Int32} {c3 : Int32} (hL0 : a0 ∈ gL G) (hK0 : gK G a0 = 8)  : ∀ (M : mS) (H : Heap) (locs : List Loc) (ls : Array Slot), m_X9_place_16 G a0 c1 c2 c3 M = some (M', r) → wd D cy G M A s.heap H locs → lv_has ls 5 [] → W p l e rmX9_place s m args below meth c H locs k0 n0 (MQ below (va_Qi (fun (r' : Int32) (_ : Unit) => r' = r) (fun _ t => wOut D cy G M' t) A) args s k0 n0 A) (F0 m 16 ls []) := by
  obtain ⟨hx, hb, hml, hown, hts, hr, hlocks, hK, hA, hG, hsx⟩ := id cx
  intro M H locs ls h w hl
  unfold m_X9_place_16 at h
  have h : none = some _ := h
  cases h
set_option maxHeartbeats 4000000 in
set_option maxRecDepth 100000 in
theorem k_X9_place {l : Launch} {D : va_G} {cy : cyS} {G : gS} {M M' : mS} {r : Int32} {a0 : Nat} {c1 : Int32} {c2 : Int32} {c3 : Int32} (hG : wt G) (hL0 : a0 ∈ gL G) (hK0 : gK G a0 = 8) (h : m_X9_place G M a0 c1 c2 c3 = some (M', r)) : ctI l yX9_place wsX9_place rmX9_place D cy G M [.ref a0, .int c1, .int c2, .int c3] M' r := by
  unfold m_X9_place at h
  refine ctI_of (cc := cX9_place) (nL := 5) (ret := (some .int)) (lv := [(0, .ref a0), (1, .int c1), (2, .int c2), (3, .int c3)]) hG (by decide) rfl ⟨rfl, rfl⟩ (Nat.le_of_ble_eq_true rfl) rfl ?_
  intro p e s m args below meth c A ls cx w hl
  obtain ⟨hx, hb, hml, hown, hts, hr, hlocks, hK, hA, -, hsx⟩ := id cx
  have hkn : 0 ≤ (rmX9_place).cells ∧ 0 ≤ (rmX9_place).slots := ⟨Nat.zero_le _, Nat.zero_le _⟩
  refine lv_aload_n hx hb dX9_place_0 rfl (lv_at hl 0 rfl) ?_
  refine lv_iload_n hx hb dX9_place_1 rfl (lv_at hl 1 rfl) ?_
  obtain ⟨M1, r2, y3, h⟩ := x_cl h
  refine r_callVi (As := [.int c1]) (rest := []) cx w hkn hl.1 (k_X9_isAnt hG hL0 hK0 y3) (cwV 1 hts gX9_place_X9_isAnt rfl rfl rfl (by decide +kernel) ⟨Nat.le_of_ble_eq_true rfl, Nat.le_of_ble_eq_true rfl⟩) hL0 hK0 (by decide) rfl rfl rfl (Nat.le_of_ble_eq_true rfl) dX9_place_2 (fun H locs w => ?_)
  refine lv_if_eq (tgt := 16) hx hb dX9_place_5 (by decide) (fun k4 => ?_) (fun k4 => ?_)
  · have h := x_t h k4
    exact b_X9_place_16 cx hkn hL0 hK0 M1 H locs ls h w (lv_sub hl [] rfl)
  · have h := x_f h k4
    refine lv_iload_n hx hb dX9_place_8 rfl (lv_at hl 2 rfl) ?_
    refine lv_iload_n hx hb dX9_place_9 rfl (lv_at hl 3 rfl) ?_
    obtain ⟨M5, r6, y7, h⟩ := x_cl h
    refine r_callSi (As := [.int c2, .int c3]) (rest := []) cx w hkn hl.1 (k_X9_isStone hG y7) (va_cwS 2 hts gX9_place_X9_isStone rfl rfl rfl (by decide +kernel) ⟨Nat.le_of_ble_eq_true rfl, Nat.le_of_ble_eq_true rfl⟩) rfl rfl (Nat.le_of_ble_eq_true rfl) dX9_place_10 (fun H locs w => ?_)
    refine lv_if_ne (tgt := 26) hx hb dX9_place_13 (by decide) (fun k8 => ?_) (fun k8 => ?_)
    · have h := x_f h k8
      refine lv_aload_n hx hb dX9_place_26 rfl (lv_at hl 0 rfl) ?_
      obtain ⟨q9, eq9, h⟩ := x_rf h
      obtain ⟨hLq9, hKq9⟩ := wt_q hG hL0 hK0 eq9
      have hKq9 : gK G q9 = 7 := hKq9
      refine r_getR (k := 2) cx w hL0 hK0 (by decide) rfl wi_X9_place_X9 (by decide) rfl eq9 (List.mem_of_getElem? (i := 3) rfl) dX9_place_27 ?_
      obtain ⟨q10, eq10, h⟩ := x_rf h
      obtain ⟨hLq10, hKq10⟩ := wt_q hG hLq9 hKq9 eq10
      have hKq10 : gK G q10 = 14 := hKq10
      refine r_getR (k := 3) cx w hLq9 hKq9 (by decide) rfl wi_X9_place_X8 (by decide) rfl eq10 (List.mem_of_getElem? (i := 4) rfl) dX9_place_30 ?_
      refine lv_iload_n hx hb dX9_place_33 rfl (lv_at hl 1 rfl) ?_
      obtain ⟨z11, h⟩ := x_ix h
      obtain ⟨q12, eq12, h⟩ := x_rf h
      obtain ⟨hLq12, hKq12⟩ := wt_q hG hLq10 hKq10 eq12
      have hKq12 : gK G q12 = 0 := hKq12
      refine r_aald cx w hLq10 hKq10 z11 eq12 dX9_place_34 ?_
      obtain ⟨M13, r14, y15, h⟩ := x_cl h
      refine r_callVi (As := []) (rest := []) cx w hkn hl.1 (k_X0_stoneUnder hG hLq12 hKq12 y15) (cwV 0 hts gX9_place_X0_stoneUnder rfl rfl rfl (by decide +kernel) ⟨Nat.le_of_ble_eq_true rfl, Nat.le_of_ble_eq_true rfl⟩) hLq12 hKq12 (by decide) rfl rfl rfl (Nat.le_of_ble_eq_true rfl) dX9_place_35 (fun H locs w => ?_)
      refine lv_istore (lv' := [(4, .int r14), (0, .ref a0), (1, .int c1), (2, .int c2), (3, .int c3)]) hx hb dX9_place_38 hl (by decide) rfl (fun ls hl => ?_)
      refine lv_aload_n hx hb dX9_place_40 rfl (lv_at hl 1 rfl) ?_
      obtain ⟨q16, eq16, h⟩ := x_rf h
      obtain ⟨hLq16, hKq16⟩ := wt_q hG hL0 hK0 eq16
      have hKq16 : gK G q16 = 7 := hKq16
      refine r_getR (k := 2) cx w hL0 hK0 (by decide) rfl wi_X9_place_X9 (by decide) rfl eq16 (List.mem_of_getElem? (i := 3) rfl) dX9_place_41 ?_
      obtain ⟨q17, eq17, h⟩ := x_rf h
      obtain ⟨hLq17, hKq17⟩ := wt_q hG hLq16 hKq16 eq17
      have hKq17 : gK G q17 = 14 := hKq17
      refine r_getR (k := 3) cx w hLq16 hKq16 (by decide) rfl wi_X9_place_X8 (by decide) rfl eq17 (List.mem_of_getElem? (i := 4) rfl) dX9_place_44 ?_
      refine lv_iload_n hx hb dX9_place_47 rfl (lv_at hl 2 rfl) ?_
      obtain ⟨z18, h⟩ := x_ix h
      obtain ⟨q19, eq19, h⟩ := x_rf h
      obtain ⟨hLq19, hKq19⟩ := wt_q hG hLq17 hKq17 eq19
      have hKq19 : gK G q19 = 0 := hKq19
      refine r_aald cx w hLq17 hKq17 z18 eq19 dX9_place_48 ?_
      refine lv_iload_n hx hb dX9_place_49 rfl (lv_at hl 3 rfl) ?_
      refine lv_iload_n hx hb dX9_place_50 rfl (lv_at hl 4 rfl) ?_
      obtain ⟨M20, r21, y22, h⟩ := x_cl h
      refine r_callVv (As := [.int c2, .int c3]) (rest := []) cx w hkn hl.1 (k_X0_moveTo hG hLq19 hKq19 y22) (cwV 2 hts gX9_place_X0_moveTo rfl rfl rfl (by decide +kernel) ⟨Nat.le_of_ble_eq_true rfl, Nat.le_of_ble_eq_true rfl⟩) hLq19 hKq19 (by decide) rfl rfl rfl (Nat.le_of_ble_eq_true rfl) dX9_place_51 (fun H locs w => ?_)
      refine lv_iload hx hb dX9_place_54 (lv_at hl 0 rfl) ?_
      exact r_iret cx w h dX9_place_56
    · have h := x_t h k8
      exact b_X9_place_16 cx hkn hL0 hK0 M5 H locs ls h w (lv_sub hl [] rfl)
-- X9_pass
theorem wi_X9_pass_X9 : ∀ w ∈ wsX90, w ∈ wsX9_pass := by decide +kernel
abbrev rmX9_pass : Room := { frames := 7, cells := 0, slots := 0, locals := 178 }
def m_X9_pass_12 (G : gS) (a0 : Nat) (c1 : Int32)  (M : mS)  : Option (mS × Int32) := none
def m_X9_pass (G : gS) (M : mS) (a0 : Nat) (c1 : Int32) : Option (mS × Int32) := (if c1 < (1 : Int32) then m_X9_pass_12 G a0 c1 M else (if c1 ≤ (1000 : Int32) then o_rf (gP G a0 2) (fun q3 => o_cl (m_X8_darkStones G M q3) (fun M4 r5 => o_rf (gP G a0 5) (fun q7 => o_rf (gP G a0 2) (fun q8 => o_cl (m_X5_makeSteps G M4 q7 q8 c1) (fun M9 r10 => o_rf (gP G a0 2) (fun q12 => o_cl (m_X8_darkStones G M9 q12) (fun M13 r14 => some (M13, (r14 - r5))))))))) else m_X9_pass_12 G a0 c1 M))
set_option maxHeartbeats 4000000 in
set_option maxRecDepth 100000 in
theorem b_X9_pass_12 {p : Program} {e : Env} {s : State} {m : MethodId} {args : Array Value} {below : List Frame} {meth : Method} {c : Code} {A : Nat → Prop} {l : Launch} {D : va_G} {cy : cyS} {G : gS} (cx : cX p s m args meth c cX9_pass RX9 3 (some .int) wsX9_pass D cy G A) {k0 n0 : Nat} (hkn : k0 ≤ (rmX9_pass).cells ∧ n0 ≤ (rmX9_pass).slots) {M' : mS} {r : Int32} {a0 : Nat} {c1 : Int32} (hL0 : a0 ∈ gL G) (hK0 : gK G a0 = 8)  : ∀ (M : mS) (H : Heap) (locs : List Loc) (ls : Array Slot), m_X9_pass_12 G a0 c1 M = some (M', r) → wd D cy G M A s.heap H locs → lv_has ls 3 [] → W p l e rmX9_pass s m args below meth c H locs k0 n0 (MQ below (va_Qi (fun (r' : Int32) (_ : Unit) => r' = r) (fun _ t => wOut D cy G M' t) A) args s k0 n0 A) (F0 m 12 ls []) := by
  obtain ⟨hx, hb, hml, hown, hts, hr, hlocks, hK, hA, hG, hsx⟩ := id cx
  intro M H locs ls h w hl
  unfold m_X9_pass_12 at h
  have h : none = some _ := h
  cases h
set_option maxHeartbeats 4000000 in
set_option maxRecDepth 100000 in
theorem k_X9_pass {l : Launch} {D : va_G} {cy : cyS} {G : gS} {M M' : mS} {r : Int32} {a0 : Nat} {c1 : Int32} (hG : wt G) (hL0 : a0 ∈ gL G) (hK0 : gK G a0 = 8) (h : m_X9_pass G M a0 c1 = some (M', r)) : ctI l yX9_pass wsX9_pass rmX9_pass D cy G M [.ref a0, .int c1] M' r := by
  unfold m_X9_pass at h
  refine ctI_of (cc := cX9_pass) (nL := 3) (ret := (some .int)) (lv := [(0, .ref a0), (1, .int c1)]) hG (by decide) rfl ⟨rfl, rfl⟩ (Nat.le_of_ble_eq_true rfl) rfl ?_
  intro p e s m args below meth c A ls cx w hl
  obtain ⟨hx, hb, hml, hown, hts, hr, hlocks, hK, hA, -, hsx⟩ := id cx
  have hkn : 0 ≤ (rmX9_pass).cells ∧ 0 ≤ (rmX9_pass).slots := ⟨Nat.zero_le _, Nat.zero_le _⟩
  refine lv_iload_n hx hb dX9_pass_0 rfl (lv_at hl 1 rfl) ?_
  refine lv_iconst (v := (1 : Int32)) hx hb dX9_pass_1 (by decide) ?_
  refine lv_icmp_lt (tgt := 12) hx hb dX9_pass_2 (by decide) (fun k1 => ?_) (fun k1 => ?_)
  · have h := x_t h k1
    exact b_X9_pass_12 cx hkn hL0 hK0 M s.heap [] ls h w (lv_sub hl [] rfl)
  · have h := x_f h k1
    refine lv_iload_n hx hb dX9_pass_5 rfl (lv_at hl 1 rfl) ?_
    refine lv_sipush (v := (1000 : Int32)) hx hb dX9_pass_6 (by decide) ?_
    refine lv_icmp_le (tgt := 22) hx hb dX9_pass_9 (by decide) (fun k2 => ?_) (fun k2 => ?_)
    · have h := x_t h k2
      refine lv_aload_n hx hb dX9_pass_22 rfl (lv_at hl 0 rfl) ?_
      obtain ⟨q3, eq3, h⟩ := x_rf h
      obtain ⟨hLq3, hKq3⟩ := wt_q hG hL0 hK0 eq3
      have hKq3 : gK G q3 = 7 := hKq3
      refine r_getR (k := 2) cx w hL0 hK0 (by decide) rfl wi_X9_pass_X9 (by decide) rfl eq3 (List.mem_of_getElem? (i := 3) rfl) dX9_pass_23 ?_
      obtain ⟨M4, r5, y6, h⟩ := x_cl h
      refine r_callVi (As := []) (rest := []) cx w hkn hl.1 (k_X8_darkStones hG hLq3 hKq3 y6) (cwV 0 hts gX9_pass_X8_darkStones rfl rfl rfl (by decide +kernel) ⟨Nat.le_of_ble_eq_true rfl, Nat.le_of_ble_eq_true rfl⟩) hLq3 hKq3 (by decide) rfl rfl rfl (Nat.le_of_ble_eq_true rfl) dX9_pass_26 (fun H locs w => ?_)
      refine lv_istore_n (lv' := [(2, .int r5), (0, .ref a0), (1, .int c1)]) hx hb dX9_pass_29 rfl hl (by decide) rfl (fun ls hl => ?_)
      refine lv_aload_n hx hb dX9_pass_30 rfl (lv_at hl 1 rfl) ?_
      obtain ⟨q7, eq7, h⟩ := x_rf h
      obtain ⟨hLq7, hKq7⟩ := wt_q hG hL0 hK0 eq7
      have hKq7 : gK G q7 = 4 := hKq7
      refine r_getR (k := 5) cx w hL0 hK0 (by decide) rfl wi_X9_pass_X9 (by decide) rfl eq7 (List.mem_of_getElem? (i := 4) rfl) dX9_pass_31 ?_
      refine lv_aload_n hx hb dX9_pass_34 rfl (lv_at hl 1 rfl) ?_
      obtain ⟨q8, eq8, h⟩ := x_rf h
      obtain ⟨hLq8, hKq8⟩ := wt_q hG hL0 hK0 eq8
      have hKq8 : gK G q8 = 7 := hKq8
      refine r_getR (k := 2) cx w hL0 hK0 (by decide) rfl wi_X9_pass_X9 (by decide) rfl eq8 (List.mem_of_getElem? (i := 3) rfl) dX9_pass_35 ?_
      refine lv_iload_n hx hb dX9_pass_38 rfl (lv_at hl 2 rfl) ?_
      obtain ⟨M9, r10, y11, h⟩ := x_cl h
      refine r_callVv (As := [.ref q8, .int c1]) (rest := []) cx w hkn hl.1 (k_X5_makeSteps hG hLq7 hKq7 hLq8 hKq8 y11) (cwV 2 hts gX9_pass_X5_makeSteps rfl rfl rfl (by decide +kernel) ⟨Nat.le_of_ble_eq_true rfl, Nat.le_of_ble_eq_true rfl⟩) hLq7 hKq7 (by decide) rfl rfl rfl (Nat.le_of_ble_eq_true rfl) dX9_pass_39 (fun H locs w => ?_)
      refine lv_aload_n hx hb dX9_pass_42 rfl (lv_at hl 1 rfl) ?_
      obtain ⟨q12, eq12, h⟩ := x_rf h
      obtain ⟨hLq12, hKq12⟩ := wt_q hG hL0 hK0 eq12
      have hKq12 : gK G q12 = 7 := hKq12
      refine r_getR (k := 2) cx w hL0 hK0 (by decide) rfl wi_X9_pass_X9 (by decide) rfl eq12 (List.mem_of_getElem? (i := 3) rfl) dX9_pass_43 ?_
      obtain ⟨M13, r14, y15, h⟩ := x_cl h
      refine r_callVi (As := []) (rest := []) cx w hkn hl.1 (k_X8_darkStones hG hLq12 hKq12 y15) (cwV 0 hts gX9_pass_X8_darkStones rfl rfl rfl (by decide +kernel) ⟨Nat.le_of_ble_eq_true rfl, Nat.le_of_ble_eq_true rfl⟩) hLq12 hKq12 (by decide) rfl rfl rfl (Nat.le_of_ble_eq_true rfl) dX9_pass_46 (fun H locs w => ?_)
      refine lv_iload_n hx hb dX9_pass_49 rfl (lv_at hl 0 rfl) ?_
      refine lv_isub hx hb dX9_pass_50 ?_
      exact r_iret cx w h dX9_pass_51
    · have h := x_f h k2
      exact b_X9_pass_12 cx hkn hL0 hK0 M s.heap [] ls h w (lv_sub hl [] rfl)
-- X9_trim
theorem wi_X9_trim_X6 : ∀ w ∈ wsX60, w ∈ wsX9_trim := by decide +kernel
theorem wi_X9_trim_X9 : ∀ w ∈ wsX90, w ∈ wsX9_trim := by decide +kernel
abbrev rmX9_trim : Room := { frames := 0, cells := 0, slots := 0, locals := 0 }
def m_X9_trim_15 (G : gS) (a0 : Nat) (c1 : Int32)  (M : mS)  : Option (mS × Int32) := none
def m_X9_trim (G : gS) (M : mS) (a0 : Nat) (c1 : Int32) : Option (mS × Int32) := (if c1 < 0 then m_X9_trim_15 G a0 c1 M else o_rf (gP G a0 0) (fun q2 => (if c1 ≤ (mI M q2 1) then o_rf (gP G a0 0) (fun q4 => o_wI M q4 1 c1 (fun M5 => some (M5, c1))) else m_X9_trim_15 G a0 c1 M)))
set_option maxHeartbeats 4000000 in
set_option maxRecDepth 100000 in
theorem b_X9_trim_15 {p : Program} {e : Env} {s : State} {m : MethodId} {args : Array Value} {below : List Frame} {meth : Method} {c : Code} {A : Nat → Prop} {l : Launch} {D : va_G} {cy : cyS} {G : gS} (cx : cX p s m args meth c cX9_trim RX9 2 (some .int) wsX9_trim D cy G A) {k0 n0 : Nat} (hkn : k0 ≤ (rmX9_trim).cells ∧ n0 ≤ (rmX9_trim).slots) {M' : mS} {r : Int32} {a0 : Nat} {c1 : Int32} (hL0 : a0 ∈ gL G) (hK0 : gK G a0 = 8)  : ∀ (M : mS) (H : Heap) (locs : List Loc) (ls : Array Slot), m_X9_trim_15 G a0 c1 M = some (M', r) → wd D cy G M A s.heap H locs → lv_has ls 2 [] → W p l e rmX9_trim s m args below meth c H locs k0 n0 (MQ below (va_Qi (fun (r' : Int32) (_ : Unit) => r' = r) (fun _ t => wOut D cy G M' t) A) args s k0 n0 A) (F0 m 15 ls []) := by
  obtain ⟨hx, hb, hml, hown, hts, hr, hlocks, hK, hA, hG, hsx⟩ := id cx
  intro M H locs ls h w hl
  unfold m_X9_trim_15 at h
  have h : none = some _ := h
  cases h
set_option maxHeartbeats 4000000 in
set_option maxRecDepth 100000 in
theorem k_X9_trim {l : Launch} {D : va_G} {cy : cyS} {G : gS} {M M' : mS} {r : Int32} {a0 : Nat} {c1 : Int32} (hG : wt G) (hL0 : a0 ∈ gL G) (hK0 : gK G a0 = 8) (h : m_X9_trim G M a0 c1 = some (M', r)) : ctI l yX9_trim wsX9_trim rmX9_trim D cy G M [.ref a0, .int c1] M' r := by
  unfold m_X9_trim at h
  refine ctI_of (cc := cX9_trim) (nL := 2) (ret := (some .int)) (lv := [(0, .ref a0), (1, .int c1)]) hG (by decide) rfl ⟨rfl, rfl⟩ (Nat.le_of_ble_eq_true rfl) rfl ?_
  intro p e s m args below meth c A ls cx w hl
  obtain ⟨hx, hb, hml, hown, hts, hr, hlocks, hK, hA, -, hsx⟩ := id cx
  have hkn : 0 ≤ (rmX9_trim).cells ∧ 0 ≤ (rmX9_trim).slots := ⟨Nat.zero_le _, Nat.zero_le _⟩
  refine lv_iload_n hx hb dX9_trim_0 rfl (lv_at hl 1 rfl) ?_
  refine lv_if_lt (tgt := 15) hx hb dX9_trim_1 (by decide) (fun k1 => ?_) (fun k1 => ?_)
  · have h := x_t h k1
    exact b_X9_trim_15 cx hkn hL0 hK0 M s.heap [] ls h w (lv_sub hl [] rfl)
  · have h := x_f h k1
    refine lv_iload_n hx hb dX9_trim_4 rfl (lv_at hl 1 rfl) ?_
    refine lv_aload_n hx hb dX9_trim_5 rfl (lv_at hl 0 rfl) ?_
    obtain ⟨q2, eq2, h⟩ := x_rf h
    obtain ⟨hLq2, hKq2⟩ := wt_q hG hL0 hK0 eq2
    have hKq2 : gK G q2 = 5 := hKq2
    refine r_getR (k := 0) cx w hL0 hK0 (by decide) rfl wi_X9_trim_X9 (by decide) rfl eq2 (List.mem_of_getElem? (i := 3) rfl) dX9_trim_6 ?_
    refine r_getI (k := 1) (v := .int (mI M q2 1)) cx w hLq2 hKq2 (by decide) rfl wi_X9_trim_X6 (by decide) rfl (List.mem_of_getElem? (i := 4) rfl) dX9_trim_9 ?_
    refine lv_icmp_le (tgt := 25) hx hb dX9_trim_12 (by decide) (fun k3 => ?_) (fun k3 => ?_)
    · have h := x_t h k3
      refine lv_aload_n hx hb dX9_trim_25 rfl (lv_at hl 0 rfl) ?_
      obtain ⟨q4, eq4, h⟩ := x_rf h
      obtain ⟨hLq4, hKq4⟩ := wt_q hG hL0 hK0 eq4
      have hKq4 : gK G q4 = 5 := hKq4
      refine r_getR (k := 0) cx w hL0 hK0 (by decide) rfl wi_X9_trim_X9 (by decide) rfl eq4 (List.mem_of_getElem? (i := 3) rfl) dX9_trim_26 ?_
      refine lv_iload_n hx hb dX9_trim_29 rfl (lv_at hl 1 rfl) ?_
      obtain ⟨M5, eM5, h⟩ := x_wI h
      refine r_putI (k := 1) (ty := .int) cx w tyX6 tyX6_ok nmX6 hLq4 hKq4 (by decide) rfl wi_X9_trim_X6 (by decide) rfl rfl rfl rfl st_5_1 (ln_5 _ _ (by decide)) (List.mem_of_getElem? (i := 4) rfl) dX9_trim_30 eM5 (fun H locs w => ?_)
      refine lv_iload_n hx hb dX9_trim_33 rfl (lv_at hl 1 rfl) ?_
      exact r_iret cx w h dX9_trim_34
    · have h := x_f h k3
      exact b_X9_trim_15 cx hkn hL0 hK0 M s.heap [] ls h w (lv_sub hl [] rfl)
-- X9_feed
theorem wi_X9_feed_X6 : ∀ w ∈ wsX60, w ∈ wsX9_feed := by decide +kernel
theorem wi_X9_feed_X9 : ∀ w ∈ wsX90, w ∈ wsX9_feed := by decide +kernel
abbrev rmX9_feed : Room := { frames := 2, cells := 0, slots := 0, locals := 43 }
def m_X9_feed (G : gS) (M : mS) (a0 : Nat) (c1 : Int32) (c2 : Int32) (c3 : Int32) (c4 : Int32) (c5 : Int32) : Option (mS × Int32) := o_rf (gP G a0 0) (fun q1 => o_cl (m_X6_hasRoom G M q1 (20 : Int32)) (fun M2 r3 => (if r3 = 0 then none else o_rf (gP G a0 0) (fun q6 => o_cl (m_X6_append G M2 q6 c1) (fun M7 r8 => o_rf (gP G a0 0) (fun q10 => o_cl (m_X6_append G M7 q10 c2) (fun M11 r12 => o_rf (gP G a0 0) (fun q14 => o_cl (m_X6_append G M11 q14 c3) (fun M15 r16 => o_rf (gP G a0 0) (fun q18 => o_cl (m_X6_append G M15 q18 c4) (fun M19 r20 => o_rf (gP G a0 0) (fun q22 => o_cl (m_X6_append G M19 q22 c5) (fun M23 r24 => o_rf (gP G a0 0) (fun q26 => some (M23, (mI M23 q26 1))))))))))))))))
set_option maxHeartbeats 4000000 in
set_option maxRecDepth 100000 in
theorem k_X9_feed {l : Launch} {D : va_G} {cy : cyS} {G : gS} {M M' : mS} {r : Int32} {a0 : Nat} {c1 : Int32} {c2 : Int32} {c3 : Int32} {c4 : Int32} {c5 : Int32} (hG : wt G) (hL0 : a0 ∈ gL G) (hK0 : gK G a0 = 8) (h : m_X9_feed G M a0 c1 c2 c3 c4 c5 = some (M', r)) : ctI l yX9_feed wsX9_feed rmX9_feed D cy G M [.ref a0, .int c1, .int c2, .int c3, .int c4, .int c5] M' r := by
  unfold m_X9_feed at h
  refine ctI_of (cc := cX9_feed) (nL := 6) (ret := (some .int)) (lv := [(0, .ref a0), (1, .int c1), (2, .int c2), (3, .int c3), (4, .int c4), (5, .int c5)]) hG (by decide) rfl ⟨rfl, rfl⟩ (Nat.le_of_ble_eq_true rfl) rfl ?_
  intro p e s m args below meth c A ls cx w hl
  obtain ⟨hx, hb, hml, hown, hts, hr, hlocks, hK, hA, -, hsx⟩ := id cx
  have hkn : 0 ≤ (rmX9_feed).cells ∧ 0 ≤ (rmX9_feed).slots := ⟨Nat.zero_le _, Nat.zero_le _⟩
  refine lv_aload_n hx hb dX9_feed_0 rfl (lv_at hl 0 rfl) ?_
  obtain ⟨q1, eq1, h⟩ := x_rf h
  obtain ⟨hLq1, hKq1⟩ := wt_q hG hL0 hK0 eq1
  have hKq1 : gK G q1 = 5 := hKq1
  refine r_getR (k := 0) cx w hL0 hK0 (by decide) rfl wi_X9_feed_X9 (by decide) rfl eq1 (List.mem_of_getElem? (i := 3) rfl) dX9_feed_1 ?_
  refine lv_bipush (v := (20 : Int32)) hx hb dX9_feed_4 (by decide) ?_
  obtain ⟨M2, r3, y4, h⟩ := x_cl h
  refine r_callVi (As := [.int ((20 : Int32))]) (rest := []) cx w hkn hl.1 (k_X6_hasRoom hG hLq1 hKq1 y4) (cwV 1 hts gX9_feed_X6_hasRoom rfl rfl rfl (by decide +kernel) ⟨Nat.le_of_ble_eq_true rfl, Nat.le_of_ble_eq_true rfl⟩) hLq1 hKq1 (by decide) rfl rfl rfl (Nat.le_of_ble_eq_true rfl) dX9_feed_6 (fun H locs w => ?_)
  refine lv_if_ne (tgt := 22) hx hb dX9_feed_9 (by decide) (fun k5 => ?_) (fun k5 => ?_)
  · have h := x_f h k5
    refine lv_aload_n hx hb dX9_feed_22 rfl (lv_at hl 0 rfl) ?_
    obtain ⟨q6, eq6, h⟩ := x_rf h
    obtain ⟨hLq6, hKq6⟩ := wt_q hG hL0 hK0 eq6
    have hKq6 : gK G q6 = 5 := hKq6
    refine r_getR (k := 0) cx w hL0 hK0 (by decide) rfl wi_X9_feed_X9 (by decide) rfl eq6 (List.mem_of_getElem? (i := 3) rfl) dX9_feed_23 ?_
    refine lv_iload_n hx hb dX9_feed_26 rfl (lv_at hl 1 rfl) ?_
    obtain ⟨M7, r8, y9, h⟩ := x_cl h
    refine r_callVv (As := [.int c1]) (rest := []) cx w hkn hl.1 (k_X6_append hG hLq6 hKq6 y9) (cwV 1 hts gX9_feed_X6_append rfl rfl rfl (by decide +kernel) ⟨Nat.le_of_ble_eq_true rfl, Nat.le_of_ble_eq_true rfl⟩) hLq6 hKq6 (by decide) rfl rfl rfl (Nat.le_of_ble_eq_true rfl) dX9_feed_27 (fun H locs w => ?_)
    refine lv_aload_n hx hb dX9_feed_30 rfl (lv_at hl 0 rfl) ?_
    obtain ⟨q10, eq10, h⟩ := x_rf h
    obtain ⟨hLq10, hKq10⟩ := wt_q hG hL0 hK0 eq10
    have hKq10 : gK G q10 = 5 := hKq10
    refine r_getR (k := 0) cx w hL0 hK0 (by decide) rfl wi_X9_feed_X9 (by decide) rfl eq10 (List.mem_of_getElem? (i := 3) rfl) dX9_feed_31 ?_
    refine lv_iload_n hx hb dX9_feed_34 rfl (lv_at hl 2 rfl) ?_
    obtain ⟨M11, r12, y13, h⟩ := x_cl h
    refine r_callVv (As := [.int c2]) (rest := []) cx w hkn hl.1 (k_X6_append hG hLq10 hKq10 y13) (cwV 1 hts gX9_feed_X6_append rfl rfl rfl (by decide +kernel) ⟨Nat.le_of_ble_eq_true rfl, Nat.le_of_ble_eq_true rfl⟩) hLq10 hKq10 (by decide) rfl rfl rfl (Nat.le_of_ble_eq_true rfl) dX9_feed_35 (fun H locs w => ?_)
    refine lv_aload_n hx hb dX9_feed_38 rfl (lv_at hl 0 rfl) ?_
    obtain ⟨q14, eq14, h⟩ := x_rf h
    obtain ⟨hLq14, hKq14⟩ := wt_q hG hL0 hK0 eq14
    have hKq14 : gK G q14 = 5 := hKq14
    refine r_getR (k := 0) cx w hL0 hK0 (by decide) rfl wi_X9_feed_X9 (by decide) rfl eq14 (List.mem_of_getElem? (i := 3) rfl) dX9_feed_39 ?_
    refine lv_iload_n hx hb dX9_feed_42 rfl (lv_at hl 3 rfl) ?_
    obtain ⟨M15, r16, y17, h⟩ := x_cl h
    refine r_callVv (As := [.int c3]) (rest := []) cx w hkn hl.1 (k_X6_append hG hLq14 hKq14 y17) (cwV 1 hts gX9_feed_X6_append rfl rfl rfl (by decide +kernel) ⟨Nat.le_of_ble_eq_true rfl, Nat.le_of_ble_eq_true rfl⟩) hLq14 hKq14 (by decide) rfl rfl rfl (Nat.le_of_ble_eq_true rfl) dX9_feed_43 (fun H locs w => ?_)
    refine lv_aload_n hx hb dX9_feed_46 rfl (lv_at hl 0 rfl) ?_
    obtain ⟨q18, eq18, h⟩ := x_rf h
    obtain ⟨hLq18, hKq18⟩ := wt_q hG hL0 hK0 eq18
    have hKq18 : gK G q18 = 5 := hKq18
    refine r_getR (k := 0) cx w hL0 hK0 (by decide) rfl wi_X9_feed_X9 (by decide) rfl eq18 (List.mem_of_getElem? (i := 3) rfl) dX9_feed_47 ?_
    refine lv_iload hx hb dX9_feed_50 (lv_at hl 4 rfl) ?_
    obtain ⟨M19, r20, y21, h⟩ := x_cl h
    refine r_callVv (As := [.int c4]) (rest := []) cx w hkn hl.1 (k_X6_append hG hLq18 hKq18 y21) (cwV 1 hts gX9_feed_X6_append rfl rfl rfl (by decide +kernel) ⟨Nat.le_of_ble_eq_true rfl, Nat.le_of_ble_eq_true rfl⟩) hLq18 hKq18 (by decide) rfl rfl rfl (Nat.le_of_ble_eq_true rfl) dX9_feed_52 (fun H locs w => ?_)
    refine lv_aload_n hx hb dX9_feed_55 rfl (lv_at hl 0 rfl) ?_
    obtain ⟨q22, eq22, h⟩ := x_rf h
    obtain ⟨hLq22, hKq22⟩ := wt_q hG hL0 hK0 eq22
    have hKq22 : gK G q22 = 5 := hKq22
    refine r_getR (k := 0) cx w hL0 hK0 (by decide) rfl wi_X9_feed_X9 (by decide) rfl eq22 (List.mem_of_getElem? (i := 3) rfl) dX9_feed_56 ?_
    refine lv_iload hx hb dX9_feed_59 (lv_at hl 5 rfl) ?_
    obtain ⟨M23, r24, y25, h⟩ := x_cl h
    refine r_callVv (As := [.int c5]) (rest := []) cx w hkn hl.1 (k_X6_append hG hLq22 hKq22 y25) (cwV 1 hts gX9_feed_X6_append rfl rfl rfl (by decide +kernel) ⟨Nat.le_of_ble_eq_true rfl, Nat.le_of_ble_eq_true rfl⟩) hLq22 hKq22 (by decide) rfl rfl rfl (Nat.le_of_ble_eq_true rfl) dX9_feed_61 (fun H locs w => ?_)
    refine lv_aload_n hx hb dX9_feed_64 rfl (lv_at hl 0 rfl) ?_
    obtain ⟨q26, eq26, h⟩ := x_rf h
    obtain ⟨hLq26, hKq26⟩ := wt_q hG hL0 hK0 eq26
    have hKq26 : gK G q26 = 5 := hKq26
    refine r_getR (k := 0) cx w hL0 hK0 (by decide) rfl wi_X9_feed_X9 (by decide) rfl eq26 (List.mem_of_getElem? (i := 3) rfl) dX9_feed_65 ?_
    refine r_getI (k := 1) (v := .int (mI M23 q26 1)) cx w hLq26 hKq26 (by decide) rfl wi_X9_feed_X6 (by decide) rfl (List.mem_of_getElem? (i := 4) rfl) dX9_feed_68 ?_
    exact r_iret cx w h dX9_feed_71
  · have h := x_t h k5
    have h : none = some _ := h
    cases h
-- X9_teach
theorem wi_X9_teach_X2 : ∀ w ∈ wsX20, w ∈ wsX9_teach := by decide +kernel
theorem wi_X9_teach_X6 : ∀ w ∈ wsX60, w ∈ wsX9_teach := by decide +kernel
theorem wi_X9_teach_X9 : ∀ w ∈ wsX90, w ∈ wsX9_teach := by decide +kernel
abbrev rmX9_teach : Room := { frames := 135, cells := 0, slots := 0, locals := 7838 }
def m_X9_teach_64 (G : gS) (a0 : Nat)  (M : mS) (v1 : Int32) : Option (mS × Int32) := some (M, v1)
def m_X9_teach_24 (G : gS) (a0 : Nat)  (M : mS) (v1 : Int32) (s1 : Int32) : Option (mS × Int32) := o_wI M a0 6 s1 (fun M1 => o_rf (gP G a0 0) (fun q2 => o_wI M1 q2 1 (0 : Int32) (fun M3 => (if v1 = 0 then o_rf (gP G a0 1) (fun q5 => o_rf (gP G a0 4) (fun q6 => o_rf (gP G q6 1) (fun q7 => o_cl (m_X3_copyFrom G M3 q5 q7) (fun M8 r9 => o_rf (gP G a0 2) (fun q11 => o_rf (gP G a0 3) (fun q12 => o_cl (m_X8_copyFrom G M8 q11 q12) (fun M13 r14 => m_X9_teach_64 G a0 M13 v1))))))) else m_X9_teach_64 G a0 M3 v1))))
def m_X9_teach (G : gS) (M : mS) (a0 : Nat) : Option (mS × Int32) := o_rf (gP G a0 4) (fun q1 => o_cl (m_X2_read G M q1) (fun M2 r3 => (if r3 = 0 then m_X9_teach_24 G a0 M2 r3 ((-1 : Int32)) else o_rf (gP G a0 4) (fun q6 => m_X9_teach_24 G a0 M2 r3 ((mI M2 q6 7))))))
set_option maxHeartbeats 4000000 in
set_option maxRecDepth 100000 in
theorem b_X9_teach_64 {p : Program} {e : Env} {s : State} {m : MethodId} {args : Array Value} {below : List Frame} {meth : Method} {c : Code} {A : Nat → Prop} {l : Launch} {D : va_G} {cy : cyS} {G : gS} (cx : cX p s m args meth c cX9_teach RX9 2 (some .int) wsX9_teach D cy G A) {k0 n0 : Nat} (hkn : k0 ≤ (rmX9_teach).cells ∧ n0 ≤ (rmX9_teach).slots) {M' : mS} {r : Int32} {a0 : Nat} (hL0 : a0 ∈ gL G) (hK0 : gK G a0 = 8)  : ∀ (M : mS) (v1 : Int32) (H : Heap) (locs : List Loc) (ls : Array Slot), m_X9_teach_64 G a0 M v1 = some (M', r) → wd D cy G M A s.heap H locs → lv_has ls 2 [(1, .int v1)] → W p l e rmX9_teach s m args below meth c H locs k0 n0 (MQ below (va_Qi (fun (r' : Int32) (_ : Unit) => r' = r) (fun _ t => wOut D cy G M' t) A) args s k0 n0 A) (F0 m 64 ls []) := by
  obtain ⟨hx, hb, hml, hown, hts, hr, hlocks, hK, hA, hG, hsx⟩ := id cx
  intro M v1 H locs ls h w hl
  unfold m_X9_teach_64 at h
  refine lv_iload_n hx hb dX9_teach_64 rfl (lv_at hl 0 rfl) ?_
  exact r_iret cx w h dX9_teach_65
set_option maxHeartbeats 4000000 in
set_option maxRecDepth 100000 in
theorem b_X9_teach_24 {p : Program} {e : Env} {s : State} {m : MethodId} {args : Array Value} {below : List Frame} {meth : Method} {c : Code} {A : Nat → Prop} {l : Launch} {D : va_G} {cy : cyS} {G : gS} (cx : cX p s m args meth c cX9_teach RX9 2 (some .int) wsX9_teach D cy G A) {k0 n0 : Nat} (hkn : k0 ≤ (rmX9_teach).cells ∧ n0 ≤ (rmX9_teach).slots) {M' : mS} {r : Int32} {a0 : Nat} (hL0 : a0 ∈ gL G) (hK0 : gK G a0 = 8)  : ∀ (M : mS) (v1 : Int32) (s1 : Int32) (H : Heap) (locs : List Loc) (ls : Array Slot), m_X9_teach_24 G a0 M v1 s1 = some (M', r) → wd D cy G M A s.heap H locs → lv_has ls 2 [(0, .ref a0), (1, .int v1)] → W p l e rmX9_teach s m args below meth c H locs k0 n0 (MQ below (va_Qi (fun (r' : Int32) (_ : Unit) => r' = r) (fun _ t => wOut D cy G M' t) A) args s k0 n0 A) (F0 m 24 ls [.int s1, .ref a0]) := by
  obtain ⟨hx, hb, hml, hown, hts, hr, hlocks, hK, hA, hG, hsx⟩ := id cx
  intro M v1 s1 H locs ls h w hl
  unfold m_X9_teach_24 at h
  obtain ⟨M1, eM1, h⟩ := x_wI h
  refine r_putI (k := 6) (ty := .int) cx w tyX9 tyX9_ok nmX9 hL0 hK0 (by decide) rfl wi_X9_teach_X9 (by decide) rfl rfl rfl rfl st_8_6 (ln_8 _ _ (by decide)) (List.mem_of_getElem? (i := 3) rfl) dX9_teach_24 eM1 (fun H locs w => ?_)
  refine lv_aload_n hx hb dX9_teach_27 rfl (lv_at hl 0 rfl) ?_
  obtain ⟨q2, eq2, h⟩ := x_rf h
  obtain ⟨hLq2, hKq2⟩ := wt_q hG hL0 hK0 eq2
  have hKq2 : gK G q2 = 5 := hKq2
  refine r_getR (k := 0) cx w hL0 hK0 (by decide) rfl wi_X9_teach_X9 (by decide) rfl eq2 (List.mem_of_getElem? (i := 4) rfl) dX9_teach_28 ?_
  refine lv_iconst (v := (0 : Int32)) hx hb dX9_teach_31 (by decide) ?_
  obtain ⟨M3, eM3, h⟩ := x_wI h
  refine r_putI (k := 1) (ty := .int) cx w tyX6 tyX6_ok nmX6 hLq2 hKq2 (by decide) rfl wi_X9_teach_X6 (by decide) rfl rfl rfl rfl st_5_1 (ln_5 _ _ (by decide)) (List.mem_of_getElem? (i := 5) rfl) dX9_teach_32 eM3 (fun H locs w => ?_)
  refine lv_iload_n hx hb dX9_teach_35 rfl (lv_at hl 1 rfl) ?_
  refine lv_if_ne (tgt := 64) hx hb dX9_teach_36 (by decide) (fun k4 => ?_) (fun k4 => ?_)
  · have h := x_f h k4
    exact b_X9_teach_64 cx hkn hL0 hK0 M3 v1 H locs ls h w (lv_sub hl [1] rfl)
  · have h := x_t h k4
    refine lv_aload_n hx hb dX9_teach_39 rfl (lv_at hl 0 rfl) ?_
    obtain ⟨q5, eq5, h⟩ := x_rf h
    obtain ⟨hLq5, hKq5⟩ := wt_q hG hL0 hK0 eq5
    have hKq5 : gK G q5 = 2 := hKq5
    refine r_getR (k := 1) cx w hL0 hK0 (by decide) rfl wi_X9_teach_X9 (by decide) rfl eq5 (List.mem_of_getElem? (i := 6) rfl) dX9_teach_40 ?_
    refine lv_aload_n hx hb dX9_teach_43 rfl (lv_at hl 0 rfl) ?_
    obtain ⟨q6, eq6, h⟩ := x_rf h
    obtain ⟨hLq6, hKq6⟩ := wt_q hG hL0 hK0 eq6
    have hKq6 : gK G q6 = 1 := hKq6
    refine r_getR (k := 4) cx w hL0 hK0 (by decide) rfl wi_X9_teach_X9 (by decide) rfl eq6 (List.mem_of_getElem? (i := 1) rfl) dX9_teach_44 ?_
    obtain ⟨q7, eq7, h⟩ := x_rf h
    obtain ⟨hLq7, hKq7⟩ := wt_q hG hLq6 hKq6 eq7
    have hKq7 : gK G q7 = 2 := hKq7
    refine r_getR (k := 1) cx w hLq6 hKq6 (by decide) rfl wi_X9_teach_X2 (by decide) rfl eq7 (List.mem_of_getElem? (i := 7) rfl) dX9_teach_47 ?_
    obtain ⟨M8, r9, y10, h⟩ := x_cl h
    refine r_callVv (As := [.ref q7]) (rest := []) cx w hkn hl.1 (k_X3_copyFrom hG hLq5 hKq5 hLq7 hKq7 y10) (cwV 1 hts gX9_teach_X3_copyFrom rfl rfl rfl (by decide +kernel) ⟨Nat.le_of_ble_eq_true rfl, Nat.le_of_ble_eq_true rfl⟩) hLq5 hKq5 (by decide) rfl rfl rfl (Nat.le_of_ble_eq_true rfl) dX9_teach_50 (fun H locs w => ?_)
    refine lv_aload_n hx hb dX9_teach_53 rfl (lv_at hl 0 rfl) ?_
    obtain ⟨q11, eq11, h⟩ := x_rf h
    obtain ⟨hLq11, hKq11⟩ := wt_q hG hL0 hK0 eq11
    have hKq11 : gK G q11 = 7 := hKq11
    refine r_getR (k := 2) cx w hL0 hK0 (by decide) rfl wi_X9_teach_X9 (by decide) rfl eq11 (List.mem_of_getElem? (i := 8) rfl) dX9_teach_54 ?_
    refine lv_aload_n hx hb dX9_teach_57 rfl (lv_at hl 0 rfl) ?_
    obtain ⟨q12, eq12, h⟩ := x_rf h
    obtain ⟨hLq12, hKq12⟩ := wt_q hG hL0 hK0 eq12
    have hKq12 : gK G q12 = 7 := hKq12
    refine r_getR (k := 3) cx w hL0 hK0 (by decide) rfl wi_X9_teach_X9 (by decide) rfl eq12 (List.mem_of_getElem? (i := 9) rfl) dX9_teach_58 ?_
    obtain ⟨M13, r14, y15, h⟩ := x_cl h
    refine r_callVv (As := [.ref q12]) (rest := []) cx w hkn hl.1 (k_X8_copyFrom hG hLq11 hKq11 hLq12 hKq12 y15) (cwV 1 hts gX9_teach_X8_copyFrom rfl rfl rfl (by decide +kernel) ⟨Nat.le_of_ble_eq_true rfl, Nat.le_of_ble_eq_true rfl⟩) hLq11 hKq11 (by decide) rfl rfl rfl (Nat.le_of_ble_eq_true rfl) dX9_teach_61 (fun H locs w => ?_)
    exact b_X9_teach_64 cx hkn hL0 hK0 M13 v1 H locs ls h w (lv_sub hl [1] rfl)
set_option maxHeartbeats 4000000 in
set_option maxRecDepth 100000 in
theorem k_X9_teach {l : Launch} {D : va_G} {cy : cyS} {G : gS} {M M' : mS} {r : Int32} {a0 : Nat} (hG : wt G) (hL0 : a0 ∈ gL G) (hK0 : gK G a0 = 8) (h : m_X9_teach G M a0 = some (M', r)) : ctI l yX9_teach wsX9_teach rmX9_teach D cy G M [.ref a0] M' r := by
  unfold m_X9_teach at h
  refine ctI_of (cc := cX9_teach) (nL := 2) (ret := (some .int)) (lv := [(0, .ref a0)]) hG (by decide) rfl ⟨rfl, rfl⟩ (Nat.le_of_ble_eq_true rfl) rfl ?_
  intro p e s m args below meth c A ls cx w hl
  obtain ⟨hx, hb, hml, hown, hts, hr, hlocks, hK, hA, -, hsx⟩ := id cx
  have hkn : 0 ≤ (rmX9_teach).cells ∧ 0 ≤ (rmX9_teach).slots := ⟨Nat.zero_le _, Nat.zero_le _⟩
  refine lv_aload_n hx hb dX9_teach_0 rfl (lv_at hl 0 rfl) ?_
  obtain ⟨q1, eq1, h⟩ := x_rf h
  obtain ⟨hLq1, hKq1⟩ := wt_q hG hL0 hK0 eq1
  have hKq1 : gK G q1 = 1 := hKq1
  refine r_getR (k := 4) cx w hL0 hK0 (by decide) rfl wi_X9_teach_X9 (by decide) rfl eq1 (List.mem_of_getElem? (i := 1) rfl) dX9_teach_1 ?_
  obtain ⟨M2, r3, y4, h⟩ := x_cl h
  refine r_callVi (As := []) (rest := []) cx w hkn hl.1 (k_X2_read hG hLq1 hKq1 y4) (cwV 0 hts gX9_teach_X2_read rfl rfl rfl (by decide +kernel) ⟨Nat.le_of_ble_eq_true rfl, Nat.le_of_ble_eq_true rfl⟩) hLq1 hKq1 (by decide) rfl rfl rfl (Nat.le_of_ble_eq_true rfl) dX9_teach_4 (fun H locs w => ?_)
  refine lv_istore_n (lv' := [(1, .int r3), (0, .ref a0)]) hx hb dX9_teach_7 rfl hl (by decide) rfl (fun ls hl => ?_)
  refine lv_aload_n hx hb dX9_teach_8 rfl (lv_at hl 1 rfl) ?_
  refine lv_iload_n hx hb dX9_teach_9 rfl (lv_at hl 0 rfl) ?_
  refine lv_if_ne (tgt := 17) hx hb dX9_teach_10 (by decide) (fun k5 => ?_) (fun k5 => ?_)
  · have h := x_f h k5
    refine lv_aload_n hx hb dX9_teach_17 rfl (lv_at hl 1 rfl) ?_
    obtain ⟨q6, eq6, h⟩ := x_rf h
    obtain ⟨hLq6, hKq6⟩ := wt_q hG hL0 hK0 eq6
    have hKq6 : gK G q6 = 1 := hKq6
    refine r_getR (k := 4) cx w hL0 hK0 (by decide) rfl wi_X9_teach_X9 (by decide) rfl eq6 (List.mem_of_getElem? (i := 1) rfl) dX9_teach_18 ?_
    refine r_getI (k := 7) (v := .int (mI M2 q6 7)) cx w hLq6 hKq6 (by decide) rfl wi_X9_teach_X2 (by decide) rfl (List.mem_of_getElem? (i := 2) rfl) dX9_teach_21 ?_
    exact b_X9_teach_24 cx hkn hL0 hK0 M2 r3 ((mI M2 q6 7)) H locs ls h w (lv_sub hl [1, 0] rfl)
  · have h := x_t h k5
    refine lv_iconst (v := (-1 : Int32)) hx hb dX9_teach_13 (by decide) ?_
    refine lv_goto (tgt := 24) hx hb dX9_teach_14 (by decide) ?_
    exact b_X9_teach_24 cx hkn hL0 hK0 M2 r3 ((-1 : Int32)) H locs ls h w (lv_sub hl [1, 0] rfl)
-- X9_count
theorem wi_X9_count_X3 : ∀ w ∈ wsX30, w ∈ wsX9_count := by decide +kernel
theorem wi_X9_count_X6 : ∀ w ∈ wsX60, w ∈ wsX9_count := by decide +kernel
theorem wi_X9_count_X8 : ∀ w ∈ wsX80, w ∈ wsX9_count := by decide +kernel
theorem wi_X9_count_X9 : ∀ w ∈ wsX90, w ∈ wsX9_count := by decide +kernel
abbrev rmX9_count : Room := { frames := 2, cells := 0, slots := 0, locals := 43 }
def m_X9_count_10 (G : gS) (a0 : Nat) (c1 : Int32)  (M : mS)  : Option (mS × Int32) := none
def m_X9_count (G : gS) (M : mS) (a0 : Nat) (c1 : Int32) : Option (mS × Int32) := (if c1 < 0 then m_X9_count_10 G a0 c1 M else (if c1 < (11 : Int32) then (if c1 = 0 then o_rf (gP G a0 2) (fun q4 => some (M, (mI M q4 5))) else if c1 = 1 then o_rf (gP G a0 1) (fun q6 => some (M, (mI M q6 0))) else if c1 = 2 then o_rf (gP G a0 2) (fun q8 => some (M, (mI M q8 4))) else if c1 = 3 then o_rf (gP G a0 1) (fun q10 => some (M, (mI M q10 3))) else if c1 = 4 then o_rf (gP G a0 2) (fun q12 => o_cl (m_X8_total G M q12 c1) (fun M13 r14 => some (M13, r14))) else if c1 = 5 then o_rf (gP G a0 2) (fun q17 => o_cl (m_X8_total G M q17 c1) (fun M18 r19 => some (M18, r19))) else if c1 = 6 then o_rf (gP G a0 2) (fun q22 => o_cl (m_X8_total G M q22 c1) (fun M23 r24 => some (M23, r24))) else if c1 = 7 then o_rf (gP G a0 2) (fun q27 => o_cl (m_X8_total G M q27 c1) (fun M28 r29 => some (M28, r29))) else if c1 = 8 then o_rf (gP G a0 2) (fun q32 => o_cl (m_X8_total G M q32 c1) (fun M33 r34 => some (M33, r34))) else if c1 = 9 then o_rf (gP G a0 2) (fun q37 => o_cl (m_X8_total G M q37 c1) (fun M38 r39 => some (M38, r39))) else if c1 = 10 then o_rf (gP G a0 0) (fun q42 => some (M, (mI M q42 1))) else o_rf (gP G a0 2) (fun q43 => o_cl (m_X8_total G M q43 c1) (fun M44 r45 => some (M44, r45)))) else m_X9_count_10 G a0 c1 M))
set_option maxHeartbeats 4000000 in
set_option maxRecDepth 100000 in
theorem b_X9_count_10 {p : Program} {e : Env} {s : State} {m : MethodId} {args : Array Value} {below : List Frame} {meth : Method} {c : Code} {A : Nat → Prop} {l : Launch} {D : va_G} {cy : cyS} {G : gS} (cx : cX p s m args meth c cX9_count RX9 2 (some .int) wsX9_count D cy G A) {k0 n0 : Nat} (hkn : k0 ≤ (rmX9_count).cells ∧ n0 ≤ (rmX9_count).slots) {M' : mS} {r : Int32} {a0 : Nat} {c1 : Int32} (hL0 : a0 ∈ gL G) (hK0 : gK G a0 = 8)  : ∀ (M : mS) (H : Heap) (locs : List Loc) (ls : Array Slot), m_X9_count_10 G a0 c1 M = some (M', r) → wd D cy G M A s.heap H locs → lv_has ls 2 [] → W p l e rmX9_count s m args below meth c H locs k0 n0 (MQ below (va_Qi (fun (r' : Int32) (_ : Unit) => r' = r) (fun _ t => wOut D cy G M' t) A) args s k0 n0 A) (F0 m 10 ls []) := by
  obtain ⟨hx, hb, hml, hown, hts, hr, hlocks, hK, hA, hG, hsx⟩ := id cx
  intro M H locs ls h w hl
  unfold m_X9_count_10 at h
  have h : none = some _ := h
  cases h
set_option maxHeartbeats 4000000 in
set_option maxRecDepth 100000 in
theorem k_X9_count {l : Launch} {D : va_G} {cy : cyS} {G : gS} {M M' : mS} {r : Int32} {a0 : Nat} {c1 : Int32} (hG : wt G) (hL0 : a0 ∈ gL G) (hK0 : gK G a0 = 8) (h : m_X9_count G M a0 c1 = some (M', r)) : ctI l yX9_count wsX9_count rmX9_count D cy G M [.ref a0, .int c1] M' r := by
  unfold m_X9_count at h
  refine ctI_of (cc := cX9_count) (nL := 2) (ret := (some .int)) (lv := [(0, .ref a0), (1, .int c1)]) hG (by decide) rfl ⟨rfl, rfl⟩ (Nat.le_of_ble_eq_true rfl) rfl ?_
  intro p e s m args below meth c A ls cx w hl
  obtain ⟨hx, hb, hml, hown, hts, hr, hlocks, hK, hA, -, hsx⟩ := id cx
  have hkn : 0 ≤ (rmX9_count).cells ∧ 0 ≤ (rmX9_count).slots := ⟨Nat.zero_le _, Nat.zero_le _⟩
  refine lv_iload_n hx hb dX9_count_0 rfl (lv_at hl 1 rfl) ?_
  refine lv_if_lt (tgt := 10) hx hb dX9_count_1 (by decide) (fun k1 => ?_) (fun k1 => ?_)
  · have h := x_t h k1
    exact b_X9_count_10 cx hkn hL0 hK0 M s.heap [] ls h w (lv_sub hl [] rfl)
  · have h := x_f h k1
    refine lv_iload_n hx hb dX9_count_4 rfl (lv_at hl 1 rfl) ?_
    refine lv_bipush (v := (11 : Int32)) hx hb dX9_count_5 (by decide) ?_
    refine lv_icmp_lt (tgt := 20) hx hb dX9_count_7 (by decide) (fun k2 => ?_) (fun k2 => ?_)
    · have h := x_t h k2
      refine lv_iload_n hx hb dX9_count_20 rfl (lv_at hl 1 rfl) ?_
      rcases Decidable.em (c1 = 0) with k3 | k3
      · have h := x_t h k3
        rw [k3]
        refine lv_tableIn (tgt := 80) hx hb dX9_count_21 (by decide) (by decide) rfl (by decide) ?_
        refine lv_aload_n hx hb dX9_count_80 rfl (lv_at hl 0 rfl) ?_
        obtain ⟨q4, eq4, h⟩ := x_rf h
        obtain ⟨hLq4, hKq4⟩ := wt_q hG hL0 hK0 eq4
        have hKq4 : gK G q4 = 7 := hKq4
        refine r_getR (k := 2) cx w hL0 hK0 (by decide) rfl wi_X9_count_X9 (by decide) rfl eq4 (List.mem_of_getElem? (i := 3) rfl) dX9_count_81 ?_
        refine r_getI (k := 5) (v := .int (mI M q4 5)) cx w hLq4 hKq4 (by decide) rfl wi_X9_count_X8 (by decide) rfl (List.mem_of_getElem? (i := 4) rfl) dX9_count_84 ?_
        exact r_iret cx w h dX9_count_87
      · have h := x_f h k3
        rcases Decidable.em (c1 = 1) with k5 | k5
        · have h := x_t h k5
          rw [k5]
          refine lv_tableIn (tgt := 88) hx hb dX9_count_21 (by decide) (by decide) rfl (by decide) ?_
          refine lv_aload_n hx hb dX9_count_88 rfl (lv_at hl 0 rfl) ?_
          obtain ⟨q6, eq6, h⟩ := x_rf h
          obtain ⟨hLq6, hKq6⟩ := wt_q hG hL0 hK0 eq6
          have hKq6 : gK G q6 = 2 := hKq6
          refine r_getR (k := 1) cx w hL0 hK0 (by decide) rfl wi_X9_count_X9 (by decide) rfl eq6 (List.mem_of_getElem? (i := 5) rfl) dX9_count_89 ?_
          refine r_getI (k := 0) (v := .int (mI M q6 0)) cx w hLq6 hKq6 (by decide) rfl wi_X9_count_X3 (by decide) rfl (List.mem_of_getElem? (i := 6) rfl) dX9_count_92 ?_
          exact r_iret cx w h dX9_count_95
        · have h := x_f h k5
          rcases Decidable.em (c1 = 2) with k7 | k7
          · have h := x_t h k7
            rw [k7]
            refine lv_tableIn (tgt := 96) hx hb dX9_count_21 (by decide) (by decide) rfl (by decide) ?_
            refine lv_aload_n hx hb dX9_count_96 rfl (lv_at hl 0 rfl) ?_
            obtain ⟨q8, eq8, h⟩ := x_rf h
            obtain ⟨hLq8, hKq8⟩ := wt_q hG hL0 hK0 eq8
            have hKq8 : gK G q8 = 7 := hKq8
            refine r_getR (k := 2) cx w hL0 hK0 (by decide) rfl wi_X9_count_X9 (by decide) rfl eq8 (List.mem_of_getElem? (i := 3) rfl) dX9_count_97 ?_
            refine r_getI (k := 4) (v := .int (mI M q8 4)) cx w hLq8 hKq8 (by decide) rfl wi_X9_count_X8 (by decide) rfl (List.mem_of_getElem? (i := 7) rfl) dX9_count_100 ?_
            exact r_iret cx w h dX9_count_103
          · have h := x_f h k7
            rcases Decidable.em (c1 = 3) with k9 | k9
            · have h := x_t h k9
              rw [k9]
              refine lv_tableIn (tgt := 104) hx hb dX9_count_21 (by decide) (by decide) rfl (by decide) ?_
              refine lv_aload_n hx hb dX9_count_104 rfl (lv_at hl 0 rfl) ?_
              obtain ⟨q10, eq10, h⟩ := x_rf h
              obtain ⟨hLq10, hKq10⟩ := wt_q hG hL0 hK0 eq10
              have hKq10 : gK G q10 = 2 := hKq10
              refine r_getR (k := 1) cx w hL0 hK0 (by decide) rfl wi_X9_count_X9 (by decide) rfl eq10 (List.mem_of_getElem? (i := 5) rfl) dX9_count_105 ?_
              refine r_getI (k := 3) (v := .int (mI M q10 3)) cx w hLq10 hKq10 (by decide) rfl wi_X9_count_X3 (by decide) rfl (List.mem_of_getElem? (i := 8) rfl) dX9_count_108 ?_
              exact r_iret cx w h dX9_count_111
            · have h := x_f h k9
              rcases Decidable.em (c1 = 4) with k11 | k11
              · have h := x_t h k11
                rw [k11]
                refine lv_tableIn (tgt := 120) hx hb dX9_count_21 (by decide) (by decide) rfl (by decide) ?_
                refine lv_aload_n hx hb dX9_count_120 rfl (lv_at hl 0 rfl) ?_
                obtain ⟨q12, eq12, h⟩ := x_rf h
                obtain ⟨hLq12, hKq12⟩ := wt_q hG hL0 hK0 eq12
                have hKq12 : gK G q12 = 7 := hKq12
                refine r_getR (k := 2) cx w hL0 hK0 (by decide) rfl wi_X9_count_X9 (by decide) rfl eq12 (List.mem_of_getElem? (i := 3) rfl) dX9_count_121 ?_
                refine lv_iload_n hx hb dX9_count_124 rfl (lv_at hl 1 rfl) ?_
                obtain ⟨M13, r14, y15, h⟩ := x_cl h
                refine r_callVi (As := [.int c1]) (rest := []) cx w hkn hl.1 (k_X8_total hG hLq12 hKq12 y15) (cwV 1 hts gX9_count_X8_total rfl rfl rfl (by decide +kernel) ⟨Nat.le_of_ble_eq_true rfl, Nat.le_of_ble_eq_true rfl⟩) hLq12 hKq12 (by decide) rfl rfl rfl (Nat.le_of_ble_eq_true rfl) dX9_count_125 (fun H locs w => ?_)
                exact r_iret cx w h dX9_count_128
              · have h := x_f h k11
                rcases Decidable.em (c1 = 5) with k16 | k16
                · have h := x_t h k16
                  rw [k16]
                  refine lv_tableIn (tgt := 120) hx hb dX9_count_21 (by decide) (by decide) rfl (by decide) ?_
                  refine lv_aload_n hx hb dX9_count_120 rfl (lv_at hl 0 rfl) ?_
                  obtain ⟨q17, eq17, h⟩ := x_rf h
                  obtain ⟨hLq17, hKq17⟩ := wt_q hG hL0 hK0 eq17
                  have hKq17 : gK G q17 = 7 := hKq17
                  refine r_getR (k := 2) cx w hL0 hK0 (by decide) rfl wi_X9_count_X9 (by decide) rfl eq17 (List.mem_of_getElem? (i := 3) rfl) dX9_count_121 ?_
                  refine lv_iload_n hx hb dX9_count_124 rfl (lv_at hl 1 rfl) ?_
                  obtain ⟨M18, r19, y20, h⟩ := x_cl h
                  refine r_callVi (As := [.int c1]) (rest := []) cx w hkn hl.1 (k_X8_total hG hLq17 hKq17 y20) (cwV 1 hts gX9_count_X8_total rfl rfl rfl (by decide +kernel) ⟨Nat.le_of_ble_eq_true rfl, Nat.le_of_ble_eq_true rfl⟩) hLq17 hKq17 (by decide) rfl rfl rfl (Nat.le_of_ble_eq_true rfl) dX9_count_125 (fun H locs w => ?_)
                  exact r_iret cx w h dX9_count_128
                · have h := x_f h k16
                  rcases Decidable.em (c1 = 6) with k21 | k21
                  · have h := x_t h k21
                    rw [k21]
                    refine lv_tableIn (tgt := 120) hx hb dX9_count_21 (by decide) (by decide) rfl (by decide) ?_
                    refine lv_aload_n hx hb dX9_count_120 rfl (lv_at hl 0 rfl) ?_
                    obtain ⟨q22, eq22, h⟩ := x_rf h
                    obtain ⟨hLq22, hKq22⟩ := wt_q hG hL0 hK0 eq22
                    have hKq22 : gK G q22 = 7 := hKq22
                    refine r_getR (k := 2) cx w hL0 hK0 (by decide) rfl wi_X9_count_X9 (by decide) rfl eq22 (List.mem_of_getElem? (i := 3) rfl) dX9_count_121 ?_
                    refine lv_iload_n hx hb dX9_count_124 rfl (lv_at hl 1 rfl) ?_
                    obtain ⟨M23, r24, y25, h⟩ := x_cl h
                    refine r_callVi (As := [.int c1]) (rest := []) cx w hkn hl.1 (k_X8_total hG hLq22 hKq22 y25) (cwV 1 hts gX9_count_X8_total rfl rfl rfl (by decide +kernel) ⟨Nat.le_of_ble_eq_true rfl, Nat.le_of_ble_eq_true rfl⟩) hLq22 hKq22 (by decide) rfl rfl rfl (Nat.le_of_ble_eq_true rfl) dX9_count_125 (fun H locs w => ?_)
                    exact r_iret cx w h dX9_count_128
                  · have h := x_f h k21
                    rcases Decidable.em (c1 = 7) with k26 | k26
                    · have h := x_t h k26
                      rw [k26]
                      refine lv_tableIn (tgt := 120) hx hb dX9_count_21 (by decide) (by decide) rfl (by decide) ?_
                      refine lv_aload_n hx hb dX9_count_120 rfl (lv_at hl 0 rfl) ?_
                      obtain ⟨q27, eq27, h⟩ := x_rf h
                      obtain ⟨hLq27, hKq27⟩ := wt_q hG hL0 hK0 eq27
                      have hKq27 : gK G q27 = 7 := hKq27
                      refine r_getR (k := 2) cx w hL0 hK0 (by decide) rfl wi_X9_count_X9 (by decide) rfl eq27 (List.mem_of_getElem? (i := 3) rfl) dX9_count_121 ?_
                      refine lv_iload_n hx hb dX9_count_124 rfl (lv_at hl 1 rfl) ?_
                      obtain ⟨M28, r29, y30, h⟩ := x_cl h
                      refine r_callVi (As := [.int c1]) (rest := []) cx w hkn hl.1 (k_X8_total hG hLq27 hKq27 y30) (cwV 1 hts gX9_count_X8_total rfl rfl rfl (by decide +kernel) ⟨Nat.le_of_ble_eq_true rfl, Nat.le_of_ble_eq_true rfl⟩) hLq27 hKq27 (by decide) rfl rfl rfl (Nat.le_of_ble_eq_true rfl) dX9_count_125 (fun H locs w => ?_)
                      exact r_iret cx w h dX9_count_128
                    · have h := x_f h k26
                      rcases Decidable.em (c1 = 8) with k31 | k31
                      · have h := x_t h k31
                        rw [k31]
                        refine lv_tableIn (tgt := 120) hx hb dX9_count_21 (by decide) (by decide) rfl (by decide) ?_
                        refine lv_aload_n hx hb dX9_count_120 rfl (lv_at hl 0 rfl) ?_
                        obtain ⟨q32, eq32, h⟩ := x_rf h
                        obtain ⟨hLq32, hKq32⟩ := wt_q hG hL0 hK0 eq32
                        have hKq32 : gK G q32 = 7 := hKq32
                        refine r_getR (k := 2) cx w hL0 hK0 (by decide) rfl wi_X9_count_X9 (by decide) rfl eq32 (List.mem_of_getElem? (i := 3) rfl) dX9_count_121 ?_
                        refine lv_iload_n hx hb dX9_count_124 rfl (lv_at hl 1 rfl) ?_
                        obtain ⟨M33, r34, y35, h⟩ := x_cl h
                        refine r_callVi (As := [.int c1]) (rest := []) cx w hkn hl.1 (k_X8_total hG hLq32 hKq32 y35) (cwV 1 hts gX9_count_X8_total rfl rfl rfl (by decide +kernel) ⟨Nat.le_of_ble_eq_true rfl, Nat.le_of_ble_eq_true rfl⟩) hLq32 hKq32 (by decide) rfl rfl rfl (Nat.le_of_ble_eq_true rfl) dX9_count_125 (fun H locs w => ?_)
                        exact r_iret cx w h dX9_count_128
                      · have h := x_f h k31
                        rcases Decidable.em (c1 = 9) with k36 | k36
                        · have h := x_t h k36
                          rw [k36]
                          refine lv_tableIn (tgt := 120) hx hb dX9_count_21 (by decide) (by decide) rfl (by decide) ?_
                          refine lv_aload_n hx hb dX9_count_120 rfl (lv_at hl 0 rfl) ?_
                          obtain ⟨q37, eq37, h⟩ := x_rf h
                          obtain ⟨hLq37, hKq37⟩ := wt_q hG hL0 hK0 eq37
                          have hKq37 : gK G q37 = 7 := hKq37
                          refine r_getR (k := 2) cx w hL0 hK0 (by decide) rfl wi_X9_count_X9 (by decide) rfl eq37 (List.mem_of_getElem? (i := 3) rfl) dX9_count_121 ?_
                          refine lv_iload_n hx hb dX9_count_124 rfl (lv_at hl 1 rfl) ?_
                          obtain ⟨M38, r39, y40, h⟩ := x_cl h
                          refine r_callVi (As := [.int c1]) (rest := []) cx w hkn hl.1 (k_X8_total hG hLq37 hKq37 y40) (cwV 1 hts gX9_count_X8_total rfl rfl rfl (by decide +kernel) ⟨Nat.le_of_ble_eq_true rfl, Nat.le_of_ble_eq_true rfl⟩) hLq37 hKq37 (by decide) rfl rfl rfl (Nat.le_of_ble_eq_true rfl) dX9_count_125 (fun H locs w => ?_)
                          exact r_iret cx w h dX9_count_128
                        · have h := x_f h k36
                          rcases Decidable.em (c1 = 10) with k41 | k41
                          · have h := x_t h k41
                            rw [k41]
                            refine lv_tableIn (tgt := 112) hx hb dX9_count_21 (by decide) (by decide) rfl (by decide) ?_
                            refine lv_aload_n hx hb dX9_count_112 rfl (lv_at hl 0 rfl) ?_
                            obtain ⟨q42, eq42, h⟩ := x_rf h
                            obtain ⟨hLq42, hKq42⟩ := wt_q hG hL0 hK0 eq42
                            have hKq42 : gK G q42 = 5 := hKq42
                            refine r_getR (k := 0) cx w hL0 hK0 (by decide) rfl wi_X9_count_X9 (by decide) rfl eq42 (List.mem_of_getElem? (i := 9) rfl) dX9_count_113 ?_
                            refine r_getI (k := 1) (v := .int (mI M q42 1)) cx w hLq42 hKq42 (by decide) rfl wi_X9_count_X6 (by decide) rfl (List.mem_of_getElem? (i := 10) rfl) dX9_count_116 ?_
                            exact r_iret cx w h dX9_count_119
                          · have h := x_f h k41
                            refine lv_tableOut (tgt := 120) hx hb dX9_count_21 (by have nk3 : Int32.toInt c1 ≠ 0 := fun hh => k3 (Int32.toInt_inj.mp hh); have nk5 : Int32.toInt c1 ≠ 1 := fun hh => k5 (Int32.toInt_inj.mp hh); have nk7 : Int32.toInt c1 ≠ 2 := fun hh => k7 (Int32.toInt_inj.mp hh); have nk9 : Int32.toInt c1 ≠ 3 := fun hh => k9 (Int32.toInt_inj.mp hh); have nk11 : Int32.toInt c1 ≠ 4 := fun hh => k11 (Int32.toInt_inj.mp hh); have nk16 : Int32.toInt c1 ≠ 5 := fun hh => k16 (Int32.toInt_inj.mp hh); have nk21 : Int32.toInt c1 ≠ 6 := fun hh => k21 (Int32.toInt_inj.mp hh); have nk26 : Int32.toInt c1 ≠ 7 := fun hh => k26 (Int32.toInt_inj.mp hh); have nk31 : Int32.toInt c1 ≠ 8 := fun hh => k31 (Int32.toInt_inj.mp hh); have nk36 : Int32.toInt c1 ≠ 9 := fun hh => k36 (Int32.toInt_inj.mp hh); have nk41 : Int32.toInt c1 ≠ 10 := fun hh => k41 (Int32.toInt_inj.mp hh); omega) (by decide) ?_
                            refine lv_aload_n hx hb dX9_count_120 rfl (lv_at hl 0 rfl) ?_
                            obtain ⟨q43, eq43, h⟩ := x_rf h
                            obtain ⟨hLq43, hKq43⟩ := wt_q hG hL0 hK0 eq43
                            have hKq43 : gK G q43 = 7 := hKq43
                            refine r_getR (k := 2) cx w hL0 hK0 (by decide) rfl wi_X9_count_X9 (by decide) rfl eq43 (List.mem_of_getElem? (i := 3) rfl) dX9_count_121 ?_
                            refine lv_iload_n hx hb dX9_count_124 rfl (lv_at hl 1 rfl) ?_
                            obtain ⟨M44, r45, y46, h⟩ := x_cl h
                            refine r_callVi (As := [.int c1]) (rest := []) cx w hkn hl.1 (k_X8_total hG hLq43 hKq43 y46) (cwV 1 hts gX9_count_X8_total rfl rfl rfl (by decide +kernel) ⟨Nat.le_of_ble_eq_true rfl, Nat.le_of_ble_eq_true rfl⟩) hLq43 hKq43 (by decide) rfl rfl rfl (Nat.le_of_ble_eq_true rfl) dX9_count_125 (fun H locs w => ?_)
                            exact r_iret cx w h dX9_count_128
    · have h := x_f h k2
      exact b_X9_count_10 cx hkn hL0 hK0 M s.heap [] ls h w (lv_sub hl [] rfl)
-- X9_digest
theorem wi_X9_digest_X3 : ∀ w ∈ wsX30, w ∈ wsX9_digest := by decide +kernel
theorem wi_X9_digest_X8 : ∀ w ∈ wsX80, w ∈ wsX9_digest := by decide +kernel
theorem wi_X9_digest_X9 : ∀ w ∈ wsX90, w ∈ wsX9_digest := by decide +kernel
abbrev rmX9_digest : Room := { frames := 4, cells := 0, slots := 0, locals := 90 }
def m_X9_digest_47 (G : gS) (a0 : Nat) (kb33 : mS → Int64 → Int32 → Option (mS × Int64)) : Nat → mS → Int64 → Int32 → Int32 → Option (mS × Int64)
  | 0, _, _, _, _ => none
  | n + 1, M, v1, v3, v4 => (if (6 : Int32) ≤ v4 then o_bd (v3 + 1 : Int32) (fun x2 => kb33 M v1 x2) else o_rf (gP G a0 1) (fun q3 => o_cl (m_X3_turnFor G M q3 v3 v4) (fun M4 r5 => o_bd (((v1 * (31 : Int64)) + (Int32.toInt64 r5))) (fun x7 => o_bd (v4 + 1 : Int32) (fun x8 => m_X9_digest_47 G a0 kb33 n M4 x7 v3 x8)))))
def m_X9_digest_100 (G : gS) (a0 : Nat) (kb86 : mS → Int64 → Int32 → Option (mS × Int64)) : Nat → mS → Int64 → Int32 → Int32 → Option (mS × Int64)
  | 0, _, _, _, _ => none
  | n + 1, M, v1, v3, v4 => (if (9 : Int32) ≤ v4 then o_bd (v3 + 1 : Int32) (fun x2 => kb86 M v1 x2) else o_rf (gP G a0 2) (fun q3 => o_rf (gP G q3 3) (fun q4 => o_ix v3 (gN G q4) (o_rf (gP G q4 (Int32.toNatClampNeg v3)) (fun q6 => o_cl (m_X0_answer G M q6 v4) (fun M7 r8 => o_bd (((v1 * (31 : Int64)) + (Int32.toInt64 r8))) (fun x10 => o_bd (v4 + 1 : Int32) (fun x11 => m_X9_digest_100 G a0 kb86 n M7 x10 v3 x11))))))))
def m_X9_digest_143 (G : gS) (a0 : Nat)  : Nat → mS → Int64 → Int32 → Option (mS × Int64)
  | 0, _, _, _ => none
  | n + 1, M, v1, v3 => (if (4096 : Int32) ≤ v3 then some (M, v1) else o_rf (gP G a0 2) (fun q2 => o_cl (m_X8_colourAt G M q2 v3) (fun M3 r4 => o_bd (((v1 * (31 : Int64)) + (Int32.toInt64 r4))) (fun x6 => o_bd (v3 + 1 : Int32) (fun x7 => m_X9_digest_143 G a0 n M3 x6 x7)))))
def m_X9_digest_86 (G : gS) (a0 : Nat)  : Nat → mS → Int64 → Int32 → Option (mS × Int64)
  | 0, _, _, _ => none
  | n + 1, M, v1, v3 => o_rf (gP G a0 2) (fun q1 => (if (mI M q1 4) ≤ v3 then m_X9_digest_143 G a0 fu M v1 ((0 : Int32)) else m_X9_digest_100 G a0 (fun M v1 v3 => m_X9_digest_86 G a0 n M v1 v3) fu M v1 v3 ((0 : Int32))))
def m_X9_digest_33 (G : gS) (a0 : Nat)  : Nat → mS → Int64 → Int32 → Option (mS × Int64)
  | 0, _, _, _ => none
  | n + 1, M, v1, v3 => o_rf (gP G a0 1) (fun q1 => (if (mI M q1 0) ≤ v3 then m_X9_digest_86 G a0 fu M v1 ((0 : Int32)) else m_X9_digest_47 G a0 (fun M v1 v3 => m_X9_digest_33 G a0 n M v1 v3) fu M v1 v3 ((0 : Int32))))
def m_X9_digest_6 (G : gS) (a0 : Nat)  : Nat → mS → Int64 → Int32 → Option (mS × Int64)
  | 0, _, _, _ => none
  | n + 1, M, v1, v3 => (if (11 : Int32) ≤ v3 then m_X9_digest_33 G a0 fu M v1 ((0 : Int32)) else o_cl (m_X9_count G M a0 v3) (fun M2 r3 => o_bd (((v1 * (31 : Int64)) + (Int32.toInt64 r3))) (fun x5 => o_bd (v3 + 1 : Int32) (fun x6 => m_X9_digest_6 G a0 n M2 x5 x6))))
def m_X9_digest (G : gS) (M : mS) (a0 : Nat) : Option (mS × Int64) := m_X9_digest_6 G a0 fu M ((911 : Int64)) ((0 : Int32))
set_option maxHeartbeats 4000000 in
set_option maxRecDepth 100000 in
theorem b_X9_digest_47 {p : Program} {e : Env} {s : State} {m : MethodId} {args : Array Value} {below : List Frame} {meth : Method} {c : Code} {A : Nat → Prop} {l : Launch} {D : va_G} {cy : cyS} {G : gS} (cx : cX p s m args meth c cX9_digest RX9 5 (some .long) wsX9_digest D cy G A) {k0 n0 : Nat} (hkn : k0 ≤ (rmX9_digest).cells ∧ n0 ≤ (rmX9_digest).slots) {M' : mS} {r : Int64} {a0 : Nat} (hL0 : a0 ∈ gL G) (hK0 : gK G a0 = 8) {kb33 : mS → Int64 → Int32 → Option (mS × Int64)} (hkb33 : ∀ (M : mS) (v1 : Int64) (v3 : Int32) (H : Heap) (locs : List Loc) (ls : Array Slot), kb33 M v1 v3 = some (M', r) → wd D cy G M A s.heap H locs → lv_has ls 5 [(0, .ref a0), (1, .long v1), (3, .int v3)] → W p l e rmX9_digest s m args below meth c H locs k0 n0 (MQ below (va_Ql (fun (r' : Int64) (_ : Unit) => r' = r) (fun _ t => wOut D cy G M' t) A) args s k0 n0 A) (F0 m 33 ls [])) : ∀ (n : Nat), ∀ (M : mS) (v1 : Int64) (v3 : Int32) (v4 : Int32) (H : Heap) (locs : List Loc) (ls : Array Slot), m_X9_digest_47 G a0 kb33 n M v1 v3 v4 = some (M', r) → wd D cy G M A s.heap H locs → lv_has ls 5 [(0, .ref a0), (1, .long v1), (3, .int v3), (4, .int v4)] → W p l e rmX9_digest s m args below meth c H locs k0 n0 (MQ below (va_Ql (fun (r' : Int64) (_ : Unit) => r' = r) (fun _ t => wOut D cy G M' t) A) args s k0 n0 A) (F0 m 47 ls []) := by
  obtain ⟨hx, hb, hml, hown, hts, hr, hlocks, hK, hA, hG, hsx⟩ := id cx
  intro n
  induction n with
  | zero =>
    intro M v1 v3 v4 H locs ls h w hl
    have h : none = some _ := h
    cases h
  | succ n ih =>
    intro M v1 v3 v4 H locs ls h w hl
    rw [m_X9_digest_47] at h
    refine lv_iload hx hb dX9_digest_47 (lv_at hl 3 rfl) ?_
    refine lv_bipush (v := (6 : Int32)) hx hb dX9_digest_49 (by decide) ?_
    refine lv_icmp_ge (tgt := 78) hx hb dX9_digest_51 (by decide) (fun k1 => ?_) (fun k1 => ?_)
    · have h := x_t h k1
      obtain ⟨x2, ex2, h⟩ := x_bd h
      refine lv_iinc (v := x2) (lv' := [(3, .int x2), (0, .ref a0), (1, .long v1), (4, .int v4)]) hx hb dX9_digest_78 hl (k := 2) rfl (by rw [ex2]; rfl) (by decide) rfl (fun ls hl => ?_)
      refine lv_goto (tgt := 33) hx hb dX9_digest_81 (by decide) ?_
      exact hkb33 M v1 x2 H locs ls h w (lv_sub hl [1, 2, 0] rfl)
    · have h := x_f h k1
      refine lv_lload_n hx hb dX9_digest_54 rfl (lv_at hl 1 rfl) ?_
      refine lv_ldc2 (v := 31) hx hb hown (hts (.constantLong RX9 217 (31)) (List.mem_of_getElem? (i := 2) rfl)) dX9_digest_55 ?_
      refine lv_lmul hx hb dX9_digest_58 ?_
      refine lv_aload_n hx hb dX9_digest_59 rfl (lv_at hl 0 rfl) ?_
      obtain ⟨q3, eq3, h⟩ := x_rf h
      obtain ⟨hLq3, hKq3⟩ := wt_q hG hL0 hK0 eq3
      have hKq3 : gK G q3 = 2 := hKq3
      refine r_getR (k := 1) cx w hL0 hK0 (by decide) rfl wi_X9_digest_X9 (by decide) rfl eq3 (List.mem_of_getElem? (i := 3) rfl) dX9_digest_60 ?_
      refine lv_iload_n hx hb dX9_digest_63 rfl (lv_at hl 2 rfl) ?_
      refine lv_iload hx hb dX9_digest_64 (lv_at hl 3 rfl) ?_
      obtain ⟨M4, r5, y6, h⟩ := x_cl h
      refine r_callVi (As := [.int v3, .int v4]) (rest := [.long ((v1 * (31 : Int64)))]) cx w hkn hl.1 (k_X3_turnFor hG hLq3 hKq3 y6) (cwV 2 hts gX9_digest_X3_turnFor rfl rfl rfl (by decide +kernel) ⟨Nat.le_of_ble_eq_true rfl, Nat.le_of_ble_eq_true rfl⟩) hLq3 hKq3 (by decide) rfl rfl rfl (Nat.le_of_ble_eq_true rfl) dX9_digest_66 (fun H locs w => ?_)
      refine lv_i2l (v := (Int32.toInt64 r5)) hx hb dX9_digest_69 rfl ?_
      refine lv_ladd hx hb dX9_digest_70 ?_
      obtain ⟨x7, ex7, h⟩ := x_bd h
      refine r_topJ ex7 ?_
      refine lv_lstore_n (lv' := [(1, .long x7), (0, .ref a0), (3, .int v3), (4, .int v4)]) hx hb dX9_digest_71 rfl hl (by decide) rfl (fun ls hl => ?_)
      obtain ⟨x8, ex8, h⟩ := x_bd h
      refine lv_iinc (v := x8) (lv' := [(4, .int x8), (1, .long x7), (0, .ref a0), (3, .int v3)]) hx hb dX9_digest_72 hl (k := 3) rfl (by rw [ex8]; rfl) (by decide) rfl (fun ls hl => ?_)
      refine lv_goto (tgt := 47) hx hb dX9_digest_75 (by decide) ?_
      exact ih M4 x7 v3 x8 H locs ls h w (lv_sub hl [2, 1, 3, 0] rfl)
set_option maxHeartbeats 4000000 in
set_option maxRecDepth 100000 in
theorem b_X9_digest_100 {p : Program} {e : Env} {s : State} {m : MethodId} {args : Array Value} {below : List Frame} {meth : Method} {c : Code} {A : Nat → Prop} {l : Launch} {D : va_G} {cy : cyS} {G : gS} (cx : cX p s m args meth c cX9_digest RX9 5 (some .long) wsX9_digest D cy G A) {k0 n0 : Nat} (hkn : k0 ≤ (rmX9_digest).cells ∧ n0 ≤ (rmX9_digest).slots) {M' : mS} {r : Int64} {a0 : Nat} (hL0 : a0 ∈ gL G) (hK0 : gK G a0 = 8) {kb86 : mS → Int64 → Int32 → Option (mS × Int64)} (hkb86 : ∀ (M : mS) (v1 : Int64) (v3 : Int32) (H : Heap) (locs : List Loc) (ls : Array Slot), kb86 M v1 v3 = some (M', r) → wd D cy G M A s.heap H locs → lv_has ls 5 [(0, .ref a0), (1, .long v1), (3, .int v3)] → W p l e rmX9_digest s m args below meth c H locs k0 n0 (MQ below (va_Ql (fun (r' : Int64) (_ : Unit) => r' = r) (fun _ t => wOut D cy G M' t) A) args s k0 n0 A) (F0 m 86 ls [])) : ∀ (n : Nat), ∀ (M : mS) (v1 : Int64) (v3 : Int32) (v4 : Int32) (H : Heap) (locs : List Loc) (ls : Array Slot), m_X9_digest_100 G a0 kb86 n M v1 v3 v4 = some (M', r) → wd D cy G M A s.heap H locs → lv_has ls 5 [(0, .ref a0), (1, .long v1), (3, .int v3), (4, .int v4)] → W p l e rmX9_digest s m args below meth c H locs k0 n0 (MQ below (va_Ql (fun (r' : Int64) (_ : Unit) => r' = r) (fun _ t => wOut D cy G M' t) A) args s k0 n0 A) (F0 m 100 ls []) := by
  obtain ⟨hx, hb, hml, hown, hts, hr, hlocks, hK, hA, hG, hsx⟩ := id cx
  intro n
  induction n with
  | zero =>
    intro M v1 v3 v4 H locs ls h w hl
    have h : none = some _ := h
    cases h
  | succ n ih =>
    intro M v1 v3 v4 H locs ls h w hl
    rw [m_X9_digest_100] at h
    refine lv_iload hx hb dX9_digest_100 (lv_at hl 3 rfl) ?_
    refine lv_bipush (v := (9 : Int32)) hx hb dX9_digest_102 (by decide) ?_
    refine lv_icmp_ge (tgt := 135) hx hb dX9_digest_104 (by decide) (fun k1 => ?_) (fun k1 => ?_)
    · have h := x_t h k1
      obtain ⟨x2, ex2, h⟩ := x_bd h
      refine lv_iinc (v := x2) (lv' := [(3, .int x2), (0, .ref a0), (1, .long v1), (4, .int v4)]) hx hb dX9_digest_135 hl (k := 2) rfl (by rw [ex2]; rfl) (by decide) rfl (fun ls hl => ?_)
      refine lv_goto (tgt := 86) hx hb dX9_digest_138 (by decide) ?_
      exact hkb86 M v1 x2 H locs ls h w (lv_sub hl [1, 2, 0] rfl)
    · have h := x_f h k1
      refine lv_lload_n hx hb dX9_digest_107 rfl (lv_at hl 1 rfl) ?_
      refine lv_ldc2 (v := 31) hx hb hown (hts (.constantLong RX9 217 (31)) (List.mem_of_getElem? (i := 2) rfl)) dX9_digest_108 ?_
      refine lv_lmul hx hb dX9_digest_111 ?_
      refine lv_aload_n hx hb dX9_digest_112 rfl (lv_at hl 0 rfl) ?_
      obtain ⟨q3, eq3, h⟩ := x_rf h
      obtain ⟨hLq3, hKq3⟩ := wt_q hG hL0 hK0 eq3
      have hKq3 : gK G q3 = 7 := hKq3
      refine r_getR (k := 2) cx w hL0 hK0 (by decide) rfl wi_X9_digest_X9 (by decide) rfl eq3 (List.mem_of_getElem? (i := 5) rfl) dX9_digest_113 ?_
      obtain ⟨q4, eq4, h⟩ := x_rf h
      obtain ⟨hLq4, hKq4⟩ := wt_q hG hLq3 hKq3 eq4
      have hKq4 : gK G q4 = 14 := hKq4
      refine r_getR (k := 3) cx w hLq3 hKq3 (by decide) rfl wi_X9_digest_X8 (by decide) rfl eq4 (List.mem_of_getElem? (i := 7) rfl) dX9_digest_116 ?_
      refine lv_iload_n hx hb dX9_digest_119 rfl (lv_at hl 2 rfl) ?_
      obtain ⟨z5, h⟩ := x_ix h
      obtain ⟨q6, eq6, h⟩ := x_rf h
      obtain ⟨hLq6, hKq6⟩ := wt_q hG hLq4 hKq4 eq6
      have hKq6 : gK G q6 = 0 := hKq6
      refine r_aald cx w hLq4 hKq4 z5 eq6 dX9_digest_120 ?_
      refine lv_iload hx hb dX9_digest_121 (lv_at hl 3 rfl) ?_
      obtain ⟨M7, r8, y9, h⟩ := x_cl h
      refine r_callVi (As := [.int v4]) (rest := [.long ((v1 * (31 : Int64)))]) cx w hkn hl.1 (k_X0_answer hG hLq6 hKq6 y9) (cwV 1 hts gX9_digest_X0_answer rfl rfl rfl (by decide +kernel) ⟨Nat.le_of_ble_eq_true rfl, Nat.le_of_ble_eq_true rfl⟩) hLq6 hKq6 (by decide) rfl rfl rfl (Nat.le_of_ble_eq_true rfl) dX9_digest_123 (fun H locs w => ?_)
      refine lv_i2l (v := (Int32.toInt64 r8)) hx hb dX9_digest_126 rfl ?_
      refine lv_ladd hx hb dX9_digest_127 ?_
      obtain ⟨x10, ex10, h⟩ := x_bd h
      refine r_topJ ex10 ?_
      refine lv_lstore_n (lv' := [(1, .long x10), (0, .ref a0), (3, .int v3), (4, .int v4)]) hx hb dX9_digest_128 rfl hl (by decide) rfl (fun ls hl => ?_)
      obtain ⟨x11, ex11, h⟩ := x_bd h
      refine lv_iinc (v := x11) (lv' := [(4, .int x11), (1, .long x10), (0, .ref a0), (3, .int v3)]) hx hb dX9_digest_129 hl (k := 3) rfl (by rw [ex11]; rfl) (by decide) rfl (fun ls hl => ?_)
      refine lv_goto (tgt := 100) hx hb dX9_digest_132 (by decide) ?_
      exact ih M7 x10 v3 x11 H locs ls h w (lv_sub hl [2, 1, 3, 0] rfl)
set_option maxHeartbeats 4000000 in
set_option maxRecDepth 100000 in
theorem b_X9_digest_143 {p : Program} {e : Env} {s : State} {m : MethodId} {args : Array Value} {below : List Frame} {meth : Method} {c : Code} {A : Nat → Prop} {l : Launch} {D : va_G} {cy : cyS} {G : gS} (cx : cX p s m args meth c cX9_digest RX9 5 (some .long) wsX9_digest D cy G A) {k0 n0 : Nat} (hkn : k0 ≤ (rmX9_digest).cells ∧ n0 ≤ (rmX9_digest).slots) {M' : mS} {r : Int64} {a0 : Nat} (hL0 : a0 ∈ gL G) (hK0 : gK G a0 = 8)  : ∀ (n : Nat), ∀ (M : mS) (v1 : Int64) (v3 : Int32) (H : Heap) (locs : List Loc) (ls : Array Slot), m_X9_digest_143 G a0 n M v1 v3 = some (M', r) → wd D cy G M A s.heap H locs → lv_has ls 5 [(0, .ref a0), (1, .long v1), (3, .int v3)] → W p l e rmX9_digest s m args below meth c H locs k0 n0 (MQ below (va_Ql (fun (r' : Int64) (_ : Unit) => r' = r) (fun _ t => wOut D cy G M' t) A) args s k0 n0 A) (F0 m 143 ls []) := by
  obtain ⟨hx, hb, hml, hown, hts, hr, hlocks, hK, hA, hG, hsx⟩ := id cx
  intro n
  induction n with
  | zero =>
    intro M v1 v3 H locs ls h w hl
    have h : none = some _ := h
    cases h
  | succ n ih =>
    intro M v1 v3 H locs ls h w hl
    rw [m_X9_digest_143] at h
    refine lv_iload_n hx hb dX9_digest_143 rfl (lv_at hl 2 rfl) ?_
    refine lv_sipush (v := (4096 : Int32)) hx hb dX9_digest_144 (by decide) ?_
    refine lv_icmp_ge (tgt := 172) hx hb dX9_digest_147 (by decide) (fun k1 => ?_) (fun k1 => ?_)
    · have h := x_t h k1
      refine lv_lload_n hx hb dX9_digest_172 rfl (lv_at hl 1 rfl) ?_
      exact r_lret cx w h dX9_digest_173
    · have h := x_f h k1
      refine lv_lload_n hx hb dX9_digest_150 rfl (lv_at hl 1 rfl) ?_
      refine lv_ldc2 (v := 31) hx hb hown (hts (.constantLong RX9 217 (31)) (List.mem_of_getElem? (i := 2) rfl)) dX9_digest_151 ?_
      refine lv_lmul hx hb dX9_digest_154 ?_
      refine lv_aload_n hx hb dX9_digest_155 rfl (lv_at hl 0 rfl) ?_
      obtain ⟨q2, eq2, h⟩ := x_rf h
      obtain ⟨hLq2, hKq2⟩ := wt_q hG hL0 hK0 eq2
      have hKq2 : gK G q2 = 7 := hKq2
      refine r_getR (k := 2) cx w hL0 hK0 (by decide) rfl wi_X9_digest_X9 (by decide) rfl eq2 (List.mem_of_getElem? (i := 5) rfl) dX9_digest_156 ?_
      refine lv_iload_n hx hb dX9_digest_159 rfl (lv_at hl 2 rfl) ?_
      obtain ⟨M3, r4, y5, h⟩ := x_cl h
      refine r_callVi (As := [.int v3]) (rest := [.long ((v1 * (31 : Int64)))]) cx w hkn hl.1 (k_X8_colourAt hG hLq2 hKq2 y5) (cwV 1 hts gX9_digest_X8_colourAt rfl rfl rfl (by decide +kernel) ⟨Nat.le_of_ble_eq_true rfl, Nat.le_of_ble_eq_true rfl⟩) hLq2 hKq2 (by decide) rfl rfl rfl (Nat.le_of_ble_eq_true rfl) dX9_digest_160 (fun H locs w => ?_)
      refine lv_i2l (v := (Int32.toInt64 r4)) hx hb dX9_digest_163 rfl ?_
      refine lv_ladd hx hb dX9_digest_164 ?_
      obtain ⟨x6, ex6, h⟩ := x_bd h
      refine r_topJ ex6 ?_
      refine lv_lstore_n (lv' := [(1, .long x6), (0, .ref a0), (3, .int v3)]) hx hb dX9_digest_165 rfl hl (by decide) rfl (fun ls hl => ?_)
      obtain ⟨x7, ex7, h⟩ := x_bd h
      refine lv_iinc (v := x7) (lv' := [(3, .int x7), (1, .long x6), (0, .ref a0)]) hx hb dX9_digest_166 hl (k := 2) rfl (by rw [ex7]; rfl) (by decide) rfl (fun ls hl => ?_)
      refine lv_goto (tgt := 143) hx hb dX9_digest_169 (by decide) ?_
      exact ih M3 x6 x7 H locs ls h w (lv_sub hl [2, 1, 0] rfl)
set_option maxHeartbeats 4000000 in
set_option maxRecDepth 100000 in
theorem b_X9_digest_86 {p : Program} {e : Env} {s : State} {m : MethodId} {args : Array Value} {below : List Frame} {meth : Method} {c : Code} {A : Nat → Prop} {l : Launch} {D : va_G} {cy : cyS} {G : gS} (cx : cX p s m args meth c cX9_digest RX9 5 (some .long) wsX9_digest D cy G A) {k0 n0 : Nat} (hkn : k0 ≤ (rmX9_digest).cells ∧ n0 ≤ (rmX9_digest).slots) {M' : mS} {r : Int64} {a0 : Nat} (hL0 : a0 ∈ gL G) (hK0 : gK G a0 = 8)  : ∀ (n : Nat), ∀ (M : mS) (v1 : Int64) (v3 : Int32) (H : Heap) (locs : List Loc) (ls : Array Slot), m_X9_digest_86 G a0 n M v1 v3 = some (M', r) → wd D cy G M A s.heap H locs → lv_has ls 5 [(0, .ref a0), (1, .long v1), (3, .int v3)] → W p l e rmX9_digest s m args below meth c H locs k0 n0 (MQ below (va_Ql (fun (r' : Int64) (_ : Unit) => r' = r) (fun _ t => wOut D cy G M' t) A) args s k0 n0 A) (F0 m 86 ls []) := by
  obtain ⟨hx, hb, hml, hown, hts, hr, hlocks, hK, hA, hG, hsx⟩ := id cx
  intro n
  induction n with
  | zero =>
    intro M v1 v3 H locs ls h w hl
    have h : none = some _ := h
    cases h
  | succ n ih =>
    intro M v1 v3 H locs ls h w hl
    rw [m_X9_digest_86] at h
    refine lv_iload_n hx hb dX9_digest_86 rfl (lv_at hl 2 rfl) ?_
    refine lv_aload_n hx hb dX9_digest_87 rfl (lv_at hl 0 rfl) ?_
    obtain ⟨q1, eq1, h⟩ := x_rf h
    obtain ⟨hLq1, hKq1⟩ := wt_q hG hL0 hK0 eq1
    have hKq1 : gK G q1 = 7 := hKq1
    refine r_getR (k := 2) cx w hL0 hK0 (by decide) rfl wi_X9_digest_X9 (by decide) rfl eq1 (List.mem_of_getElem? (i := 5) rfl) dX9_digest_88 ?_
    refine r_getI (k := 4) (v := .int (mI M q1 4)) cx w hLq1 hKq1 (by decide) rfl wi_X9_digest_X8 (by decide) rfl (List.mem_of_getElem? (i := 6) rfl) dX9_digest_91 ?_
    refine lv_icmp_ge (tgt := 141) hx hb dX9_digest_94 (by decide) (fun k2 => ?_) (fun k2 => ?_)
    · have h := x_t h k2
      refine lv_iconst (v := (0 : Int32)) hx hb dX9_digest_141 (by decide) ?_
      refine lv_istore_n (lv' := [(3, .int ((0 : Int32))), (0, .ref a0), (1, .long v1)]) hx hb dX9_digest_142 rfl hl (by decide) rfl (fun ls hl => ?_)
      exact b_X9_digest_143 cx hkn hL0 hK0 fu M v1 ((0 : Int32)) H locs ls h w (lv_sub hl [1, 2, 0] rfl)
    · have h := x_f h k2
      refine lv_iconst (v := (0 : Int32)) hx hb dX9_digest_97 (by decide) ?_
      refine lv_istore (lv' := [(4, .int ((0 : Int32))), (0, .ref a0), (1, .long v1), (3, .int v3)]) hx hb dX9_digest_98 hl (by decide) rfl (fun ls hl => ?_)
      exact b_X9_digest_100 cx hkn hL0 hK0 (hkb86 := ih) fu M v1 v3 ((0 : Int32)) H locs ls h w (lv_sub hl [1, 2, 3, 0] rfl)
set_option maxHeartbeats 4000000 in
set_option maxRecDepth 100000 in
theorem b_X9_digest_33 {p : Program} {e : Env} {s : State} {m : MethodId} {args : Array Value} {below : List Frame} {meth : Method} {c : Code} {A : Nat → Prop} {l : Launch} {D : va_G} {cy : cyS} {G : gS} (cx : cX p s m args meth c cX9_digest RX9 5 (some .long) wsX9_digest D cy G A) {k0 n0 : Nat} (hkn : k0 ≤ (rmX9_digest).cells ∧ n0 ≤ (rmX9_digest).slots) {M' : mS} {r : Int64} {a0 : Nat} (hL0 : a0 ∈ gL G) (hK0 : gK G a0 = 8)  : ∀ (n : Nat), ∀ (M : mS) (v1 : Int64) (v3 : Int32) (H : Heap) (locs : List Loc) (ls : Array Slot), m_X9_digest_33 G a0 n M v1 v3 = some (M', r) → wd D cy G M A s.heap H locs → lv_has ls 5 [(0, .ref a0), (1, .long v1), (3, .int v3)] → W p l e rmX9_digest s m args below meth c H locs k0 n0 (MQ below (va_Ql (fun (r' : Int64) (_ : Unit) => r' = r) (fun _ t => wOut D cy G M' t) A) args s k0 n0 A) (F0 m 33 ls []) := by
  obtain ⟨hx, hb, hml, hown, hts, hr, hlocks, hK, hA, hG, hsx⟩ := id cx
  intro n
  induction n with
  | zero =>
    intro M v1 v3 H locs ls h w hl
    have h : none = some _ := h
    cases h
  | succ n ih =>
    intro M v1 v3 H locs ls h w hl
    rw [m_X9_digest_33] at h
    refine lv_iload_n hx hb dX9_digest_33 rfl (lv_at hl 2 rfl) ?_
    refine lv_aload_n hx hb dX9_digest_34 rfl (lv_at hl 0 rfl) ?_
    obtain ⟨q1, eq1, h⟩ := x_rf h
    obtain ⟨hLq1, hKq1⟩ := wt_q hG hL0 hK0 eq1
    have hKq1 : gK G q1 = 2 := hKq1
    refine r_getR (k := 1) cx w hL0 hK0 (by decide) rfl wi_X9_digest_X9 (by decide) rfl eq1 (List.mem_of_getElem? (i := 3) rfl) dX9_digest_35 ?_
    refine r_getI (k := 0) (v := .int (mI M q1 0)) cx w hLq1 hKq1 (by decide) rfl wi_X9_digest_X3 (by decide) rfl (List.mem_of_getElem? (i := 4) rfl) dX9_digest_38 ?_
    refine lv_icmp_ge (tgt := 84) hx hb dX9_digest_41 (by decide) (fun k2 => ?_) (fun k2 => ?_)
    · have h := x_t h k2
      refine lv_iconst (v := (0 : Int32)) hx hb dX9_digest_84 (by decide) ?_
      refine lv_istore_n (lv' := [(3, .int ((0 : Int32))), (0, .ref a0), (1, .long v1)]) hx hb dX9_digest_85 rfl hl (by decide) rfl (fun ls hl => ?_)
      exact b_X9_digest_86 cx hkn hL0 hK0 fu M v1 ((0 : Int32)) H locs ls h w (lv_sub hl [1, 2, 0] rfl)
    · have h := x_f h k2
      refine lv_iconst (v := (0 : Int32)) hx hb dX9_digest_44 (by decide) ?_
      refine lv_istore (lv' := [(4, .int ((0 : Int32))), (0, .ref a0), (1, .long v1), (3, .int v3)]) hx hb dX9_digest_45 hl (by decide) rfl (fun ls hl => ?_)
      exact b_X9_digest_47 cx hkn hL0 hK0 (hkb33 := ih) fu M v1 v3 ((0 : Int32)) H locs ls h w (lv_sub hl [1, 2, 3, 0] rfl)
set_option maxHeartbeats 4000000 in
set_option maxRecDepth 100000 in
theorem b_X9_digest_6 {p : Program} {e : Env} {s : State} {m : MethodId} {args : Array Value} {below : List Frame} {meth : Method} {c : Code} {A : Nat → Prop} {l : Launch} {D : va_G} {cy : cyS} {G : gS} (cx : cX p s m args meth c cX9_digest RX9 5 (some .long) wsX9_digest D cy G A) {k0 n0 : Nat} (hkn : k0 ≤ (rmX9_digest).cells ∧ n0 ≤ (rmX9_digest).slots) {M' : mS} {r : Int64} {a0 : Nat} (hL0 : a0 ∈ gL G) (hK0 : gK G a0 = 8)  : ∀ (n : Nat), ∀ (M : mS) (v1 : Int64) (v3 : Int32) (H : Heap) (locs : List Loc) (ls : Array Slot), m_X9_digest_6 G a0 n M v1 v3 = some (M', r) → wd D cy G M A s.heap H locs → lv_has ls 5 [(0, .ref a0), (1, .long v1), (3, .int v3)] → W p l e rmX9_digest s m args below meth c H locs k0 n0 (MQ below (va_Ql (fun (r' : Int64) (_ : Unit) => r' = r) (fun _ t => wOut D cy G M' t) A) args s k0 n0 A) (F0 m 6 ls []) := by
  obtain ⟨hx, hb, hml, hown, hts, hr, hlocks, hK, hA, hG, hsx⟩ := id cx
  intro n
  induction n with
  | zero =>
    intro M v1 v3 H locs ls h w hl
    have h : none = some _ := h
    cases h
  | succ n ih =>
    intro M v1 v3 H locs ls h w hl
    rw [m_X9_digest_6] at h
    refine lv_iload_n hx hb dX9_digest_6 rfl (lv_at hl 2 rfl) ?_
    refine lv_bipush (v := (11 : Int32)) hx hb dX9_digest_7 (by decide) ?_
    refine lv_icmp_ge (tgt := 31) hx hb dX9_digest_9 (by decide) (fun k1 => ?_) (fun k1 => ?_)
    · have h := x_t h k1
      refine lv_iconst (v := (0 : Int32)) hx hb dX9_digest_31 (by decide) ?_
      refine lv_istore_n (lv' := [(3, .int ((0 : Int32))), (0, .ref a0), (1, .long v1)]) hx hb dX9_digest_32 rfl hl (by decide) rfl (fun ls hl => ?_)
      exact b_X9_digest_33 cx hkn hL0 hK0 fu M v1 ((0 : Int32)) H locs ls h w (lv_sub hl [1, 2, 0] rfl)
    · have h := x_f h k1
      refine lv_lload_n hx hb dX9_digest_12 rfl (lv_at hl 1 rfl) ?_
      refine lv_ldc2 (v := 31) hx hb hown (hts (.constantLong RX9 217 (31)) (List.mem_of_getElem? (i := 2) rfl)) dX9_digest_13 ?_
      refine lv_lmul hx hb dX9_digest_16 ?_
      refine lv_aload_n hx hb dX9_digest_17 rfl (lv_at hl 0 rfl) ?_
      refine lv_iload_n hx hb dX9_digest_18 rfl (lv_at hl 2 rfl) ?_
      obtain ⟨M2, r3, y4, h⟩ := x_cl h
      refine r_callVi (As := [.int v3]) (rest := [.long ((v1 * (31 : Int64)))]) cx w hkn hl.1 (k_X9_count hG hL0 hK0 y4) (cwV 1 hts gX9_digest_X9_count rfl rfl rfl (by decide +kernel) ⟨Nat.le_of_ble_eq_true rfl, Nat.le_of_ble_eq_true rfl⟩) hL0 hK0 (by decide) rfl rfl rfl (Nat.le_of_ble_eq_true rfl) dX9_digest_19 (fun H locs w => ?_)
      refine lv_i2l (v := (Int32.toInt64 r3)) hx hb dX9_digest_22 rfl ?_
      refine lv_ladd hx hb dX9_digest_23 ?_
      obtain ⟨x5, ex5, h⟩ := x_bd h
      refine r_topJ ex5 ?_
      refine lv_lstore_n (lv' := [(1, .long x5), (0, .ref a0), (3, .int v3)]) hx hb dX9_digest_24 rfl hl (by decide) rfl (fun ls hl => ?_)
      obtain ⟨x6, ex6, h⟩ := x_bd h
      refine lv_iinc (v := x6) (lv' := [(3, .int x6), (1, .long x5), (0, .ref a0)]) hx hb dX9_digest_25 hl (k := 2) rfl (by rw [ex6]; rfl) (by decide) rfl (fun ls hl => ?_)
      refine lv_goto (tgt := 6) hx hb dX9_digest_28 (by decide) ?_
      exact ih M2 x5 x6 H locs ls h w (lv_sub hl [2, 1, 0] rfl)
set_option maxHeartbeats 4000000 in
set_option maxRecDepth 100000 in
theorem k_X9_digest {l : Launch} {D : va_G} {cy : cyS} {G : gS} {M M' : mS} {r : Int64} {a0 : Nat} (hG : wt G) (hL0 : a0 ∈ gL G) (hK0 : gK G a0 = 8) (h : m_X9_digest G M a0 = some (M', r)) : ctL l yX9_digest wsX9_digest rmX9_digest D cy G M [.ref a0] M' r := by
  unfold m_X9_digest at h
  refine ctL_of (cc := cX9_digest) (nL := 5) (ret := (some .long)) (lv := [(0, .ref a0)]) hG (by decide) rfl ⟨rfl, rfl⟩ (Nat.le_of_ble_eq_true rfl) rfl ?_
  intro p e s m args below meth c A ls cx w hl
  obtain ⟨hx, hb, hml, hown, hts, hr, hlocks, hK, hA, -, hsx⟩ := id cx
  have hkn : 0 ≤ (rmX9_digest).cells ∧ 0 ≤ (rmX9_digest).slots := ⟨Nat.zero_le _, Nat.zero_le _⟩
  refine lv_ldc2 (v := 911) hx hb hown (hts (.constantLong RX9 215 (911)) (List.mem_of_getElem? (i := 1) rfl)) dX9_digest_0 ?_
  refine lv_lstore_n (lv' := [(1, .long ((911 : Int64))), (0, .ref a0)]) hx hb dX9_digest_3 rfl hl (by decide) rfl (fun ls hl => ?_)
  refine lv_iconst (v := (0 : Int32)) hx hb dX9_digest_4 (by decide) ?_
  refine lv_istore_n (lv' := [(3, .int ((0 : Int32))), (1, .long ((911 : Int64))), (0, .ref a0)]) hx hb dX9_digest_5 rfl hl (by decide) rfl (fun ls hl => ?_)
  exact b_X9_digest_6 cx hkn hL0 hK0 fu M ((911 : Int64)) ((0 : Int32)) s.heap [] ls h w (lv_sub hl [2, 1, 0] rfl)
-- X9_colour
theorem wi_X9_colour_X8 : ∀ w ∈ wsX80, w ∈ wsX9_colour := by decide +kernel
theorem wi_X9_colour_X9 : ∀ w ∈ wsX90, w ∈ wsX9_colour := by decide +kernel
abbrev rmX9_colour : Room := { frames := 1, cells := 0, slots := 0, locals := 20 }
def m_X9_colour (G : gS) (M : mS) (a0 : Nat) (c1 : Int32) : Option (mS × Int32) := o_cl (m_X9_isColour G M c1) (fun M1 r2 => (if r2 = 0 then none else o_rf (gP G a0 2) (fun q5 => o_rf (gP G q5 2) (fun q6 => o_ix c1 (gN G q6) (some (M1, (mI M1 q6 (Int32.toNatClampNeg c1))))))))
set_option maxHeartbeats 4000000 in
set_option maxRecDepth 100000 in
theorem k_X9_colour {l : Launch} {D : va_G} {cy : cyS} {G : gS} {M M' : mS} {r : Int32} {a0 : Nat} {c1 : Int32} (hG : wt G) (hL0 : a0 ∈ gL G) (hK0 : gK G a0 = 8) (h : m_X9_colour G M a0 c1 = some (M', r)) : ctI l yX9_colour wsX9_colour rmX9_colour D cy G M [.ref a0, .int c1] M' r := by
  unfold m_X9_colour at h
  refine ctI_of (cc := cX9_colour) (nL := 2) (ret := (some .int)) (lv := [(0, .ref a0), (1, .int c1)]) hG (by decide) rfl ⟨rfl, rfl⟩ (Nat.le_of_ble_eq_true rfl) rfl ?_
  intro p e s m args below meth c A ls cx w hl
  obtain ⟨hx, hb, hml, hown, hts, hr, hlocks, hK, hA, -, hsx⟩ := id cx
  have hkn : 0 ≤ (rmX9_colour).cells ∧ 0 ≤ (rmX9_colour).slots := ⟨Nat.zero_le _, Nat.zero_le _⟩
  refine lv_iload_n hx hb dX9_colour_0 rfl (lv_at hl 1 rfl) ?_
  obtain ⟨M1, r2, y3, h⟩ := x_cl h
  refine r_callSi (As := [.int c1]) (rest := []) cx w hkn hl.1 (k_X9_isColour hG y3) (va_cwS 1 hts gX9_colour_X9_isColour rfl rfl rfl (by decide +kernel) ⟨Nat.le_of_ble_eq_true rfl, Nat.le_of_ble_eq_true rfl⟩) rfl rfl (Nat.le_of_ble_eq_true rfl) dX9_colour_1 (fun H locs w => ?_)
  refine lv_if_ne (tgt := 17) hx hb dX9_colour_4 (by decide) (fun k4 => ?_) (fun k4 => ?_)
  · have h := x_f h k4
    refine lv_aload_n hx hb dX9_colour_17 rfl (lv_at hl 0 rfl) ?_
    obtain ⟨q5, eq5, h⟩ := x_rf h
    obtain ⟨hLq5, hKq5⟩ := wt_q hG hL0 hK0 eq5
    have hKq5 : gK G q5 = 7 := hKq5
    refine r_getR (k := 2) cx w hL0 hK0 (by decide) rfl wi_X9_colour_X9 (by decide) rfl eq5 (List.mem_of_getElem? (i := 3) rfl) dX9_colour_18 ?_
    obtain ⟨q6, eq6, h⟩ := x_rf h
    obtain ⟨hLq6, hKq6⟩ := wt_q hG hLq5 hKq5 eq6
    have hKq6 : gK G q6 = 12 := hKq6
    refine r_getR (k := 2) cx w hLq5 hKq5 (by decide) rfl wi_X9_colour_X8 (by decide) rfl eq6 (List.mem_of_getElem? (i := 4) rfl) dX9_colour_21 ?_
    refine lv_iload_n hx hb dX9_colour_24 rfl (lv_at hl 1 rfl) ?_
    obtain ⟨z7, h⟩ := x_ix h
    refine r_iald cx w hLq6 hKq6 z7 dX9_colour_25 ?_
    exact r_iret cx w h dX9_colour_26
  · have h := x_t h k4
    have h : none = some _ := h
    cases h
-- X9_row
theorem wi_X9_row_X8 : ∀ w ∈ wsX80, w ∈ wsX9_row := by decide +kernel
theorem wi_X9_row_X9 : ∀ w ∈ wsX90, w ∈ wsX9_row := by decide +kernel
abbrev rmX9_row : Room := { frames := 1, cells := 0, slots := 0, locals := 20 }
def m_X9_row (G : gS) (M : mS) (a0 : Nat) (c1 : Int32) : Option (mS × Int32) := o_cl (m_X9_isLine G M c1) (fun M1 r2 => (if r2 = 0 then none else o_rf (gP G a0 2) (fun q5 => o_rf (gP G q5 1) (fun q6 => o_ix c1 (gN G q6) (some (M1, (mI M1 q6 (Int32.toNatClampNeg c1))))))))
set_option maxHeartbeats 4000000 in
set_option maxRecDepth 100000 in
theorem k_X9_row {l : Launch} {D : va_G} {cy : cyS} {G : gS} {M M' : mS} {r : Int32} {a0 : Nat} {c1 : Int32} (hG : wt G) (hL0 : a0 ∈ gL G) (hK0 : gK G a0 = 8) (h : m_X9_row G M a0 c1 = some (M', r)) : ctI l yX9_row wsX9_row rmX9_row D cy G M [.ref a0, .int c1] M' r := by
  unfold m_X9_row at h
  refine ctI_of (cc := cX9_row) (nL := 2) (ret := (some .int)) (lv := [(0, .ref a0), (1, .int c1)]) hG (by decide) rfl ⟨rfl, rfl⟩ (Nat.le_of_ble_eq_true rfl) rfl ?_
  intro p e s m args below meth c A ls cx w hl
  obtain ⟨hx, hb, hml, hown, hts, hr, hlocks, hK, hA, -, hsx⟩ := id cx
  have hkn : 0 ≤ (rmX9_row).cells ∧ 0 ≤ (rmX9_row).slots := ⟨Nat.zero_le _, Nat.zero_le _⟩
  refine lv_iload_n hx hb dX9_row_0 rfl (lv_at hl 1 rfl) ?_
  obtain ⟨M1, r2, y3, h⟩ := x_cl h
  refine r_callSi (As := [.int c1]) (rest := []) cx w hkn hl.1 (k_X9_isLine hG y3) (va_cwS 1 hts gX9_row_X9_isLine rfl rfl rfl (by decide +kernel) ⟨Nat.le_of_ble_eq_true rfl, Nat.le_of_ble_eq_true rfl⟩) rfl rfl (Nat.le_of_ble_eq_true rfl) dX9_row_1 (fun H locs w => ?_)
  refine lv_if_ne (tgt := 17) hx hb dX9_row_4 (by decide) (fun k4 => ?_) (fun k4 => ?_)
  · have h := x_f h k4
    refine lv_aload_n hx hb dX9_row_17 rfl (lv_at hl 0 rfl) ?_
    obtain ⟨q5, eq5, h⟩ := x_rf h
    obtain ⟨hLq5, hKq5⟩ := wt_q hG hL0 hK0 eq5
    have hKq5 : gK G q5 = 7 := hKq5
    refine r_getR (k := 2) cx w hL0 hK0 (by decide) rfl wi_X9_row_X9 (by decide) rfl eq5 (List.mem_of_getElem? (i := 3) rfl) dX9_row_18 ?_
    obtain ⟨q6, eq6, h⟩ := x_rf h
    obtain ⟨hLq6, hKq6⟩ := wt_q hG hLq5 hKq5 eq6
    have hKq6 : gK G q6 = 12 := hKq6
    refine r_getR (k := 1) cx w hLq5 hKq5 (by decide) rfl wi_X9_row_X8 (by decide) rfl eq6 (List.mem_of_getElem? (i := 4) rfl) dX9_row_21 ?_
    refine lv_iload_n hx hb dX9_row_24 rfl (lv_at hl 1 rfl) ?_
    obtain ⟨z7, h⟩ := x_ix h
    refine r_iald cx w hLq6 hKq6 z7 dX9_row_25 ?_
    exact r_iret cx w h dX9_row_26
  · have h := x_t h k4
    have h : none = some _ := h
    cases h
-- X9_mean
theorem wi_X9_mean_X9 : ∀ w ∈ wsX90, w ∈ wsX9_mean := by decide +kernel
abbrev rmX9_mean : Room := { frames := 1, cells := 0, slots := 0, locals := 22 }
def m_X9_mean (G : gS) (M : mS) (a0 : Nat) : Option (mS × UInt64) := o_rf (gP G a0 2) (fun q1 => o_cl (m_X8_colourSum G M q1) (fun M2 r3 => o_ck ((FP.ddiv (FP.i2d r3) (4661225614328463360 : UInt64)) &&& 0x7fffffffffffffff ≤ 0x7ff0000000000000) (some (M2, (FP.ddiv (FP.i2d r3) (4661225614328463360 : UInt64))))))
set_option maxHeartbeats 4000000 in
set_option maxRecDepth 100000 in
theorem k_X9_mean {l : Launch} {D : va_G} {cy : cyS} {G : gS} {M M' : mS} {r : UInt64} {a0 : Nat} (hG : wt G) (hL0 : a0 ∈ gL G) (hK0 : gK G a0 = 8) (h : m_X9_mean G M a0 = some (M', r)) : ctD l yX9_mean wsX9_mean rmX9_mean D cy G M [.ref a0] M' r := by
  unfold m_X9_mean at h
  refine ctD_of (cc := cX9_mean) (nL := 1) (ret := (some .double)) (lv := [(0, .ref a0)]) hG (by decide) rfl ⟨rfl, rfl⟩ (Nat.le_of_ble_eq_true rfl) rfl ?_
  intro p e s m args below meth c A ls cx w hl
  obtain ⟨hx, hb, hml, hown, hts, hr, hlocks, hK, hA, -, hsx⟩ := id cx
  have hkn : 0 ≤ (rmX9_mean).cells ∧ 0 ≤ (rmX9_mean).slots := ⟨Nat.zero_le _, Nat.zero_le _⟩
  refine lv_aload_n hx hb dX9_mean_0 rfl (lv_at hl 0 rfl) ?_
  obtain ⟨q1, eq1, h⟩ := x_rf h
  obtain ⟨hLq1, hKq1⟩ := wt_q hG hL0 hK0 eq1
  have hKq1 : gK G q1 = 7 := hKq1
  refine r_getR (k := 2) cx w hL0 hK0 (by decide) rfl wi_X9_mean_X9 (by decide) rfl eq1 (List.mem_of_getElem? (i := 1) rfl) dX9_mean_1 ?_
  obtain ⟨M2, r3, y4, h⟩ := x_cl h
  refine r_callVi (As := []) (rest := []) cx w hkn hl.1 (k_X8_colourSum hG hLq1 hKq1 y4) (cwV 0 hts gX9_mean_X8_colourSum rfl rfl rfl (by decide +kernel) ⟨Nat.le_of_ble_eq_true rfl, Nat.le_of_ble_eq_true rfl⟩) hLq1 hKq1 (by decide) rfl rfl rfl (Nat.le_of_ble_eq_true rfl) dX9_mean_4 (fun H locs w => ?_)
  refine lv_i2d hx hb dX9_mean_7 ?_
  refine lv_ldc2d (v := 4661225614328463360) hx hb hown (hts (.constantDouble RX9 213 (4661225614328463360)) (List.mem_of_getElem? (i := 2) rfl)) dX9_mean_8 ?_
  obtain ⟨z5, h⟩ := x_ck h
  refine lv_ddiv hx hb dX9_mean_11 z5 ?_
  exact r_dret cx w h dX9_mean_12
-- X9_ant
theorem wi_X9_ant_X8 : ∀ w ∈ wsX80, w ∈ wsX9_ant := by decide +kernel
theorem wi_X9_ant_X9 : ∀ w ∈ wsX90, w ∈ wsX9_ant := by decide +kernel
abbrev rmX9_ant : Room := { frames := 4, cells := 0, slots := 0, locals := 90 }
def m_X9_ant_18 (G : gS) (a0 : Nat) (c1 : Int32) (c2 : Int32)  (M : mS)  : Option (mS × Int32) := none
def m_X9_ant (G : gS) (M : mS) (a0 : Nat) (c1 : Int32) (c2 : Int32) : Option (mS × Int32) := o_cl (m_X9_isAnt G M a0 c1) (fun M1 r2 => (if r2 = 0 then m_X9_ant_18 G a0 c1 c2 M1 else (if c2 < 0 then m_X9_ant_18 G a0 c1 c2 M1 else (if c2 < (9 : Int32) then o_rf (gP G a0 2) (fun q7 => o_rf (gP G q7 3) (fun q8 => o_ix c1 (gN G q8) (o_rf (gP G q8 (Int32.toNatClampNeg c1)) (fun q10 => o_cl (m_X0_answer G M1 q10 c2) (fun M11 r12 => some (M11, r12)))))) else m_X9_ant_18 G a0 c1 c2 M1))))
set_option maxHeartbeats 4000000 in
set_option maxRecDepth 100000 in
theorem b_X9_ant_18 {p : Program} {e : Env} {s : State} {m : MethodId} {args : Array Value} {below : List Frame} {meth : Method} {c : Code} {A : Nat → Prop} {l : Launch} {D : va_G} {cy : cyS} {G : gS} (cx : cX p s m args meth c cX9_ant RX9 3 (some .int) wsX9_ant D cy G A) {k0 n0 : Nat} (hkn : k0 ≤ (rmX9_ant).cells ∧ n0 ≤ (rmX9_ant).slots) {M' : mS} {r : Int32} {a0 : Nat} {c1 : Int32} {c2 : Int32} (hL0 : a0 ∈ gL G) (hK0 : gK G a0 = 8)  : ∀ (M : mS) (H : Heap) (locs : List Loc) (ls : Array Slot), m_X9_ant_18 G a0 c1 c2 M = some (M', r) → wd D cy G M A s.heap H locs → lv_has ls 3 [] → W p l e rmX9_ant s m args below meth c H locs k0 n0 (MQ below (va_Qi (fun (r' : Int32) (_ : Unit) => r' = r) (fun _ t => wOut D cy G M' t) A) args s k0 n0 A) (F0 m 18 ls []) := by
  obtain ⟨hx, hb, hml, hown, hts, hr, hlocks, hK, hA, hG, hsx⟩ := id cx
  intro M H locs ls h w hl
  unfold m_X9_ant_18 at h
  have h : none = some _ := h
  cases h
set_option maxHeartbeats 4000000 in
set_option maxRecDepth 100000 in
theorem k_X9_ant {l : Launch} {D : va_G} {cy : cyS} {G : gS} {M M' : mS} {r : Int32} {a0 : Nat} {c1 : Int32} {c2 : Int32} (hG : wt G) (hL0 : a0 ∈ gL G) (hK0 : gK G a0 = 8) (h : m_X9_ant G M a0 c1 c2 = some (M', r)) : ctI l yX9_ant wsX9_ant rmX9_ant D cy G M [.ref a0, .int c1, .int c2] M' r := by
  unfold m_X9_ant at h
  refine ctI_of (cc := cX9_ant) (nL := 3) (ret := (some .int)) (lv := [(0, .ref a0), (1, .int c1), (2, .int c2)]) hG (by decide) rfl ⟨rfl, rfl⟩ (Nat.le_of_ble_eq_true rfl) rfl ?_
  intro p e s m args below meth c A ls cx w hl
  obtain ⟨hx, hb, hml, hown, hts, hr, hlocks, hK, hA, -, hsx⟩ := id cx
  have hkn : 0 ≤ (rmX9_ant).cells ∧ 0 ≤ (rmX9_ant).slots := ⟨Nat.zero_le _, Nat.zero_le _⟩
  refine lv_aload_n hx hb dX9_ant_0 rfl (lv_at hl 0 rfl) ?_
  refine lv_iload_n hx hb dX9_ant_1 rfl (lv_at hl 1 rfl) ?_
  obtain ⟨M1, r2, y3, h⟩ := x_cl h
  refine r_callVi (As := [.int c1]) (rest := []) cx w hkn hl.1 (k_X9_isAnt hG hL0 hK0 y3) (cwV 1 hts gX9_ant_X9_isAnt rfl rfl rfl (by decide +kernel) ⟨Nat.le_of_ble_eq_true rfl, Nat.le_of_ble_eq_true rfl⟩) hL0 hK0 (by decide) rfl rfl rfl (Nat.le_of_ble_eq_true rfl) dX9_ant_2 (fun H locs w => ?_)
  refine lv_if_eq (tgt := 18) hx hb dX9_ant_5 (by decide) (fun k4 => ?_) (fun k4 => ?_)
  · have h := x_t h k4
    exact b_X9_ant_18 cx hkn hL0 hK0 M1 H locs ls h w (lv_sub hl [] rfl)
  · have h := x_f h k4
    refine lv_iload_n hx hb dX9_ant_8 rfl (lv_at hl 2 rfl) ?_
    refine lv_if_lt (tgt := 18) hx hb dX9_ant_9 (by decide) (fun k5 => ?_) (fun k5 => ?_)
    · have h := x_t h k5
      exact b_X9_ant_18 cx hkn hL0 hK0 M1 H locs ls h w (lv_sub hl [] rfl)
    · have h := x_f h k5
      refine lv_iload_n hx hb dX9_ant_12 rfl (lv_at hl 2 rfl) ?_
      refine lv_bipush (v := (9 : Int32)) hx hb dX9_ant_13 (by decide) ?_
      refine lv_icmp_lt (tgt := 28) hx hb dX9_ant_15 (by decide) (fun k6 => ?_) (fun k6 => ?_)
      · have h := x_t h k6
        refine lv_aload_n hx hb dX9_ant_28 rfl (lv_at hl 0 rfl) ?_
        obtain ⟨q7, eq7, h⟩ := x_rf h
        obtain ⟨hLq7, hKq7⟩ := wt_q hG hL0 hK0 eq7
        have hKq7 : gK G q7 = 7 := hKq7
        refine r_getR (k := 2) cx w hL0 hK0 (by decide) rfl wi_X9_ant_X9 (by decide) rfl eq7 (List.mem_of_getElem? (i := 3) rfl) dX9_ant_29 ?_
        obtain ⟨q8, eq8, h⟩ := x_rf h
        obtain ⟨hLq8, hKq8⟩ := wt_q hG hLq7 hKq7 eq8
        have hKq8 : gK G q8 = 14 := hKq8
        refine r_getR (k := 3) cx w hLq7 hKq7 (by decide) rfl wi_X9_ant_X8 (by decide) rfl eq8 (List.mem_of_getElem? (i := 4) rfl) dX9_ant_32 ?_
        refine lv_iload_n hx hb dX9_ant_35 rfl (lv_at hl 1 rfl) ?_
        obtain ⟨z9, h⟩ := x_ix h
        obtain ⟨q10, eq10, h⟩ := x_rf h
        obtain ⟨hLq10, hKq10⟩ := wt_q hG hLq8 hKq8 eq10
        have hKq10 : gK G q10 = 0 := hKq10
        refine r_aald cx w hLq8 hKq8 z9 eq10 dX9_ant_36 ?_
        refine lv_iload_n hx hb dX9_ant_37 rfl (lv_at hl 2 rfl) ?_
        obtain ⟨M11, r12, y13, h⟩ := x_cl h
        refine r_callVi (As := [.int c2]) (rest := []) cx w hkn hl.1 (k_X0_answer hG hLq10 hKq10 y13) (cwV 1 hts gX9_ant_X0_answer rfl rfl rfl (by decide +kernel) ⟨Nat.le_of_ble_eq_true rfl, Nat.le_of_ble_eq_true rfl⟩) hLq10 hKq10 (by decide) rfl rfl rfl (Nat.le_of_ble_eq_true rfl) dX9_ant_38 (fun H locs w => ?_)
        exact r_iret cx w h dX9_ant_41
      · have h := x_f h k6
        exact b_X9_ant_18 cx hkn hL0 hK0 M1 H locs ls h w (lv_sub hl [] rfl)
-- X9_stone
theorem wi_X9_stone_X9 : ∀ w ∈ wsX90, w ∈ wsX9_stone := by decide +kernel
abbrev rmX9_stone : Room := { frames := 2, cells := 0, slots := 0, locals := 41 }
def m_X9_stone (G : gS) (M : mS) (a0 : Nat) (c1 : Int32) (c2 : Int32) : Option (mS × Int32) := o_cl (m_X9_isStone G M c1 c2) (fun M1 r2 => (if r2 = 0 then none else o_rf (gP G a0 2) (fun q5 => o_cl (m_X8_colourAt G M1 q5 ((c2 * (64 : Int32)) + c1)) (fun M6 r7 => some (M6, r7)))))
set_option maxHeartbeats 4000000 in
set_option maxRecDepth 100000 in
theorem k_X9_stone {l : Launch} {D : va_G} {cy : cyS} {G : gS} {M M' : mS} {r : Int32} {a0 : Nat} {c1 : Int32} {c2 : Int32} (hG : wt G) (hL0 : a0 ∈ gL G) (hK0 : gK G a0 = 8) (h : m_X9_stone G M a0 c1 c2 = some (M', r)) : ctI l yX9_stone wsX9_stone rmX9_stone D cy G M [.ref a0, .int c1, .int c2] M' r := by
  unfold m_X9_stone at h
  refine ctI_of (cc := cX9_stone) (nL := 3) (ret := (some .int)) (lv := [(0, .ref a0), (1, .int c1), (2, .int c2)]) hG (by decide) rfl ⟨rfl, rfl⟩ (Nat.le_of_ble_eq_true rfl) rfl ?_
  intro p e s m args below meth c A ls cx w hl
  obtain ⟨hx, hb, hml, hown, hts, hr, hlocks, hK, hA, -, hsx⟩ := id cx
  have hkn : 0 ≤ (rmX9_stone).cells ∧ 0 ≤ (rmX9_stone).slots := ⟨Nat.zero_le _, Nat.zero_le _⟩
  refine lv_iload_n hx hb dX9_stone_0 rfl (lv_at hl 1 rfl) ?_
  refine lv_iload_n hx hb dX9_stone_1 rfl (lv_at hl 2 rfl) ?_
  obtain ⟨M1, r2, y3, h⟩ := x_cl h
  refine r_callSi (As := [.int c1, .int c2]) (rest := []) cx w hkn hl.1 (k_X9_isStone hG y3) (va_cwS 2 hts gX9_stone_X9_isStone rfl rfl rfl (by decide +kernel) ⟨Nat.le_of_ble_eq_true rfl, Nat.le_of_ble_eq_true rfl⟩) rfl rfl (Nat.le_of_ble_eq_true rfl) dX9_stone_2 (fun H locs w => ?_)
  refine lv_if_ne (tgt := 18) hx hb dX9_stone_5 (by decide) (fun k4 => ?_) (fun k4 => ?_)
  · have h := x_f h k4
    refine lv_aload_n hx hb dX9_stone_18 rfl (lv_at hl 0 rfl) ?_
    obtain ⟨q5, eq5, h⟩ := x_rf h
    obtain ⟨hLq5, hKq5⟩ := wt_q hG hL0 hK0 eq5
    have hKq5 : gK G q5 = 7 := hKq5
    refine r_getR (k := 2) cx w hL0 hK0 (by decide) rfl wi_X9_stone_X9 (by decide) rfl eq5 (List.mem_of_getElem? (i := 3) rfl) dX9_stone_19 ?_
    refine lv_iload_n hx hb dX9_stone_22 rfl (lv_at hl 2 rfl) ?_
    refine lv_bipush (v := (64 : Int32)) hx hb dX9_stone_23 (by decide) ?_
    refine lv_imul hx hb dX9_stone_25 ?_
    refine lv_iload_n hx hb dX9_stone_26 rfl (lv_at hl 1 rfl) ?_
    refine lv_iadd hx hb dX9_stone_27 ?_
    obtain ⟨M6, r7, y8, h⟩ := x_cl h
    refine r_callVi (As := [.int (((c2 * (64 : Int32)) + c1))]) (rest := []) cx w hkn hl.1 (k_X8_colourAt hG hLq5 hKq5 y8) (cwV 1 hts gX9_stone_X8_colourAt rfl rfl rfl (by decide +kernel) ⟨Nat.le_of_ble_eq_true rfl, Nat.le_of_ble_eq_true rfl⟩) hLq5 hKq5 (by decide) rfl rfl rfl (Nat.le_of_ble_eq_true rfl) dX9_stone_28 (fun H locs w => ?_)
    exact r_iret cx w h dX9_stone_31
  · have h := x_t h k4
    have h : none = some _ := h
    cases h
-- X9_foresee
theorem wi_X9_foresee_X9 : ∀ w ∈ wsX90, w ∈ wsX9_foresee := by decide +kernel
abbrev rmX9_foresee : Room := { frames := 7, cells := 0, slots := 0, locals := 178 }
def m_X9_foresee_12 (G : gS) (a0 : Nat) (c1 : Int32) (c2 : Int32)  (M : mS)  : Option (mS × Int32) := none
def m_X9_foresee_33 (G : gS) (a0 : Nat) (c1 : Int32) (c2 : Int32)  (M : mS)  : Option (mS × Int32) := none
def m_X9_foresee (G : gS) (M : mS) (a0 : Nat) (c1 : Int32) (c2 : Int32) : Option (mS × Int32) := (if c1 < (1 : Int32) then m_X9_foresee_12 G a0 c1 c2 M else (if c1 ≤ (1000 : Int32) then (if c2 < (4 : Int32) then m_X9_foresee_33 G a0 c1 c2 M else (if c2 ≤ (9 : Int32) then o_rf (gP G a0 3) (fun q5 => o_rf (gP G a0 2) (fun q6 => o_cl (m_X8_copyFrom G M q5 q6) (fun M7 r8 => o_rf (gP G a0 5) (fun q10 => o_rf (gP G a0 3) (fun q11 => o_cl (m_X5_makeSteps G M7 q10 q11 c1) (fun M12 r13 => o_rf (gP G a0 3) (fun q15 => o_cl (m_X8_total G M12 q15 c2) (fun M16 r17 => some (M16, r17))))))))) else m_X9_foresee_33 G a0 c1 c2 M)) else m_X9_foresee_12 G a0 c1 c2 M))
set_option maxHeartbeats 4000000 in
set_option maxRecDepth 100000 in
theorem b_X9_foresee_12 {p : Program} {e : Env} {s : State} {m : MethodId} {args : Array Value} {below : List Frame} {meth : Method} {c : Code} {A : Nat → Prop} {l : Launch} {D : va_G} {cy : cyS} {G : gS} (cx : cX p s m args meth c cX9_foresee RX9 3 (some .int) wsX9_foresee D cy G A) {k0 n0 : Nat} (hkn : k0 ≤ (rmX9_foresee).cells ∧ n0 ≤ (rmX9_foresee).slots) {M' : mS} {r : Int32} {a0 : Nat} {c1 : Int32} {c2 : Int32} (hL0 : a0 ∈ gL G) (hK0 : gK G a0 = 8)  : ∀ (M : mS) (H : Heap) (locs : List Loc) (ls : Array Slot), m_X9_foresee_12 G a0 c1 c2 M = some (M', r) → wd D cy G M A s.heap H locs → lv_has ls 3 [] → W p l e rmX9_foresee s m args below meth c H locs k0 n0 (MQ below (va_Qi (fun (r' : Int32) (_ : Unit) => r' = r) (fun _ t => wOut D cy G M' t) A) args s k0 n0 A) (F0 m 12 ls []) := by
  obtain ⟨hx, hb, hml, hown, hts, hr, hlocks, hK, hA, hG, hsx⟩ := id cx
  intro M H locs ls h w hl
  unfold m_X9_foresee_12 at h
  have h : none = some _ := h
  cases h
set_option maxHeartbeats 4000000 in
set_option maxRecDepth 100000 in
theorem b_X9_foresee_33 {p : Program} {e : Env} {s : State} {m : MethodId} {args : Array Value} {below : List Frame} {meth : Method} {c : Code} {A : Nat → Prop} {l : Launch} {D : va_G} {cy : cyS} {G : gS} (cx : cX p s m args meth c cX9_foresee RX9 3 (some .int) wsX9_foresee D cy G A) {k0 n0 : Nat} (hkn : k0 ≤ (rmX9_foresee).cells ∧ n0 ≤ (rmX9_foresee).slots) {M' : mS} {r : Int32} {a0 : Nat} {c1 : Int32} {c2 : Int32} (hL0 : a0 ∈ gL G) (hK0 : gK G a0 = 8)  : ∀ (M : mS) (H : Heap) (locs : List Loc) (ls : Array Slot), m_X9_foresee_33 G a0 c1 c2 M = some (M', r) → wd D cy G M A s.heap H locs → lv_has ls 3 [] → W p l e rmX9_foresee s m args below meth c H locs k0 n0 (MQ below (va_Qi (fun (r' : Int32) (_ : Unit) => r' = r) (fun _ t => wOut D cy G M' t) A) args s k0 n0 A) (F0 m 33 ls []) := by
  obtain ⟨hx, hb, hml, hown, hts, hr, hlocks, hK, hA, hG, hsx⟩ := id cx
  intro M H locs ls h w hl
  unfold m_X9_foresee_33 at h
  have h : none = some _ := h
  cases h
set_option maxHeartbeats 4000000 in
set_option maxRecDepth 100000 in
theorem k_X9_foresee {l : Launch} {D : va_G} {cy : cyS} {G : gS} {M M' : mS} {r : Int32} {a0 : Nat} {c1 : Int32} {c2 : Int32} (hG : wt G) (hL0 : a0 ∈ gL G) (hK0 : gK G a0 = 8) (h : m_X9_foresee G M a0 c1 c2 = some (M', r)) : ctI l yX9_foresee wsX9_foresee rmX9_foresee D cy G M [.ref a0, .int c1, .int c2] M' r := by
  unfold m_X9_foresee at h
  refine ctI_of (cc := cX9_foresee) (nL := 3) (ret := (some .int)) (lv := [(0, .ref a0), (1, .int c1), (2, .int c2)]) hG (by decide) rfl ⟨rfl, rfl⟩ (Nat.le_of_ble_eq_true rfl) rfl ?_
  intro p e s m args below meth c A ls cx w hl
  obtain ⟨hx, hb, hml, hown, hts, hr, hlocks, hK, hA, -, hsx⟩ := id cx
  have hkn : 0 ≤ (rmX9_foresee).cells ∧ 0 ≤ (rmX9_foresee).slots := ⟨Nat.zero_le _, Nat.zero_le _⟩
  refine lv_iload_n hx hb dX9_foresee_0 rfl (lv_at hl 1 rfl) ?_
  refine lv_iconst (v := (1 : Int32)) hx hb dX9_foresee_1 (by decide) ?_
  refine lv_icmp_lt (tgt := 12) hx hb dX9_foresee_2 (by decide) (fun k1 => ?_) (fun k1 => ?_)
  · have h := x_t h k1
    exact b_X9_foresee_12 cx hkn hL0 hK0 M s.heap [] ls h w (lv_sub hl [] rfl)
  · have h := x_f h k1
    refine lv_iload_n hx hb dX9_foresee_5 rfl (lv_at hl 1 rfl) ?_
    refine lv_sipush (v := (1000 : Int32)) hx hb dX9_foresee_6 (by decide) ?_
    refine lv_icmp_le (tgt := 22) hx hb dX9_foresee_9 (by decide) (fun k2 => ?_) (fun k2 => ?_)
    · have h := x_t h k2
      refine lv_iload_n hx hb dX9_foresee_22 rfl (lv_at hl 2 rfl) ?_
      refine lv_iconst (v := (4 : Int32)) hx hb dX9_foresee_23 (by decide) ?_
      refine lv_icmp_lt (tgt := 33) hx hb dX9_foresee_24 (by decide) (fun k3 => ?_) (fun k3 => ?_)
      · have h := x_t h k3
        exact b_X9_foresee_33 cx hkn hL0 hK0 M s.heap [] ls h w (lv_sub hl [] rfl)
      · have h := x_f h k3
        refine lv_iload_n hx hb dX9_foresee_27 rfl (lv_at hl 2 rfl) ?_
        refine lv_bipush (v := (9 : Int32)) hx hb dX9_foresee_28 (by decide) ?_
        refine lv_icmp_le (tgt := 43) hx hb dX9_foresee_30 (by decide) (fun k4 => ?_) (fun k4 => ?_)
        · have h := x_t h k4
          refine lv_aload_n hx hb dX9_foresee_43 rfl (lv_at hl 0 rfl) ?_
          obtain ⟨q5, eq5, h⟩ := x_rf h
          obtain ⟨hLq5, hKq5⟩ := wt_q hG hL0 hK0 eq5
          have hKq5 : gK G q5 = 7 := hKq5
          refine r_getR (k := 3) cx w hL0 hK0 (by decide) rfl wi_X9_foresee_X9 (by decide) rfl eq5 (List.mem_of_getElem? (i := 5) rfl) dX9_foresee_44 ?_
          refine lv_aload_n hx hb dX9_foresee_47 rfl (lv_at hl 0 rfl) ?_
          obtain ⟨q6, eq6, h⟩ := x_rf h
          obtain ⟨hLq6, hKq6⟩ := wt_q hG hL0 hK0 eq6
          have hKq6 : gK G q6 = 7 := hKq6
          refine r_getR (k := 2) cx w hL0 hK0 (by decide) rfl wi_X9_foresee_X9 (by decide) rfl eq6 (List.mem_of_getElem? (i := 6) rfl) dX9_foresee_48 ?_
          obtain ⟨M7, r8, y9, h⟩ := x_cl h
          refine r_callVv (As := [.ref q6]) (rest := []) cx w hkn hl.1 (k_X8_copyFrom hG hLq5 hKq5 hLq6 hKq6 y9) (cwV 1 hts gX9_foresee_X8_copyFrom rfl rfl rfl (by decide +kernel) ⟨Nat.le_of_ble_eq_true rfl, Nat.le_of_ble_eq_true rfl⟩) hLq5 hKq5 (by decide) rfl rfl rfl (Nat.le_of_ble_eq_true rfl) dX9_foresee_51 (fun H locs w => ?_)
          refine lv_aload_n hx hb dX9_foresee_54 rfl (lv_at hl 0 rfl) ?_
          obtain ⟨q10, eq10, h⟩ := x_rf h
          obtain ⟨hLq10, hKq10⟩ := wt_q hG hL0 hK0 eq10
          have hKq10 : gK G q10 = 4 := hKq10
          refine r_getR (k := 5) cx w hL0 hK0 (by decide) rfl wi_X9_foresee_X9 (by decide) rfl eq10 (List.mem_of_getElem? (i := 7) rfl) dX9_foresee_55 ?_
          refine lv_aload_n hx hb dX9_foresee_58 rfl (lv_at hl 0 rfl) ?_
          obtain ⟨q11, eq11, h⟩ := x_rf h
          obtain ⟨hLq11, hKq11⟩ := wt_q hG hL0 hK0 eq11
          have hKq11 : gK G q11 = 7 := hKq11
          refine r_getR (k := 3) cx w hL0 hK0 (by decide) rfl wi_X9_foresee_X9 (by decide) rfl eq11 (List.mem_of_getElem? (i := 5) rfl) dX9_foresee_59 ?_
          refine lv_iload_n hx hb dX9_foresee_62 rfl (lv_at hl 1 rfl) ?_
          obtain ⟨M12, r13, y14, h⟩ := x_cl h
          refine r_callVv (As := [.ref q11, .int c1]) (rest := []) cx w hkn hl.1 (k_X5_makeSteps hG hLq10 hKq10 hLq11 hKq11 y14) (cwV 2 hts gX9_foresee_X5_makeSteps rfl rfl rfl (by decide +kernel) ⟨Nat.le_of_ble_eq_true rfl, Nat.le_of_ble_eq_true rfl⟩) hLq10 hKq10 (by decide) rfl rfl rfl (Nat.le_of_ble_eq_true rfl) dX9_foresee_63 (fun H locs w => ?_)
          refine lv_aload_n hx hb dX9_foresee_66 rfl (lv_at hl 0 rfl) ?_
          obtain ⟨q15, eq15, h⟩ := x_rf h
          obtain ⟨hLq15, hKq15⟩ := wt_q hG hL0 hK0 eq15
          have hKq15 : gK G q15 = 7 := hKq15
          refine r_getR (k := 3) cx w hL0 hK0 (by decide) rfl wi_X9_foresee_X9 (by decide) rfl eq15 (List.mem_of_getElem? (i := 5) rfl) dX9_foresee_67 ?_
          refine lv_iload_n hx hb dX9_foresee_70 rfl (lv_at hl 2 rfl) ?_
          obtain ⟨M16, r17, y18, h⟩ := x_cl h
          refine r_callVi (As := [.int c2]) (rest := []) cx w hkn hl.1 (k_X8_total hG hLq15 hKq15 y18) (cwV 1 hts gX9_foresee_X8_total rfl rfl rfl (by decide +kernel) ⟨Nat.le_of_ble_eq_true rfl, Nat.le_of_ble_eq_true rfl⟩) hLq15 hKq15 (by decide) rfl rfl rfl (Nat.le_of_ble_eq_true rfl) dX9_foresee_71 (fun H locs w => ?_)
          exact r_iret cx w h dX9_foresee_74
        · have h := x_f h k4
          exact b_X9_foresee_33 cx hkn hL0 hK0 M s.heap [] ls h w (lv_sub hl [] rfl)
    · have h := x_f h k2
      exact b_X9_foresee_12 cx hkn hL0 hK0 M s.heap [] ls h w (lv_sub hl [] rfl)
-- X9_turn
theorem wi_X9_turn_X3 : ∀ w ∈ wsX30, w ∈ wsX9_turn := by decide +kernel
theorem wi_X9_turn_X9 : ∀ w ∈ wsX90, w ∈ wsX9_turn := by decide +kernel
abbrev rmX9_turn : Room := { frames := 2, cells := 0, slots := 0, locals := 45 }
def m_X9_turn_22 (G : gS) (a0 : Nat) (c1 : Int32) (c2 : Int32)  (M : mS)  : Option (mS × Int32) := none
def m_X9_turn (G : gS) (M : mS) (a0 : Nat) (c1 : Int32) (c2 : Int32) : Option (mS × Int32) := (if c1 < 0 then m_X9_turn_22 G a0 c1 c2 M else o_rf (gP G a0 1) (fun q2 => (if (mI M q2 0) ≤ c1 then m_X9_turn_22 G a0 c1 c2 M else o_cl (m_X9_isColour G M c2) (fun M4 r5 => (if r5 = 0 then m_X9_turn_22 G a0 c1 c2 M4 else o_rf (gP G a0 1) (fun q8 => o_cl (m_X3_turnFor G M4 q8 c1 c2) (fun M9 r10 => some (M9, r10))))))))
set_option maxHeartbeats 4000000 in
set_option maxRecDepth 100000 in
theorem b_X9_turn_22 {p : Program} {e : Env} {s : State} {m : MethodId} {args : Array Value} {below : List Frame} {meth : Method} {c : Code} {A : Nat → Prop} {l : Launch} {D : va_G} {cy : cyS} {G : gS} (cx : cX p s m args meth c cX9_turn RX9 3 (some .int) wsX9_turn D cy G A) {k0 n0 : Nat} (hkn : k0 ≤ (rmX9_turn).cells ∧ n0 ≤ (rmX9_turn).slots) {M' : mS} {r : Int32} {a0 : Nat} {c1 : Int32} {c2 : Int32} (hL0 : a0 ∈ gL G) (hK0 : gK G a0 = 8)  : ∀ (M : mS) (H : Heap) (locs : List Loc) (ls : Array Slot), m_X9_turn_22 G a0 c1 c2 M = some (M', r) → wd D cy G M A s.heap H locs → lv_has ls 3 [] → W p l e rmX9_turn s m args below meth c H locs k0 n0 (MQ below (va_Qi (fun (r' : Int32) (_ : Unit) => r' = r) (fun _ t => wOut D cy G M' t) A) args s k0 n0 A) (F0 m 22 ls []) := by
  obtain ⟨hx, hb, hml, hown, hts, hr, hlocks, hK, hA, hG, hsx⟩ := id cx
  intro M H locs ls h w hl
  unfold m_X9_turn_22 at h
  have h : none = some _ := h
  cases h
set_option maxHeartbeats 4000000 in
set_option maxRecDepth 100000 in
theorem k_X9_turn {l : Launch} {D : va_G} {cy : cyS} {G : gS} {M M' : mS} {r : Int32} {a0 : Nat} {c1 : Int32} {c2 : Int32} (hG : wt G) (hL0 : a0 ∈ gL G) (hK0 : gK G a0 = 8) (h : m_X9_turn G M a0 c1 c2 = some (M', r)) : ctI l yX9_turn wsX9_turn rmX9_turn D cy G M [.ref a0, .int c1, .int c2] M' r := by
  unfold m_X9_turn at h
  refine ctI_of (cc := cX9_turn) (nL := 3) (ret := (some .int)) (lv := [(0, .ref a0), (1, .int c1), (2, .int c2)]) hG (by decide) rfl ⟨rfl, rfl⟩ (Nat.le_of_ble_eq_true rfl) rfl ?_
  intro p e s m args below meth c A ls cx w hl
  obtain ⟨hx, hb, hml, hown, hts, hr, hlocks, hK, hA, -, hsx⟩ := id cx
  have hkn : 0 ≤ (rmX9_turn).cells ∧ 0 ≤ (rmX9_turn).slots := ⟨Nat.zero_le _, Nat.zero_le _⟩
  refine lv_iload_n hx hb dX9_turn_0 rfl (lv_at hl 1 rfl) ?_
  refine lv_if_lt (tgt := 22) hx hb dX9_turn_1 (by decide) (fun k1 => ?_) (fun k1 => ?_)
  · have h := x_t h k1
    exact b_X9_turn_22 cx hkn hL0 hK0 M s.heap [] ls h w (lv_sub hl [] rfl)
  · have h := x_f h k1
    refine lv_iload_n hx hb dX9_turn_4 rfl (lv_at hl 1 rfl) ?_
    refine lv_aload_n hx hb dX9_turn_5 rfl (lv_at hl 0 rfl) ?_
    obtain ⟨q2, eq2, h⟩ := x_rf h
    obtain ⟨hLq2, hKq2⟩ := wt_q hG hL0 hK0 eq2
    have hKq2 : gK G q2 = 2 := hKq2
    refine r_getR (k := 1) cx w hL0 hK0 (by decide) rfl wi_X9_turn_X9 (by decide) rfl eq2 (List.mem_of_getElem? (i := 3) rfl) dX9_turn_6 ?_
    refine r_getI (k := 0) (v := .int (mI M q2 0)) cx w hLq2 hKq2 (by decide) rfl wi_X9_turn_X3 (by decide) rfl (List.mem_of_getElem? (i := 4) rfl) dX9_turn_9 ?_
    refine lv_icmp_ge (tgt := 22) hx hb dX9_turn_12 (by decide) (fun k3 => ?_) (fun k3 => ?_)
    · have h := x_t h k3
      exact b_X9_turn_22 cx hkn hL0 hK0 M s.heap [] ls h w (lv_sub hl [] rfl)
    · have h := x_f h k3
      refine lv_iload_n hx hb dX9_turn_15 rfl (lv_at hl 2 rfl) ?_
      obtain ⟨M4, r5, y6, h⟩ := x_cl h
      refine r_callSi (As := [.int c2]) (rest := []) cx w hkn hl.1 (k_X9_isColour hG y6) (va_cwS 1 hts gX9_turn_X9_isColour rfl rfl rfl (by decide +kernel) ⟨Nat.le_of_ble_eq_true rfl, Nat.le_of_ble_eq_true rfl⟩) rfl rfl (Nat.le_of_ble_eq_true rfl) dX9_turn_16 (fun H locs w => ?_)
      refine lv_if_ne (tgt := 32) hx hb dX9_turn_19 (by decide) (fun k7 => ?_) (fun k7 => ?_)
      · have h := x_f h k7
        refine lv_aload_n hx hb dX9_turn_32 rfl (lv_at hl 0 rfl) ?_
        obtain ⟨q8, eq8, h⟩ := x_rf h
        obtain ⟨hLq8, hKq8⟩ := wt_q hG hL0 hK0 eq8
        have hKq8 : gK G q8 = 2 := hKq8
        refine r_getR (k := 1) cx w hL0 hK0 (by decide) rfl wi_X9_turn_X9 (by decide) rfl eq8 (List.mem_of_getElem? (i := 3) rfl) dX9_turn_33 ?_
        refine lv_iload_n hx hb dX9_turn_36 rfl (lv_at hl 1 rfl) ?_
        refine lv_iload_n hx hb dX9_turn_37 rfl (lv_at hl 2 rfl) ?_
        obtain ⟨M9, r10, y11, h⟩ := x_cl h
        refine r_callVi (As := [.int c1, .int c2]) (rest := []) cx w hkn hl.1 (k_X3_turnFor hG hLq8 hKq8 y11) (cwV 2 hts gX9_turn_X3_turnFor rfl rfl rfl (by decide +kernel) ⟨Nat.le_of_ble_eq_true rfl, Nat.le_of_ble_eq_true rfl⟩) hLq8 hKq8 (by decide) rfl rfl rfl (Nat.le_of_ble_eq_true rfl) dX9_turn_38 (fun H locs w => ?_)
        exact r_iret cx w h dX9_turn_41
      · have h := x_t h k7
        exact b_X9_turn_22 cx hkn hL0 hK0 M4 H locs ls h w (lv_sub hl [] rfl)
