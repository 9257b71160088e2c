-- X9_isColour
abbrev rmX9_isColour : Room := { frames := 0, cells := 0, slots := 0, locals := 0 }
def m_X9_isColour_14 (G : gS) (c0 : Int32)  (M : mS)  : Option (mS × Int32) := o_ck ((0 : Int32) = 0 ∨ (0 : Int32) = 1) (some (M, (0 : Int32)))
def m_X9_isColour (G : gS) (M : mS) (c0 : Int32) : Option (mS × Int32) := (if c0 < 0 then m_X9_isColour_14 G c0 M else (if (6 : Int32) ≤ c0 then m_X9_isColour_14 G c0 M else o_ck ((1 : Int32) = 0 ∨ (1 : Int32) = 1) (some (M, (1 : Int32)))))
set_option maxHeartbeats 4000000 in
set_option maxRecDepth 100000 in
theorem b_X9_isColour_14 {p : Program} {e : Env} {s : State} {m : MethodId} {args : Array Value} {below : List Frame} {meth : Method} {c : Code} {A : Nat → Prop} {l : Launch} {D : va_G} {cy : cyS} {G : gS} (cx : cX p s m args meth c cX9_isColour RX9 1 (some .boolean) wsX9_isColour D cy G A) {k0 n0 : Nat} (hkn : k0 ≤ (rmX9_isColour).cells ∧ n0 ≤ (rmX9_isColour).slots) {M' : mS} {r : Int32} {c0 : Int32}   : ∀ (M : mS) (H : Heap) (locs : List Loc) (ls : Array Slot), m_X9_isColour_14 G c0 M = some (M', r) → wd D cy G M A s.heap H locs → lv_has ls 1 [] → W p l e rmX9_isColour s m args below meth c H locs k0 n0 (MQ below (va_Qi (fun (r' : Int32) (_ : Unit) => r' = r) (fun _ t => wOut D cy G M' t) A) args s k0 n0 A) (F0 m 14 ls []) := by
  obtain ⟨hx, hb, hml, hown, hts, hr, hlocks, hK, hA, hG, hsx⟩ := id cx
  intro M H locs ls h w hl
  unfold m_X9_isColour_14 at h
  refine lv_iconst (v := (0 : Int32)) hx hb dX9_isColour_14 (by decide) ?_
  obtain ⟨z1, h⟩ := x_ck h
  exact r_zret cx w z1 h dX9_isColour_15
set_option maxHeartbeats 4000000 in
set_option maxRecDepth 100000 in
theorem k_X9_isColour {l : Launch} {D : va_G} {cy : cyS} {G : gS} {M M' : mS} {r : Int32} {c0 : Int32} (hG : wt G)  (h : m_X9_isColour G M c0 = some (M', r)) : ctI l yX9_isColour wsX9_isColour rmX9_isColour D cy G M [.int c0] M' r := by
  unfold m_X9_isColour at h
  refine ctI_of (cc := cX9_isColour) (nL := 1) (ret := (some .boolean)) (lv := [(0, .int c0)]) hG (by decide) rfl ⟨rfl, rfl⟩ (Nat.le_of_ble_eq_true rfl) rfl ?_
  intro p e s m args below meth c A ls cx w hl
  obtain ⟨hx, hb, hml, hown, hts, hr, hlocks, hK, hA, -, hsx⟩ := id cx
  have hkn : 0 ≤ (rmX9_isColour).cells ∧ 0 ≤ (rmX9_isColour).slots := ⟨Nat.zero_le _, Nat.zero_le _⟩
  refine lv_iload_n hx hb dX9_isColour_0 rfl (lv_at hl 0 rfl) ?_
  refine lv_if_lt (tgt := 14) hx hb dX9_isColour_1 (by decide) (fun k1 => ?_) (fun k1 => ?_)
  · have h := x_t h k1
    exact b_X9_isColour_14 cx hkn M s.heap [] ls h w (lv_sub hl [] rfl)
  · have h := x_f h k1
    refine lv_iload_n hx hb dX9_isColour_4 rfl (lv_at hl 0 rfl) ?_
    refine lv_bipush (v := (6 : Int32)) hx hb dX9_isColour_5 (by decide) ?_
    refine lv_icmp_ge (tgt := 14) hx hb dX9_isColour_7 (by decide) (fun k2 => ?_) (fun k2 => ?_)
    · have h := x_t h k2
      exact b_X9_isColour_14 cx hkn M s.heap [] ls h w (lv_sub hl [] rfl)
    · have h := x_f h k2
      refine lv_iconst (v := (1 : Int32)) hx hb dX9_isColour_10 (by decide) ?_
      refine lv_goto (tgt := 15) hx hb dX9_isColour_11 (by decide) ?_
      obtain ⟨z3, h⟩ := x_ck h
      exact r_zret cx w z3 h dX9_isColour_15
-- X8_colourAt
theorem wi_X8_colourAt_X8 : ∀ w ∈ wsX80, w ∈ wsX8_colourAt := by decide +kernel
abbrev rmX8_colourAt : Room := { frames := 0, cells := 0, slots := 0, locals := 0 }
def m_X8_colourAt_20 (G : gS) (a0 : Nat) (c1 : Int32)  (M : mS)  : Option (mS × Int32) := some (M, (0 : Int32))
def m_X8_colourAt (G : gS) (M : mS) (a0 : Nat) (c1 : Int32) : Option (mS × Int32) := (if c1 < 0 then m_X8_colourAt_20 G a0 c1 M else (if (4096 : Int32) ≤ c1 then m_X8_colourAt_20 G a0 c1 M else o_rf (gP G a0 0) (fun q3 => o_ix c1 (gN G q3) (some (M, (mI M q3 (Int32.toNatClampNeg c1)))))))
set_option maxHeartbeats 4000000 in
set_option maxRecDepth 100000 in
theorem b_X8_colourAt_20 {p : Program} {e : Env} {s : State} {m : MethodId} {args : Array Value} {below : List Frame} {meth : Method} {c : Code} {A : Nat → Prop} {l : Launch} {D : va_G} {cy : cyS} {G : gS} (cx : cX p s m args meth c cX8_colourAt RX8 2 (some .int) wsX8_colourAt D cy G A) {k0 n0 : Nat} (hkn : k0 ≤ (rmX8_colourAt).cells ∧ n0 ≤ (rmX8_colourAt).slots) {M' : mS} {r : Int32} {a0 : Nat} {c1 : Int32} (hL0 : a0 ∈ gL G) (hK0 : gK G a0 = 7)  : ∀ (M : mS) (H : Heap) (locs : List Loc) (ls : Array Slot), m_X8_colourAt_20 G a0 c1 M = some (M', r) → wd D cy G M A s.heap H locs → lv_has ls 2 [] → W p l e rmX8_colourAt s m args below meth c H locs k0 n0 (MQ below (va_Qi (fun (r' : Int32) (_ : Unit) => r' = r) (fun _ t => wOut D cy G M' t) A) args s k0 n0 A) (F0 m 20 ls []) := by
  obtain ⟨hx, hb, hml, hown, hts, hr, hlocks, hK, hA, hG, hsx⟩ := id cx
  intro M H locs ls h w hl
  unfold m_X8_colourAt_20 at h
  refine lv_iconst (v := (0 : Int32)) hx hb dX8_colourAt_20 (by decide) ?_
  exact r_iret cx w h dX8_colourAt_21
set_option maxHeartbeats 4000000 in
set_option maxRecDepth 100000 in
theorem k_X8_colourAt {l : Launch} {D : va_G} {cy : cyS} {G : gS} {M M' : mS} {r : Int32} {a0 : Nat} {c1 : Int32} (hG : wt G) (hL0 : a0 ∈ gL G) (hK0 : gK G a0 = 7) (h : m_X8_colourAt G M a0 c1 = some (M', r)) : ctI l yX8_colourAt wsX8_colourAt rmX8_colourAt D cy G M [.ref a0, .int c1] M' r := by
  unfold m_X8_colourAt at h
  refine ctI_of (cc := cX8_colourAt) (nL := 2) (ret := (some .int)) (lv := [(0, .ref a0), (1, .int c1)]) hG (by decide) rfl ⟨rfl, rfl⟩ (Nat.le_of_ble_eq_true rfl) rfl ?_
  intro p e s m args below meth c A ls cx w hl
  obtain ⟨hx, hb, hml, hown, hts, hr, hlocks, hK, hA, -, hsx⟩ := id cx
  have hkn : 0 ≤ (rmX8_colourAt).cells ∧ 0 ≤ (rmX8_colourAt).slots := ⟨Nat.zero_le _, Nat.zero_le _⟩
  refine lv_iload_n hx hb dX8_colourAt_0 rfl (lv_at hl 1 rfl) ?_
  refine lv_if_lt (tgt := 20) hx hb dX8_colourAt_1 (by decide) (fun k1 => ?_) (fun k1 => ?_)
  · have h := x_t h k1
    exact b_X8_colourAt_20 cx hkn hL0 hK0 M s.heap [] ls h w (lv_sub hl [] rfl)
  · have h := x_f h k1
    refine lv_iload_n hx hb dX8_colourAt_4 rfl (lv_at hl 1 rfl) ?_
    refine lv_sipush (v := (4096 : Int32)) hx hb dX8_colourAt_5 (by decide) ?_
    refine lv_icmp_ge (tgt := 20) hx hb dX8_colourAt_8 (by decide) (fun k2 => ?_) (fun k2 => ?_)
    · have h := x_t h k2
      exact b_X8_colourAt_20 cx hkn hL0 hK0 M s.heap [] ls h w (lv_sub hl [] rfl)
    · have h := x_f h k2
      refine lv_aload_n hx hb dX8_colourAt_11 rfl (lv_at hl 0 rfl) ?_
      obtain ⟨q3, eq3, h⟩ := x_rf h
      obtain ⟨hLq3, hKq3⟩ := wt_q hG hL0 hK0 eq3
      have hKq3 : gK G q3 = 12 := hKq3
      refine r_getR (k := 0) cx w hL0 hK0 (by decide) rfl wi_X8_colourAt_X8 (by decide) rfl eq3 (List.mem_of_getElem? (i := 1) rfl) dX8_colourAt_12 ?_
      refine lv_iload_n hx hb dX8_colourAt_15 rfl (lv_at hl 1 rfl) ?_
      obtain ⟨z4, h⟩ := x_ix h
      refine r_iald cx w hLq3 hKq3 z4 dX8_colourAt_16 ?_
      refine lv_goto (tgt := 21) hx hb dX8_colourAt_17 (by decide) ?_
      exact r_iret cx w h dX8_colourAt_21
-- X8_setStone
theorem wi_X8_setStone_X8 : ∀ w ∈ wsX80, w ∈ wsX8_setStone := by decide +kernel
abbrev rmX8_setStone : Room := { frames := 1, cells := 0, slots := 0, locals := 21 }
def m_X8_setStone_91 (G : gS) (a0 : Nat) (c1 : Int32) (c2 : Int32)  (M : mS) (s0 : Nat) (s1 : Int32) (s2 : Int32) (s3 : Int32) (s4 : Int32) : Option (mS × Unit) := o_ix s1 (gN G s0) (o_wI M s0 (Int32.toNatClampNeg s1) (s2 + (s3 - s4)) (fun M2 => some (M2, ())))
def m_X8_setStone_82 (G : gS) (a0 : Nat) (c1 : Int32) (c2 : Int32)  (M : mS) (v3 : Int32) (s0 : Nat) (s1 : Int32) (s2 : Int32) (s3 : Int32) : Option (mS × Unit) := (if v3 = 0 then m_X8_setStone_91 G a0 c1 c2 M s0 s1 s2 s3 ((0 : Int32)) else m_X8_setStone_91 G a0 c1 c2 M s0 s1 s2 s3 ((1 : Int32)))
def m_X8_setStone (G : gS) (M : mS) (a0 : Nat) (c1 : Int32) (c2 : Int32) : Option (mS × Unit) := o_cl (m_X8_colourAt G M a0 c1) (fun M1 r2 => (if c1 < 0 then some (M1, ()) else (if (4096 : Int32) ≤ c1 then some (M1, ()) else o_cl (m_X9_isColour G M1 c2) (fun M6 r7 => (if r7 = 0 then some (M6, ()) else o_cl (m_X9_isColour G M6 r2) (fun M10 r11 => (if r11 = 0 then some (M10, ()) else o_ck (¬ (64 : Int32) = 0) (o_bd ((c1 / (64 : Int32))) (fun x15 => o_rf (gP G a0 0) (fun q16 => o_ix c1 (gN G q16) (o_wI M10 q16 (Int32.toNatClampNeg c1) c2 (fun M18 => o_rf (gP G a0 2) (fun q19 => o_ix r2 (gN G q19) (o_ix r2 (gN G q19) (o_wI M18 q19 (Int32.toNatClampNeg r2) ((mI M18 q19 (Int32.toNatClampNeg r2)) - (1 : Int32)) (fun M22 => o_rf (gP G a0 2) (fun q23 => o_ix c2 (gN G q23) (o_ix c2 (gN G q23) (o_wI M22 q23 (Int32.toNatClampNeg c2) ((mI M22 q23 (Int32.toNatClampNeg c2)) + (1 : Int32)) (fun M26 => o_rf (gP G a0 1) (fun q27 => o_ix x15 (gN G q27) ((if c2 = 0 then m_X8_setStone_82 G a0 c1 c2 M26 r2 q27 x15 ((mI M26 q27 (Int32.toNatClampNeg x15))) ((0 : Int32)) else m_X8_setStone_82 G a0 c1 c2 M26 r2 q27 x15 ((mI M26 q27 (Int32.toNatClampNeg x15))) ((1 : Int32)))))))))))))))))))))))))
set_option maxHeartbeats 4000000 in
set_option maxRecDepth 100000 in
theorem b_X8_setStone_91 {p : Program} {e : Env} {s : State} {m : MethodId} {args : Array Value} {below : List Frame} {meth : Method} {c : Code} {A : Nat → Prop} {l : Launch} {D : va_G} {cy : cyS} {G : gS} (cx : cX p s m args meth c cX8_setStone RX8 5 none wsX8_setStone D cy G A) {k0 n0 : Nat} (hkn : k0 ≤ (rmX8_setStone).cells ∧ n0 ≤ (rmX8_setStone).slots) {M' : mS} {a0 : Nat} {c1 : Int32} {c2 : Int32} (hL0 : a0 ∈ gL G) (hK0 : gK G a0 = 7)  : ∀ (M : mS) (s0 : Nat) (s1 : Int32) (s2 : Int32) (s3 : Int32) (s4 : Int32) (H : Heap) (locs : List Loc) (ls : Array Slot), s0 ∈ gL G → gK G s0 = 12 → m_X8_setStone_91 G a0 c1 c2 M s0 s1 s2 s3 s4 = some (M', ()) → wd D cy G M A s.heap H locs → lv_has ls 5 [] → W p l e rmX8_setStone s m args below meth c H locs k0 n0 (MQ below (va_Qv (fun (_ : Unit) => True) (fun _ t => wOut D cy G M' t) A) args s k0 n0 A) (F0 m 91 ls [.int s4, .int s3, .int s2, .int s1, .ref s0]) := by
  obtain ⟨hx, hb, hml, hown, hts, hr, hlocks, hK, hA, hG, hsx⟩ := id cx
  intro M s0 s1 s2 s3 s4 H locs ls sL0 sK0 h w hl
  unfold m_X8_setStone_91 at h
  refine lv_isub hx hb dX8_setStone_91 ?_
  refine lv_iadd hx hb dX8_setStone_92 ?_
  obtain ⟨z1, h⟩ := x_ix h
  obtain ⟨M2, eM2, h⟩ := x_wI h
  refine r_iast cx w sL0 sK0 z1 dX8_setStone_93 eM2 (fun H locs w => ?_)
  exact r_vret cx w h dX8_setStone_94
set_option maxHeartbeats 4000000 in
set_option maxRecDepth 100000 in
theorem b_X8_setStone_82 {p : Program} {e : Env} {s : State} {m : MethodId} {args : Array Value} {below : List Frame} {meth : Method} {c : Code} {A : Nat → Prop} {l : Launch} {D : va_G} {cy : cyS} {G : gS} (cx : cX p s m args meth c cX8_setStone RX8 5 none wsX8_setStone D cy G A) {k0 n0 : Nat} (hkn : k0 ≤ (rmX8_setStone).cells ∧ n0 ≤ (rmX8_setStone).slots) {M' : mS} {a0 : Nat} {c1 : Int32} {c2 : Int32} (hL0 : a0 ∈ gL G) (hK0 : gK G a0 = 7)  : ∀ (M : mS) (v3 : Int32) (s0 : Nat) (s1 : Int32) (s2 : Int32) (s3 : Int32) (H : Heap) (locs : List Loc) (ls : Array Slot), s0 ∈ gL G → gK G s0 = 12 → m_X8_setStone_82 G a0 c1 c2 M v3 s0 s1 s2 s3 = some (M', ()) → wd D cy G M A s.heap H locs → lv_has ls 5 [(3, .int v3)] → W p l e rmX8_setStone s m args below meth c H locs k0 n0 (MQ below (va_Qv (fun (_ : Unit) => True) (fun _ t => wOut D cy G M' t) A) args s k0 n0 A) (F0 m 82 ls [.int s3, .int s2, .int s1, .ref s0]) := by
  obtain ⟨hx, hb, hml, hown, hts, hr, hlocks, hK, hA, hG, hsx⟩ := id cx
  intro M v3 s0 s1 s2 s3 H locs ls sL0 sK0 h w hl
  unfold m_X8_setStone_82 at h
  refine lv_iload_n hx hb dX8_setStone_82 rfl (lv_at hl 0 rfl) ?_
  refine lv_if_eq (tgt := 90) hx hb dX8_setStone_83 (by decide) (fun k1 => ?_) (fun k1 => ?_)
  · have h := x_t h k1
    refine lv_iconst (v := (0 : Int32)) hx hb dX8_setStone_90 (by decide) ?_
    exact b_X8_setStone_91 cx hkn hL0 hK0 M s0 s1 s2 s3 ((0 : Int32)) H locs ls sL0 sK0 h w (lv_sub hl [] rfl)
  · have h := x_f h k1
    refine lv_iconst (v := (1 : Int32)) hx hb dX8_setStone_86 (by decide) ?_
    refine lv_goto (tgt := 91) hx hb dX8_setStone_87 (by decide) ?_
    exact b_X8_setStone_91 cx hkn hL0 hK0 M s0 s1 s2 s3 ((1 : Int32)) H locs ls sL0 sK0 h w (lv_sub hl [] rfl)
set_option maxHeartbeats 4000000 in
set_option maxRecDepth 100000 in
theorem k_X8_setStone {l : Launch} {D : va_G} {cy : cyS} {G : gS} {M M' : mS} {a0 : Nat} {c1 : Int32} {c2 : Int32} (hG : wt G) (hL0 : a0 ∈ gL G) (hK0 : gK G a0 = 7) (h : m_X8_setStone G M a0 c1 c2 = some (M', ())) : ctV l yX8_setStone wsX8_setStone rmX8_setStone D cy G M [.ref a0, .int c1, .int c2] M' := by
  unfold m_X8_setStone at h
  refine ctV_of (cc := cX8_setStone) (nL := 5) (ret := none) (lv := [(0, .ref a0), (1, .int c1), (2, .int c2)]) hG (by decide) rfl ⟨rfl, rfl⟩ (Nat.le_of_ble_eq_true rfl) rfl ?_
  intro p e s m args below meth c A ls cx w hl
  obtain ⟨hx, hb, hml, hown, hts, hr, hlocks, hK, hA, -, hsx⟩ := id cx
  have hkn : 0 ≤ (rmX8_setStone).cells ∧ 0 ≤ (rmX8_setStone).slots := ⟨Nat.zero_le _, Nat.zero_le _⟩
  refine lv_aload_n hx hb dX8_setStone_0 rfl (lv_at hl 0 rfl) ?_
  refine lv_iload_n hx hb dX8_setStone_1 rfl (lv_at hl 1 rfl) ?_
  obtain ⟨M1, r2, y3, h⟩ := x_cl h
  refine r_callVi (As := [.int c1]) (rest := []) cx w hkn hl.1 (k_X8_colourAt hG hL0 hK0 y3) (cwV 1 hts gX8_setStone_X8_colourAt rfl rfl rfl (by decide +kernel) ⟨Nat.le_of_ble_eq_true rfl, Nat.le_of_ble_eq_true rfl⟩) hL0 hK0 (by decide) rfl rfl rfl (Nat.le_of_ble_eq_true rfl) dX8_setStone_2 (fun H locs w => ?_)
  refine lv_istore_n (lv' := [(3, .int r2), (0, .ref a0), (1, .int c1), (2, .int c2)]) hx hb dX8_setStone_5 rfl hl (by decide) rfl (fun ls hl => ?_)
  refine lv_iload_n hx hb dX8_setStone_6 rfl (lv_at hl 2 rfl) ?_
  refine lv_if_lt (tgt := 31) hx hb dX8_setStone_7 (by decide) (fun k4 => ?_) (fun k4 => ?_)
  · have h := x_t h k4
    exact r_vret cx w h dX8_setStone_31
  · have h := x_f h k4
    refine lv_iload_n hx hb dX8_setStone_10 rfl (lv_at hl 2 rfl) ?_
    refine lv_sipush (v := (4096 : Int32)) hx hb dX8_setStone_11 (by decide) ?_
    refine lv_icmp_ge (tgt := 31) hx hb dX8_setStone_14 (by decide) (fun k5 => ?_) (fun k5 => ?_)
    · have h := x_t h k5
      exact r_vret cx w h dX8_setStone_31
    · have h := x_f h k5
      refine lv_iload_n hx hb dX8_setStone_17 rfl (lv_at hl 3 rfl) ?_
      obtain ⟨M6, r7, y8, h⟩ := x_cl h
      refine r_callSNi (As := [.int c2]) (rest := []) cx w hkn hl.1 (k_X9_isColour hG y8) ⟨va_cnB 1 hts gX8_setStone_X9_isColour_n61 rfl rfl rfl (nwM cx (q := (RX8, 61, yX9_isColour, "FlagAnts")) (List.mem_of_getElem? (i := 5) rfl)) (hts _ (List.mem_of_getElem? (i := 10) rfl)) (by decide +kernel) ⟨Nat.le_of_ble_eq_true rfl, Nat.le_of_ble_eq_true rfl⟩, hts _ (List.mem_of_getElem? (i := 9) rfl), trivial⟩ rfl rfl (Nat.le_of_ble_eq_true rfl) dX8_setStone_18 (fun H locs w => ?_)
      refine lv_if_eq (tgt := 31) hx hb dX8_setStone_21 (by decide) (fun k9 => ?_) (fun k9 => ?_)
      · have h := x_t h k9
        exact r_vret cx w h dX8_setStone_31
      · have h := x_f h k9
        refine lv_iload_n hx hb dX8_setStone_24 rfl (lv_at hl 0 rfl) ?_
        obtain ⟨M10, r11, y12, h⟩ := x_cl h
        refine r_callSNi (As := [.int r2]) (rest := []) cx w hkn hl.1 (k_X9_isColour hG y12) ⟨va_cnB 1 hts gX8_setStone_X9_isColour_n61 rfl rfl rfl (nwM cx (q := (RX8, 61, yX9_isColour, "FlagAnts")) (List.mem_of_getElem? (i := 5) rfl)) (hts _ (List.mem_of_getElem? (i := 10) rfl)) (by decide +kernel) ⟨Nat.le_of_ble_eq_true rfl, Nat.le_of_ble_eq_true rfl⟩, hts _ (List.mem_of_getElem? (i := 9) rfl), trivial⟩ rfl rfl (Nat.le_of_ble_eq_true rfl) dX8_setStone_25 (fun H locs w => ?_)
        refine lv_if_ne (tgt := 32) hx hb dX8_setStone_28 (by decide) (fun k13 => ?_) (fun k13 => ?_)
        · have h := x_f h k13
          refine lv_iload_n hx hb dX8_setStone_32 rfl (lv_at hl 2 rfl) ?_
          refine lv_bipush (v := (64 : Int32)) hx hb dX8_setStone_33 (by decide) ?_
          obtain ⟨z14, h⟩ := x_ck h
          refine lv_idiv hx hb dX8_setStone_35 z14 ?_
          obtain ⟨x15, ex15, h⟩ := x_bd h
          refine r_topI ex15 ?_
          refine lv_istore (lv' := [(4, .int x15), (3, .int r2), (0, .ref a0), (1, .int c1), (2, .int c2)]) hx hb dX8_setStone_36 hl (by decide) rfl (fun ls hl => ?_)
          refine lv_aload_n hx hb dX8_setStone_38 rfl (lv_at hl 2 rfl) ?_
          obtain ⟨q16, eq16, h⟩ := x_rf h
          obtain ⟨hLq16, hKq16⟩ := wt_q hG hL0 hK0 eq16
          have hKq16 : gK G q16 = 12 := hKq16
          refine r_getR (k := 0) cx w hL0 hK0 (by decide) rfl wi_X8_setStone_X8 (by decide) rfl eq16 (List.mem_of_getElem? (i := 1) rfl) dX8_setStone_39 ?_
          refine lv_iload_n hx hb dX8_setStone_42 rfl (lv_at hl 3 rfl) ?_
          refine lv_iload_n hx hb dX8_setStone_43 rfl (lv_at hl 4 rfl) ?_
          obtain ⟨z17, h⟩ := x_ix h
          obtain ⟨M18, eM18, h⟩ := x_wI h
          refine r_iast cx w hLq16 hKq16 z17 dX8_setStone_44 eM18 (fun H locs w => ?_)
          refine lv_aload_n hx hb dX8_setStone_45 rfl (lv_at hl 2 rfl) ?_
          obtain ⟨q19, eq19, h⟩ := x_rf h
          obtain ⟨hLq19, hKq19⟩ := wt_q hG hL0 hK0 eq19
          have hKq19 : gK G q19 = 12 := hKq19
          refine r_getR (k := 2) cx w hL0 hK0 (by decide) rfl wi_X8_setStone_X8 (by decide) rfl eq19 (List.mem_of_getElem? (i := 2) rfl) dX8_setStone_46 ?_
          refine lv_iload_n hx hb dX8_setStone_49 rfl (lv_at hl 1 rfl) ?_
          refine lv_dup2_11 hx hb dX8_setStone_50 rfl rfl ?_
          obtain ⟨z20, h⟩ := x_ix h
          refine r_iald cx w hLq19 hKq19 z20 dX8_setStone_51 ?_
          refine lv_iconst (v := (1 : Int32)) hx hb dX8_setStone_52 (by decide) ?_
          refine lv_isub hx hb dX8_setStone_53 ?_
          obtain ⟨z21, h⟩ := x_ix h
          obtain ⟨M22, eM22, h⟩ := x_wI h
          refine r_iast cx w hLq19 hKq19 z21 dX8_setStone_54 eM22 (fun H locs w => ?_)
          refine lv_aload_n hx hb dX8_setStone_55 rfl (lv_at hl 2 rfl) ?_
          obtain ⟨q23, eq23, h⟩ := x_rf h
          obtain ⟨hLq23, hKq23⟩ := wt_q hG hL0 hK0 eq23
          have hKq23 : gK G q23 = 12 := hKq23
          refine r_getR (k := 2) cx w hL0 hK0 (by decide) rfl wi_X8_setStone_X8 (by decide) rfl eq23 (List.mem_of_getElem? (i := 2) rfl) dX8_setStone_56 ?_
          refine lv_iload_n hx hb dX8_setStone_59 rfl (lv_at hl 4 rfl) ?_
          refine lv_dup2_11 hx hb dX8_setStone_60 rfl rfl ?_
          obtain ⟨z24, h⟩ := x_ix h
          refine r_iald cx w hLq23 hKq23 z24 dX8_setStone_61 ?_
          refine lv_iconst (v := (1 : Int32)) hx hb dX8_setStone_62 (by decide) ?_
          refine lv_iadd hx hb dX8_setStone_63 ?_
          obtain ⟨z25, h⟩ := x_ix h
          obtain ⟨M26, eM26, h⟩ := x_wI h
          refine r_iast cx w hLq23 hKq23 z25 dX8_setStone_64 eM26 (fun H locs w => ?_)
          refine lv_aload_n hx hb dX8_setStone_65 rfl (lv_at hl 2 rfl) ?_
          obtain ⟨q27, eq27, h⟩ := x_rf h
          obtain ⟨hLq27, hKq27⟩ := wt_q hG hL0 hK0 eq27
          have hKq27 : gK G q27 = 12 := hKq27
          refine r_getR (k := 1) cx w hL0 hK0 (by decide) rfl wi_X8_setStone_X8 (by decide) rfl eq27 (List.mem_of_getElem? (i := 3) rfl) dX8_setStone_66 ?_
          refine lv_iload hx hb dX8_setStone_69 (lv_at hl 0 rfl) ?_
          refine lv_dup2_11 hx hb dX8_setStone_71 rfl rfl ?_
          obtain ⟨z28, h⟩ := x_ix h
          refine r_iald cx w hLq27 hKq27 z28 dX8_setStone_72 ?_
          refine lv_iload_n hx hb dX8_setStone_73 rfl (lv_at hl 4 rfl) ?_
          refine lv_if_eq (tgt := 81) hx hb dX8_setStone_74 (by decide) (fun k29 => ?_) (fun k29 => ?_)
          · have h := x_t h k29
            refine lv_iconst (v := (0 : Int32)) hx hb dX8_setStone_81 (by decide) ?_
            exact b_X8_setStone_82 cx hkn hL0 hK0 M26 r2 q27 x15 ((mI M26 q27 (Int32.toNatClampNeg x15))) ((0 : Int32)) H locs ls hLq27 hKq27 h w (lv_sub hl [1] rfl)
          · have h := x_f h k29
            refine lv_iconst (v := (1 : Int32)) hx hb dX8_setStone_77 (by decide) ?_
            refine lv_goto (tgt := 82) hx hb dX8_setStone_78 (by decide) ?_
            exact b_X8_setStone_82 cx hkn hL0 hK0 M26 r2 q27 x15 ((mI M26 q27 (Int32.toNatClampNeg x15))) ((1 : Int32)) H locs ls hLq27 hKq27 h w (lv_sub hl [1] rfl)
        · have h := x_t h k13
          exact r_vret cx w h dX8_setStone_31
-- X8_darkStones
theorem wi_X8_darkStones_X8 : ∀ w ∈ wsX80, w ∈ wsX8_darkStones := by decide +kernel
abbrev rmX8_darkStones : Room := { frames := 0, cells := 0, slots := 0, locals := 0 }
def m_X8_darkStones (G : gS) (M : mS) (a0 : Nat) : Option (mS × Int32) := o_rf (gP G a0 2) (fun q1 => o_ix (0 : Int32) (gN G q1) (some (M, ((4096 : Int32) - (mI M q1 (Int32.toNatClampNeg (0 : Int32)))))))
set_option maxHeartbeats 4000000 in
set_option maxRecDepth 100000 in
theorem k_X8_darkStones {l : Launch} {D : va_G} {cy : cyS} {G : gS} {M M' : mS} {r : Int32} {a0 : Nat} (hG : wt G) (hL0 : a0 ∈ gL G) (hK0 : gK G a0 = 7) (h : m_X8_darkStones G M a0 = some (M', r)) : ctI l yX8_darkStones wsX8_darkStones rmX8_darkStones D cy G M [.ref a0] M' r := by
  unfold m_X8_darkStones at h
  refine ctI_of (cc := cX8_darkStones) (nL := 1) (ret := (some .int)) (lv := [(0, .ref a0)]) hG (by decide) rfl ⟨rfl, rfl⟩ (Nat.le_of_ble_eq_true rfl) rfl ?_
  intro p e s m args below meth c A ls cx w hl
  obtain ⟨hx, hb, hml, hown, hts, hr, hlocks, hK, hA, -, hsx⟩ := id cx
  have hkn : 0 ≤ (rmX8_darkStones).cells ∧ 0 ≤ (rmX8_darkStones).slots := ⟨Nat.zero_le _, Nat.zero_le _⟩
  refine lv_sipush (v := (4096 : Int32)) hx hb dX8_darkStones_0 (by decide) ?_
  refine lv_aload_n hx hb dX8_darkStones_3 rfl (lv_at hl 0 rfl) ?_
  obtain ⟨q1, eq1, h⟩ := x_rf h
  obtain ⟨hLq1, hKq1⟩ := wt_q hG hL0 hK0 eq1
  have hKq1 : gK G q1 = 12 := hKq1
  refine r_getR (k := 2) cx w hL0 hK0 (by decide) rfl wi_X8_darkStones_X8 (by decide) rfl eq1 (List.mem_of_getElem? (i := 1) rfl) dX8_darkStones_4 ?_
  refine lv_iconst (v := (0 : Int32)) hx hb dX8_darkStones_7 (by decide) ?_
  obtain ⟨z2, h⟩ := x_ix h
  refine r_iald cx w hLq1 hKq1 z2 dX8_darkStones_8 ?_
  refine lv_isub hx hb dX8_darkStones_9 ?_
  exact r_iret cx w h dX8_darkStones_10
-- X8_washRow
abbrev rmX8_washRow : Room := { frames := 2, cells := 0, slots := 0, locals := 45 }
def m_X8_washRow_2 (G : gS) (a0 : Nat) (c1 : Int32)  : Nat → mS → Int32 → Option (mS × Unit)
  | 0, _, _ => none
  | n + 1, M, v2 => (if (64 : Int32) ≤ v2 then some (M, ()) else o_cl (m_X8_setStone G M a0 ((c1 * (64 : Int32)) + v2) (0 : Int32)) (fun M2 r3 => o_bd (v2 + 1 : Int32) (fun x5 => m_X8_washRow_2 G a0 c1 n M2 x5)))
def m_X8_washRow (G : gS) (M : mS) (a0 : Nat) (c1 : Int32) : Option (mS × Unit) := m_X8_washRow_2 G a0 c1 fu M ((0 : Int32))
set_option maxHeartbeats 4000000 in
set_option maxRecDepth 100000 in
theorem b_X8_washRow_2 {p : Program} {e : Env} {s : State} {m : MethodId} {args : Array Value} {below : List Frame} {meth : Method} {c : Code} {A : Nat → Prop} {l : Launch} {D : va_G} {cy : cyS} {G : gS} (cx : cX p s m args meth c cX8_washRow RX8 3 none wsX8_washRow D cy G A) {k0 n0 : Nat} (hkn : k0 ≤ (rmX8_washRow).cells ∧ n0 ≤ (rmX8_washRow).slots) {M' : mS} {a0 : Nat} {c1 : Int32} (hL0 : a0 ∈ gL G) (hK0 : gK G a0 = 7)  : ∀ (n : Nat), ∀ (M : mS) (v2 : Int32) (H : Heap) (locs : List Loc) (ls : Array Slot), m_X8_washRow_2 G a0 c1 n M v2 = some (M', ()) → wd D cy G M A s.heap H locs → lv_has ls 3 [(0, .ref a0), (1, .int c1), (2, .int v2)] → W p l e rmX8_washRow s m args below meth c H locs k0 n0 (MQ below (va_Qv (fun (_ : Unit) => True) (fun _ t => wOut D cy G M' t) A) args s k0 n0 A) (F0 m 2 ls []) := by
  obtain ⟨hx, hb, hml, hown, hts, hr, hlocks, hK, hA, hG, hsx⟩ := id cx
  intro n
  induction n with
  | zero =>
    intro M v2 H locs ls h w hl
    have h : none = some _ := h
    cases h
  | succ n ih =>
    intro M v2 H locs ls h w hl
    rw [m_X8_washRow_2] at h
    refine lv_iload_n hx hb dX8_washRow_2 rfl (lv_at hl 2 rfl) ?_
    refine lv_bipush (v := (64 : Int32)) hx hb dX8_washRow_3 (by decide) ?_
    refine lv_icmp_ge (tgt := 25) hx hb dX8_washRow_5 (by decide) (fun k1 => ?_) (fun k1 => ?_)
    · have h := x_t h k1
      exact r_vret cx w h dX8_washRow_25
    · have h := x_f h k1
      refine lv_aload_n hx hb dX8_washRow_8 rfl (lv_at hl 0 rfl) ?_
      refine lv_iload_n hx hb dX8_washRow_9 rfl (lv_at hl 1 rfl) ?_
      refine lv_bipush (v := (64 : Int32)) hx hb dX8_washRow_10 (by decide) ?_
      refine lv_imul hx hb dX8_washRow_12 ?_
      refine lv_iload_n hx hb dX8_washRow_13 rfl (lv_at hl 2 rfl) ?_
      refine lv_iadd hx hb dX8_washRow_14 ?_
      refine lv_iconst (v := (0 : Int32)) hx hb dX8_washRow_15 (by decide) ?_
      obtain ⟨M2, r3, y4, h⟩ := x_cl h
      refine r_callVv (As := [.int (((c1 * (64 : Int32)) + v2)), .int ((0 : Int32))]) (rest := []) cx w hkn hl.1 (k_X8_setStone hG hL0 hK0 y4) (cwV 2 hts gX8_washRow_X8_setStone rfl rfl rfl (by decide +kernel) ⟨Nat.le_of_ble_eq_true rfl, Nat.le_of_ble_eq_true rfl⟩) hL0 hK0 (by decide) rfl rfl rfl (Nat.le_of_ble_eq_true rfl) dX8_washRow_16 (fun H locs w => ?_)
      obtain ⟨x5, ex5, h⟩ := x_bd h
      refine lv_iinc (v := x5) (lv' := [(2, .int x5), (0, .ref a0), (1, .int c1)]) hx hb dX8_washRow_19 hl (k := 2) rfl (by rw [ex5]; rfl) (by decide) rfl (fun ls hl => ?_)
      refine lv_goto (tgt := 2) hx hb dX8_washRow_22 (by decide) ?_
      exact ih M2 x5 H locs ls h w (lv_sub hl [1, 2, 0] rfl)
set_option maxHeartbeats 4000000 in
set_option maxRecDepth 100000 in
theorem k_X8_washRow {l : Launch} {D : va_G} {cy : cyS} {G : gS} {M M' : mS} {a0 : Nat} {c1 : Int32} (hG : wt G) (hL0 : a0 ∈ gL G) (hK0 : gK G a0 = 7) (h : m_X8_washRow G M a0 c1 = some (M', ())) : ctV l yX8_washRow wsX8_washRow rmX8_washRow D cy G M [.ref a0, .int c1] M' := by
  unfold m_X8_washRow at h
  refine ctV_of (cc := cX8_washRow) (nL := 3) (ret := none) (lv := [(0, .ref a0), (1, .int c1)]) hG (by decide) rfl ⟨rfl, rfl⟩ (Nat.le_of_ble_eq_true rfl) rfl ?_
  intro p e s m args below meth c A ls cx w hl
  obtain ⟨hx, hb, hml, hown, hts, hr, hlocks, hK, hA, -, hsx⟩ := id cx
  have hkn : 0 ≤ (rmX8_washRow).cells ∧ 0 ≤ (rmX8_washRow).slots := ⟨Nat.zero_le _, Nat.zero_le _⟩
  refine lv_iconst (v := (0 : Int32)) hx hb dX8_washRow_0 (by decide) ?_
  refine lv_istore_n (lv' := [(2, .int ((0 : Int32))), (0, .ref a0), (1, .int c1)]) hx hb dX8_washRow_1 rfl hl (by decide) rfl (fun ls hl => ?_)
  exact b_X8_washRow_2 cx hkn hL0 hK0 fu M ((0 : Int32)) s.heap [] ls h w (lv_sub hl [1, 2, 0] rfl)
-- X8_washRows
theorem wi_X8_washRows_X8 : ∀ w ∈ wsX80, w ∈ wsX8_washRows := by decide +kernel
abbrev rmX8_washRows : Room := { frames := 3, cells := 0, slots := 0, locals := 67 }
def m_X8_washRows_47 (G : gS) (a0 : Nat) (c1 : Int32) (c2 : Int32)  (M : mS) (v3 : Int32) : Option (mS × Int32) := o_cl (m_X8_darkStones G M a0) (fun M1 r2 => o_bd ((v3 - r2)) (fun x4 => o_wI M1 a0 7 ((mI M1 a0 7) + x4) (fun M5 => some (M5, x4))))
def m_X8_washRows_41 (G : gS) (a0 : Nat) (c1 : Int32) (c2 : Int32) (kb12 : mS → Int32 → Int32 → Option (mS × Int32)) (M : mS) (v3 : Int32) (v4 : Int32) : Option (mS × Int32) := o_bd (v4 + 1 : Int32) (fun x1 => kb12 M v3 x1)
def m_X8_washRows_12 (G : gS) (a0 : Nat) (c1 : Int32) (c2 : Int32)  : Nat → mS → Int32 → Int32 → Option (mS × Int32)
  | 0, _, _, _ => none
  | n + 1, M, v3, v4 => (if c2 < v4 then m_X8_washRows_47 G a0 c1 c2 M v3 else (if (64 : Int32) ≤ v4 then m_X8_washRows_47 G a0 c1 c2 M v3 else o_rf (gP G a0 1) (fun q3 => o_ix v4 (gN G q3) ((if (mI M q3 (Int32.toNatClampNeg v4)) ≤ 0 then m_X8_washRows_41 G a0 c1 c2 (fun M v3 v4 => m_X8_washRows_12 G a0 c1 c2 n M v3 v4) M v3 v4 else o_cl (m_X8_washRow G M a0 v4) (fun M6 r7 => m_X8_washRows_41 G a0 c1 c2 (fun M v3 v4 => m_X8_washRows_12 G a0 c1 c2 n M v3 v4) M6 v3 v4))))))
def m_X8_washRows (G : gS) (M : mS) (a0 : Nat) (c1 : Int32) (c2 : Int32) : Option (mS × Int32) := o_cl (m_X8_darkStones G M a0) (fun M1 r2 => o_bd ((if c1 < (0 : Int32) then (0 : Int32) else c1)) (fun x4 => m_X8_washRows_12 G a0 c1 c2 fu M1 r2 x4))
set_option maxHeartbeats 4000000 in
set_option maxRecDepth 100000 in
theorem b_X8_washRows_47 {p : Program} {e : Env} {s : State} {m : MethodId} {args : Array Value} {below : List Frame} {meth : Method} {c : Code} {A : Nat → Prop} {l : Launch} {D : va_G} {cy : cyS} {G : gS} (cx : cX p s m args meth c cX8_washRows RX8 5 (some .int) wsX8_washRows D cy G A) {k0 n0 : Nat} (hkn : k0 ≤ (rmX8_washRows).cells ∧ n0 ≤ (rmX8_washRows).slots) {M' : mS} {r : Int32} {a0 : Nat} {c1 : Int32} {c2 : Int32} (hL0 : a0 ∈ gL G) (hK0 : gK G a0 = 7)  : ∀ (M : mS) (v3 : Int32) (H : Heap) (locs : List Loc) (ls : Array Slot), m_X8_washRows_47 G a0 c1 c2 M v3 = some (M', r) → wd D cy G M A s.heap H locs → lv_has ls 5 [(0, .ref a0), (3, .int v3)] → W p l e rmX8_washRows s m args below meth c H locs k0 n0 (MQ below (va_Qi (fun (r' : Int32) (_ : Unit) => r' = r) (fun _ t => wOut D cy G M' t) A) args s k0 n0 A) (F0 m 47 ls []) := by
  obtain ⟨hx, hb, hml, hown, hts, hr, hlocks, hK, hA, hG, hsx⟩ := id cx
  intro M v3 H locs ls h w hl
  unfold m_X8_washRows_47 at h
  refine lv_iload_n hx hb dX8_washRows_47 rfl (lv_at hl 1 rfl) ?_
  refine lv_aload_n hx hb dX8_washRows_48 rfl (lv_at hl 0 rfl) ?_
  obtain ⟨M1, r2, y3, h⟩ := x_cl h
  refine r_callVi (As := []) (rest := [.int v3]) cx w hkn hl.1 (k_X8_darkStones hG hL0 hK0 y3) (cwV 0 hts gX8_washRows_X8_darkStones rfl rfl rfl (by decide +kernel) ⟨Nat.le_of_ble_eq_true rfl, Nat.le_of_ble_eq_true rfl⟩) hL0 hK0 (by decide) rfl rfl rfl (Nat.le_of_ble_eq_true rfl) dX8_washRows_49 (fun H locs w => ?_)
  refine lv_isub hx hb dX8_washRows_52 ?_
  obtain ⟨x4, ex4, h⟩ := x_bd h
  refine r_topI ex4 ?_
  refine lv_istore (lv' := [(4, .int x4), (0, .ref a0), (3, .int v3)]) hx hb dX8_washRows_53 hl (by decide) rfl (fun ls hl => ?_)
  refine lv_aload_n hx hb dX8_washRows_55 rfl (lv_at hl 1 rfl) ?_
  refine lv_dup hx hb dX8_washRows_56 rfl ?_
  refine r_getI (k := 7) (v := .int (mI M1 a0 7)) cx w hL0 hK0 (by decide) rfl wi_X8_washRows_X8 (by decide) rfl (List.mem_of_getElem? (i := 6) rfl) dX8_washRows_57 ?_
  refine lv_iload hx hb dX8_washRows_60 (lv_at hl 0 rfl) ?_
  refine lv_iadd hx hb dX8_washRows_62 ?_
  obtain ⟨M5, eM5, h⟩ := x_wI h
  refine r_putI (k := 7) (ty := .int) cx w tyX8 tyX8_ok nmX8 hL0 hK0 (by decide) rfl wi_X8_washRows_X8 (by decide) rfl rfl rfl rfl st_7_7 (ln_7 _ _ (by decide)) (List.mem_of_getElem? (i := 6) rfl) dX8_washRows_63 eM5 (fun H locs w => ?_)
  refine lv_iload hx hb dX8_washRows_66 (lv_at hl 0 rfl) ?_
  exact r_iret cx w h dX8_washRows_68
set_option maxHeartbeats 4000000 in
set_option maxRecDepth 100000 in
theorem b_X8_washRows_41 {p : Program} {e : Env} {s : State} {m : MethodId} {args : Array Value} {below : List Frame} {meth : Method} {c : Code} {A : Nat → Prop} {l : Launch} {D : va_G} {cy : cyS} {G : gS} (cx : cX p s m args meth c cX8_washRows RX8 5 (some .int) wsX8_washRows D cy G A) {k0 n0 : Nat} (hkn : k0 ≤ (rmX8_washRows).cells ∧ n0 ≤ (rmX8_washRows).slots) {M' : mS} {r : Int32} {a0 : Nat} {c1 : Int32} {c2 : Int32} (hL0 : a0 ∈ gL G) (hK0 : gK G a0 = 7) {kb12 : mS → Int32 → Int32 → Option (mS × Int32)} (hkb12 : ∀ (M : mS) (v3 : Int32) (v4 : Int32) (H : Heap) (locs : List Loc) (ls : Array Slot), kb12 M v3 v4 = some (M', r) → wd D cy G M A s.heap H locs → lv_has ls 5 [(0, .ref a0), (2, .int c2), (3, .int v3), (4, .int v4)] → W p l e rmX8_washRows s m args below meth c H locs k0 n0 (MQ below (va_Qi (fun (r' : Int32) (_ : Unit) => r' = r) (fun _ t => wOut D cy G M' t) A) args s k0 n0 A) (F0 m 12 ls [])) : ∀ (M : mS) (v3 : Int32) (v4 : Int32) (H : Heap) (locs : List Loc) (ls : Array Slot), m_X8_washRows_41 G a0 c1 c2 kb12 M v3 v4 = some (M', r) → wd D cy G M A s.heap H locs → lv_has ls 5 [(0, .ref a0), (2, .int c2), (3, .int v3), (4, .int v4)] → W p l e rmX8_washRows s m args below meth c H locs k0 n0 (MQ below (va_Qi (fun (r' : Int32) (_ : Unit) => r' = r) (fun _ t => wOut D cy G M' t) A) args s k0 n0 A) (F0 m 41 ls []) := by
  obtain ⟨hx, hb, hml, hown, hts, hr, hlocks, hK, hA, hG, hsx⟩ := id cx
  intro M v3 v4 H locs ls h w hl
  unfold m_X8_washRows_41 at h
  obtain ⟨x1, ex1, h⟩ := x_bd h
  refine lv_iinc (v := x1) (lv' := [(4, .int x1), (0, .ref a0), (2, .int c2), (3, .int v3)]) hx hb dX8_washRows_41 hl (k := 3) rfl (by rw [ex1]; rfl) (by decide) rfl (fun ls hl => ?_)
  refine lv_goto (tgt := 12) hx hb dX8_washRows_44 (by decide) ?_
  exact hkb12 M v3 x1 H locs ls h w (lv_sub hl [1, 2, 3, 0] rfl)
set_option maxHeartbeats 4000000 in
set_option maxRecDepth 100000 in
theorem b_X8_washRows_12 {p : Program} {e : Env} {s : State} {m : MethodId} {args : Array Value} {below : List Frame} {meth : Method} {c : Code} {A : Nat → Prop} {l : Launch} {D : va_G} {cy : cyS} {G : gS} (cx : cX p s m args meth c cX8_washRows RX8 5 (some .int) wsX8_washRows D cy G A) {k0 n0 : Nat} (hkn : k0 ≤ (rmX8_washRows).cells ∧ n0 ≤ (rmX8_washRows).slots) {M' : mS} {r : Int32} {a0 : Nat} {c1 : Int32} {c2 : Int32} (hL0 : a0 ∈ gL G) (hK0 : gK G a0 = 7)  : ∀ (n : Nat), ∀ (M : mS) (v3 : Int32) (v4 : Int32) (H : Heap) (locs : List Loc) (ls : Array Slot), m_X8_washRows_12 G a0 c1 c2 n M v3 v4 = some (M', r) → wd D cy G M A s.heap H locs → lv_has ls 5 [(0, .ref a0), (2, .int c2), (3, .int v3), (4, .int v4)] → W p l e rmX8_washRows s m args below meth c H locs k0 n0 (MQ below (va_Qi (fun (r' : Int32) (_ : Unit) => r' = r) (fun _ t => wOut D cy G M' t) A) args s k0 n0 A) (F0 m 12 ls []) := by
  obtain ⟨hx, hb, hml, hown, hts, hr, hlocks, hK, hA, hG, hsx⟩ := id cx
  intro n
  induction n with
  | zero =>
    intro M v3 v4 H locs ls h w hl
    have h : none = some _ := h
    cases h
  | succ n ih =>
    intro M v3 v4 H locs ls h w hl
    rw [m_X8_washRows_12] at h
    refine lv_iload hx hb dX8_washRows_12 (lv_at hl 3 rfl) ?_
    refine lv_iload_n hx hb dX8_washRows_14 rfl (lv_at hl 1 rfl) ?_
    refine lv_icmp_gt (tgt := 47) hx hb dX8_washRows_15 (by decide) (fun k1 => ?_) (fun k1 => ?_)
    · have h := x_t h k1
      exact b_X8_washRows_47 cx hkn hL0 hK0 M v3 H locs ls h w (lv_sub hl [0, 2] rfl)
    · have h := x_f h k1
      refine lv_iload hx hb dX8_washRows_18 (lv_at hl 3 rfl) ?_
      refine lv_bipush (v := (64 : Int32)) hx hb dX8_washRows_20 (by decide) ?_
      refine lv_icmp_ge (tgt := 47) hx hb dX8_washRows_22 (by decide) (fun k2 => ?_) (fun k2 => ?_)
      · have h := x_t h k2
        exact b_X8_washRows_47 cx hkn hL0 hK0 M v3 H locs ls h w (lv_sub hl [0, 2] rfl)
      · have h := x_f h k2
        refine lv_aload_n hx hb dX8_washRows_25 rfl (lv_at hl 0 rfl) ?_
        obtain ⟨q3, eq3, h⟩ := x_rf h
        obtain ⟨hLq3, hKq3⟩ := wt_q hG hL0 hK0 eq3
        have hKq3 : gK G q3 = 12 := hKq3
        refine r_getR (k := 1) cx w hL0 hK0 (by decide) rfl wi_X8_washRows_X8 (by decide) rfl eq3 (List.mem_of_getElem? (i := 5) rfl) dX8_washRows_26 ?_
        refine lv_iload hx hb dX8_washRows_29 (lv_at hl 3 rfl) ?_
        obtain ⟨z4, h⟩ := x_ix h
        refine r_iald cx w hLq3 hKq3 z4 dX8_washRows_31 ?_
        refine lv_if_le (tgt := 41) hx hb dX8_washRows_32 (by decide) (fun k5 => ?_) (fun k5 => ?_)
        · have h := x_t h k5
          exact b_X8_washRows_41 cx hkn hL0 hK0 (hkb12 := ih) M v3 v4 H locs ls h w (lv_sub hl [0, 1, 2, 3] rfl)
        · have h := x_f h k5
          refine lv_aload_n hx hb dX8_washRows_35 rfl (lv_at hl 0 rfl) ?_
          refine lv_iload hx hb dX8_washRows_36 (lv_at hl 3 rfl) ?_
          obtain ⟨M6, r7, y8, h⟩ := x_cl h
          refine r_callVv (As := [.int v4]) (rest := []) cx w hkn hl.1 (k_X8_washRow hG hL0 hK0 y8) (cwV 1 hts gX8_washRows_X8_washRow rfl rfl rfl (by decide +kernel) ⟨Nat.le_of_ble_eq_true rfl, Nat.le_of_ble_eq_true rfl⟩) hL0 hK0 (by decide) rfl rfl rfl (Nat.le_of_ble_eq_true rfl) dX8_washRows_38 (fun H locs w => ?_)
          exact b_X8_washRows_41 cx hkn hL0 hK0 (hkb12 := ih) M6 v3 v4 H locs ls h w (lv_sub hl [0, 1, 2, 3] rfl)
set_option maxHeartbeats 4000000 in
set_option maxRecDepth 100000 in
theorem k_X8_washRows {l : Launch} {D : va_G} {cy : cyS} {G : gS} {M M' : mS} {r : Int32} {a0 : Nat} {c1 : Int32} {c2 : Int32} (hG : wt G) (hL0 : a0 ∈ gL G) (hK0 : gK G a0 = 7) (h : m_X8_washRows G M a0 c1 c2 = some (M', r)) : ctI l yX8_washRows wsX8_washRows rmX8_washRows D cy G M [.ref a0, .int c1, .int c2] M' r := by
  unfold m_X8_washRows at h
  refine ctI_of (cc := cX8_washRows) (nL := 5) (ret := (some .int)) (lv := [(0, .ref a0), (1, .int c1), (2, .int c2)]) hG (by decide) rfl ⟨rfl, rfl⟩ (Nat.le_of_ble_eq_true rfl) rfl ?_
  intro p e s m args below meth c A ls cx w hl
  obtain ⟨hx, hb, hml, hown, hts, hr, hlocks, hK, hA, -, hsx⟩ := id cx
  have hkn : 0 ≤ (rmX8_washRows).cells ∧ 0 ≤ (rmX8_washRows).slots := ⟨Nat.zero_le _, Nat.zero_le _⟩
  refine lv_aload_n hx hb dX8_washRows_0 rfl (lv_at hl 0 rfl) ?_
  obtain ⟨M1, r2, y3, h⟩ := x_cl h
  refine r_callVi (As := []) (rest := []) cx w hkn hl.1 (k_X8_darkStones hG hL0 hK0 y3) (cwV 0 hts gX8_washRows_X8_darkStones rfl rfl rfl (by decide +kernel) ⟨Nat.le_of_ble_eq_true rfl, Nat.le_of_ble_eq_true rfl⟩) hL0 hK0 (by decide) rfl rfl rfl (Nat.le_of_ble_eq_true rfl) dX8_washRows_1 (fun H locs w => ?_)
  refine lv_istore_n (lv' := [(3, .int r2), (0, .ref a0), (1, .int c1), (2, .int c2)]) hx hb dX8_washRows_4 rfl hl (by decide) rfl (fun ls hl => ?_)
  refine lv_iload_n hx hb dX8_washRows_5 rfl (lv_at hl 2 rfl) ?_
  refine lv_iconst (v := (0 : Int32)) hx hb dX8_washRows_6 (by decide) ?_
  refine va_mmax hx hb (hml.trans hl.1.symm) hown (hts _ (List.mem_of_getElem? (i := 1) rfl)) (hts _ (List.mem_of_getElem? (i := 2) rfl)) (hts _ (List.mem_of_getElem? (i := 3) rfl)) (hts _ (List.mem_of_getElem? (i := 4) rfl)) (Nat.le_of_ble_eq_true rfl) (Nat.le_of_ble_eq_true rfl) hkn.1 hkn.2 dX8_washRows_7 ?_
  obtain ⟨x4, ex4, h⟩ := x_bd h
  refine r_topI ex4 ?_
  refine lv_istore (lv' := [(4, .int x4), (3, .int r2), (0, .ref a0), (1, .int c1), (2, .int c2)]) hx hb dX8_washRows_10 hl (by decide) rfl (fun ls hl => ?_)
  exact b_X8_washRows_12 cx hkn hL0 hK0 fu M1 r2 x4 H locs ls h w (lv_sub hl [2, 4, 1, 0] rfl)
-- X8_darkInRow
theorem wi_X8_darkInRow_X8 : ∀ w ∈ wsX80, w ∈ wsX8_darkInRow := by decide +kernel
abbrev rmX8_darkInRow : Room := { frames := 0, cells := 0, slots := 0, locals := 0 }
def m_X8_darkInRow_19 (G : gS) (a0 : Nat) (c1 : Int32)  (M : mS)  : Option (mS × Int32) := some (M, (0 : Int32))
def m_X8_darkInRow (G : gS) (M : mS) (a0 : Nat) (c1 : Int32) : Option (mS × Int32) := (if c1 < 0 then m_X8_darkInRow_19 G a0 c1 M else (if (64 : Int32) ≤ c1 then m_X8_darkInRow_19 G a0 c1 M else o_rf (gP G a0 1) (fun q3 => o_ix c1 (gN G q3) (some (M, (mI M q3 (Int32.toNatClampNeg c1)))))))
set_option maxHeartbeats 4000000 in
set_option maxRecDepth 100000 in
theorem b_X8_darkInRow_19 {p : Program} {e : Env} {s : State} {m : MethodId} {args : Array Value} {below : List Frame} {meth : Method} {c : Code} {A : Nat → Prop} {l : Launch} {D : va_G} {cy : cyS} {G : gS} (cx : cX p s m args meth c cX8_darkInRow RX8 2 (some .int) wsX8_darkInRow D cy G A) {k0 n0 : Nat} (hkn : k0 ≤ (rmX8_darkInRow).cells ∧ n0 ≤ (rmX8_darkInRow).slots) {M' : mS} {r : Int32} {a0 : Nat} {c1 : Int32} (hL0 : a0 ∈ gL G) (hK0 : gK G a0 = 7)  : ∀ (M : mS) (H : Heap) (locs : List Loc) (ls : Array Slot), m_X8_darkInRow_19 G a0 c1 M = some (M', r) → wd D cy G M A s.heap H locs → lv_has ls 2 [] → W p l e rmX8_darkInRow s m args below meth c H locs k0 n0 (MQ below (va_Qi (fun (r' : Int32) (_ : Unit) => r' = r) (fun _ t => wOut D cy G M' t) A) args s k0 n0 A) (F0 m 19 ls []) := by
  obtain ⟨hx, hb, hml, hown, hts, hr, hlocks, hK, hA, hG, hsx⟩ := id cx
  intro M H locs ls h w hl
  unfold m_X8_darkInRow_19 at h
  refine lv_iconst (v := (0 : Int32)) hx hb dX8_darkInRow_19 (by decide) ?_
  exact r_iret cx w h dX8_darkInRow_20
set_option maxHeartbeats 4000000 in
set_option maxRecDepth 100000 in
theorem k_X8_darkInRow {l : Launch} {D : va_G} {cy : cyS} {G : gS} {M M' : mS} {r : Int32} {a0 : Nat} {c1 : Int32} (hG : wt G) (hL0 : a0 ∈ gL G) (hK0 : gK G a0 = 7) (h : m_X8_darkInRow G M a0 c1 = some (M', r)) : ctI l yX8_darkInRow wsX8_darkInRow rmX8_darkInRow D cy G M [.ref a0, .int c1] M' r := by
  unfold m_X8_darkInRow at h
  refine ctI_of (cc := cX8_darkInRow) (nL := 2) (ret := (some .int)) (lv := [(0, .ref a0), (1, .int c1)]) hG (by decide) rfl ⟨rfl, rfl⟩ (Nat.le_of_ble_eq_true rfl) rfl ?_
  intro p e s m args below meth c A ls cx w hl
  obtain ⟨hx, hb, hml, hown, hts, hr, hlocks, hK, hA, -, hsx⟩ := id cx
  have hkn : 0 ≤ (rmX8_darkInRow).cells ∧ 0 ≤ (rmX8_darkInRow).slots := ⟨Nat.zero_le _, Nat.zero_le _⟩
  refine lv_iload_n hx hb dX8_darkInRow_0 rfl (lv_at hl 1 rfl) ?_
  refine lv_if_lt (tgt := 19) hx hb dX8_darkInRow_1 (by decide) (fun k1 => ?_) (fun k1 => ?_)
  · have h := x_t h k1
    exact b_X8_darkInRow_19 cx hkn hL0 hK0 M s.heap [] ls h w (lv_sub hl [] rfl)
  · have h := x_f h k1
    refine lv_iload_n hx hb dX8_darkInRow_4 rfl (lv_at hl 1 rfl) ?_
    refine lv_bipush (v := (64 : Int32)) hx hb dX8_darkInRow_5 (by decide) ?_
    refine lv_icmp_ge (tgt := 19) hx hb dX8_darkInRow_7 (by decide) (fun k2 => ?_) (fun k2 => ?_)
    · have h := x_t h k2
      exact b_X8_darkInRow_19 cx hkn hL0 hK0 M s.heap [] ls h w (lv_sub hl [] rfl)
    · have h := x_f h k2
      refine lv_aload_n hx hb dX8_darkInRow_10 rfl (lv_at hl 0 rfl) ?_
      obtain ⟨q3, eq3, h⟩ := x_rf h
      obtain ⟨hLq3, hKq3⟩ := wt_q hG hL0 hK0 eq3
      have hKq3 : gK G q3 = 12 := hKq3
      refine r_getR (k := 1) cx w hL0 hK0 (by decide) rfl wi_X8_darkInRow_X8 (by decide) rfl eq3 (List.mem_of_getElem? (i := 1) rfl) dX8_darkInRow_11 ?_
      refine lv_iload_n hx hb dX8_darkInRow_14 rfl (lv_at hl 1 rfl) ?_
      obtain ⟨z4, h⟩ := x_ix h
      refine r_iald cx w hLq3 hKq3 z4 dX8_darkInRow_15 ?_
      refine lv_goto (tgt := 20) hx hb dX8_darkInRow_16 (by decide) ?_
      exact r_iret cx w h dX8_darkInRow_20
-- X8_hasAnt
theorem wi_X8_hasAnt_X8 : ∀ w ∈ wsX80, w ∈ wsX8_hasAnt := by decide +kernel
abbrev rmX8_hasAnt : Room := { frames := 0, cells := 0, slots := 0, locals := 0 }
def m_X8_hasAnt_22 (G : gS) (a0 : Nat) (c1 : Int32)  (M : mS)  : Option (mS × Int32) := o_ck ((0 : Int32) = 0 ∨ (0 : Int32) = 1) (some (M, (0 : Int32)))
def m_X8_hasAnt (G : gS) (M : mS) (a0 : Nat) (c1 : Int32) : Option (mS × Int32) := (if c1 < 0 then m_X8_hasAnt_22 G a0 c1 M else (if (mI M a0 4) ≤ c1 then m_X8_hasAnt_22 G a0 c1 M else (if (6 : Int32) ≤ c1 then m_X8_hasAnt_22 G a0 c1 M else o_ck ((1 : Int32) = 0 ∨ (1 : Int32) = 1) (some (M, (1 : Int32))))))
set_option maxHeartbeats 4000000 in
set_option maxRecDepth 100000 in
theorem b_X8_hasAnt_22 {p : Program} {e : Env} {s : State} {m : MethodId} {args : Array Value} {below : List Frame} {meth : Method} {c : Code} {A : Nat → Prop} {l : Launch} {D : va_G} {cy : cyS} {G : gS} (cx : cX p s m args meth c cX8_hasAnt RX8 2 (some .boolean) wsX8_hasAnt D cy G A) {k0 n0 : Nat} (hkn : k0 ≤ (rmX8_hasAnt).cells ∧ n0 ≤ (rmX8_hasAnt).slots) {M' : mS} {r : Int32} {a0 : Nat} {c1 : Int32} (hL0 : a0 ∈ gL G) (hK0 : gK G a0 = 7)  : ∀ (M : mS) (H : Heap) (locs : List Loc) (ls : Array Slot), m_X8_hasAnt_22 G a0 c1 M = some (M', r) → wd D cy G M A s.heap H locs → lv_has ls 2 [] → W p l e rmX8_hasAnt s m args below meth c H locs k0 n0 (MQ below (va_Qi (fun (r' : Int32) (_ : Unit) => r' = r) (fun _ t => wOut D cy G M' t) A) args s k0 n0 A) (F0 m 22 ls []) := by
  obtain ⟨hx, hb, hml, hown, hts, hr, hlocks, hK, hA, hG, hsx⟩ := id cx
  intro M H locs ls h w hl
  unfold m_X8_hasAnt_22 at h
  refine lv_iconst (v := (0 : Int32)) hx hb dX8_hasAnt_22 (by decide) ?_
  obtain ⟨z1, h⟩ := x_ck h
  exact r_zret cx w z1 h dX8_hasAnt_23
set_option maxHeartbeats 4000000 in
set_option maxRecDepth 100000 in
theorem k_X8_hasAnt {l : Launch} {D : va_G} {cy : cyS} {G : gS} {M M' : mS} {r : Int32} {a0 : Nat} {c1 : Int32} (hG : wt G) (hL0 : a0 ∈ gL G) (hK0 : gK G a0 = 7) (h : m_X8_hasAnt G M a0 c1 = some (M', r)) : ctI l yX8_hasAnt wsX8_hasAnt rmX8_hasAnt D cy G M [.ref a0, .int c1] M' r := by
  unfold m_X8_hasAnt at h
  refine ctI_of (cc := cX8_hasAnt) (nL := 2) (ret := (some .boolean)) (lv := [(0, .ref a0), (1, .int c1)]) hG (by decide) rfl ⟨rfl, rfl⟩ (Nat.le_of_ble_eq_true rfl) rfl ?_
  intro p e s m args below meth c A ls cx w hl
  obtain ⟨hx, hb, hml, hown, hts, hr, hlocks, hK, hA, -, hsx⟩ := id cx
  have hkn : 0 ≤ (rmX8_hasAnt).cells ∧ 0 ≤ (rmX8_hasAnt).slots := ⟨Nat.zero_le _, Nat.zero_le _⟩
  refine lv_iload_n hx hb dX8_hasAnt_0 rfl (lv_at hl 1 rfl) ?_
  refine lv_if_lt (tgt := 22) hx hb dX8_hasAnt_1 (by decide) (fun k1 => ?_) (fun k1 => ?_)
  · have h := x_t h k1
    exact b_X8_hasAnt_22 cx hkn hL0 hK0 M s.heap [] ls h w (lv_sub hl [] rfl)
  · have h := x_f h k1
    refine lv_iload_n hx hb dX8_hasAnt_4 rfl (lv_at hl 1 rfl) ?_
    refine lv_aload_n hx hb dX8_hasAnt_5 rfl (lv_at hl 0 rfl) ?_
    refine r_getI (k := 4) (v := .int (mI M a0 4)) cx w hL0 hK0 (by decide) rfl wi_X8_hasAnt_X8 (by decide) rfl (List.mem_of_getElem? (i := 1) rfl) dX8_hasAnt_6 ?_
    refine lv_icmp_ge (tgt := 22) hx hb dX8_hasAnt_9 (by decide) (fun k2 => ?_) (fun k2 => ?_)
    · have h := x_t h k2
      exact b_X8_hasAnt_22 cx hkn hL0 hK0 M s.heap [] ls h w (lv_sub hl [] rfl)
    · have h := x_f h k2
      refine lv_iload_n hx hb dX8_hasAnt_12 rfl (lv_at hl 1 rfl) ?_
      refine lv_bipush (v := (6 : Int32)) hx hb dX8_hasAnt_13 (by decide) ?_
      refine lv_icmp_ge (tgt := 22) hx hb dX8_hasAnt_15 (by decide) (fun k3 => ?_) (fun k3 => ?_)
      · have h := x_t h k3
        exact b_X8_hasAnt_22 cx hkn hL0 hK0 M s.heap [] ls h w (lv_sub hl [] rfl)
      · have h := x_f h k3
        refine lv_iconst (v := (1 : Int32)) hx hb dX8_hasAnt_18 (by decide) ?_
        refine lv_goto (tgt := 23) hx hb dX8_hasAnt_19 (by decide) ?_
        obtain ⟨z4, h⟩ := x_ck h
        exact r_zret cx w z4 h dX8_hasAnt_23
-- X8_meetsAnother
theorem wi_X8_meetsAnother_X8 : ∀ w ∈ wsX80, w ∈ wsX8_meetsAnother := by decide +kernel
abbrev rmX8_meetsAnother : Room := { frames := 1, cells := 0, slots := 0, locals := 20 }
def m_X8_meetsAnother_50 (G : gS) (a0 : Nat) (c1 : Int32)  (M : mS)  : Option (mS × Int32) := o_ck ((0 : Int32) = 0 ∨ (0 : Int32) = 1) (some (M, (0 : Int32)))
def m_X8_meetsAnother_44 (G : gS) (a0 : Nat) (c1 : Int32) (kb2 : mS → Int32 → Option (mS × Int32)) (M : mS) (v2 : Int32) : Option (mS × Int32) := o_bd (v2 + 1 : Int32) (fun x1 => kb2 M x1)
def m_X8_meetsAnother_2 (G : gS) (a0 : Nat) (c1 : Int32)  : Nat → mS → Int32 → Option (mS × Int32)
  | 0, _, _ => none
  | n + 1, M, v2 => (if (mI M a0 4) ≤ v2 then m_X8_meetsAnother_50 G a0 c1 M else (if (6 : Int32) ≤ v2 then m_X8_meetsAnother_50 G a0 c1 M else (if v2 = c1 then m_X8_meetsAnother_44 G a0 c1 (fun M v2 => m_X8_meetsAnother_2 G a0 c1 n M v2) M v2 else o_rf (gP G a0 3) (fun q4 => o_ix v2 (gN G q4) (o_rf (gP G q4 (Int32.toNatClampNeg v2)) (fun q6 => o_cl (m_X0_stoneUnder G M q6) (fun M7 r8 => o_rf (gP G a0 3) (fun q10 => o_ix c1 (gN G q10) (o_rf (gP G q10 (Int32.toNatClampNeg c1)) (fun q12 => o_cl (m_X0_stoneUnder G M7 q12) (fun M13 r14 => (if r8 = r14 then o_ck ((1 : Int32) = 0 ∨ (1 : Int32) = 1) (some (M13, (1 : Int32))) else m_X8_meetsAnother_44 G a0 c1 (fun M v2 => m_X8_meetsAnother_2 G a0 c1 n M v2) M13 v2))))))))))))
def m_X8_meetsAnother (G : gS) (M : mS) (a0 : Nat) (c1 : Int32) : Option (mS × Int32) := m_X8_meetsAnother_2 G a0 c1 fu M ((0 : Int32))
set_option maxHeartbeats 4000000 in
set_option maxRecDepth 100000 in
theorem b_X8_meetsAnother_50 {p : Program} {e : Env} {s : State} {m : MethodId} {args : Array Value} {below : List Frame} {meth : Method} {c : Code} {A : Nat → Prop} {l : Launch} {D : va_G} {cy : cyS} {G : gS} (cx : cX p s m args meth c cX8_meetsAnother RX8 3 (some .boolean) wsX8_meetsAnother D cy G A) {k0 n0 : Nat} (hkn : k0 ≤ (rmX8_meetsAnother).cells ∧ n0 ≤ (rmX8_meetsAnother).slots) {M' : mS} {r : Int32} {a0 : Nat} {c1 : Int32} (hL0 : a0 ∈ gL G) (hK0 : gK G a0 = 7)  : ∀ (M : mS) (H : Heap) (locs : List Loc) (ls : Array Slot), m_X8_meetsAnother_50 G a0 c1 M = some (M', r) → wd D cy G M A s.heap H locs → lv_has ls 3 [] → W p l e rmX8_meetsAnother s m args below meth c H locs k0 n0 (MQ below (va_Qi (fun (r' : Int32) (_ : Unit) => r' = r) (fun _ t => wOut D cy G M' t) A) args s k0 n0 A) (F0 m 50 ls []) := by
  obtain ⟨hx, hb, hml, hown, hts, hr, hlocks, hK, hA, hG, hsx⟩ := id cx
  intro M H locs ls h w hl
  unfold m_X8_meetsAnother_50 at h
  refine lv_iconst (v := (0 : Int32)) hx hb dX8_meetsAnother_50 (by decide) ?_
  obtain ⟨z1, h⟩ := x_ck h
  exact r_zret cx w z1 h dX8_meetsAnother_51
set_option maxHeartbeats 4000000 in
set_option maxRecDepth 100000 in
theorem b_X8_meetsAnother_44 {p : Program} {e : Env} {s : State} {m : MethodId} {args : Array Value} {below : List Frame} {meth : Method} {c : Code} {A : Nat → Prop} {l : Launch} {D : va_G} {cy : cyS} {G : gS} (cx : cX p s m args meth c cX8_meetsAnother RX8 3 (some .boolean) wsX8_meetsAnother D cy G A) {k0 n0 : Nat} (hkn : k0 ≤ (rmX8_meetsAnother).cells ∧ n0 ≤ (rmX8_meetsAnother).slots) {M' : mS} {r : Int32} {a0 : Nat} {c1 : Int32} (hL0 : a0 ∈ gL G) (hK0 : gK G a0 = 7) {kb2 : mS → Int32 → Option (mS × Int32)} (hkb2 : ∀ (M : mS) (v2 : Int32) (H : Heap) (locs : List Loc) (ls : Array Slot), kb2 M v2 = some (M', r) → wd D cy G M A s.heap H locs → lv_has ls 3 [(0, .ref a0), (1, .int c1), (2, .int v2)] → W p l e rmX8_meetsAnother s m args below meth c H locs k0 n0 (MQ below (va_Qi (fun (r' : Int32) (_ : Unit) => r' = r) (fun _ t => wOut D cy G M' t) A) args s k0 n0 A) (F0 m 2 ls [])) : ∀ (M : mS) (v2 : Int32) (H : Heap) (locs : List Loc) (ls : Array Slot), m_X8_meetsAnother_44 G a0 c1 kb2 M v2 = some (M', r) → wd D cy G M A s.heap H locs → lv_has ls 3 [(0, .ref a0), (1, .int c1), (2, .int v2)] → W p l e rmX8_meetsAnother s m args below meth c H locs k0 n0 (MQ below (va_Qi (fun (r' : Int32) (_ : Unit) => r' = r) (fun _ t => wOut D cy G M' t) A) args s k0 n0 A) (F0 m 44 ls []) := by
  obtain ⟨hx, hb, hml, hown, hts, hr, hlocks, hK, hA, hG, hsx⟩ := id cx
  intro M v2 H locs ls h w hl
  unfold m_X8_meetsAnother_44 at h
  obtain ⟨x1, ex1, h⟩ := x_bd h
  refine lv_iinc (v := x1) (lv' := [(2, .int x1), (0, .ref a0), (1, .int c1)]) hx hb dX8_meetsAnother_44 hl (k := 2) rfl (by rw [ex1]; rfl) (by decide) rfl (fun ls hl => ?_)
  refine lv_goto (tgt := 2) hx hb dX8_meetsAnother_47 (by decide) ?_
  exact hkb2 M x1 H locs ls h w (lv_sub hl [1, 2, 0] rfl)
set_option maxHeartbeats 4000000 in
set_option maxRecDepth 100000 in
theorem b_X8_meetsAnother_2 {p : Program} {e : Env} {s : State} {m : MethodId} {args : Array Value} {below : List Frame} {meth : Method} {c : Code} {A : Nat → Prop} {l : Launch} {D : va_G} {cy : cyS} {G : gS} (cx : cX p s m args meth c cX8_meetsAnother RX8 3 (some .boolean) wsX8_meetsAnother D cy G A) {k0 n0 : Nat} (hkn : k0 ≤ (rmX8_meetsAnother).cells ∧ n0 ≤ (rmX8_meetsAnother).slots) {M' : mS} {r : Int32} {a0 : Nat} {c1 : Int32} (hL0 : a0 ∈ gL G) (hK0 : gK G a0 = 7)  : ∀ (n : Nat), ∀ (M : mS) (v2 : Int32) (H : Heap) (locs : List Loc) (ls : Array Slot), m_X8_meetsAnother_2 G a0 c1 n M v2 = some (M', r) → wd D cy G M A s.heap H locs → lv_has ls 3 [(0, .ref a0), (1, .int c1), (2, .int v2)] → W p l e rmX8_meetsAnother s m args below meth c H locs k0 n0 (MQ below (va_Qi (fun (r' : Int32) (_ : Unit) => r' = r) (fun _ t => wOut D cy G M' t) A) args s k0 n0 A) (F0 m 2 ls []) := by
  obtain ⟨hx, hb, hml, hown, hts, hr, hlocks, hK, hA, hG, hsx⟩ := id cx
  intro n
  induction n with
  | zero =>
    intro M v2 H locs ls h w hl
    have h : none = some _ := h
    cases h
  | succ n ih =>
    intro M v2 H locs ls h w hl
    rw [m_X8_meetsAnother_2] at h
    refine lv_iload_n hx hb dX8_meetsAnother_2 rfl (lv_at hl 2 rfl) ?_
    refine lv_aload_n hx hb dX8_meetsAnother_3 rfl (lv_at hl 0 rfl) ?_
    refine r_getI (k := 4) (v := .int (mI M a0 4)) cx w hL0 hK0 (by decide) rfl wi_X8_meetsAnother_X8 (by decide) rfl (List.mem_of_getElem? (i := 1) rfl) dX8_meetsAnother_4 ?_
    refine lv_icmp_ge (tgt := 50) hx hb dX8_meetsAnother_7 (by decide) (fun k1 => ?_) (fun k1 => ?_)
    · have h := x_t h k1
      exact b_X8_meetsAnother_50 cx hkn hL0 hK0 M H locs ls h w (lv_sub hl [] rfl)
    · have h := x_f h k1
      refine lv_iload_n hx hb dX8_meetsAnother_10 rfl (lv_at hl 2 rfl) ?_
      refine lv_bipush (v := (6 : Int32)) hx hb dX8_meetsAnother_11 (by decide) ?_
      refine lv_icmp_ge (tgt := 50) hx hb dX8_meetsAnother_13 (by decide) (fun k2 => ?_) (fun k2 => ?_)
      · have h := x_t h k2
        exact b_X8_meetsAnother_50 cx hkn hL0 hK0 M H locs ls h w (lv_sub hl [] rfl)
      · have h := x_f h k2
        refine lv_iload_n hx hb dX8_meetsAnother_16 rfl (lv_at hl 2 rfl) ?_
        refine lv_iload_n hx hb dX8_meetsAnother_17 rfl (lv_at hl 1 rfl) ?_
        refine lv_icmp_eq (tgt := 44) hx hb dX8_meetsAnother_18 (by decide) (fun k3 => ?_) (fun k3 => ?_)
        · have h := x_t h k3
          exact b_X8_meetsAnother_44 cx hkn hL0 hK0 (hkb2 := ih) M v2 H locs ls h w (lv_sub hl [0, 1, 2] rfl)
        · have h := x_f h k3
          refine lv_aload_n hx hb dX8_meetsAnother_21 rfl (lv_at hl 0 rfl) ?_
          obtain ⟨q4, eq4, h⟩ := x_rf h
          obtain ⟨hLq4, hKq4⟩ := wt_q hG hL0 hK0 eq4
          have hKq4 : gK G q4 = 14 := hKq4
          refine r_getR (k := 3) cx w hL0 hK0 (by decide) rfl wi_X8_meetsAnother_X8 (by decide) rfl eq4 (List.mem_of_getElem? (i := 2) rfl) dX8_meetsAnother_22 ?_
          refine lv_iload_n hx hb dX8_meetsAnother_25 rfl (lv_at hl 2 rfl) ?_
          obtain ⟨z5, h⟩ := x_ix h
          obtain ⟨q6, eq6, h⟩ := x_rf h
          obtain ⟨hLq6, hKq6⟩ := wt_q hG hLq4 hKq4 eq6
          have hKq6 : gK G q6 = 0 := hKq6
          refine r_aald cx w hLq4 hKq4 z5 eq6 dX8_meetsAnother_26 ?_
          obtain ⟨M7, r8, y9, h⟩ := x_cl h
          refine r_callVi (As := []) (rest := []) cx w hkn hl.1 (k_X0_stoneUnder hG hLq6 hKq6 y9) (cwV 0 hts gX8_meetsAnother_X0_stoneUnder rfl rfl rfl (by decide +kernel) ⟨Nat.le_of_ble_eq_true rfl, Nat.le_of_ble_eq_true rfl⟩) hLq6 hKq6 (by decide) rfl rfl rfl (Nat.le_of_ble_eq_true rfl) dX8_meetsAnother_27 (fun H locs w => ?_)
          refine lv_aload_n hx hb dX8_meetsAnother_30 rfl (lv_at hl 0 rfl) ?_
          obtain ⟨q10, eq10, h⟩ := x_rf h
          obtain ⟨hLq10, hKq10⟩ := wt_q hG hL0 hK0 eq10
          have hKq10 : gK G q10 = 14 := hKq10
          refine r_getR (k := 3) cx w hL0 hK0 (by decide) rfl wi_X8_meetsAnother_X8 (by decide) rfl eq10 (List.mem_of_getElem? (i := 2) rfl) dX8_meetsAnother_31 ?_
          refine lv_iload_n hx hb dX8_meetsAnother_34 rfl (lv_at hl 1 rfl) ?_
          obtain ⟨z11, h⟩ := x_ix h
          obtain ⟨q12, eq12, h⟩ := x_rf h
          obtain ⟨hLq12, hKq12⟩ := wt_q hG hLq10 hKq10 eq12
          have hKq12 : gK G q12 = 0 := hKq12
          refine r_aald cx w hLq10 hKq10 z11 eq12 dX8_meetsAnother_35 ?_
          obtain ⟨M13, r14, y15, h⟩ := x_cl h
          refine r_callVi (As := []) (rest := [.int r8]) cx w hkn hl.1 (k_X0_stoneUnder hG hLq12 hKq12 y15) (cwV 0 hts gX8_meetsAnother_X0_stoneUnder rfl rfl rfl (by decide +kernel) ⟨Nat.le_of_ble_eq_true rfl, Nat.le_of_ble_eq_true rfl⟩) hLq12 hKq12 (by decide) rfl rfl rfl (Nat.le_of_ble_eq_true rfl) dX8_meetsAnother_36 (fun H locs w => ?_)
          refine lv_icmp_ne (tgt := 44) hx hb dX8_meetsAnother_39 (by decide) (fun k16 => ?_) (fun k16 => ?_)
          · have h := x_f h k16
            exact b_X8_meetsAnother_44 cx hkn hL0 hK0 (hkb2 := ih) M13 v2 H locs ls h w (lv_sub hl [0, 1, 2] rfl)
          · have h := x_t h k16
            refine lv_iconst (v := (1 : Int32)) hx hb dX8_meetsAnother_42 (by decide) ?_
            obtain ⟨z17, h⟩ := x_ck h
            exact r_zret cx w z17 h dX8_meetsAnother_43
set_option maxHeartbeats 4000000 in
set_option maxRecDepth 100000 in
theorem k_X8_meetsAnother {l : Launch} {D : va_G} {cy : cyS} {G : gS} {M M' : mS} {r : Int32} {a0 : Nat} {c1 : Int32} (hG : wt G) (hL0 : a0 ∈ gL G) (hK0 : gK G a0 = 7) (h : m_X8_meetsAnother G M a0 c1 = some (M', r)) : ctI l yX8_meetsAnother wsX8_meetsAnother rmX8_meetsAnother D cy G M [.ref a0, .int c1] M' r := by
  unfold m_X8_meetsAnother at h
  refine ctI_of (cc := cX8_meetsAnother) (nL := 3) (ret := (some .boolean)) (lv := [(0, .ref a0), (1, .int c1)]) hG (by decide) rfl ⟨rfl, rfl⟩ (Nat.le_of_ble_eq_true rfl) rfl ?_
  intro p e s m args below meth c A ls cx w hl
  obtain ⟨hx, hb, hml, hown, hts, hr, hlocks, hK, hA, -, hsx⟩ := id cx
  have hkn : 0 ≤ (rmX8_meetsAnother).cells ∧ 0 ≤ (rmX8_meetsAnother).slots := ⟨Nat.zero_le _, Nat.zero_le _⟩
  refine lv_iconst (v := (0 : Int32)) hx hb dX8_meetsAnother_0 (by decide) ?_
  refine lv_istore_n (lv' := [(2, .int ((0 : Int32))), (0, .ref a0), (1, .int c1)]) hx hb dX8_meetsAnother_1 rfl hl (by decide) rfl (fun ls hl => ?_)
  exact b_X8_meetsAnother_2 cx hkn hL0 hK0 fu M ((0 : Int32)) s.heap [] ls h w (lv_sub hl [1, 2, 0] rfl)
-- X8_countMeetings
theorem wi_X8_countMeetings_X8 : ∀ w ∈ wsX80, w ∈ wsX8_countMeetings := by decide +kernel
abbrev rmX8_countMeetings : Room := { frames := 1, cells := 0, slots := 0, locals := 20 }
def m_X8_countMeetings_54 (G : gS) (a0 : Nat) (kb2 : mS → Int32 → Option (mS × Unit)) (kb18 : mS → Int32 → Int32 → Option (mS × Unit)) (M : mS) (v1 : Int32) (v2 : Int32) (s1 : Int32) (s2 : Int32) : Option (mS × Unit) := o_wI M a0 6 (s1 + s2) (fun M1 => o_bd (v2 + 1 : Int32) (fun x2 => kb18 M1 v1 x2))
def m_X8_countMeetings_18 (G : gS) (a0 : Nat) (kb2 : mS → Int32 → Option (mS × Unit)) : Nat → mS → Int32 → Int32 → Option (mS × Unit)
  | 0, _, _, _ => none
  | n + 1, M, v1, v2 => (if v1 ≤ v2 then o_bd (v1 + 1 : Int32) (fun x2 => kb2 M x2) else o_rf (gP G a0 3) (fun q3 => o_ix v1 (gN G q3) (o_rf (gP G q3 (Int32.toNatClampNeg v1)) (fun q5 => o_cl (m_X0_stoneUnder G M q5) (fun M6 r7 => o_rf (gP G a0 3) (fun q9 => o_ix v2 (gN G q9) (o_rf (gP G q9 (Int32.toNatClampNeg v2)) (fun q11 => o_cl (m_X0_stoneUnder G M6 q11) (fun M12 r13 => (if r7 = r13 then m_X8_countMeetings_54 G a0 kb2 (fun M v1 v2 => m_X8_countMeetings_18 G a0 kb2 n M v1 v2) M12 v1 v2 ((mI M a0 6)) ((1 : Int32)) else m_X8_countMeetings_54 G a0 kb2 (fun M v1 v2 => m_X8_countMeetings_18 G a0 kb2 n M v1 v2) M12 v1 v2 ((mI M a0 6)) ((0 : Int32))))))))))))
def m_X8_countMeetings_2 (G : gS) (a0 : Nat)  : Nat → mS → Int32 → Option (mS × Unit)
  | 0, _, _ => none
  | n + 1, M, v1 => (if (mI M a0 4) ≤ v1 then some (M, ()) else (if (6 : Int32) ≤ v1 then some (M, ()) else m_X8_countMeetings_18 G a0 (fun M v1 => m_X8_countMeetings_2 G a0 n M v1) fu M v1 ((0 : Int32))))
def m_X8_countMeetings (G : gS) (M : mS) (a0 : Nat) : Option (mS × Unit) := m_X8_countMeetings_2 G a0 fu M ((0 : Int32))
set_option maxHeartbeats 4000000 in
set_option maxRecDepth 100000 in
theorem b_X8_countMeetings_54 {p : Program} {e : Env} {s : State} {m : MethodId} {args : Array Value} {below : List Frame} {meth : Method} {c : Code} {A : Nat → Prop} {l : Launch} {D : va_G} {cy : cyS} {G : gS} (cx : cX p s m args meth c cX8_countMeetings RX8 3 none wsX8_countMeetings D cy G A) {k0 n0 : Nat} (hkn : k0 ≤ (rmX8_countMeetings).cells ∧ n0 ≤ (rmX8_countMeetings).slots) {M' : mS} {a0 : Nat} (hL0 : a0 ∈ gL G) (hK0 : gK G a0 = 7) {kb2 : mS → Int32 → Option (mS × Unit)} (hkb2 : ∀ (M : mS) (v1 : Int32) (H : Heap) (locs : List Loc) (ls : Array Slot), kb2 M v1 = some (M', ()) → wd D cy G M A s.heap H locs → lv_has ls 3 [(0, .ref a0), (1, .int v1)] → W p l e rmX8_countMeetings s m args below meth c H locs k0 n0 (MQ below (va_Qv (fun (_ : Unit) => True) (fun _ t => wOut D cy G M' t) A) args s k0 n0 A) (F0 m 2 ls [])) {kb18 : mS → Int32 → Int32 → Option (mS × Unit)} (hkb18 : ∀ (M : mS) (v1 : Int32) (v2 : Int32) (H : Heap) (locs : List Loc) (ls : Array Slot), kb18 M v1 v2 = some (M', ()) → wd D cy G M A s.heap H locs → lv_has ls 3 [(0, .ref a0), (1, .int v1), (2, .int v2)] → W p l e rmX8_countMeetings s m args below meth c H locs k0 n0 (MQ below (va_Qv (fun (_ : Unit) => True) (fun _ t => wOut D cy G M' t) A) args s k0 n0 A) (F0 m 18 ls [])) : ∀ (M : mS) (v1 : Int32) (v2 : Int32) (s1 : Int32) (s2 : Int32) (H : Heap) (locs : List Loc) (ls : Array Slot), m_X8_countMeetings_54 G a0 kb2 kb18 M v1 v2 s1 s2 = some (M', ()) → wd D cy G M A s.heap H locs → lv_has ls 3 [(0, .ref a0), (1, .int v1), (2, .int v2)] → W p l e rmX8_countMeetings s m args below meth c H locs k0 n0 (MQ below (va_Qv (fun (_ : Unit) => True) (fun _ t => wOut D cy G M' t) A) args s k0 n0 A) (F0 m 54 ls [.int s2, .int s1, .ref a0]) := by
  obtain ⟨hx, hb, hml, hown, hts, hr, hlocks, hK, hA, hG, hsx⟩ := id cx
  intro M v1 v2 s1 s2 H locs ls h w hl
  unfold m_X8_countMeetings_54 at h
  refine lv_iadd hx hb dX8_countMeetings_54 ?_
  obtain ⟨M1, eM1, h⟩ := x_wI h
  refine r_putI (k := 6) (ty := .int) cx w tyX8 tyX8_ok nmX8 hL0 hK0 (by decide) rfl wi_X8_countMeetings_X8 (by decide) rfl rfl rfl rfl st_7_6 (ln_7 _ _ (by decide)) (List.mem_of_getElem? (i := 2) rfl) dX8_countMeetings_55 eM1 (fun H locs w => ?_)
  obtain ⟨x2, ex2, h⟩ := x_bd h
  refine lv_iinc (v := x2) (lv' := [(2, .int x2), (0, .ref a0), (1, .int v1)]) hx hb dX8_countMeetings_58 hl (k := 2) rfl (by rw [ex2]; rfl) (by decide) rfl (fun ls hl => ?_)
  refine lv_goto (tgt := 18) hx hb dX8_countMeetings_61 (by decide) ?_
  exact hkb18 M1 v1 x2 H locs ls h w (lv_sub hl [1, 2, 0] rfl)
set_option maxHeartbeats 4000000 in
set_option maxRecDepth 100000 in
theorem b_X8_countMeetings_18 {p : Program} {e : Env} {s : State} {m : MethodId} {args : Array Value} {below : List Frame} {meth : Method} {c : Code} {A : Nat → Prop} {l : Launch} {D : va_G} {cy : cyS} {G : gS} (cx : cX p s m args meth c cX8_countMeetings RX8 3 none wsX8_countMeetings D cy G A) {k0 n0 : Nat} (hkn : k0 ≤ (rmX8_countMeetings).cells ∧ n0 ≤ (rmX8_countMeetings).slots) {M' : mS} {a0 : Nat} (hL0 : a0 ∈ gL G) (hK0 : gK G a0 = 7) {kb2 : mS → Int32 → Option (mS × Unit)} (hkb2 : ∀ (M : mS) (v1 : Int32) (H : Heap) (locs : List Loc) (ls : Array Slot), kb2 M v1 = some (M', ()) → wd D cy G M A s.heap H locs → lv_has ls 3 [(0, .ref a0), (1, .int v1)] → W p l e rmX8_countMeetings s m args below meth c H locs k0 n0 (MQ below (va_Qv (fun (_ : Unit) => True) (fun _ t => wOut D cy G M' t) A) args s k0 n0 A) (F0 m 2 ls [])) : ∀ (n : Nat), ∀ (M : mS) (v1 : Int32) (v2 : Int32) (H : Heap) (locs : List Loc) (ls : Array Slot), m_X8_countMeetings_18 G a0 kb2 n M v1 v2 = some (M', ()) → wd D cy G M A s.heap H locs → lv_has ls 3 [(0, .ref a0), (1, .int v1), (2, .int v2)] → W p l e rmX8_countMeetings s m args below meth c H locs k0 n0 (MQ below (va_Qv (fun (_ : Unit) => True) (fun _ t => wOut D cy G M' t) A) args s k0 n0 A) (F0 m 18 ls []) := by
  obtain ⟨hx, hb, hml, hown, hts, hr, hlocks, hK, hA, hG, hsx⟩ := id cx
  intro n
  induction n with
  | zero =>
    intro M v1 v2 H locs ls h w hl
    have h : none = some _ := h
    cases h
  | succ n ih =>
    intro M v1 v2 H locs ls h w hl
    rw [m_X8_countMeetings_18] at h
    refine lv_iload_n hx hb dX8_countMeetings_18 rfl (lv_at hl 2 rfl) ?_
    refine lv_iload_n hx hb dX8_countMeetings_19 rfl (lv_at hl 1 rfl) ?_
    refine lv_icmp_ge (tgt := 64) hx hb dX8_countMeetings_20 (by decide) (fun k1 => ?_) (fun k1 => ?_)
    · have h := x_t h k1
      obtain ⟨x2, ex2, h⟩ := x_bd h
      refine lv_iinc (v := x2) (lv' := [(1, .int x2), (0, .ref a0), (2, .int v2)]) hx hb dX8_countMeetings_64 hl (k := 1) rfl (by rw [ex2]; rfl) (by decide) rfl (fun ls hl => ?_)
      refine lv_goto (tgt := 2) hx hb dX8_countMeetings_67 (by decide) ?_
      exact hkb2 M x2 H locs ls h w (lv_sub hl [1, 0] rfl)
    · have h := x_f h k1
      refine lv_aload_n hx hb dX8_countMeetings_23 rfl (lv_at hl 0 rfl) ?_
      refine lv_dup hx hb dX8_countMeetings_24 rfl ?_
      refine r_getI (k := 6) (v := .int (mI M a0 6)) cx w hL0 hK0 (by decide) rfl wi_X8_countMeetings_X8 (by decide) rfl (List.mem_of_getElem? (i := 2) rfl) dX8_countMeetings_25 ?_
      refine lv_aload_n hx hb dX8_countMeetings_28 rfl (lv_at hl 0 rfl) ?_
      obtain ⟨q3, eq3, h⟩ := x_rf h
      obtain ⟨hLq3, hKq3⟩ := wt_q hG hL0 hK0 eq3
      have hKq3 : gK G q3 = 14 := hKq3
      refine r_getR (k := 3) cx w hL0 hK0 (by decide) rfl wi_X8_countMeetings_X8 (by decide) rfl eq3 (List.mem_of_getElem? (i := 3) rfl) dX8_countMeetings_29 ?_
      refine lv_iload_n hx hb dX8_countMeetings_32 rfl (lv_at hl 1 rfl) ?_
      obtain ⟨z4, h⟩ := x_ix h
      obtain ⟨q5, eq5, h⟩ := x_rf h
      obtain ⟨hLq5, hKq5⟩ := wt_q hG hLq3 hKq3 eq5
      have hKq5 : gK G q5 = 0 := hKq5
      refine r_aald cx w hLq3 hKq3 z4 eq5 dX8_countMeetings_33 ?_
      obtain ⟨M6, r7, y8, h⟩ := x_cl h
      refine r_callVi (As := []) (rest := [.int ((mI M a0 6)), .ref a0]) cx w hkn hl.1 (k_X0_stoneUnder hG hLq5 hKq5 y8) (cwV 0 hts gX8_countMeetings_X0_stoneUnder rfl rfl rfl (by decide +kernel) ⟨Nat.le_of_ble_eq_true rfl, Nat.le_of_ble_eq_true rfl⟩) hLq5 hKq5 (by decide) rfl rfl rfl (Nat.le_of_ble_eq_true rfl) dX8_countMeetings_34 (fun H locs w => ?_)
      refine lv_aload_n hx hb dX8_countMeetings_37 rfl (lv_at hl 0 rfl) ?_
      obtain ⟨q9, eq9, h⟩ := x_rf h
      obtain ⟨hLq9, hKq9⟩ := wt_q hG hL0 hK0 eq9
      have hKq9 : gK G q9 = 14 := hKq9
      refine r_getR (k := 3) cx w hL0 hK0 (by decide) rfl wi_X8_countMeetings_X8 (by decide) rfl eq9 (List.mem_of_getElem? (i := 3) rfl) dX8_countMeetings_38 ?_
      refine lv_iload_n hx hb dX8_countMeetings_41 rfl (lv_at hl 2 rfl) ?_
      obtain ⟨z10, h⟩ := x_ix h
      obtain ⟨q11, eq11, h⟩ := x_rf h
      obtain ⟨hLq11, hKq11⟩ := wt_q hG hLq9 hKq9 eq11
      have hKq11 : gK G q11 = 0 := hKq11
      refine r_aald cx w hLq9 hKq9 z10 eq11 dX8_countMeetings_42 ?_
      obtain ⟨M12, r13, y14, h⟩ := x_cl h
      refine r_callVi (As := []) (rest := [.int r7, .int ((mI M a0 6)), .ref a0]) cx w hkn hl.1 (k_X0_stoneUnder hG hLq11 hKq11 y14) (cwV 0 hts gX8_countMeetings_X0_stoneUnder rfl rfl rfl (by decide +kernel) ⟨Nat.le_of_ble_eq_true rfl, Nat.le_of_ble_eq_true rfl⟩) hLq11 hKq11 (by decide) rfl rfl rfl (Nat.le_of_ble_eq_true rfl) dX8_countMeetings_43 (fun H locs w => ?_)
      refine lv_icmp_ne (tgt := 53) hx hb dX8_countMeetings_46 (by decide) (fun k15 => ?_) (fun k15 => ?_)
      · have h := x_f h k15
        refine lv_iconst (v := (0 : Int32)) hx hb dX8_countMeetings_53 (by decide) ?_
        exact b_X8_countMeetings_54 cx hkn hL0 hK0 (hkb2 := hkb2) (hkb18 := ih) M12 v1 v2 ((mI M a0 6)) ((0 : Int32)) H locs ls h w (lv_sub hl [0, 1, 2] rfl)
      · have h := x_t h k15
        refine lv_iconst (v := (1 : Int32)) hx hb dX8_countMeetings_49 (by decide) ?_
        refine lv_goto (tgt := 54) hx hb dX8_countMeetings_50 (by decide) ?_
        exact b_X8_countMeetings_54 cx hkn hL0 hK0 (hkb2 := hkb2) (hkb18 := ih) M12 v1 v2 ((mI M a0 6)) ((1 : Int32)) H locs ls h w (lv_sub hl [0, 1, 2] rfl)
set_option maxHeartbeats 4000000 in
set_option maxRecDepth 100000 in
theorem b_X8_countMeetings_2 {p : Program} {e : Env} {s : State} {m : MethodId} {args : Array Value} {below : List Frame} {meth : Method} {c : Code} {A : Nat → Prop} {l : Launch} {D : va_G} {cy : cyS} {G : gS} (cx : cX p s m args meth c cX8_countMeetings RX8 3 none wsX8_countMeetings D cy G A) {k0 n0 : Nat} (hkn : k0 ≤ (rmX8_countMeetings).cells ∧ n0 ≤ (rmX8_countMeetings).slots) {M' : mS} {a0 : Nat} (hL0 : a0 ∈ gL G) (hK0 : gK G a0 = 7)  : ∀ (n : Nat), ∀ (M : mS) (v1 : Int32) (H : Heap) (locs : List Loc) (ls : Array Slot), m_X8_countMeetings_2 G a0 n M v1 = some (M', ()) → wd D cy G M A s.heap H locs → lv_has ls 3 [(0, .ref a0), (1, .int v1)] → W p l e rmX8_countMeetings s m args below meth c H locs k0 n0 (MQ below (va_Qv (fun (_ : Unit) => True) (fun _ t => wOut D cy G M' t) A) args s k0 n0 A) (F0 m 2 ls []) := by
  obtain ⟨hx, hb, hml, hown, hts, hr, hlocks, hK, hA, hG, hsx⟩ := id cx
  intro n
  induction n with
  | zero =>
    intro M v1 H locs ls h w hl
    have h : none = some _ := h
    cases h
  | succ n ih =>
    intro M v1 H locs ls h w hl
    rw [m_X8_countMeetings_2] at h
    refine lv_iload_n hx hb dX8_countMeetings_2 rfl (lv_at hl 1 rfl) ?_
    refine lv_aload_n hx hb dX8_countMeetings_3 rfl (lv_at hl 0 rfl) ?_
    refine r_getI (k := 4) (v := .int (mI M a0 4)) cx w hL0 hK0 (by decide) rfl wi_X8_countMeetings_X8 (by decide) rfl (List.mem_of_getElem? (i := 1) rfl) dX8_countMeetings_4 ?_
    refine lv_icmp_ge (tgt := 70) hx hb dX8_countMeetings_7 (by decide) (fun k1 => ?_) (fun k1 => ?_)
    · have h := x_t h k1
      exact r_vret cx w h dX8_countMeetings_70
    · have h := x_f h k1
      refine lv_iload_n hx hb dX8_countMeetings_10 rfl (lv_at hl 1 rfl) ?_
      refine lv_bipush (v := (6 : Int32)) hx hb dX8_countMeetings_11 (by decide) ?_
      refine lv_icmp_ge (tgt := 70) hx hb dX8_countMeetings_13 (by decide) (fun k2 => ?_) (fun k2 => ?_)
      · have h := x_t h k2
        exact r_vret cx w h dX8_countMeetings_70
      · have h := x_f h k2
        refine lv_iconst (v := (0 : Int32)) hx hb dX8_countMeetings_16 (by decide) ?_
        refine lv_istore_n (lv' := [(2, .int ((0 : Int32))), (0, .ref a0), (1, .int v1)]) hx hb dX8_countMeetings_17 rfl hl (by decide) rfl (fun ls hl => ?_)
        exact b_X8_countMeetings_18 cx hkn hL0 hK0 (hkb2 := ih) fu M v1 ((0 : Int32)) H locs ls h w (lv_sub hl [1, 2, 0] rfl)
set_option maxHeartbeats 4000000 in
set_option maxRecDepth 100000 in
theorem k_X8_countMeetings {l : Launch} {D : va_G} {cy : cyS} {G : gS} {M M' : mS} {a0 : Nat} (hG : wt G) (hL0 : a0 ∈ gL G) (hK0 : gK G a0 = 7) (h : m_X8_countMeetings G M a0 = some (M', ())) : ctV l yX8_countMeetings wsX8_countMeetings rmX8_countMeetings D cy G M [.ref a0] M' := by
  unfold m_X8_countMeetings at h
  refine ctV_of (cc := cX8_countMeetings) (nL := 3) (ret := none) (lv := [(0, .ref a0)]) hG (by decide) rfl ⟨rfl, rfl⟩ (Nat.le_of_ble_eq_true rfl) rfl ?_
  intro p e s m args below meth c A ls cx w hl
  obtain ⟨hx, hb, hml, hown, hts, hr, hlocks, hK, hA, -, hsx⟩ := id cx
  have hkn : 0 ≤ (rmX8_countMeetings).cells ∧ 0 ≤ (rmX8_countMeetings).slots := ⟨Nat.zero_le _, Nat.zero_le _⟩
  refine lv_iconst (v := (0 : Int32)) hx hb dX8_countMeetings_0 (by decide) ?_
  refine lv_istore_n (lv' := [(1, .int ((0 : Int32))), (0, .ref a0)]) hx hb dX8_countMeetings_1 rfl hl (by decide) rfl (fun ls hl => ?_)
  exact b_X8_countMeetings_2 cx hkn hL0 hK0 fu M ((0 : Int32)) s.heap [] ls h w (lv_sub hl [1, 0] rfl)
-- X8_clear
theorem wi_X8_clear_X8 : ∀ w ∈ wsX80, w ∈ wsX8_clear := by decide +kernel
abbrev rmX8_clear : Room := { frames := 0, cells := 0, slots := 0, locals := 0 }
def m_X8_clear_45 (G : gS) (a0 : Nat)  : Nat → mS → Int32 → Option (mS × Unit)
  | 0, _, _ => none
  | n + 1, M, v1 => (if (6 : Int32) ≤ v1 then o_rf (gP G a0 2) (fun q2 => o_ix (0 : Int32) (gN G q2) (o_wI M q2 (Int32.toNatClampNeg (0 : Int32)) (4096 : Int32) (fun M4 => o_wI M4 a0 4 (0 : Int32) (fun M5 => o_wI M5 a0 5 (0 : Int32) (fun M6 => o_wI M6 a0 6 (0 : Int32) (fun M7 => o_wI M7 a0 7 (0 : Int32) (fun M8 => o_wI M8 a0 8 (0 : Int32) (fun M9 => some (M9, ()))))))))) else o_rf (gP G a0 2) (fun q10 => o_ix v1 (gN G q10) (o_wI M q10 (Int32.toNatClampNeg v1) (0 : Int32) (fun M12 => o_bd (v1 + 1 : Int32) (fun x13 => m_X8_clear_45 G a0 n M12 x13)))))
def m_X8_clear_24 (G : gS) (a0 : Nat)  : Nat → mS → Int32 → Option (mS × Unit)
  | 0, _, _ => none
  | n + 1, M, v1 => (if (64 : Int32) ≤ v1 then m_X8_clear_45 G a0 fu M ((1 : Int32)) else o_rf (gP G a0 1) (fun q2 => o_ix v1 (gN G q2) (o_wI M q2 (Int32.toNatClampNeg v1) (0 : Int32) (fun M4 => o_bd (v1 + 1 : Int32) (fun x5 => m_X8_clear_24 G a0 n M4 x5)))))
def m_X8_clear_2 (G : gS) (a0 : Nat)  : Nat → mS → Int32 → Option (mS × Unit)
  | 0, _, _ => none
  | n + 1, M, v1 => (if (4096 : Int32) ≤ v1 then m_X8_clear_24 G a0 fu M ((0 : Int32)) else o_rf (gP G a0 0) (fun q2 => o_ix v1 (gN G q2) (o_wI M q2 (Int32.toNatClampNeg v1) (0 : Int32) (fun M4 => o_bd (v1 + 1 : Int32) (fun x5 => m_X8_clear_2 G a0 n M4 x5)))))
def m_X8_clear (G : gS) (M : mS) (a0 : Nat) : Option (mS × Unit) := m_X8_clear_2 G a0 fu M ((0 : Int32))
set_option maxHeartbeats 4000000 in
set_option maxRecDepth 100000 in
theorem b_X8_clear_45 {p : Program} {e : Env} {s : State} {m : MethodId} {args : Array Value} {below : List Frame} {meth : Method} {c : Code} {A : Nat → Prop} {l : Launch} {D : va_G} {cy : cyS} {G : gS} (cx : cX p s m args meth c cX8_clear RX8 2 none wsX8_clear D cy G A) {k0 n0 : Nat} (hkn : k0 ≤ (rmX8_clear).cells ∧ n0 ≤ (rmX8_clear).slots) {M' : mS} {a0 : Nat} (hL0 : a0 ∈ gL G) (hK0 : gK G a0 = 7)  : ∀ (n : Nat), ∀ (M : mS) (v1 : Int32) (H : Heap) (locs : List Loc) (ls : Array Slot), m_X8_clear_45 G a0 n M v1 = some (M', ()) → wd D cy G M A s.heap H locs → lv_has ls 2 [(0, .ref a0), (1, .int v1)] → W p l e rmX8_clear s m args below meth c H locs k0 n0 (MQ below (va_Qv (fun (_ : Unit) => True) (fun _ t => wOut D cy G M' t) A) args s k0 n0 A) (F0 m 45 ls []) := by
  obtain ⟨hx, hb, hml, hown, hts, hr, hlocks, hK, hA, hG, hsx⟩ := id cx
  intro n
  induction n with
  | zero =>
    intro M v1 H locs ls h w hl
    have h : none = some _ := h
    cases h
  | succ n ih =>
    intro M v1 H locs ls h w hl
    rw [m_X8_clear_45] at h
    refine lv_iload_n hx hb dX8_clear_45 rfl (lv_at hl 1 rfl) ?_
    refine lv_bipush (v := (6 : Int32)) hx hb dX8_clear_46 (by decide) ?_
    refine lv_icmp_ge (tgt := 64) hx hb dX8_clear_48 (by decide) (fun k1 => ?_) (fun k1 => ?_)
    · have h := x_t h k1
      refine lv_aload_n hx hb dX8_clear_64 rfl (lv_at hl 0 rfl) ?_
      obtain ⟨q2, eq2, h⟩ := x_rf h
      obtain ⟨hLq2, hKq2⟩ := wt_q hG hL0 hK0 eq2
      have hKq2 : gK G q2 = 12 := hKq2
      refine r_getR (k := 2) cx w hL0 hK0 (by decide) rfl wi_X8_clear_X8 (by decide) rfl eq2 (List.mem_of_getElem? (i := 3) rfl) dX8_clear_65 ?_
      refine lv_iconst (v := (0 : Int32)) hx hb dX8_clear_68 (by decide) ?_
      refine lv_sipush (v := (4096 : Int32)) hx hb dX8_clear_69 (by decide) ?_
      obtain ⟨z3, h⟩ := x_ix h
      obtain ⟨M4, eM4, h⟩ := x_wI h
      refine r_iast cx w hLq2 hKq2 z3 dX8_clear_72 eM4 (fun H locs w => ?_)
      refine lv_aload_n hx hb dX8_clear_73 rfl (lv_at hl 0 rfl) ?_
      refine lv_iconst (v := (0 : Int32)) hx hb dX8_clear_74 (by decide) ?_
      obtain ⟨M5, eM5, h⟩ := x_wI h
      refine r_putI (k := 4) (ty := .int) cx w tyX8 tyX8_ok nmX8 hL0 hK0 (by decide) rfl wi_X8_clear_X8 (by decide) rfl rfl rfl rfl st_7_4 (ln_7 _ _ (by decide)) (List.mem_of_getElem? (i := 4) rfl) dX8_clear_75 eM5 (fun H locs w => ?_)
      refine lv_aload_n hx hb dX8_clear_78 rfl (lv_at hl 0 rfl) ?_
      refine lv_iconst (v := (0 : Int32)) hx hb dX8_clear_79 (by decide) ?_
      obtain ⟨M6, eM6, h⟩ := x_wI h
      refine r_putI (k := 5) (ty := .int) cx w tyX8 tyX8_ok nmX8 hL0 hK0 (by decide) rfl wi_X8_clear_X8 (by decide) rfl rfl rfl rfl st_7_5 (ln_7 _ _ (by decide)) (List.mem_of_getElem? (i := 5) rfl) dX8_clear_80 eM6 (fun H locs w => ?_)
      refine lv_aload_n hx hb dX8_clear_83 rfl (lv_at hl 0 rfl) ?_
      refine lv_iconst (v := (0 : Int32)) hx hb dX8_clear_84 (by decide) ?_
      obtain ⟨M7, eM7, h⟩ := x_wI h
      refine r_putI (k := 6) (ty := .int) cx w tyX8 tyX8_ok nmX8 hL0 hK0 (by decide) rfl wi_X8_clear_X8 (by decide) rfl rfl rfl rfl st_7_6 (ln_7 _ _ (by decide)) (List.mem_of_getElem? (i := 6) rfl) dX8_clear_85 eM7 (fun H locs w => ?_)
      refine lv_aload_n hx hb dX8_clear_88 rfl (lv_at hl 0 rfl) ?_
      refine lv_iconst (v := (0 : Int32)) hx hb dX8_clear_89 (by decide) ?_
      obtain ⟨M8, eM8, h⟩ := x_wI h
      refine r_putI (k := 7) (ty := .int) cx w tyX8 tyX8_ok nmX8 hL0 hK0 (by decide) rfl wi_X8_clear_X8 (by decide) rfl rfl rfl rfl st_7_7 (ln_7 _ _ (by decide)) (List.mem_of_getElem? (i := 7) rfl) dX8_clear_90 eM8 (fun H locs w => ?_)
      refine lv_aload_n hx hb dX8_clear_93 rfl (lv_at hl 0 rfl) ?_
      refine lv_iconst (v := (0 : Int32)) hx hb dX8_clear_94 (by decide) ?_
      obtain ⟨M9, eM9, h⟩ := x_wI h
      refine r_putI (k := 8) (ty := .int) cx w tyX8 tyX8_ok nmX8 hL0 hK0 (by decide) rfl wi_X8_clear_X8 (by decide) rfl rfl rfl rfl st_7_8 (ln_7 _ _ (by decide)) (List.mem_of_getElem? (i := 8) rfl) dX8_clear_95 eM9 (fun H locs w => ?_)
      exact r_vret cx w h dX8_clear_98
    · have h := x_f h k1
      refine lv_aload_n hx hb dX8_clear_51 rfl (lv_at hl 0 rfl) ?_
      obtain ⟨q10, eq10, h⟩ := x_rf h
      obtain ⟨hLq10, hKq10⟩ := wt_q hG hL0 hK0 eq10
      have hKq10 : gK G q10 = 12 := hKq10
      refine r_getR (k := 2) cx w hL0 hK0 (by decide) rfl wi_X8_clear_X8 (by decide) rfl eq10 (List.mem_of_getElem? (i := 3) rfl) dX8_clear_52 ?_
      refine lv_iload_n hx hb dX8_clear_55 rfl (lv_at hl 1 rfl) ?_
      refine lv_iconst (v := (0 : Int32)) hx hb dX8_clear_56 (by decide) ?_
      obtain ⟨z11, h⟩ := x_ix h
      obtain ⟨M12, eM12, h⟩ := x_wI h
      refine r_iast cx w hLq10 hKq10 z11 dX8_clear_57 eM12 (fun H locs w => ?_)
      obtain ⟨x13, ex13, h⟩ := x_bd h
      refine lv_iinc (v := x13) (lv' := [(1, .int x13), (0, .ref a0)]) hx hb dX8_clear_58 hl (k := 1) rfl (by rw [ex13]; rfl) (by decide) rfl (fun ls hl => ?_)
      refine lv_goto (tgt := 45) hx hb dX8_clear_61 (by decide) ?_
      exact ih M12 x13 H locs ls h w (lv_sub hl [1, 0] rfl)
set_option maxHeartbeats 4000000 in
set_option maxRecDepth 100000 in
theorem b_X8_clear_24 {p : Program} {e : Env} {s : State} {m : MethodId} {args : Array Value} {below : List Frame} {meth : Method} {c : Code} {A : Nat → Prop} {l : Launch} {D : va_G} {cy : cyS} {G : gS} (cx : cX p s m args meth c cX8_clear RX8 2 none wsX8_clear D cy G A) {k0 n0 : Nat} (hkn : k0 ≤ (rmX8_clear).cells ∧ n0 ≤ (rmX8_clear).slots) {M' : mS} {a0 : Nat} (hL0 : a0 ∈ gL G) (hK0 : gK G a0 = 7)  : ∀ (n : Nat), ∀ (M : mS) (v1 : Int32) (H : Heap) (locs : List Loc) (ls : Array Slot), m_X8_clear_24 G a0 n M v1 = some (M', ()) → wd D cy G M A s.heap H locs → lv_has ls 2 [(0, .ref a0), (1, .int v1)] → W p l e rmX8_clear s m args below meth c H locs k0 n0 (MQ below (va_Qv (fun (_ : Unit) => True) (fun _ t => wOut D cy G M' t) A) args s k0 n0 A) (F0 m 24 ls []) := by
  obtain ⟨hx, hb, hml, hown, hts, hr, hlocks, hK, hA, hG, hsx⟩ := id cx
  intro n
  induction n with
  | zero =>
    intro M v1 H locs ls h w hl
    have h : none = some _ := h
    cases h
  | succ n ih =>
    intro M v1 H locs ls h w hl
    rw [m_X8_clear_24] at h
    refine lv_iload_n hx hb dX8_clear_24 rfl (lv_at hl 1 rfl) ?_
    refine lv_bipush (v := (64 : Int32)) hx hb dX8_clear_25 (by decide) ?_
    refine lv_icmp_ge (tgt := 43) hx hb dX8_clear_27 (by decide) (fun k1 => ?_) (fun k1 => ?_)
    · have h := x_t h k1
      refine lv_iconst (v := (1 : Int32)) hx hb dX8_clear_43 (by decide) ?_
      refine lv_istore_n (lv' := [(1, .int ((1 : Int32))), (0, .ref a0)]) hx hb dX8_clear_44 rfl hl (by decide) rfl (fun ls hl => ?_)
      exact b_X8_clear_45 cx hkn hL0 hK0 fu M ((1 : Int32)) H locs ls h w (lv_sub hl [1, 0] rfl)
    · have h := x_f h k1
      refine lv_aload_n hx hb dX8_clear_30 rfl (lv_at hl 0 rfl) ?_
      obtain ⟨q2, eq2, h⟩ := x_rf h
      obtain ⟨hLq2, hKq2⟩ := wt_q hG hL0 hK0 eq2
      have hKq2 : gK G q2 = 12 := hKq2
      refine r_getR (k := 1) cx w hL0 hK0 (by decide) rfl wi_X8_clear_X8 (by decide) rfl eq2 (List.mem_of_getElem? (i := 2) rfl) dX8_clear_31 ?_
      refine lv_iload_n hx hb dX8_clear_34 rfl (lv_at hl 1 rfl) ?_
      refine lv_iconst (v := (0 : Int32)) hx hb dX8_clear_35 (by decide) ?_
      obtain ⟨z3, h⟩ := x_ix h
      obtain ⟨M4, eM4, h⟩ := x_wI h
      refine r_iast cx w hLq2 hKq2 z3 dX8_clear_36 eM4 (fun H locs w => ?_)
      obtain ⟨x5, ex5, h⟩ := x_bd h
      refine lv_iinc (v := x5) (lv' := [(1, .int x5), (0, .ref a0)]) hx hb dX8_clear_37 hl (k := 1) rfl (by rw [ex5]; rfl) (by decide) rfl (fun ls hl => ?_)
      refine lv_goto (tgt := 24) hx hb dX8_clear_40 (by decide) ?_
      exact ih M4 x5 H locs ls h w (lv_sub hl [1, 0] rfl)
set_option maxHeartbeats 4000000 in
set_option maxRecDepth 100000 in
theorem b_X8_clear_2 {p : Program} {e : Env} {s : State} {m : MethodId} {args : Array Value} {below : List Frame} {meth : Method} {c : Code} {A : Nat → Prop} {l : Launch} {D : va_G} {cy : cyS} {G : gS} (cx : cX p s m args meth c cX8_clear RX8 2 none wsX8_clear D cy G A) {k0 n0 : Nat} (hkn : k0 ≤ (rmX8_clear).cells ∧ n0 ≤ (rmX8_clear).slots) {M' : mS} {a0 : Nat} (hL0 : a0 ∈ gL G) (hK0 : gK G a0 = 7)  : ∀ (n : Nat), ∀ (M : mS) (v1 : Int32) (H : Heap) (locs : List Loc) (ls : Array Slot), m_X8_clear_2 G a0 n M v1 = some (M', ()) → wd D cy G M A s.heap H locs → lv_has ls 2 [(0, .ref a0), (1, .int v1)] → W p l e rmX8_clear s m args below meth c H locs k0 n0 (MQ below (va_Qv (fun (_ : Unit) => True) (fun _ t => wOut D cy G M' t) A) args s k0 n0 A) (F0 m 2 ls []) := by
  obtain ⟨hx, hb, hml, hown, hts, hr, hlocks, hK, hA, hG, hsx⟩ := id cx
  intro n
  induction n with
  | zero =>
    intro M v1 H locs ls h w hl
    have h : none = some _ := h
    cases h
  | succ n ih =>
    intro M v1 H locs ls h w hl
    rw [m_X8_clear_2] at h
    refine lv_iload_n hx hb dX8_clear_2 rfl (lv_at hl 1 rfl) ?_
    refine lv_sipush (v := (4096 : Int32)) hx hb dX8_clear_3 (by decide) ?_
    refine lv_icmp_ge (tgt := 22) hx hb dX8_clear_6 (by decide) (fun k1 => ?_) (fun k1 => ?_)
    · have h := x_t h k1
      refine lv_iconst (v := (0 : Int32)) hx hb dX8_clear_22 (by decide) ?_
      refine lv_istore_n (lv' := [(1, .int ((0 : Int32))), (0, .ref a0)]) hx hb dX8_clear_23 rfl hl (by decide) rfl (fun ls hl => ?_)
      exact b_X8_clear_24 cx hkn hL0 hK0 fu M ((0 : Int32)) H locs ls h w (lv_sub hl [1, 0] rfl)
    · have h := x_f h k1
      refine lv_aload_n hx hb dX8_clear_9 rfl (lv_at hl 0 rfl) ?_
      obtain ⟨q2, eq2, h⟩ := x_rf h
      obtain ⟨hLq2, hKq2⟩ := wt_q hG hL0 hK0 eq2
      have hKq2 : gK G q2 = 12 := hKq2
      refine r_getR (k := 0) cx w hL0 hK0 (by decide) rfl wi_X8_clear_X8 (by decide) rfl eq2 (List.mem_of_getElem? (i := 1) rfl) dX8_clear_10 ?_
      refine lv_iload_n hx hb dX8_clear_13 rfl (lv_at hl 1 rfl) ?_
      refine lv_iconst (v := (0 : Int32)) hx hb dX8_clear_14 (by decide) ?_
      obtain ⟨z3, h⟩ := x_ix h
      obtain ⟨M4, eM4, h⟩ := x_wI h
      refine r_iast cx w hLq2 hKq2 z3 dX8_clear_15 eM4 (fun H locs w => ?_)
      obtain ⟨x5, ex5, h⟩ := x_bd h
      refine lv_iinc (v := x5) (lv' := [(1, .int x5), (0, .ref a0)]) hx hb dX8_clear_16 hl (k := 1) rfl (by rw [ex5]; rfl) (by decide) rfl (fun ls hl => ?_)
      refine lv_goto (tgt := 2) hx hb dX8_clear_19 (by decide) ?_
      exact ih M4 x5 H locs ls h w (lv_sub hl [1, 0] rfl)
set_option maxHeartbeats 4000000 in
set_option maxRecDepth 100000 in
theorem k_X8_clear {l : Launch} {D : va_G} {cy : cyS} {G : gS} {M M' : mS} {a0 : Nat} (hG : wt G) (hL0 : a0 ∈ gL G) (hK0 : gK G a0 = 7) (h : m_X8_clear G M a0 = some (M', ())) : ctV l yX8_clear wsX8_clear rmX8_clear D cy G M [.ref a0] M' := by
  unfold m_X8_clear at h
  refine ctV_of (cc := cX8_clear) (nL := 2) (ret := none) (lv := [(0, .ref a0)]) hG (by decide) rfl ⟨rfl, rfl⟩ (Nat.le_of_ble_eq_true rfl) rfl ?_
  intro p e s m args below meth c A ls cx w hl
  obtain ⟨hx, hb, hml, hown, hts, hr, hlocks, hK, hA, -, hsx⟩ := id cx
  have hkn : 0 ≤ (rmX8_clear).cells ∧ 0 ≤ (rmX8_clear).slots := ⟨Nat.zero_le _, Nat.zero_le _⟩
  refine lv_iconst (v := (0 : Int32)) hx hb dX8_clear_0 (by decide) ?_
  refine lv_istore_n (lv' := [(1, .int ((0 : Int32))), (0, .ref a0)]) hx hb dX8_clear_1 rfl hl (by decide) rfl (fun ls hl => ?_)
  exact b_X8_clear_2 cx hkn hL0 hK0 fu M ((0 : Int32)) s.heap [] ls h w (lv_sub hl [1, 0] rfl)
-- X8_beginAnt
theorem wi_X8_beginAnt_X8 : ∀ w ∈ wsX80, w ∈ wsX8_beginAnt := by decide +kernel
abbrev rmX8_beginAnt : Room := { frames := 2, cells := 0, slots := 0, locals := 40 }
def m_X8_beginAnt (G : gS) (M : mS) (a0 : Nat) : Option (mS × Int32) := (if (mI M a0 4) < (6 : Int32) then o_rf (gP G a0 3) (fun q2 => o_ix (mI M a0 4) (gN G q2) (o_rf (gP G q2 (Int32.toNatClampNeg (mI M a0 4))) (fun q4 => o_cl (m_X0_clear G M q4) (fun M5 r6 => o_wI M5 a0 4 ((mI M5 a0 4) + (1 : Int32)) (fun M8 => o_ck ((1 : Int32) = 0 ∨ (1 : Int32) = 1) (some (M8, (1 : Int32)))))))) else o_ck ((0 : Int32) = 0 ∨ (0 : Int32) = 1) (some (M, (0 : Int32))))
set_option maxHeartbeats 4000000 in
set_option maxRecDepth 100000 in
theorem k_X8_beginAnt {l : Launch} {D : va_G} {cy : cyS} {G : gS} {M M' : mS} {r : Int32} {a0 : Nat} (hG : wt G) (hL0 : a0 ∈ gL G) (hK0 : gK G a0 = 7) (h : m_X8_beginAnt G M a0 = some (M', r)) : ctI l yX8_beginAnt wsX8_beginAnt rmX8_beginAnt D cy G M [.ref a0] M' r := by
  unfold m_X8_beginAnt at h
  refine ctI_of (cc := cX8_beginAnt) (nL := 1) (ret := (some .boolean)) (lv := [(0, .ref a0)]) hG (by decide) rfl ⟨rfl, rfl⟩ (Nat.le_of_ble_eq_true rfl) rfl ?_
  intro p e s m args below meth c A ls cx w hl
  obtain ⟨hx, hb, hml, hown, hts, hr, hlocks, hK, hA, -, hsx⟩ := id cx
  have hkn : 0 ≤ (rmX8_beginAnt).cells ∧ 0 ≤ (rmX8_beginAnt).slots := ⟨Nat.zero_le _, Nat.zero_le _⟩
  refine lv_aload_n hx hb dX8_beginAnt_0 rfl (lv_at hl 0 rfl) ?_
  refine r_getI (k := 4) (v := .int (mI M a0 4)) cx w hL0 hK0 (by decide) rfl wi_X8_beginAnt_X8 (by decide) rfl (List.mem_of_getElem? (i := 1) rfl) dX8_beginAnt_1 ?_
  refine lv_bipush (v := (6 : Int32)) hx hb dX8_beginAnt_4 (by decide) ?_
  refine lv_icmp_lt (tgt := 11) hx hb dX8_beginAnt_6 (by decide) (fun k1 => ?_) (fun k1 => ?_)
  · have h := x_t h k1
    refine lv_aload_n hx hb dX8_beginAnt_11 rfl (lv_at hl 0 rfl) ?_
    obtain ⟨q2, eq2, h⟩ := x_rf h
    obtain ⟨hLq2, hKq2⟩ := wt_q hG hL0 hK0 eq2
    have hKq2 : gK G q2 = 14 := hKq2
    refine r_getR (k := 3) cx w hL0 hK0 (by decide) rfl wi_X8_beginAnt_X8 (by decide) rfl eq2 (List.mem_of_getElem? (i := 2) rfl) dX8_beginAnt_12 ?_
    refine lv_aload_n hx hb dX8_beginAnt_15 rfl (lv_at hl 0 rfl) ?_
    refine r_getI (k := 4) (v := .int (mI M a0 4)) cx w hL0 hK0 (by decide) rfl wi_X8_beginAnt_X8 (by decide) rfl (List.mem_of_getElem? (i := 1) rfl) dX8_beginAnt_16 ?_
    obtain ⟨z3, h⟩ := x_ix h
    obtain ⟨q4, eq4, h⟩ := x_rf h
    obtain ⟨hLq4, hKq4⟩ := wt_q hG hLq2 hKq2 eq4
    have hKq4 : gK G q4 = 0 := hKq4
    refine r_aald cx w hLq2 hKq2 z3 eq4 dX8_beginAnt_19 ?_
    obtain ⟨M5, r6, y7, h⟩ := x_cl h
    refine r_callVv (As := []) (rest := []) cx w hkn hl.1 (k_X0_clear hG hLq4 hKq4 y7) (cwV 0 hts gX8_beginAnt_X0_clear rfl rfl rfl (by decide +kernel) ⟨Nat.le_of_ble_eq_true rfl, Nat.le_of_ble_eq_true rfl⟩) hLq4 hKq4 (by decide) rfl rfl rfl (Nat.le_of_ble_eq_true rfl) dX8_beginAnt_20 (fun H locs w => ?_)
    refine lv_aload_n hx hb dX8_beginAnt_23 rfl (lv_at hl 0 rfl) ?_
    refine lv_dup hx hb dX8_beginAnt_24 rfl ?_
    refine r_getI (k := 4) (v := .int (mI M5 a0 4)) cx w hL0 hK0 (by decide) rfl wi_X8_beginAnt_X8 (by decide) rfl (List.mem_of_getElem? (i := 1) rfl) dX8_beginAnt_25 ?_
    refine lv_iconst (v := (1 : Int32)) hx hb dX8_beginAnt_28 (by decide) ?_
    refine lv_iadd hx hb dX8_beginAnt_29 ?_
    obtain ⟨M8, eM8, h⟩ := x_wI h
    refine r_putI (k := 4) (ty := .int) cx w tyX8 tyX8_ok nmX8 hL0 hK0 (by decide) rfl wi_X8_beginAnt_X8 (by decide) rfl rfl rfl rfl st_7_4 (ln_7 _ _ (by decide)) (List.mem_of_getElem? (i := 1) rfl) dX8_beginAnt_30 eM8 (fun H locs w => ?_)
    refine lv_iconst (v := (1 : Int32)) hx hb dX8_beginAnt_33 (by decide) ?_
    obtain ⟨z9, h⟩ := x_ck h
    exact r_zret cx w z9 h dX8_beginAnt_34
  · have h := x_f h k1
    refine lv_iconst (v := (0 : Int32)) hx hb dX8_beginAnt_9 (by decide) ?_
    obtain ⟨z10, h⟩ := x_ck h
    exact r_zret cx w z10 h dX8_beginAnt_10
-- X8_latestAnt
theorem wi_X8_latestAnt_X8 : ∀ w ∈ wsX80, w ∈ wsX8_latestAnt := by decide +kernel
abbrev rmX8_latestAnt : Room := { frames := 0, cells := 0, slots := 0, locals := 0 }
def m_X8_latestAnt_21 (G : gS) (a0 : Nat)  (M : mS) (s0 : Nat) (s1 : Int32) : Option (mS × Nat) := o_ix s1 (gN G s0) (o_rf (gP G s0 (Int32.toNatClampNeg s1)) (fun q2 => some (M, q2)))
def m_X8_latestAnt (G : gS) (M : mS) (a0 : Nat) : Option (mS × Nat) := o_rf (gP G a0 3) (fun q1 => (if (mI M a0 4) ≤ 0 then m_X8_latestAnt_21 G a0 M q1 ((0 : Int32)) else m_X8_latestAnt_21 G a0 M q1 (((mI M a0 4) - (1 : Int32)))))
set_option maxHeartbeats 4000000 in
set_option maxRecDepth 100000 in
theorem b_X8_latestAnt_21 {p : Program} {e : Env} {s : State} {m : MethodId} {args : Array Value} {below : List Frame} {meth : Method} {c : Code} {A : Nat → Prop} {l : Launch} {D : va_G} {cy : cyS} {G : gS} (cx : cX p s m args meth c cX8_latestAnt RX8 1 (some (.object "FlagAnts$Ant")) wsX8_latestAnt D cy G A) {k0 n0 : Nat} (hkn : k0 ≤ (rmX8_latestAnt).cells ∧ n0 ≤ (rmX8_latestAnt).slots) {M' : mS} {r : Nat} {a0 : Nat} (hL0 : a0 ∈ gL G) (hK0 : gK G a0 = 7)  : ∀ (M : mS) (s0 : Nat) (s1 : Int32) (H : Heap) (locs : List Loc) (ls : Array Slot), s0 ∈ gL G → gK G s0 = 14 → m_X8_latestAnt_21 G a0 M s0 s1 = some (M', r) → wd D cy G M A s.heap H locs → lv_has ls 1 [] → W p l e rmX8_latestAnt s m args below meth c H locs k0 n0 (MQ below (va_Qr (fun (_ : Unit) => True) (fun _ a t => a = r ∧ wOut D cy G M' t) A) args s k0 n0 A) (F0 m 21 ls [.int s1, .ref s0]) := by
  obtain ⟨hx, hb, hml, hown, hts, hr, hlocks, hK, hA, hG, hsx⟩ := id cx
  intro M s0 s1 H locs ls sL0 sK0 h w hl
  unfold m_X8_latestAnt_21 at h
  obtain ⟨z1, h⟩ := x_ix h
  obtain ⟨q2, eq2, h⟩ := x_rf h
  obtain ⟨hLq2, hKq2⟩ := wt_q hG sL0 sK0 eq2
  have hKq2 : gK G q2 = 0 := hKq2
  refine r_aald cx w sL0 sK0 z1 eq2 dX8_latestAnt_21 ?_
  exact r_aret cx w h dX8_latestAnt_22
set_option maxHeartbeats 4000000 in
set_option maxRecDepth 100000 in
theorem k_X8_latestAnt {l : Launch} {D : va_G} {cy : cyS} {G : gS} {M M' : mS} {r : Nat} {a0 : Nat} (hG : wt G) (hL0 : a0 ∈ gL G) (hK0 : gK G a0 = 7) (h : m_X8_latestAnt G M a0 = some (M', r)) : ctR l yX8_latestAnt wsX8_latestAnt rmX8_latestAnt D cy G M [.ref a0] M' r := by
  unfold m_X8_latestAnt at h
  refine ctR_of (cc := cX8_latestAnt) (nL := 1) (ret := (some (.object "FlagAnts$Ant"))) (lv := [(0, .ref a0)]) hG (by decide) rfl ⟨rfl, rfl⟩ (Nat.le_of_ble_eq_true rfl) rfl ?_
  intro p e s m args below meth c A ls cx w hl
  obtain ⟨hx, hb, hml, hown, hts, hr, hlocks, hK, hA, -, hsx⟩ := id cx
  have hkn : 0 ≤ (rmX8_latestAnt).cells ∧ 0 ≤ (rmX8_latestAnt).slots := ⟨Nat.zero_le _, Nat.zero_le _⟩
  refine lv_aload_n hx hb dX8_latestAnt_0 rfl (lv_at hl 0 rfl) ?_
  obtain ⟨q1, eq1, h⟩ := x_rf h
  obtain ⟨hLq1, hKq1⟩ := wt_q hG hL0 hK0 eq1
  have hKq1 : gK G q1 = 14 := hKq1
  refine r_getR (k := 3) cx w hL0 hK0 (by decide) rfl wi_X8_latestAnt_X8 (by decide) rfl eq1 (List.mem_of_getElem? (i := 1) rfl) dX8_latestAnt_1 ?_
  refine lv_aload_n hx hb dX8_latestAnt_4 rfl (lv_at hl 0 rfl) ?_
  refine r_getI (k := 4) (v := .int (mI M a0 4)) cx w hL0 hK0 (by decide) rfl wi_X8_latestAnt_X8 (by decide) rfl (List.mem_of_getElem? (i := 2) rfl) dX8_latestAnt_5 ?_
  refine lv_if_le (tgt := 20) hx hb dX8_latestAnt_8 (by decide) (fun k2 => ?_) (fun k2 => ?_)
  · have h := x_t h k2
    refine lv_iconst (v := (0 : Int32)) hx hb dX8_latestAnt_20 (by decide) ?_
    exact b_X8_latestAnt_21 cx hkn hL0 hK0 M q1 ((0 : Int32)) s.heap [] ls hLq1 hKq1 h w (lv_sub hl [] rfl)
  · have h := x_f h k2
    refine lv_aload_n hx hb dX8_latestAnt_11 rfl (lv_at hl 0 rfl) ?_
    refine r_getI (k := 4) (v := .int (mI M a0 4)) cx w hL0 hK0 (by decide) rfl wi_X8_latestAnt_X8 (by decide) rfl (List.mem_of_getElem? (i := 2) rfl) dX8_latestAnt_12 ?_
    refine lv_iconst (v := (1 : Int32)) hx hb dX8_latestAnt_15 (by decide) ?_
    refine lv_isub hx hb dX8_latestAnt_16 ?_
    refine lv_goto (tgt := 21) hx hb dX8_latestAnt_17 (by decide) ?_
    exact b_X8_latestAnt_21 cx hkn hL0 hK0 M q1 (((mI M a0 4) - (1 : Int32))) s.heap [] ls hLq1 hKq1 h w (lv_sub hl [] rfl)
-- X8_copyFrom
theorem wi_X8_copyFrom_X8 : ∀ w ∈ wsX80, w ∈ wsX8_copyFrom := by decide +kernel
abbrev rmX8_copyFrom : Room := { frames := 2, cells := 0, slots := 0, locals := 81 }
def m_X8_copyFrom_91 (G : gS) (a0 : Nat) (a1 : Nat)  (M : mS)  : Option (mS × Unit) := o_wI M a0 5 (mI M a1 5) (fun M1 => o_wI M1 a0 6 (mI M1 a1 6) (fun M2 => o_wI M2 a0 7 (mI M2 a1 7) (fun M3 => o_wI M3 a0 8 (mI M3 a1 8) (fun M4 => some (M4, ())))))
def m_X8_copyFrom_56 (G : gS) (a0 : Nat) (a1 : Nat)  : Nat → mS → Int32 → Option (mS × Unit)
  | 0, _, _ => none
  | n + 1, M, v2 => (if (mI M a0 4) ≤ v2 then m_X8_copyFrom_91 G a0 a1 M else (if (6 : Int32) ≤ v2 then m_X8_copyFrom_91 G a0 a1 M else o_rf (gP G a0 3) (fun q3 => o_ix v2 (gN G q3) (o_rf (gP G q3 (Int32.toNatClampNeg v2)) (fun q5 => o_rf (gP G a1 3) (fun q6 => o_ix v2 (gN G q6) (o_rf (gP G q6 (Int32.toNatClampNeg v2)) (fun q8 => o_cl (m_X0_copyFrom G M q5 q8) (fun M9 r10 => o_bd (v2 + 1 : Int32) (fun x12 => m_X8_copyFrom_56 G a0 a1 n M9 x12))))))))))
def m_X8_copyFrom (G : gS) (M : mS) (a0 : Nat) (a1 : Nat) : Option (mS × Unit) := o_rf (gP G a1 0) (fun q1 => o_rf (gP G a0 0) (fun q2 => o_ck (¬ (4096 : Int32) < 0 ∧ Int32.toNatClampNeg (4096 : Int32) ≤ gN G q1 ∧ Int32.toNatClampNeg (4096 : Int32) ≤ gN G q2) (o_wC M q2 (cpy0 (mI M q1) (mI M q2) (Int32.toNatClampNeg (4096 : Int32))) (fun M4 => o_rf (gP G a1 1) (fun q5 => o_rf (gP G a0 1) (fun q6 => o_ck (¬ (64 : Int32) < 0 ∧ Int32.toNatClampNeg (64 : Int32) ≤ gN G q5 ∧ Int32.toNatClampNeg (64 : Int32) ≤ gN G q6) (o_wC M4 q6 (cpy0 (mI M4 q5) (mI M4 q6) (Int32.toNatClampNeg (64 : Int32))) (fun M8 => o_rf (gP G a1 2) (fun q9 => o_rf (gP G a0 2) (fun q10 => o_ck (¬ (6 : Int32) < 0 ∧ Int32.toNatClampNeg (6 : Int32) ≤ gN G q9 ∧ Int32.toNatClampNeg (6 : Int32) ≤ gN G q10) (o_wC M8 q10 (cpy0 (mI M8 q9) (mI M8 q10) (Int32.toNatClampNeg (6 : Int32))) (fun M12 => o_wI M12 a0 4 (mI M12 a1 4) (fun M13 => m_X8_copyFrom_56 G a0 a1 fu M13 ((0 : Int32)))))))))))))))
set_option maxHeartbeats 4000000 in
set_option maxRecDepth 100000 in
theorem b_X8_copyFrom_91 {p : Program} {e : Env} {s : State} {m : MethodId} {args : Array Value} {below : List Frame} {meth : Method} {c : Code} {A : Nat → Prop} {l : Launch} {D : va_G} {cy : cyS} {G : gS} (cx : cX p s m args meth c cX8_copyFrom RX8 3 none wsX8_copyFrom D cy G A) {k0 n0 : Nat} (hkn : k0 ≤ (rmX8_copyFrom).cells ∧ n0 ≤ (rmX8_copyFrom).slots) {M' : mS} {a0 : Nat} {a1 : Nat} (hL0 : a0 ∈ gL G) (hK0 : gK G a0 = 7) (hL1 : a1 ∈ gL G) (hK1 : gK G a1 = 7)  : ∀ (M : mS) (H : Heap) (locs : List Loc) (ls : Array Slot), m_X8_copyFrom_91 G a0 a1 M = some (M', ()) → wd D cy G M A s.heap H locs → lv_has ls 3 [(0, .ref a0), (1, .ref a1)] → W p l e rmX8_copyFrom s m args below meth c H locs k0 n0 (MQ below (va_Qv (fun (_ : Unit) => True) (fun _ t => wOut D cy G M' t) A) args s k0 n0 A) (F0 m 91 ls []) := by
  obtain ⟨hx, hb, hml, hown, hts, hr, hlocks, hK, hA, hG, hsx⟩ := id cx
  intro M H locs ls h w hl
  unfold m_X8_copyFrom_91 at h
  refine lv_aload_n hx hb dX8_copyFrom_91 rfl (lv_at hl 0 rfl) ?_
  refine lv_aload_n hx hb dX8_copyFrom_92 rfl (lv_at hl 1 rfl) ?_
  refine r_getI (k := 5) (v := .int (mI M a1 5)) cx w hL1 hK1 (by decide) rfl wi_X8_copyFrom_X8 (by decide) rfl (List.mem_of_getElem? (i := 10) rfl) dX8_copyFrom_93 ?_
  obtain ⟨M1, eM1, h⟩ := x_wI h
  refine r_putI (k := 5) (ty := .int) cx w tyX8 tyX8_ok nmX8 hL0 hK0 (by decide) rfl wi_X8_copyFrom_X8 (by decide) rfl rfl rfl rfl st_7_5 (ln_7 _ _ (by decide)) (List.mem_of_getElem? (i := 10) rfl) dX8_copyFrom_96 eM1 (fun H locs w => ?_)
  refine lv_aload_n hx hb dX8_copyFrom_99 rfl (lv_at hl 0 rfl) ?_
  refine lv_aload_n hx hb dX8_copyFrom_100 rfl (lv_at hl 1 rfl) ?_
  refine r_getI (k := 6) (v := .int (mI M1 a1 6)) cx w hL1 hK1 (by decide) rfl wi_X8_copyFrom_X8 (by decide) rfl (List.mem_of_getElem? (i := 11) rfl) dX8_copyFrom_101 ?_
  obtain ⟨M2, eM2, h⟩ := x_wI h
  refine r_putI (k := 6) (ty := .int) cx w tyX8 tyX8_ok nmX8 hL0 hK0 (by decide) rfl wi_X8_copyFrom_X8 (by decide) rfl rfl rfl rfl st_7_6 (ln_7 _ _ (by decide)) (List.mem_of_getElem? (i := 11) rfl) dX8_copyFrom_104 eM2 (fun H locs w => ?_)
  refine lv_aload_n hx hb dX8_copyFrom_107 rfl (lv_at hl 0 rfl) ?_
  refine lv_aload_n hx hb dX8_copyFrom_108 rfl (lv_at hl 1 rfl) ?_
  refine r_getI (k := 7) (v := .int (mI M2 a1 7)) cx w hL1 hK1 (by decide) rfl wi_X8_copyFrom_X8 (by decide) rfl (List.mem_of_getElem? (i := 12) rfl) dX8_copyFrom_109 ?_
  obtain ⟨M3, eM3, h⟩ := x_wI h
  refine r_putI (k := 7) (ty := .int) cx w tyX8 tyX8_ok nmX8 hL0 hK0 (by decide) rfl wi_X8_copyFrom_X8 (by decide) rfl rfl rfl rfl st_7_7 (ln_7 _ _ (by decide)) (List.mem_of_getElem? (i := 12) rfl) dX8_copyFrom_112 eM3 (fun H locs w => ?_)
  refine lv_aload_n hx hb dX8_copyFrom_115 rfl (lv_at hl 0 rfl) ?_
  refine lv_aload_n hx hb dX8_copyFrom_116 rfl (lv_at hl 1 rfl) ?_
  refine r_getI (k := 8) (v := .int (mI M3 a1 8)) cx w hL1 hK1 (by decide) rfl wi_X8_copyFrom_X8 (by decide) rfl (List.mem_of_getElem? (i := 13) rfl) dX8_copyFrom_117 ?_
  obtain ⟨M4, eM4, h⟩ := x_wI h
  refine r_putI (k := 8) (ty := .int) cx w tyX8 tyX8_ok nmX8 hL0 hK0 (by decide) rfl wi_X8_copyFrom_X8 (by decide) rfl rfl rfl rfl st_7_8 (ln_7 _ _ (by decide)) (List.mem_of_getElem? (i := 13) rfl) dX8_copyFrom_120 eM4 (fun H locs w => ?_)
  exact r_vret cx w h dX8_copyFrom_123
set_option maxHeartbeats 4000000 in
set_option maxRecDepth 100000 in
theorem b_X8_copyFrom_56 {p : Program} {e : Env} {s : State} {m : MethodId} {args : Array Value} {below : List Frame} {meth : Method} {c : Code} {A : Nat → Prop} {l : Launch} {D : va_G} {cy : cyS} {G : gS} (cx : cX p s m args meth c cX8_copyFrom RX8 3 none wsX8_copyFrom D cy G A) {k0 n0 : Nat} (hkn : k0 ≤ (rmX8_copyFrom).cells ∧ n0 ≤ (rmX8_copyFrom).slots) {M' : mS} {a0 : Nat} {a1 : Nat} (hL0 : a0 ∈ gL G) (hK0 : gK G a0 = 7) (hL1 : a1 ∈ gL G) (hK1 : gK G a1 = 7)  : ∀ (n : Nat), ∀ (M : mS) (v2 : Int32) (H : Heap) (locs : List Loc) (ls : Array Slot), m_X8_copyFrom_56 G a0 a1 n M v2 = some (M', ()) → wd D cy G M A s.heap H locs → lv_has ls 3 [(0, .ref a0), (1, .ref a1), (2, .int v2)] → W p l e rmX8_copyFrom s m args below meth c H locs k0 n0 (MQ below (va_Qv (fun (_ : Unit) => True) (fun _ t => wOut D cy G M' t) A) args s k0 n0 A) (F0 m 56 ls []) := by
  obtain ⟨hx, hb, hml, hown, hts, hr, hlocks, hK, hA, hG, hsx⟩ := id cx
  intro n
  induction n with
  | zero =>
    intro M v2 H locs ls h w hl
    have h : none = some _ := h
    cases h
  | succ n ih =>
    intro M v2 H locs ls h w hl
    rw [m_X8_copyFrom_56] at h
    refine lv_iload_n hx hb dX8_copyFrom_56 rfl (lv_at hl 2 rfl) ?_
    refine lv_aload_n hx hb dX8_copyFrom_57 rfl (lv_at hl 0 rfl) ?_
    refine r_getI (k := 4) (v := .int (mI M a0 4)) cx w hL0 hK0 (by decide) rfl wi_X8_copyFrom_X8 (by decide) rfl (List.mem_of_getElem? (i := 8) rfl) dX8_copyFrom_58 ?_
    refine lv_icmp_ge (tgt := 91) hx hb dX8_copyFrom_61 (by decide) (fun k1 => ?_) (fun k1 => ?_)
    · have h := x_t h k1
      exact b_X8_copyFrom_91 cx hkn hL0 hK0 hL1 hK1 M H locs ls h w (lv_sub hl [0, 1] rfl)
    · have h := x_f h k1
      refine lv_iload_n hx hb dX8_copyFrom_64 rfl (lv_at hl 2 rfl) ?_
      refine lv_bipush (v := (6 : Int32)) hx hb dX8_copyFrom_65 (by decide) ?_
      refine lv_icmp_ge (tgt := 91) hx hb dX8_copyFrom_67 (by decide) (fun k2 => ?_) (fun k2 => ?_)
      · have h := x_t h k2
        exact b_X8_copyFrom_91 cx hkn hL0 hK0 hL1 hK1 M H locs ls h w (lv_sub hl [0, 1] rfl)
      · have h := x_f h k2
        refine lv_aload_n hx hb dX8_copyFrom_70 rfl (lv_at hl 0 rfl) ?_
        obtain ⟨q3, eq3, h⟩ := x_rf h
        obtain ⟨hLq3, hKq3⟩ := wt_q hG hL0 hK0 eq3
        have hKq3 : gK G q3 = 14 := hKq3
        refine r_getR (k := 3) cx w hL0 hK0 (by decide) rfl wi_X8_copyFrom_X8 (by decide) rfl eq3 (List.mem_of_getElem? (i := 9) rfl) dX8_copyFrom_71 ?_
        refine lv_iload_n hx hb dX8_copyFrom_74 rfl (lv_at hl 2 rfl) ?_
        obtain ⟨z4, h⟩ := x_ix h
        obtain ⟨q5, eq5, h⟩ := x_rf h
        obtain ⟨hLq5, hKq5⟩ := wt_q hG hLq3 hKq3 eq5
        have hKq5 : gK G q5 = 0 := hKq5
        refine r_aald cx w hLq3 hKq3 z4 eq5 dX8_copyFrom_75 ?_
        refine lv_aload_n hx hb dX8_copyFrom_76 rfl (lv_at hl 1 rfl) ?_
        obtain ⟨q6, eq6, h⟩ := x_rf h
        obtain ⟨hLq6, hKq6⟩ := wt_q hG hL1 hK1 eq6
        have hKq6 : gK G q6 = 14 := hKq6
        refine r_getR (k := 3) cx w hL1 hK1 (by decide) rfl wi_X8_copyFrom_X8 (by decide) rfl eq6 (List.mem_of_getElem? (i := 9) rfl) dX8_copyFrom_77 ?_
        refine lv_iload_n hx hb dX8_copyFrom_80 rfl (lv_at hl 2 rfl) ?_
        obtain ⟨z7, h⟩ := x_ix h
        obtain ⟨q8, eq8, h⟩ := x_rf h
        obtain ⟨hLq8, hKq8⟩ := wt_q hG hLq6 hKq6 eq8
        have hKq8 : gK G q8 = 0 := hKq8
        refine r_aald cx w hLq6 hKq6 z7 eq8 dX8_copyFrom_81 ?_
        obtain ⟨M9, r10, y11, h⟩ := x_cl h
        refine r_callVv (As := [.ref q8]) (rest := []) cx w hkn hl.1 (k_X0_copyFrom hG hLq5 hKq5 hLq8 hKq8 y11) (cwV 1 hts gX8_copyFrom_X0_copyFrom rfl rfl rfl (by decide +kernel) ⟨Nat.le_of_ble_eq_true rfl, Nat.le_of_ble_eq_true rfl⟩) hLq5 hKq5 (by decide) rfl rfl rfl (Nat.le_of_ble_eq_true rfl) dX8_copyFrom_82 (fun H locs w => ?_)
        obtain ⟨x12, ex12, h⟩ := x_bd h
        refine lv_iinc (v := x12) (lv' := [(2, .int x12), (0, .ref a0), (1, .ref a1)]) hx hb dX8_copyFrom_85 hl (k := 2) rfl (by rw [ex12]; rfl) (by decide) rfl (fun ls hl => ?_)
        refine lv_goto (tgt := 56) hx hb dX8_copyFrom_88 (by decide) ?_
        exact ih M9 x12 H locs ls h w (lv_sub hl [1, 2, 0] rfl)
set_option maxHeartbeats 4000000 in
set_option maxRecDepth 100000 in
theorem k_X8_copyFrom {l : Launch} {D : va_G} {cy : cyS} {G : gS} {M M' : mS} {a0 : Nat} {a1 : Nat} (hG : wt G) (hL0 : a0 ∈ gL G) (hK0 : gK G a0 = 7) (hL1 : a1 ∈ gL G) (hK1 : gK G a1 = 7) (h : m_X8_copyFrom G M a0 a1 = some (M', ())) : ctV l yX8_copyFrom wsX8_copyFrom rmX8_copyFrom D cy G M [.ref a0, .ref a1] M' := by
  unfold m_X8_copyFrom at h
  refine ctV_of (cc := cX8_copyFrom) (nL := 3) (ret := none) (lv := [(0, .ref a0), (1, .ref a1)]) hG (by decide) rfl ⟨rfl, rfl⟩ (Nat.le_of_ble_eq_true rfl) rfl ?_
  intro p e s m args below meth c A ls cx w hl
  obtain ⟨hx, hb, hml, hown, hts, hr, hlocks, hK, hA, -, hsx⟩ := id cx
  have hkn : 0 ≤ (rmX8_copyFrom).cells ∧ 0 ≤ (rmX8_copyFrom).slots := ⟨Nat.zero_le _, Nat.zero_le _⟩
  refine lv_aload_n hx hb dX8_copyFrom_0 rfl (lv_at hl 1 rfl) ?_
  obtain ⟨q1, eq1, h⟩ := x_rf h
  obtain ⟨hLq1, hKq1⟩ := wt_q hG hL1 hK1 eq1
  have hKq1 : gK G q1 = 12 := hKq1
  refine r_getR (k := 0) cx w hL1 hK1 (by decide) rfl wi_X8_copyFrom_X8 (by decide) rfl eq1 (List.mem_of_getElem? (i := 1) rfl) dX8_copyFrom_1 ?_
  refine lv_iconst (v := (0 : Int32)) hx hb dX8_copyFrom_4 (by decide) ?_
  refine lv_aload_n hx hb dX8_copyFrom_5 rfl (lv_at hl 0 rfl) ?_
  obtain ⟨q2, eq2, h⟩ := x_rf h
  obtain ⟨hLq2, hKq2⟩ := wt_q hG hL0 hK0 eq2
  have hKq2 : gK G q2 = 12 := hKq2
  refine r_getR (k := 0) cx w hL0 hK0 (by decide) rfl wi_X8_copyFrom_X8 (by decide) rfl eq2 (List.mem_of_getElem? (i := 1) rfl) dX8_copyFrom_6 ?_
  refine lv_iconst (v := (0 : Int32)) hx hb dX8_copyFrom_9 (by decide) ?_
  refine lv_sipush (v := (4096 : Int32)) hx hb dX8_copyFrom_10 (by decide) ?_
  obtain ⟨z3, h⟩ := x_ck h
  obtain ⟨M4, eM4, h⟩ := x_wC h
  refine r_copy cx w (hml.trans hl.1.symm) (hts _ (List.mem_of_getElem? (i := 2) rfl)) (hts _ (List.mem_of_getElem? (i := 3) rfl)) (hts _ (List.mem_of_getElem? (i := 4) rfl)) (hts _ (List.mem_of_getElem? (i := 5) rfl)) hLq1 hKq1 hLq2 hKq2 z3 (Nat.le_of_ble_eq_true rfl) (Nat.le_of_ble_eq_true rfl) dX8_copyFrom_13 eM4 (fun H locs w => ?_)
  refine lv_aload_n hx hb dX8_copyFrom_16 rfl (lv_at hl 1 rfl) ?_
  obtain ⟨q5, eq5, h⟩ := x_rf h
  obtain ⟨hLq5, hKq5⟩ := wt_q hG hL1 hK1 eq5
  have hKq5 : gK G q5 = 12 := hKq5
  refine r_getR (k := 1) cx w hL1 hK1 (by decide) rfl wi_X8_copyFrom_X8 (by decide) rfl eq5 (List.mem_of_getElem? (i := 6) rfl) dX8_copyFrom_17 ?_
  refine lv_iconst (v := (0 : Int32)) hx hb dX8_copyFrom_20 (by decide) ?_
  refine lv_aload_n hx hb dX8_copyFrom_21 rfl (lv_at hl 0 rfl) ?_
  obtain ⟨q6, eq6, h⟩ := x_rf h
  obtain ⟨hLq6, hKq6⟩ := wt_q hG hL0 hK0 eq6
  have hKq6 : gK G q6 = 12 := hKq6
  refine r_getR (k := 1) cx w hL0 hK0 (by decide) rfl wi_X8_copyFrom_X8 (by decide) rfl eq6 (List.mem_of_getElem? (i := 6) rfl) dX8_copyFrom_22 ?_
  refine lv_iconst (v := (0 : Int32)) hx hb dX8_copyFrom_25 (by decide) ?_
  refine lv_bipush (v := (64 : Int32)) hx hb dX8_copyFrom_26 (by decide) ?_
  obtain ⟨z7, h⟩ := x_ck h
  obtain ⟨M8, eM8, h⟩ := x_wC h
  refine r_copy cx w (hml.trans hl.1.symm) (hts _ (List.mem_of_getElem? (i := 2) rfl)) (hts _ (List.mem_of_getElem? (i := 3) rfl)) (hts _ (List.mem_of_getElem? (i := 4) rfl)) (hts _ (List.mem_of_getElem? (i := 5) rfl)) hLq5 hKq5 hLq6 hKq6 z7 (Nat.le_of_ble_eq_true rfl) (Nat.le_of_ble_eq_true rfl) dX8_copyFrom_28 eM8 (fun H locs w => ?_)
  refine lv_aload_n hx hb dX8_copyFrom_31 rfl (lv_at hl 1 rfl) ?_
  obtain ⟨q9, eq9, h⟩ := x_rf h
  obtain ⟨hLq9, hKq9⟩ := wt_q hG hL1 hK1 eq9
  have hKq9 : gK G q9 = 12 := hKq9
  refine r_getR (k := 2) cx w hL1 hK1 (by decide) rfl wi_X8_copyFrom_X8 (by decide) rfl eq9 (List.mem_of_getElem? (i := 7) rfl) dX8_copyFrom_32 ?_
  refine lv_iconst (v := (0 : Int32)) hx hb dX8_copyFrom_35 (by decide) ?_
  refine lv_aload_n hx hb dX8_copyFrom_36 rfl (lv_at hl 0 rfl) ?_
  obtain ⟨q10, eq10, h⟩ := x_rf h
  obtain ⟨hLq10, hKq10⟩ := wt_q hG hL0 hK0 eq10
  have hKq10 : gK G q10 = 12 := hKq10
  refine r_getR (k := 2) cx w hL0 hK0 (by decide) rfl wi_X8_copyFrom_X8 (by decide) rfl eq10 (List.mem_of_getElem? (i := 7) rfl) dX8_copyFrom_37 ?_
  refine lv_iconst (v := (0 : Int32)) hx hb dX8_copyFrom_40 (by decide) ?_
  refine lv_bipush (v := (6 : Int32)) hx hb dX8_copyFrom_41 (by decide) ?_
  obtain ⟨z11, h⟩ := x_ck h
  obtain ⟨M12, eM12, h⟩ := x_wC h
  refine r_copy cx w (hml.trans hl.1.symm) (hts _ (List.mem_of_getElem? (i := 2) rfl)) (hts _ (List.mem_of_getElem? (i := 3) rfl)) (hts _ (List.mem_of_getElem? (i := 4) rfl)) (hts _ (List.mem_of_getElem? (i := 5) rfl)) hLq9 hKq9 hLq10 hKq10 z11 (Nat.le_of_ble_eq_true rfl) (Nat.le_of_ble_eq_true rfl) dX8_copyFrom_43 eM12 (fun H locs w => ?_)
  refine lv_aload_n hx hb dX8_copyFrom_46 rfl (lv_at hl 0 rfl) ?_
  refine lv_aload_n hx hb dX8_copyFrom_47 rfl (lv_at hl 1 rfl) ?_
  refine r_getI (k := 4) (v := .int (mI M12 a1 4)) cx w hL1 hK1 (by decide) rfl wi_X8_copyFrom_X8 (by decide) rfl (List.mem_of_getElem? (i := 8) rfl) dX8_copyFrom_48 ?_
  obtain ⟨M13, eM13, h⟩ := x_wI h
  refine r_putI (k := 4) (ty := .int) cx w tyX8 tyX8_ok nmX8 hL0 hK0 (by decide) rfl wi_X8_copyFrom_X8 (by decide) rfl rfl rfl rfl st_7_4 (ln_7 _ _ (by decide)) (List.mem_of_getElem? (i := 8) rfl) dX8_copyFrom_51 eM13 (fun H locs w => ?_)
  refine lv_iconst (v := (0 : Int32)) hx hb dX8_copyFrom_54 (by decide) ?_
  refine lv_istore_n (lv' := [(2, .int ((0 : Int32))), (0, .ref a0), (1, .ref a1)]) hx hb dX8_copyFrom_55 rfl hl (by decide) rfl (fun ls hl => ?_)
  exact b_X8_copyFrom_56 cx hkn hL0 hK0 hL1 hK1 fu M13 ((0 : Int32)) H locs ls h w (lv_sub hl [1, 2, 0] rfl)
-- X8_colourSum
theorem wi_X8_colourSum_X8 : ∀ w ∈ wsX80, w ∈ wsX8_colourSum := by decide +kernel
abbrev rmX8_colourSum : Room := { frames := 0, cells := 0, slots := 0, locals := 0 }
def m_X8_colourSum_4 (G : gS) (a0 : Nat)  : Nat → mS → Int32 → Int32 → Option (mS × Int32)
  | 0, _, _, _ => none
  | n + 1, M, v1, v2 => (if (6 : Int32) ≤ v2 then some (M, v1) else o_rf (gP G a0 2) (fun q2 => o_ix v2 (gN G q2) (o_bd ((v1 + (v2 * (mI M q2 (Int32.toNatClampNeg v2))))) (fun x4 => o_bd (v2 + 1 : Int32) (fun x5 => m_X8_colourSum_4 G a0 n M x4 x5)))))
def m_X8_colourSum (G : gS) (M : mS) (a0 : Nat) : Option (mS × Int32) := m_X8_colourSum_4 G a0 fu M ((0 : Int32)) ((0 : Int32))
set_option maxHeartbeats 4000000 in
set_option maxRecDepth 100000 in
theorem b_X8_colourSum_4 {p : Program} {e : Env} {s : State} {m : MethodId} {args : Array Value} {below : List Frame} {meth : Method} {c : Code} {A : Nat → Prop} {l : Launch} {D : va_G} {cy : cyS} {G : gS} (cx : cX p s m args meth c cX8_colourSum RX8 3 (some .int) wsX8_colourSum D cy G A) {k0 n0 : Nat} (hkn : k0 ≤ (rmX8_colourSum).cells ∧ n0 ≤ (rmX8_colourSum).slots) {M' : mS} {r : Int32} {a0 : Nat} (hL0 : a0 ∈ gL G) (hK0 : gK G a0 = 7)  : ∀ (n : Nat), ∀ (M : mS) (v1 : Int32) (v2 : Int32) (H : Heap) (locs : List Loc) (ls : Array Slot), m_X8_colourSum_4 G a0 n M v1 v2 = some (M', r) → wd D cy G M A s.heap H locs → lv_has ls 3 [(0, .ref a0), (1, .int v1), (2, .int v2)] → W p l e rmX8_colourSum s m args below meth c H locs k0 n0 (MQ below (va_Qi (fun (r' : Int32) (_ : Unit) => r' = r) (fun _ t => wOut D cy G M' t) A) args s k0 n0 A) (F0 m 4 ls []) := by
  obtain ⟨hx, hb, hml, hown, hts, hr, hlocks, hK, hA, hG, hsx⟩ := id cx
  intro n
  induction n with
  | zero =>
    intro M v1 v2 H locs ls h w hl
    have h : none = some _ := h
    cases h
  | succ n ih =>
    intro M v1 v2 H locs ls h w hl
    rw [m_X8_colourSum_4] at h
    refine lv_iload_n hx hb dX8_colourSum_4 rfl (lv_at hl 2 rfl) ?_
    refine lv_bipush (v := (6 : Int32)) hx hb dX8_colourSum_5 (by decide) ?_
    refine lv_icmp_ge (tgt := 27) hx hb dX8_colourSum_7 (by decide) (fun k1 => ?_) (fun k1 => ?_)
    · have h := x_t h k1
      refine lv_iload_n hx hb dX8_colourSum_27 rfl (lv_at hl 1 rfl) ?_
      exact r_iret cx w h dX8_colourSum_28
    · have h := x_f h k1
      refine lv_iload_n hx hb dX8_colourSum_10 rfl (lv_at hl 1 rfl) ?_
      refine lv_iload_n hx hb dX8_colourSum_11 rfl (lv_at hl 2 rfl) ?_
      refine lv_aload_n hx hb dX8_colourSum_12 rfl (lv_at hl 0 rfl) ?_
      obtain ⟨q2, eq2, h⟩ := x_rf h
      obtain ⟨hLq2, hKq2⟩ := wt_q hG hL0 hK0 eq2
      have hKq2 : gK G q2 = 12 := hKq2
      refine r_getR (k := 2) cx w hL0 hK0 (by decide) rfl wi_X8_colourSum_X8 (by decide) rfl eq2 (List.mem_of_getElem? (i := 1) rfl) dX8_colourSum_13 ?_
      refine lv_iload_n hx hb dX8_colourSum_16 rfl (lv_at hl 2 rfl) ?_
      obtain ⟨z3, h⟩ := x_ix h
      refine r_iald cx w hLq2 hKq2 z3 dX8_colourSum_17 ?_
      refine lv_imul hx hb dX8_colourSum_18 ?_
      refine lv_iadd hx hb dX8_colourSum_19 ?_
      obtain ⟨x4, ex4, h⟩ := x_bd h
      refine r_topI ex4 ?_
      refine lv_istore_n (lv' := [(1, .int x4), (0, .ref a0), (2, .int v2)]) hx hb dX8_colourSum_20 rfl hl (by decide) rfl (fun ls hl => ?_)
      obtain ⟨x5, ex5, h⟩ := x_bd h
      refine lv_iinc (v := x5) (lv' := [(2, .int x5), (1, .int x4), (0, .ref a0)]) hx hb dX8_colourSum_21 hl (k := 2) rfl (by rw [ex5]; rfl) (by decide) rfl (fun ls hl => ?_)
      refine lv_goto (tgt := 4) hx hb dX8_colourSum_24 (by decide) ?_
      exact ih M x4 x5 H locs ls h w (lv_sub hl [2, 1, 0] rfl)
set_option maxHeartbeats 4000000 in
set_option maxRecDepth 100000 in
theorem k_X8_colourSum {l : Launch} {D : va_G} {cy : cyS} {G : gS} {M M' : mS} {r : Int32} {a0 : Nat} (hG : wt G) (hL0 : a0 ∈ gL G) (hK0 : gK G a0 = 7) (h : m_X8_colourSum G M a0 = some (M', r)) : ctI l yX8_colourSum wsX8_colourSum rmX8_colourSum D cy G M [.ref a0] M' r := by
  unfold m_X8_colourSum at h
  refine ctI_of (cc := cX8_colourSum) (nL := 3) (ret := (some .int)) (lv := [(0, .ref a0)]) hG (by decide) rfl ⟨rfl, rfl⟩ (Nat.le_of_ble_eq_true rfl) rfl ?_
  intro p e s m args below meth c A ls cx w hl
  obtain ⟨hx, hb, hml, hown, hts, hr, hlocks, hK, hA, -, hsx⟩ := id cx
  have hkn : 0 ≤ (rmX8_colourSum).cells ∧ 0 ≤ (rmX8_colourSum).slots := ⟨Nat.zero_le _, Nat.zero_le _⟩
  refine lv_iconst (v := (0 : Int32)) hx hb dX8_colourSum_0 (by decide) ?_
  refine lv_istore_n (lv' := [(1, .int ((0 : Int32))), (0, .ref a0)]) hx hb dX8_colourSum_1 rfl hl (by decide) rfl (fun ls hl => ?_)
  refine lv_iconst (v := (0 : Int32)) hx hb dX8_colourSum_2 (by decide) ?_
  refine lv_istore_n (lv' := [(2, .int ((0 : Int32))), (1, .int ((0 : Int32))), (0, .ref a0)]) hx hb dX8_colourSum_3 rfl hl (by decide) rfl (fun ls hl => ?_)
  exact b_X8_colourSum_4 cx hkn hL0 hK0 fu M ((0 : Int32)) ((0 : Int32)) s.heap [] ls h w (lv_sub hl [2, 1, 0] rfl)
-- X8_walkingAnts
theorem wi_X8_walkingAnts_X0 : ∀ w ∈ wsX00, w ∈ wsX8_walkingAnts := by decide +kernel
theorem wi_X8_walkingAnts_X8 : ∀ w ∈ wsX80, w ∈ wsX8_walkingAnts := by decide +kernel
abbrev rmX8_walkingAnts : Room := { frames := 0, cells := 0, slots := 0, locals := 0 }
def m_X8_walkingAnts_44 (G : gS) (a0 : Nat)  (M : mS) (v1 : Int32) : Option (mS × Int32) := some (M, v1)
def m_X8_walkingAnts_36 (G : gS) (a0 : Nat) (kb4 : mS → Int32 → Int32 → Option (mS × Int32)) (M : mS) (v2 : Int32) (s0 : Int32) (s1 : Int32) : Option (mS × Int32) := o_bd ((s0 + s1)) (fun x1 => o_bd (v2 + 1 : Int32) (fun x2 => kb4 M x1 x2))
def m_X8_walkingAnts_4 (G : gS) (a0 : Nat)  : Nat → mS → Int32 → Int32 → Option (mS × Int32)
  | 0, _, _, _ => none
  | n + 1, M, v1, v2 => (if (mI M a0 4) ≤ v2 then m_X8_walkingAnts_44 G a0 M v1 else (if (6 : Int32) ≤ v2 then m_X8_walkingAnts_44 G a0 M v1 else o_rf (gP G a0 3) (fun q3 => o_ix v2 (gN G q3) (o_rf (gP G q3 (Int32.toNatClampNeg v2)) (fun q5 => (if (mI M q5 4) = 0 then m_X8_walkingAnts_36 G a0 (fun M v1 v2 => m_X8_walkingAnts_4 G a0 n M v1 v2) M v2 v1 ((0 : Int32)) else m_X8_walkingAnts_36 G a0 (fun M v1 v2 => m_X8_walkingAnts_4 G a0 n M v1 v2) M v2 v1 ((1 : Int32))))))))
def m_X8_walkingAnts (G : gS) (M : mS) (a0 : Nat) : Option (mS × Int32) := m_X8_walkingAnts_4 G a0 fu M ((0 : Int32)) ((0 : Int32))
set_option maxHeartbeats 4000000 in
set_option maxRecDepth 100000 in
theorem b_X8_walkingAnts_44 {p : Program} {e : Env} {s : State} {m : MethodId} {args : Array Value} {below : List Frame} {meth : Method} {c : Code} {A : Nat → Prop} {l : Launch} {D : va_G} {cy : cyS} {G : gS} (cx : cX p s m args meth c cX8_walkingAnts RX8 3 (some .int) wsX8_walkingAnts D cy G A) {k0 n0 : Nat} (hkn : k0 ≤ (rmX8_walkingAnts).cells ∧ n0 ≤ (rmX8_walkingAnts).slots) {M' : mS} {r : Int32} {a0 : Nat} (hL0 : a0 ∈ gL G) (hK0 : gK G a0 = 7)  : ∀ (M : mS) (v1 : Int32) (H : Heap) (locs : List Loc) (ls : Array Slot), m_X8_walkingAnts_44 G a0 M v1 = some (M', r) → wd D cy G M A s.heap H locs → lv_has ls 3 [(1, .int v1)] → W p l e rmX8_walkingAnts s m args below meth c H locs k0 n0 (MQ below (va_Qi (fun (r' : Int32) (_ : Unit) => r' = r) (fun _ t => wOut D cy G M' t) A) args s k0 n0 A) (F0 m 44 ls []) := by
  obtain ⟨hx, hb, hml, hown, hts, hr, hlocks, hK, hA, hG, hsx⟩ := id cx
  intro M v1 H locs ls h w hl
  unfold m_X8_walkingAnts_44 at h
  refine lv_iload_n hx hb dX8_walkingAnts_44 rfl (lv_at hl 0 rfl) ?_
  exact r_iret cx w h dX8_walkingAnts_45
set_option maxHeartbeats 4000000 in
set_option maxRecDepth 100000 in
theorem b_X8_walkingAnts_36 {p : Program} {e : Env} {s : State} {m : MethodId} {args : Array Value} {below : List Frame} {meth : Method} {c : Code} {A : Nat → Prop} {l : Launch} {D : va_G} {cy : cyS} {G : gS} (cx : cX p s m args meth c cX8_walkingAnts RX8 3 (some .int) wsX8_walkingAnts D cy G A) {k0 n0 : Nat} (hkn : k0 ≤ (rmX8_walkingAnts).cells ∧ n0 ≤ (rmX8_walkingAnts).slots) {M' : mS} {r : Int32} {a0 : Nat} (hL0 : a0 ∈ gL G) (hK0 : gK G a0 = 7) {kb4 : mS → Int32 → Int32 → Option (mS × Int32)} (hkb4 : ∀ (M : mS) (v1 : Int32) (v2 : Int32) (H : Heap) (locs : List Loc) (ls : Array Slot), kb4 M v1 v2 = some (M', r) → wd D cy G M A s.heap H locs → lv_has ls 3 [(0, .ref a0), (1, .int v1), (2, .int v2)] → W p l e rmX8_walkingAnts s m args below meth c H locs k0 n0 (MQ below (va_Qi (fun (r' : Int32) (_ : Unit) => r' = r) (fun _ t => wOut D cy G M' t) A) args s k0 n0 A) (F0 m 4 ls [])) : ∀ (M : mS) (v2 : Int32) (s0 : Int32) (s1 : Int32) (H : Heap) (locs : List Loc) (ls : Array Slot), m_X8_walkingAnts_36 G a0 kb4 M v2 s0 s1 = some (M', r) → wd D cy G M A s.heap H locs → lv_has ls 3 [(0, .ref a0), (2, .int v2)] → W p l e rmX8_walkingAnts s m args below meth c H locs k0 n0 (MQ below (va_Qi (fun (r' : Int32) (_ : Unit) => r' = r) (fun _ t => wOut D cy G M' t) A) args s k0 n0 A) (F0 m 36 ls [.int s1, .int s0]) := by
  obtain ⟨hx, hb, hml, hown, hts, hr, hlocks, hK, hA, hG, hsx⟩ := id cx
  intro M v2 s0 s1 H locs ls h w hl
  unfold m_X8_walkingAnts_36 at h
  refine lv_iadd hx hb dX8_walkingAnts_36 ?_
  obtain ⟨x1, ex1, h⟩ := x_bd h
  refine r_topI ex1 ?_
  refine lv_istore_n (lv' := [(1, .int x1), (0, .ref a0), (2, .int v2)]) hx hb dX8_walkingAnts_37 rfl hl (by decide) rfl (fun ls hl => ?_)
  obtain ⟨x2, ex2, h⟩ := x_bd h
  refine lv_iinc (v := x2) (lv' := [(2, .int x2), (1, .int x1), (0, .ref a0)]) hx hb dX8_walkingAnts_38 hl (k := 2) rfl (by rw [ex2]; rfl) (by decide) rfl (fun ls hl => ?_)
  refine lv_goto (tgt := 4) hx hb dX8_walkingAnts_41 (by decide) ?_
  exact hkb4 M x1 x2 H locs ls h w (lv_sub hl [2, 1, 0] rfl)
set_option maxHeartbeats 4000000 in
set_option maxRecDepth 100000 in
theorem b_X8_walkingAnts_4 {p : Program} {e : Env} {s : State} {m : MethodId} {args : Array Value} {below : List Frame} {meth : Method} {c : Code} {A : Nat → Prop} {l : Launch} {D : va_G} {cy : cyS} {G : gS} (cx : cX p s m args meth c cX8_walkingAnts RX8 3 (some .int) wsX8_walkingAnts D cy G A) {k0 n0 : Nat} (hkn : k0 ≤ (rmX8_walkingAnts).cells ∧ n0 ≤ (rmX8_walkingAnts).slots) {M' : mS} {r : Int32} {a0 : Nat} (hL0 : a0 ∈ gL G) (hK0 : gK G a0 = 7)  : ∀ (n : Nat), ∀ (M : mS) (v1 : Int32) (v2 : Int32) (H : Heap) (locs : List Loc) (ls : Array Slot), m_X8_walkingAnts_4 G a0 n M v1 v2 = some (M', r) → wd D cy G M A s.heap H locs → lv_has ls 3 [(0, .ref a0), (1, .int v1), (2, .int v2)] → W p l e rmX8_walkingAnts s m args below meth c H locs k0 n0 (MQ below (va_Qi (fun (r' : Int32) (_ : Unit) => r' = r) (fun _ t => wOut D cy G M' t) A) args s k0 n0 A) (F0 m 4 ls []) := by
  obtain ⟨hx, hb, hml, hown, hts, hr, hlocks, hK, hA, hG, hsx⟩ := id cx
  intro n
  induction n with
  | zero =>
    intro M v1 v2 H locs ls h w hl
    have h : none = some _ := h
    cases h
  | succ n ih =>
    intro M v1 v2 H locs ls h w hl
    rw [m_X8_walkingAnts_4] at h
    refine lv_iload_n hx hb dX8_walkingAnts_4 rfl (lv_at hl 2 rfl) ?_
    refine lv_aload_n hx hb dX8_walkingAnts_5 rfl (lv_at hl 0 rfl) ?_
    refine r_getI (k := 4) (v := .int (mI M a0 4)) cx w hL0 hK0 (by decide) rfl wi_X8_walkingAnts_X8 (by decide) rfl (List.mem_of_getElem? (i := 1) rfl) dX8_walkingAnts_6 ?_
    refine lv_icmp_ge (tgt := 44) hx hb dX8_walkingAnts_9 (by decide) (fun k1 => ?_) (fun k1 => ?_)
    · have h := x_t h k1
      exact b_X8_walkingAnts_44 cx hkn hL0 hK0 M v1 H locs ls h w (lv_sub hl [1] rfl)
    · have h := x_f h k1
      refine lv_iload_n hx hb dX8_walkingAnts_12 rfl (lv_at hl 2 rfl) ?_
      refine lv_bipush (v := (6 : Int32)) hx hb dX8_walkingAnts_13 (by decide) ?_
      refine lv_icmp_ge (tgt := 44) hx hb dX8_walkingAnts_15 (by decide) (fun k2 => ?_) (fun k2 => ?_)
      · have h := x_t h k2
        exact b_X8_walkingAnts_44 cx hkn hL0 hK0 M v1 H locs ls h w (lv_sub hl [1] rfl)
      · have h := x_f h k2
        refine lv_iload_n hx hb dX8_walkingAnts_18 rfl (lv_at hl 1 rfl) ?_
        refine lv_aload_n hx hb dX8_walkingAnts_19 rfl (lv_at hl 0 rfl) ?_
        obtain ⟨q3, eq3, h⟩ := x_rf h
        obtain ⟨hLq3, hKq3⟩ := wt_q hG hL0 hK0 eq3
        have hKq3 : gK G q3 = 14 := hKq3
        refine r_getR (k := 3) cx w hL0 hK0 (by decide) rfl wi_X8_walkingAnts_X8 (by decide) rfl eq3 (List.mem_of_getElem? (i := 2) rfl) dX8_walkingAnts_20 ?_
        refine lv_iload_n hx hb dX8_walkingAnts_23 rfl (lv_at hl 2 rfl) ?_
        obtain ⟨z4, h⟩ := x_ix h
        obtain ⟨q5, eq5, h⟩ := x_rf h
        obtain ⟨hLq5, hKq5⟩ := wt_q hG hLq3 hKq3 eq5
        have hKq5 : gK G q5 = 0 := hKq5
        refine r_aald cx w hLq3 hKq3 z4 eq5 dX8_walkingAnts_24 ?_
        refine r_getI (k := 4) (v := .int (mI M q5 4)) cx w hLq5 hKq5 (by decide) rfl wi_X8_walkingAnts_X0 (by decide) rfl (List.mem_of_getElem? (i := 3) rfl) dX8_walkingAnts_25 ?_
        refine lv_if_eq (tgt := 35) hx hb dX8_walkingAnts_28 (by decide) (fun k6 => ?_) (fun k6 => ?_)
        · have h := x_t h k6
          refine lv_iconst (v := (0 : Int32)) hx hb dX8_walkingAnts_35 (by decide) ?_
          exact b_X8_walkingAnts_36 cx hkn hL0 hK0 (hkb4 := ih) M v2 v1 ((0 : Int32)) H locs ls h w (lv_sub hl [0, 2] rfl)
        · have h := x_f h k6
          refine lv_iconst (v := (1 : Int32)) hx hb dX8_walkingAnts_31 (by decide) ?_
          refine lv_goto (tgt := 36) hx hb dX8_walkingAnts_32 (by decide) ?_
          exact b_X8_walkingAnts_36 cx hkn hL0 hK0 (hkb4 := ih) M v2 v1 ((1 : Int32)) H locs ls h w (lv_sub hl [0, 2] rfl)
set_option maxHeartbeats 4000000 in
set_option maxRecDepth 100000 in
theorem k_X8_walkingAnts {l : Launch} {D : va_G} {cy : cyS} {G : gS} {M M' : mS} {r : Int32} {a0 : Nat} (hG : wt G) (hL0 : a0 ∈ gL G) (hK0 : gK G a0 = 7) (h : m_X8_walkingAnts G M a0 = some (M', r)) : ctI l yX8_walkingAnts wsX8_walkingAnts rmX8_walkingAnts D cy G M [.ref a0] M' r := by
  unfold m_X8_walkingAnts at h
  refine ctI_of (cc := cX8_walkingAnts) (nL := 3) (ret := (some .int)) (lv := [(0, .ref a0)]) hG (by decide) rfl ⟨rfl, rfl⟩ (Nat.le_of_ble_eq_true rfl) rfl ?_
  intro p e s m args below meth c A ls cx w hl
  obtain ⟨hx, hb, hml, hown, hts, hr, hlocks, hK, hA, -, hsx⟩ := id cx
  have hkn : 0 ≤ (rmX8_walkingAnts).cells ∧ 0 ≤ (rmX8_walkingAnts).slots := ⟨Nat.zero_le _, Nat.zero_le _⟩
  refine lv_iconst (v := (0 : Int32)) hx hb dX8_walkingAnts_0 (by decide) ?_
  refine lv_istore_n (lv' := [(1, .int ((0 : Int32))), (0, .ref a0)]) hx hb dX8_walkingAnts_1 rfl hl (by decide) rfl (fun ls hl => ?_)
  refine lv_iconst (v := (0 : Int32)) hx hb dX8_walkingAnts_2 (by decide) ?_
  refine lv_istore_n (lv' := [(2, .int ((0 : Int32))), (1, .int ((0 : Int32))), (0, .ref a0)]) hx hb dX8_walkingAnts_3 rfl hl (by decide) rfl (fun ls hl => ?_)
  exact b_X8_walkingAnts_4 cx hkn hL0 hK0 fu M ((0 : Int32)) ((0 : Int32)) s.heap [] ls h w (lv_sub hl [2, 1, 0] rfl)
-- X8_total
theorem wi_X8_total_X8 : ∀ w ∈ wsX80, w ∈ wsX8_total := by decide +kernel
abbrev rmX8_total : Room := { frames := 1, cells := 0, slots := 0, locals := 22 }
def m_X8_total (G : gS) (M : mS) (a0 : Nat) (c1 : Int32) : Option (mS × Int32) := (if c1 = 4 then o_cl (m_X8_darkStones G M a0) (fun M2 r3 => some (M2, r3)) else if c1 = 5 then o_cl (m_X8_colourSum G M a0) (fun M6 r7 => some (M6, r7)) else if c1 = 6 then o_cl (m_X8_walkingAnts G M a0) (fun M10 r11 => some (M10, r11)) else if c1 = 7 then some (M, (mI M a0 6)) else if c1 = 8 then some (M, (mI M a0 7)) else if c1 = 9 then some (M, (mI M a0 8)) else some (M, (0 : Int32)))
set_option maxHeartbeats 4000000 in
set_option maxRecDepth 100000 in
theorem k_X8_total {l : Launch} {D : va_G} {cy : cyS} {G : gS} {M M' : mS} {r : Int32} {a0 : Nat} {c1 : Int32} (hG : wt G) (hL0 : a0 ∈ gL G) (hK0 : gK G a0 = 7) (h : m_X8_total G M a0 c1 = some (M', r)) : ctI l yX8_total wsX8_total rmX8_total D cy G M [.ref a0, .int c1] M' r := by
  unfold m_X8_total at h
  refine ctI_of (cc := cX8_total) (nL := 2) (ret := (some .int)) (lv := [(0, .ref a0), (1, .int c1)]) hG (by decide) rfl ⟨rfl, rfl⟩ (Nat.le_of_ble_eq_true rfl) rfl ?_
  intro p e s m args below meth c A ls cx w hl
  obtain ⟨hx, hb, hml, hown, hts, hr, hlocks, hK, hA, -, hsx⟩ := id cx
  have hkn : 0 ≤ (rmX8_total).cells ∧ 0 ≤ (rmX8_total).slots := ⟨Nat.zero_le _, Nat.zero_le _⟩
  refine lv_iload_n hx hb dX8_total_0 rfl (lv_at hl 1 rfl) ?_
  rcases Decidable.em (c1 = 4) with k1 | k1
  · have h := x_t h k1
    rw [k1]
    refine lv_tableIn (tgt := 40) hx hb dX8_total_1 (by decide) (by decide) rfl (by decide) ?_
    refine lv_aload_n hx hb dX8_total_40 rfl (lv_at hl 0 rfl) ?_
    obtain ⟨M2, r3, y4, h⟩ := x_cl h
    refine r_callVi (As := []) (rest := []) cx w hkn hl.1 (k_X8_darkStones hG hL0 hK0 y4) (cwV 0 hts gX8_total_X8_darkStones rfl rfl rfl (by decide +kernel) ⟨Nat.le_of_ble_eq_true rfl, Nat.le_of_ble_eq_true rfl⟩) hL0 hK0 (by decide) rfl rfl rfl (Nat.le_of_ble_eq_true rfl) dX8_total_41 (fun H locs w => ?_)
    exact r_iret cx w h dX8_total_44
  · have h := x_f h k1
    rcases Decidable.em (c1 = 5) with k5 | k5
    · have h := x_t h k5
      rw [k5]
      refine lv_tableIn (tgt := 45) hx hb dX8_total_1 (by decide) (by decide) rfl (by decide) ?_
      refine lv_aload_n hx hb dX8_total_45 rfl (lv_at hl 0 rfl) ?_
      obtain ⟨M6, r7, y8, h⟩ := x_cl h
      refine r_callVi (As := []) (rest := []) cx w hkn hl.1 (k_X8_colourSum hG hL0 hK0 y8) (cwV 0 hts gX8_total_X8_colourSum rfl rfl rfl (by decide +kernel) ⟨Nat.le_of_ble_eq_true rfl, Nat.le_of_ble_eq_true rfl⟩) hL0 hK0 (by decide) rfl rfl rfl (Nat.le_of_ble_eq_true rfl) dX8_total_46 (fun H locs w => ?_)
      exact r_iret cx w h dX8_total_49
    · have h := x_f h k5
      rcases Decidable.em (c1 = 6) with k9 | k9
      · have h := x_t h k9
        rw [k9]
        refine lv_tableIn (tgt := 50) hx hb dX8_total_1 (by decide) (by decide) rfl (by decide) ?_
        refine lv_aload_n hx hb dX8_total_50 rfl (lv_at hl 0 rfl) ?_
        obtain ⟨M10, r11, y12, h⟩ := x_cl h
        refine r_callVi (As := []) (rest := []) cx w hkn hl.1 (k_X8_walkingAnts hG hL0 hK0 y12) (cwV 0 hts gX8_total_X8_walkingAnts rfl rfl rfl (by decide +kernel) ⟨Nat.le_of_ble_eq_true rfl, Nat.le_of_ble_eq_true rfl⟩) hL0 hK0 (by decide) rfl rfl rfl (Nat.le_of_ble_eq_true rfl) dX8_total_51 (fun H locs w => ?_)
        exact r_iret cx w h dX8_total_54
      · have h := x_f h k9
        rcases Decidable.em (c1 = 7) with k13 | k13
        · have h := x_t h k13
          rw [k13]
          refine lv_tableIn (tgt := 55) hx hb dX8_total_1 (by decide) (by decide) rfl (by decide) ?_
          refine lv_aload_n hx hb dX8_total_55 rfl (lv_at hl 0 rfl) ?_
          refine r_getI (k := 6) (v := .int (mI M a0 6)) cx w hL0 hK0 (by decide) rfl wi_X8_total_X8 (by decide) rfl (List.mem_of_getElem? (i := 1) rfl) dX8_total_56 ?_
          exact r_iret cx w h dX8_total_59
        · have h := x_f h k13
          rcases Decidable.em (c1 = 8) with k14 | k14
          · have h := x_t h k14
            rw [k14]
            refine lv_tableIn (tgt := 60) hx hb dX8_total_1 (by decide) (by decide) rfl (by decide) ?_
            refine lv_aload_n hx hb dX8_total_60 rfl (lv_at hl 0 rfl) ?_
            refine r_getI (k := 7) (v := .int (mI M a0 7)) cx w hL0 hK0 (by decide) rfl wi_X8_total_X8 (by decide) rfl (List.mem_of_getElem? (i := 2) rfl) dX8_total_61 ?_
            exact r_iret cx w h dX8_total_64
          · have h := x_f h k14
            rcases Decidable.em (c1 = 9) with k15 | k15
            · have h := x_t h k15
              rw [k15]
              refine lv_tableIn (tgt := 65) hx hb dX8_total_1 (by decide) (by decide) rfl (by decide) ?_
              refine lv_aload_n hx hb dX8_total_65 rfl (lv_at hl 0 rfl) ?_
              refine r_getI (k := 8) (v := .int (mI M a0 8)) cx w hL0 hK0 (by decide) rfl wi_X8_total_X8 (by decide) rfl (List.mem_of_getElem? (i := 3) rfl) dX8_total_66 ?_
              exact r_iret cx w h dX8_total_69
            · have h := x_f h k15
              refine lv_tableOut (tgt := 70) hx hb dX8_total_1 (by have nk1 : Int32.toInt c1 ≠ 4 := fun hh => k1 (Int32.toInt_inj.mp hh); have nk5 : Int32.toInt c1 ≠ 5 := fun hh => k5 (Int32.toInt_inj.mp hh); have nk9 : Int32.toInt c1 ≠ 6 := fun hh => k9 (Int32.toInt_inj.mp hh); have nk13 : Int32.toInt c1 ≠ 7 := fun hh => k13 (Int32.toInt_inj.mp hh); have nk14 : Int32.toInt c1 ≠ 8 := fun hh => k14 (Int32.toInt_inj.mp hh); have nk15 : Int32.toInt c1 ≠ 9 := fun hh => k15 (Int32.toInt_inj.mp hh); omega) (by decide) ?_
              refine lv_iconst (v := (0 : Int32)) hx hb dX8_total_70 (by decide) ?_
              exact r_iret cx w h dX8_total_71
