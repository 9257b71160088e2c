-- X6_hasRoom
theorem wi_X6_hasRoom_X6 : ∀ w ∈ wsX60, w ∈ wsX6_hasRoom := by decide +kernel
abbrev rmX6_hasRoom : Room := { frames := 0, cells := 0, slots := 0, locals := 0 }
def m_X6_hasRoom (G : gS) (M : mS) (a0 : Nat) (c1 : Int32) : Option (mS × Int32) := (if (2000 : Int32) < ((mI M a0 1) + c1) then o_ck ((0 : Int32) = 0 ∨ (0 : Int32) = 1) (some (M, (0 : Int32))) else o_ck ((1 : Int32) = 0 ∨ (1 : Int32) = 1) (some (M, (1 : Int32))))
set_option maxHeartbeats 4000000 in
set_option maxRecDepth 100000 in
theorem k_X6_hasRoom {l : Launch} {D : va_G} {cy : cyS} {G : gS} {M M' : mS} {r : Int32} {a0 : Nat} {c1 : Int32} (hG : wt G) (hL0 : a0 ∈ gL G) (hK0 : gK G a0 = 5) (h : m_X6_hasRoom G M a0 c1 = some (M', r)) : ctI l yX6_hasRoom wsX6_hasRoom rmX6_hasRoom D cy G M [.ref a0, .int c1] M' r := by
  unfold m_X6_hasRoom at h
  refine ctI_of (cc := cX6_hasRoom) (nL := 2) (ret := (some .boolean)) (lv := [(0, .ref a0), (1, .int c1)]) hG (by decide) rfl ⟨rfl, rfl⟩ (Nat.le_of_ble_eq_true rfl) rfl ?_
  intro p e s m args below meth c A ls cx w hl
  obtain ⟨hx, hb, hml, hown, hts, hr, hlocks, hK, hA, -, hsx⟩ := id cx
  have hkn : 0 ≤ (rmX6_hasRoom).cells ∧ 0 ≤ (rmX6_hasRoom).slots := ⟨Nat.zero_le _, Nat.zero_le _⟩
  refine lv_aload_n hx hb dX6_hasRoom_0 rfl (lv_at hl 0 rfl) ?_
  refine r_getI (k := 1) (v := .int (mI M a0 1)) cx w hL0 hK0 (by decide) rfl wi_X6_hasRoom_X6 (by decide) rfl (List.mem_of_getElem? (i := 1) rfl) dX6_hasRoom_1 ?_
  refine lv_iload_n hx hb dX6_hasRoom_4 rfl (lv_at hl 1 rfl) ?_
  refine lv_iadd hx hb dX6_hasRoom_5 ?_
  refine lv_sipush (v := (2000 : Int32)) hx hb dX6_hasRoom_6 (by decide) ?_
  refine lv_icmp_gt (tgt := 16) hx hb dX6_hasRoom_9 (by decide) (fun k1 => ?_) (fun k1 => ?_)
  · have h := x_t h k1
    refine lv_iconst (v := (0 : Int32)) hx hb dX6_hasRoom_16 (by decide) ?_
    obtain ⟨z2, h⟩ := x_ck h
    exact r_zret cx w z2 h dX6_hasRoom_17
  · have h := x_f h k1
    refine lv_iconst (v := (1 : Int32)) hx hb dX6_hasRoom_12 (by decide) ?_
    refine lv_goto (tgt := 17) hx hb dX6_hasRoom_13 (by decide) ?_
    obtain ⟨z3, h⟩ := x_ck h
    exact r_zret cx w z3 h dX6_hasRoom_17
-- X6_append
theorem wi_X6_append_X6 : ∀ w ∈ wsX60, w ∈ wsX6_append := by decide +kernel
abbrev rmX6_append : Room := { frames := 1, cells := 0, slots := 0, locals := 21 }
def m_X6_append_12 (G : gS) (a0 : Nat) (c1 : Int32)  : Nat → mS → Int32 → Option (mS × Unit)
  | 0, _, _ => none
  | n + 1, M, v2 => (if v2 < 0 then some (M, ()) else o_rf (gP G a0 0) (fun q2 => o_ix (mI M a0 1) (gN G q2) (o_wI M q2 (Int32.toNatClampNeg (mI M a0 1)) (((c1).toUInt32 >>> ((v2 : Int32).toUInt32 &&& Int32.toUInt32 31)).toInt32 &&& (255 : Int32)) (fun M4 => o_wI M4 a0 1 ((mI M4 a0 1) + (1 : Int32)) (fun M5 => o_bd (v2 + (-8) : Int32) (fun x6 => m_X6_append_12 G a0 c1 n M5 x6))))))
def m_X6_append (G : gS) (M : mS) (a0 : Nat) (c1 : Int32) : Option (mS × Unit) := o_cl (m_X6_hasRoom G M a0 (4 : Int32)) (fun M1 r2 => (if r2 = 0 then some (M1, ()) else m_X6_append_12 G a0 c1 fu M1 ((24 : Int32))))
set_option maxHeartbeats 4000000 in
set_option maxRecDepth 100000 in
theorem b_X6_append_12 {p : Program} {e : Env} {s : State} {m : MethodId} {args : Array Value} {below : List Frame} {meth : Method} {c : Code} {A : Nat → Prop} {l : Launch} {D : va_G} {cy : cyS} {G : gS} (cx : cX p s m args meth c cX6_append RX6 3 none wsX6_append D cy G A) {k0 n0 : Nat} (hkn : k0 ≤ (rmX6_append).cells ∧ n0 ≤ (rmX6_append).slots) {M' : mS} {a0 : Nat} {c1 : Int32} (hL0 : a0 ∈ gL G) (hK0 : gK G a0 = 5)  : ∀ (n : Nat), ∀ (M : mS) (v2 : Int32) (H : Heap) (locs : List Loc) (ls : Array Slot), m_X6_append_12 G a0 c1 n M v2 = some (M', ()) → wd D cy G M A s.heap H locs → lv_has ls 3 [(0, .ref a0), (1, .int c1), (2, .int v2)] → W p l e rmX6_append s m args below meth c H locs k0 n0 (MQ below (va_Qv (fun (_ : Unit) => True) (fun _ t => wOut D cy G M' t) A) args s k0 n0 A) (F0 m 12 ls []) := by
  obtain ⟨hx, hb, hml, hown, hts, hr, hlocks, hK, hA, hG, hsx⟩ := id cx
  intro n
  induction n with
  | zero =>
    intro M v2 H locs ls h w hl
    have h : none = some _ := h
    cases h
  | succ n ih =>
    intro M v2 H locs ls h w hl
    rw [m_X6_append_12] at h
    refine lv_iload_n hx hb dX6_append_12 rfl (lv_at hl 2 rfl) ?_
    refine lv_if_lt (tgt := 48) hx hb dX6_append_13 (by decide) (fun k1 => ?_) (fun k1 => ?_)
    · have h := x_t h k1
      exact r_vret cx w h dX6_append_48
    · have h := x_f h k1
      refine lv_aload_n hx hb dX6_append_16 rfl (lv_at hl 0 rfl) ?_
      obtain ⟨q2, eq2, h⟩ := x_rf h
      obtain ⟨hLq2, hKq2⟩ := wt_q hG hL0 hK0 eq2
      have hKq2 : gK G q2 = 12 := hKq2
      refine r_getR (k := 0) cx w hL0 hK0 (by decide) rfl wi_X6_append_X6 (by decide) rfl eq2 (List.mem_of_getElem? (i := 1) rfl) dX6_append_17 ?_
      refine lv_aload_n hx hb dX6_append_20 rfl (lv_at hl 0 rfl) ?_
      refine r_getI (k := 1) (v := .int (mI M a0 1)) cx w hL0 hK0 (by decide) rfl wi_X6_append_X6 (by decide) rfl (List.mem_of_getElem? (i := 2) rfl) dX6_append_21 ?_
      refine lv_iload_n hx hb dX6_append_24 rfl (lv_at hl 1 rfl) ?_
      refine lv_iload_n hx hb dX6_append_25 rfl (lv_at hl 2 rfl) ?_
      refine lv_iushr (v := ((c1).toUInt32 >>> ((v2 : Int32).toUInt32 &&& Int32.toUInt32 31)).toInt32) hx hb dX6_append_26 rfl ?_
      refine lv_sipush (v := (255 : Int32)) hx hb dX6_append_27 (by decide) ?_
      refine lv_iand hx hb dX6_append_30 ?_
      obtain ⟨z3, h⟩ := x_ix h
      obtain ⟨M4, eM4, h⟩ := x_wI h
      refine r_iast cx w hLq2 hKq2 z3 dX6_append_31 eM4 (fun H locs w => ?_)
      refine lv_aload_n hx hb dX6_append_32 rfl (lv_at hl 0 rfl) ?_
      refine lv_dup hx hb dX6_append_33 rfl ?_
      refine r_getI (k := 1) (v := .int (mI M4 a0 1)) cx w hL0 hK0 (by decide) rfl wi_X6_append_X6 (by decide) rfl (List.mem_of_getElem? (i := 2) rfl) dX6_append_34 ?_
      refine lv_iconst (v := (1 : Int32)) hx hb dX6_append_37 (by decide) ?_
      refine lv_iadd hx hb dX6_append_38 ?_
      obtain ⟨M5, eM5, h⟩ := x_wI h
      refine r_putI (k := 1) (ty := .int) cx w tyX6 tyX6_ok nmX6 hL0 hK0 (by decide) rfl wi_X6_append_X6 (by decide) rfl rfl rfl rfl st_5_1 (ln_5 _ _ (by decide)) (List.mem_of_getElem? (i := 2) rfl) dX6_append_39 eM5 (fun H locs w => ?_)
      obtain ⟨x6, ex6, h⟩ := x_bd h
      refine lv_iinc (v := x6) (lv' := [(2, .int x6), (0, .ref a0), (1, .int c1)]) hx hb dX6_append_42 hl (k := 2) rfl (by rw [ex6]; rfl) (by decide) rfl (fun ls hl => ?_)
      refine lv_goto (tgt := 12) hx hb dX6_append_45 (by decide) ?_
      exact ih M5 x6 H locs ls h w (lv_sub hl [1, 2, 0] rfl)
set_option maxHeartbeats 4000000 in
set_option maxRecDepth 100000 in
theorem k_X6_append {l : Launch} {D : va_G} {cy : cyS} {G : gS} {M M' : mS} {a0 : Nat} {c1 : Int32} (hG : wt G) (hL0 : a0 ∈ gL G) (hK0 : gK G a0 = 5) (h : m_X6_append G M a0 c1 = some (M', ())) : ctV l yX6_append wsX6_append rmX6_append D cy G M [.ref a0, .int c1] M' := by
  unfold m_X6_append at h
  refine ctV_of (cc := cX6_append) (nL := 3) (ret := none) (lv := [(0, .ref a0), (1, .int c1)]) hG (by decide) rfl ⟨rfl, rfl⟩ (Nat.le_of_ble_eq_true rfl) rfl ?_
  intro p e s m args below meth c A ls cx w hl
  obtain ⟨hx, hb, hml, hown, hts, hr, hlocks, hK, hA, -, hsx⟩ := id cx
  have hkn : 0 ≤ (rmX6_append).cells ∧ 0 ≤ (rmX6_append).slots := ⟨Nat.zero_le _, Nat.zero_le _⟩
  refine lv_aload_n hx hb dX6_append_0 rfl (lv_at hl 0 rfl) ?_
  refine lv_iconst (v := (4 : Int32)) hx hb dX6_append_1 (by decide) ?_
  obtain ⟨M1, r2, y3, h⟩ := x_cl h
  refine r_callVi (As := [.int ((4 : Int32))]) (rest := []) cx w hkn hl.1 (k_X6_hasRoom hG hL0 hK0 y3) (cwV 1 hts gX6_append_X6_hasRoom rfl rfl rfl (by decide +kernel) ⟨Nat.le_of_ble_eq_true rfl, Nat.le_of_ble_eq_true rfl⟩) hL0 hK0 (by decide) rfl rfl rfl (Nat.le_of_ble_eq_true rfl) dX6_append_2 (fun H locs w => ?_)
  refine lv_if_ne (tgt := 9) hx hb dX6_append_5 (by decide) (fun k4 => ?_) (fun k4 => ?_)
  · have h := x_f h k4
    refine lv_bipush (v := (24 : Int32)) hx hb dX6_append_9 (by decide) ?_
    refine lv_istore_n (lv' := [(2, .int ((24 : Int32))), (0, .ref a0), (1, .int c1)]) hx hb dX6_append_11 rfl hl (by decide) rfl (fun ls hl => ?_)
    exact b_X6_append_12 cx hkn hL0 hK0 fu M1 ((24 : Int32)) H locs ls h w (lv_sub hl [1, 2, 0] rfl)
  · have h := x_t h k4
    exact r_vret cx w h dX6_append_8
-- X6_byteAt
theorem wi_X6_byteAt_X6 : ∀ w ∈ wsX60, w ∈ wsX6_byteAt := by decide +kernel
abbrev rmX6_byteAt : Room := { frames := 0, cells := 0, slots := 0, locals := 0 }
def m_X6_byteAt_21 (G : gS) (a0 : Nat) (c1 : Int32)  (M : mS)  : Option (mS × Int32) := some (M, (-1 : Int32))
def m_X6_byteAt (G : gS) (M : mS) (a0 : Nat) (c1 : Int32) : Option (mS × Int32) := (if c1 < 0 then m_X6_byteAt_21 G a0 c1 M else (if (mI M a0 1) ≤ c1 then m_X6_byteAt_21 G a0 c1 M else o_rf (gP G a0 0) (fun q3 => o_ix c1 (gN G q3) (some (M, (mI M q3 (Int32.toNatClampNeg c1)))))))
set_option maxHeartbeats 4000000 in
set_option maxRecDepth 100000 in
theorem b_X6_byteAt_21 {p : Program} {e : Env} {s : State} {m : MethodId} {args : Array Value} {below : List Frame} {meth : Method} {c : Code} {A : Nat → Prop} {l : Launch} {D : va_G} {cy : cyS} {G : gS} (cx : cX p s m args meth c cX6_byteAt RX6 2 (some .int) wsX6_byteAt D cy G A) {k0 n0 : Nat} (hkn : k0 ≤ (rmX6_byteAt).cells ∧ n0 ≤ (rmX6_byteAt).slots) {M' : mS} {r : Int32} {a0 : Nat} {c1 : Int32} (hL0 : a0 ∈ gL G) (hK0 : gK G a0 = 5)  : ∀ (M : mS) (H : Heap) (locs : List Loc) (ls : Array Slot), m_X6_byteAt_21 G a0 c1 M = some (M', r) → wd D cy G M A s.heap H locs → lv_has ls 2 [] → W p l e rmX6_byteAt s m args below meth c H locs k0 n0 (MQ below (va_Qi (fun (r' : Int32) (_ : Unit) => r' = r) (fun _ t => wOut D cy G M' t) A) args s k0 n0 A) (F0 m 21 ls []) := by
  obtain ⟨hx, hb, hml, hown, hts, hr, hlocks, hK, hA, hG, hsx⟩ := id cx
  intro M H locs ls h w hl
  unfold m_X6_byteAt_21 at h
  refine lv_iconst (v := (-1 : Int32)) hx hb dX6_byteAt_21 (by decide) ?_
  exact r_iret cx w h dX6_byteAt_22
set_option maxHeartbeats 4000000 in
set_option maxRecDepth 100000 in
theorem k_X6_byteAt {l : Launch} {D : va_G} {cy : cyS} {G : gS} {M M' : mS} {r : Int32} {a0 : Nat} {c1 : Int32} (hG : wt G) (hL0 : a0 ∈ gL G) (hK0 : gK G a0 = 5) (h : m_X6_byteAt G M a0 c1 = some (M', r)) : ctI l yX6_byteAt wsX6_byteAt rmX6_byteAt D cy G M [.ref a0, .int c1] M' r := by
  unfold m_X6_byteAt at h
  refine ctI_of (cc := cX6_byteAt) (nL := 2) (ret := (some .int)) (lv := [(0, .ref a0), (1, .int c1)]) hG (by decide) rfl ⟨rfl, rfl⟩ (Nat.le_of_ble_eq_true rfl) rfl ?_
  intro p e s m args below meth c A ls cx w hl
  obtain ⟨hx, hb, hml, hown, hts, hr, hlocks, hK, hA, -, hsx⟩ := id cx
  have hkn : 0 ≤ (rmX6_byteAt).cells ∧ 0 ≤ (rmX6_byteAt).slots := ⟨Nat.zero_le _, Nat.zero_le _⟩
  refine lv_iload_n hx hb dX6_byteAt_0 rfl (lv_at hl 1 rfl) ?_
  refine lv_if_lt (tgt := 21) hx hb dX6_byteAt_1 (by decide) (fun k1 => ?_) (fun k1 => ?_)
  · have h := x_t h k1
    exact b_X6_byteAt_21 cx hkn hL0 hK0 M s.heap [] ls h w (lv_sub hl [] rfl)
  · have h := x_f h k1
    refine lv_iload_n hx hb dX6_byteAt_4 rfl (lv_at hl 1 rfl) ?_
    refine lv_aload_n hx hb dX6_byteAt_5 rfl (lv_at hl 0 rfl) ?_
    refine r_getI (k := 1) (v := .int (mI M a0 1)) cx w hL0 hK0 (by decide) rfl wi_X6_byteAt_X6 (by decide) rfl (List.mem_of_getElem? (i := 1) rfl) dX6_byteAt_6 ?_
    refine lv_icmp_ge (tgt := 21) hx hb dX6_byteAt_9 (by decide) (fun k2 => ?_) (fun k2 => ?_)
    · have h := x_t h k2
      exact b_X6_byteAt_21 cx hkn hL0 hK0 M s.heap [] ls h w (lv_sub hl [] rfl)
    · have h := x_f h k2
      refine lv_aload_n hx hb dX6_byteAt_12 rfl (lv_at hl 0 rfl) ?_
      obtain ⟨q3, eq3, h⟩ := x_rf h
      obtain ⟨hLq3, hKq3⟩ := wt_q hG hL0 hK0 eq3
      have hKq3 : gK G q3 = 12 := hKq3
      refine r_getR (k := 0) cx w hL0 hK0 (by decide) rfl wi_X6_byteAt_X6 (by decide) rfl eq3 (List.mem_of_getElem? (i := 2) rfl) dX6_byteAt_13 ?_
      refine lv_iload_n hx hb dX6_byteAt_16 rfl (lv_at hl 1 rfl) ?_
      obtain ⟨z4, h⟩ := x_ix h
      refine r_iald cx w hLq3 hKq3 z4 dX6_byteAt_17 ?_
      refine lv_goto (tgt := 22) hx hb dX6_byteAt_18 (by decide) ?_
      exact r_iret cx w h dX6_byteAt_22
-- X6_skipBlanks
theorem wi_X6_skipBlanks_X6 : ∀ w ∈ wsX60, w ∈ wsX6_skipBlanks := by decide +kernel
abbrev rmX6_skipBlanks : Room := { frames := 1, cells := 0, slots := 0, locals := 21 }
def m_X6_skipBlanks_36 (G : gS) (a0 : Nat) (c1 : Int32)  (M : mS) (v2 : Int32) : Option (mS × Int32) := some (M, v2)
def m_X6_skipBlanks_30 (G : gS) (a0 : Nat) (c1 : Int32) (kb2 : mS → Int32 → Option (mS × Int32)) (M : mS) (v2 : Int32) : Option (mS × Int32) := o_bd (v2 + 1 : Int32) (fun x1 => kb2 M x1)
def m_X6_skipBlanks_2 (G : gS) (a0 : Nat) (c1 : Int32)  : Nat → mS → Int32 → Option (mS × Int32)
  | 0, _, _ => none
  | n + 1, M, v2 => (if (mI M a0 1) ≤ v2 then m_X6_skipBlanks_36 G a0 c1 M v2 else o_cl (m_X6_byteAt G M a0 v2) (fun M2 r3 => (if r3 = (32 : Int32) then m_X6_skipBlanks_30 G a0 c1 (fun M v2 => m_X6_skipBlanks_2 G a0 c1 n M v2) M2 v2 else o_cl (m_X6_byteAt G M2 a0 v2) (fun M6 r7 => (if r7 = (10 : Int32) then m_X6_skipBlanks_30 G a0 c1 (fun M v2 => m_X6_skipBlanks_2 G a0 c1 n M v2) M6 v2 else m_X6_skipBlanks_36 G a0 c1 M6 v2)))))
def m_X6_skipBlanks (G : gS) (M : mS) (a0 : Nat) (c1 : Int32) : Option (mS × Int32) := m_X6_skipBlanks_2 G a0 c1 fu M c1
set_option maxHeartbeats 4000000 in
set_option maxRecDepth 100000 in
theorem b_X6_skipBlanks_36 {p : Program} {e : Env} {s : State} {m : MethodId} {args : Array Value} {below : List Frame} {meth : Method} {c : Code} {A : Nat → Prop} {l : Launch} {D : va_G} {cy : cyS} {G : gS} (cx : cX p s m args meth c cX6_skipBlanks RX6 3 (some .int) wsX6_skipBlanks D cy G A) {k0 n0 : Nat} (hkn : k0 ≤ (rmX6_skipBlanks).cells ∧ n0 ≤ (rmX6_skipBlanks).slots) {M' : mS} {r : Int32} {a0 : Nat} {c1 : Int32} (hL0 : a0 ∈ gL G) (hK0 : gK G a0 = 5)  : ∀ (M : mS) (v2 : Int32) (H : Heap) (locs : List Loc) (ls : Array Slot), m_X6_skipBlanks_36 G a0 c1 M v2 = some (M', r) → wd D cy G M A s.heap H locs → lv_has ls 3 [(2, .int v2)] → W p l e rmX6_skipBlanks s m args below meth c H locs k0 n0 (MQ below (va_Qi (fun (r' : Int32) (_ : Unit) => r' = r) (fun _ t => wOut D cy G M' t) A) args s k0 n0 A) (F0 m 36 ls []) := by
  obtain ⟨hx, hb, hml, hown, hts, hr, hlocks, hK, hA, hG, hsx⟩ := id cx
  intro M v2 H locs ls h w hl
  unfold m_X6_skipBlanks_36 at h
  refine lv_iload_n hx hb dX6_skipBlanks_36 rfl (lv_at hl 0 rfl) ?_
  exact r_iret cx w h dX6_skipBlanks_37
set_option maxHeartbeats 4000000 in
set_option maxRecDepth 100000 in
theorem b_X6_skipBlanks_30 {p : Program} {e : Env} {s : State} {m : MethodId} {args : Array Value} {below : List Frame} {meth : Method} {c : Code} {A : Nat → Prop} {l : Launch} {D : va_G} {cy : cyS} {G : gS} (cx : cX p s m args meth c cX6_skipBlanks RX6 3 (some .int) wsX6_skipBlanks D cy G A) {k0 n0 : Nat} (hkn : k0 ≤ (rmX6_skipBlanks).cells ∧ n0 ≤ (rmX6_skipBlanks).slots) {M' : mS} {r : Int32} {a0 : Nat} {c1 : Int32} (hL0 : a0 ∈ gL G) (hK0 : gK G a0 = 5) {kb2 : mS → Int32 → Option (mS × Int32)} (hkb2 : ∀ (M : mS) (v2 : Int32) (H : Heap) (locs : List Loc) (ls : Array Slot), kb2 M v2 = some (M', r) → wd D cy G M A s.heap H locs → lv_has ls 3 [(0, .ref a0), (2, .int v2)] → W p l e rmX6_skipBlanks s m args below meth c H locs k0 n0 (MQ below (va_Qi (fun (r' : Int32) (_ : Unit) => r' = r) (fun _ t => wOut D cy G M' t) A) args s k0 n0 A) (F0 m 2 ls [])) : ∀ (M : mS) (v2 : Int32) (H : Heap) (locs : List Loc) (ls : Array Slot), m_X6_skipBlanks_30 G a0 c1 kb2 M v2 = some (M', r) → wd D cy G M A s.heap H locs → lv_has ls 3 [(0, .ref a0), (2, .int v2)] → W p l e rmX6_skipBlanks s m args below meth c H locs k0 n0 (MQ below (va_Qi (fun (r' : Int32) (_ : Unit) => r' = r) (fun _ t => wOut D cy G M' t) A) args s k0 n0 A) (F0 m 30 ls []) := by
  obtain ⟨hx, hb, hml, hown, hts, hr, hlocks, hK, hA, hG, hsx⟩ := id cx
  intro M v2 H locs ls h w hl
  unfold m_X6_skipBlanks_30 at h
  obtain ⟨x1, ex1, h⟩ := x_bd h
  refine lv_iinc (v := x1) (lv' := [(2, .int x1), (0, .ref a0)]) hx hb dX6_skipBlanks_30 hl (k := 1) rfl (by rw [ex1]; rfl) (by decide) rfl (fun ls hl => ?_)
  refine lv_goto (tgt := 2) hx hb dX6_skipBlanks_33 (by decide) ?_
  exact hkb2 M x1 H locs ls h w (lv_sub hl [1, 0] rfl)
set_option maxHeartbeats 4000000 in
set_option maxRecDepth 100000 in
theorem b_X6_skipBlanks_2 {p : Program} {e : Env} {s : State} {m : MethodId} {args : Array Value} {below : List Frame} {meth : Method} {c : Code} {A : Nat → Prop} {l : Launch} {D : va_G} {cy : cyS} {G : gS} (cx : cX p s m args meth c cX6_skipBlanks RX6 3 (some .int) wsX6_skipBlanks D cy G A) {k0 n0 : Nat} (hkn : k0 ≤ (rmX6_skipBlanks).cells ∧ n0 ≤ (rmX6_skipBlanks).slots) {M' : mS} {r : Int32} {a0 : Nat} {c1 : Int32} (hL0 : a0 ∈ gL G) (hK0 : gK G a0 = 5)  : ∀ (n : Nat), ∀ (M : mS) (v2 : Int32) (H : Heap) (locs : List Loc) (ls : Array Slot), m_X6_skipBlanks_2 G a0 c1 n M v2 = some (M', r) → wd D cy G M A s.heap H locs → lv_has ls 3 [(0, .ref a0), (2, .int v2)] → W p l e rmX6_skipBlanks s m args below meth c H locs k0 n0 (MQ below (va_Qi (fun (r' : Int32) (_ : Unit) => r' = r) (fun _ t => wOut D cy G M' t) A) args s k0 n0 A) (F0 m 2 ls []) := by
  obtain ⟨hx, hb, hml, hown, hts, hr, hlocks, hK, hA, hG, hsx⟩ := id cx
  intro n
  induction n with
  | zero =>
    intro M v2 H locs ls h w hl
    have h : none = some _ := h
    cases h
  | succ n ih =>
    intro M v2 H locs ls h w hl
    rw [m_X6_skipBlanks_2] at h
    refine lv_iload_n hx hb dX6_skipBlanks_2 rfl (lv_at hl 1 rfl) ?_
    refine lv_aload_n hx hb dX6_skipBlanks_3 rfl (lv_at hl 0 rfl) ?_
    refine r_getI (k := 1) (v := .int (mI M a0 1)) cx w hL0 hK0 (by decide) rfl wi_X6_skipBlanks_X6 (by decide) rfl (List.mem_of_getElem? (i := 1) rfl) dX6_skipBlanks_4 ?_
    refine lv_icmp_ge (tgt := 36) hx hb dX6_skipBlanks_7 (by decide) (fun k1 => ?_) (fun k1 => ?_)
    · have h := x_t h k1
      exact b_X6_skipBlanks_36 cx hkn hL0 hK0 M v2 H locs ls h w (lv_sub hl [1] rfl)
    · have h := x_f h k1
      refine lv_aload_n hx hb dX6_skipBlanks_10 rfl (lv_at hl 0 rfl) ?_
      refine lv_iload_n hx hb dX6_skipBlanks_11 rfl (lv_at hl 1 rfl) ?_
      obtain ⟨M2, r3, y4, h⟩ := x_cl h
      refine r_callVi (As := [.int v2]) (rest := []) cx w hkn hl.1 (k_X6_byteAt hG hL0 hK0 y4) (cwV 1 hts gX6_skipBlanks_X6_byteAt rfl rfl rfl (by decide +kernel) ⟨Nat.le_of_ble_eq_true rfl, Nat.le_of_ble_eq_true rfl⟩) hL0 hK0 (by decide) rfl rfl rfl (Nat.le_of_ble_eq_true rfl) dX6_skipBlanks_12 (fun H locs w => ?_)
      refine lv_bipush (v := (32 : Int32)) hx hb dX6_skipBlanks_15 (by decide) ?_
      refine lv_icmp_eq (tgt := 30) hx hb dX6_skipBlanks_17 (by decide) (fun k5 => ?_) (fun k5 => ?_)
      · have h := x_t h k5
        exact b_X6_skipBlanks_30 cx hkn hL0 hK0 (hkb2 := ih) M2 v2 H locs ls h w (lv_sub hl [0, 1] rfl)
      · have h := x_f h k5
        refine lv_aload_n hx hb dX6_skipBlanks_20 rfl (lv_at hl 0 rfl) ?_
        refine lv_iload_n hx hb dX6_skipBlanks_21 rfl (lv_at hl 1 rfl) ?_
        obtain ⟨M6, r7, y8, h⟩ := x_cl h
        refine r_callVi (As := [.int v2]) (rest := []) cx w hkn hl.1 (k_X6_byteAt hG hL0 hK0 y8) (cwV 1 hts gX6_skipBlanks_X6_byteAt rfl rfl rfl (by decide +kernel) ⟨Nat.le_of_ble_eq_true rfl, Nat.le_of_ble_eq_true rfl⟩) hL0 hK0 (by decide) rfl rfl rfl (Nat.le_of_ble_eq_true rfl) dX6_skipBlanks_22 (fun H locs w => ?_)
        refine lv_bipush (v := (10 : Int32)) hx hb dX6_skipBlanks_25 (by decide) ?_
        refine lv_icmp_ne (tgt := 36) hx hb dX6_skipBlanks_27 (by decide) (fun k9 => ?_) (fun k9 => ?_)
        · have h := x_f h k9
          exact b_X6_skipBlanks_36 cx hkn hL0 hK0 M6 v2 H locs ls h w (lv_sub hl [1] rfl)
        · have h := x_t h k9
          exact b_X6_skipBlanks_30 cx hkn hL0 hK0 (hkb2 := ih) M6 v2 H locs ls h w (lv_sub hl [0, 1] rfl)
set_option maxHeartbeats 4000000 in
set_option maxRecDepth 100000 in
theorem k_X6_skipBlanks {l : Launch} {D : va_G} {cy : cyS} {G : gS} {M M' : mS} {r : Int32} {a0 : Nat} {c1 : Int32} (hG : wt G) (hL0 : a0 ∈ gL G) (hK0 : gK G a0 = 5) (h : m_X6_skipBlanks G M a0 c1 = some (M', r)) : ctI l yX6_skipBlanks wsX6_skipBlanks rmX6_skipBlanks D cy G M [.ref a0, .int c1] M' r := by
  unfold m_X6_skipBlanks at h
  refine ctI_of (cc := cX6_skipBlanks) (nL := 3) (ret := (some .int)) (lv := [(0, .ref a0), (1, .int c1)]) hG (by decide) rfl ⟨rfl, rfl⟩ (Nat.le_of_ble_eq_true rfl) rfl ?_
  intro p e s m args below meth c A ls cx w hl
  obtain ⟨hx, hb, hml, hown, hts, hr, hlocks, hK, hA, -, hsx⟩ := id cx
  have hkn : 0 ≤ (rmX6_skipBlanks).cells ∧ 0 ≤ (rmX6_skipBlanks).slots := ⟨Nat.zero_le _, Nat.zero_le _⟩
  refine lv_iload_n hx hb dX6_skipBlanks_0 rfl (lv_at hl 1 rfl) ?_
  refine lv_istore_n (lv' := [(2, .int c1), (0, .ref a0), (1, .int c1)]) hx hb dX6_skipBlanks_1 rfl hl (by decide) rfl (fun ls hl => ?_)
  exact b_X6_skipBlanks_2 cx hkn hL0 hK0 fu M c1 s.heap [] ls h w (lv_sub hl [1, 0] rfl)
