-- X2_kind
theorem wi_X2_kind_X2 : ∀ w ∈ wsX20, w ∈ wsX2_kind := by decide +kernel
theorem wi_X2_kind_X7 : ∀ w ∈ wsX70, w ∈ wsX2_kind := by decide +kernel
abbrev rmX2_kind : Room := { frames := 0, cells := 0, slots := 0, locals := 0 }
def m_X2_kind_37 (G : gS) (a0 : Nat)  (M : mS)  : Option (mS × Int32) := some (M, (1 : Int32))
def m_X2_kind (G : gS) (M : mS) (a0 : Nat) : Option (mS × Int32) := (if (mI M a0 5) < 0 then m_X2_kind_37 G a0 M else o_rf (gP G a0 0) (fun q2 => o_rf (gP G q2 2) (fun q3 => (if (Int32.ofNat (gN G q3)) ≤ (mI M a0 5) then m_X2_kind_37 G a0 M else o_rf (gP G a0 0) (fun q5 => o_rf (gP G q5 2) (fun q6 => o_ix (mI M a0 5) (gN G q6) (some (M, (mI M q6 (Int32.toNatClampNeg (mI M a0 5)))))))))))
set_option maxHeartbeats 4000000 in
set_option maxRecDepth 100000 in
theorem b_X2_kind_37 {p : Program} {e : Env} {s : State} {m : MethodId} {args : Array Value} {below : List Frame} {meth : Method} {c : Code} {A : Nat → Prop} {l : Launch} {D : va_G} {cy : cyS} {G : gS} (cx : cX p s m args meth c cX2_kind RX2 1 (some .int) wsX2_kind D cy G A) {k0 n0 : Nat} (hkn : k0 ≤ (rmX2_kind).cells ∧ n0 ≤ (rmX2_kind).slots) {M' : mS} {r : Int32} {a0 : Nat} (hL0 : a0 ∈ gL G) (hK0 : gK G a0 = 1)  : ∀ (M : mS) (H : Heap) (locs : List Loc) (ls : Array Slot), m_X2_kind_37 G a0 M = some (M', r) → wd D cy G M A s.heap H locs → lv_has ls 1 [] → W p l e rmX2_kind s m args below meth c H locs k0 n0 (MQ below (va_Qi (fun (r' : Int32) (_ : Unit) => r' = r) (fun _ t => wOut D cy G M' t) A) args s k0 n0 A) (F0 m 37 ls []) := by
  obtain ⟨hx, hb, hml, hown, hts, hr, hlocks, hK, hA, hG, hsx⟩ := id cx
  intro M H locs ls h w hl
  unfold m_X2_kind_37 at h
  refine lv_iconst (v := (1 : Int32)) hx hb dX2_kind_37 (by decide) ?_
  exact r_iret cx w h dX2_kind_38
set_option maxHeartbeats 4000000 in
set_option maxRecDepth 100000 in
theorem k_X2_kind {l : Launch} {D : va_G} {cy : cyS} {G : gS} {M M' : mS} {r : Int32} {a0 : Nat} (hG : wt G) (hL0 : a0 ∈ gL G) (hK0 : gK G a0 = 1) (h : m_X2_kind G M a0 = some (M', r)) : ctI l yX2_kind wsX2_kind rmX2_kind D cy G M [.ref a0] M' r := by
  unfold m_X2_kind at h
  refine ctI_of (cc := cX2_kind) (nL := 1) (ret := (some .int)) (lv := [(0, .ref a0)]) hG (by decide) rfl ⟨rfl, rfl⟩ (Nat.le_of_ble_eq_true rfl) rfl ?_
  intro p e s m args below meth c A ls cx w hl
  obtain ⟨hx, hb, hml, hown, hts, hr, hlocks, hK, hA, -, hsx⟩ := id cx
  have hkn : 0 ≤ (rmX2_kind).cells ∧ 0 ≤ (rmX2_kind).slots := ⟨Nat.zero_le _, Nat.zero_le _⟩
  refine lv_aload_n hx hb dX2_kind_0 rfl (lv_at hl 0 rfl) ?_
  refine r_getI (k := 5) (v := .int (mI M a0 5)) cx w hL0 hK0 (by decide) rfl wi_X2_kind_X2 (by decide) rfl (List.mem_of_getElem? (i := 1) rfl) dX2_kind_1 ?_
  refine lv_if_lt (tgt := 37) hx hb dX2_kind_4 (by decide) (fun k1 => ?_) (fun k1 => ?_)
  · have h := x_t h k1
    exact b_X2_kind_37 cx hkn hL0 hK0 M s.heap [] ls h w (lv_sub hl [] rfl)
  · have h := x_f h k1
    refine lv_aload_n hx hb dX2_kind_7 rfl (lv_at hl 0 rfl) ?_
    refine r_getI (k := 5) (v := .int (mI M a0 5)) cx w hL0 hK0 (by decide) rfl wi_X2_kind_X2 (by decide) rfl (List.mem_of_getElem? (i := 1) rfl) dX2_kind_8 ?_
    refine lv_aload_n hx hb dX2_kind_11 rfl (lv_at hl 0 rfl) ?_
    obtain ⟨q2, eq2, h⟩ := x_rf h
    obtain ⟨hLq2, hKq2⟩ := wt_q hG hL0 hK0 eq2
    have hKq2 : gK G q2 = 6 := hKq2
    refine r_getR (k := 0) cx w hL0 hK0 (by decide) rfl wi_X2_kind_X2 (by decide) rfl eq2 (List.mem_of_getElem? (i := 2) rfl) dX2_kind_12 ?_
    obtain ⟨q3, eq3, h⟩ := x_rf h
    obtain ⟨hLq3, hKq3⟩ := wt_q hG hLq2 hKq2 eq3
    have hKq3 : gK G q3 = 12 := hKq3
    refine r_getR (k := 2) cx w hLq2 hKq2 (by decide) rfl wi_X2_kind_X7 (by decide) rfl eq3 (List.mem_of_getElem? (i := 3) rfl) dX2_kind_15 ?_
    refine r_alen cx w hLq3 hKq3 (by decide) dX2_kind_18 ?_
    refine lv_icmp_ge (tgt := 37) hx hb dX2_kind_19 (by decide) (fun k4 => ?_) (fun k4 => ?_)
    · have h := x_t h k4
      exact b_X2_kind_37 cx hkn hL0 hK0 M s.heap [] ls h w (lv_sub hl [] rfl)
    · have h := x_f h k4
      refine lv_aload_n hx hb dX2_kind_22 rfl (lv_at hl 0 rfl) ?_
      obtain ⟨q5, eq5, h⟩ := x_rf h
      obtain ⟨hLq5, hKq5⟩ := wt_q hG hL0 hK0 eq5
      have hKq5 : gK G q5 = 6 := hKq5
      refine r_getR (k := 0) cx w hL0 hK0 (by decide) rfl wi_X2_kind_X2 (by decide) rfl eq5 (List.mem_of_getElem? (i := 2) rfl) dX2_kind_23 ?_
      obtain ⟨q6, eq6, h⟩ := x_rf h
      obtain ⟨hLq6, hKq6⟩ := wt_q hG hLq5 hKq5 eq6
      have hKq6 : gK G q6 = 12 := hKq6
      refine r_getR (k := 2) cx w hLq5 hKq5 (by decide) rfl wi_X2_kind_X7 (by decide) rfl eq6 (List.mem_of_getElem? (i := 3) rfl) dX2_kind_26 ?_
      refine lv_aload_n hx hb dX2_kind_29 rfl (lv_at hl 0 rfl) ?_
      refine r_getI (k := 5) (v := .int (mI M a0 5)) cx w hL0 hK0 (by decide) rfl wi_X2_kind_X2 (by decide) rfl (List.mem_of_getElem? (i := 1) rfl) dX2_kind_30 ?_
      obtain ⟨z7, h⟩ := x_ix h
      refine r_iald cx w hLq6 hKq6 z7 dX2_kind_33 ?_
      refine lv_goto (tgt := 38) hx hb dX2_kind_34 (by decide) ?_
      exact r_iret cx w h dX2_kind_38
-- X2_advance
theorem wi_X2_advance_X2 : ∀ w ∈ wsX20, w ∈ wsX2_advance := by decide +kernel
theorem wi_X2_advance_X7 : ∀ w ∈ wsX70, w ∈ wsX2_advance := by decide +kernel
abbrev rmX2_advance : Room := { frames := 0, cells := 0, slots := 0, locals := 0 }
def m_X2_advance (G : gS) (M : mS) (a0 : Nat) : Option (mS × Unit) := o_rf (gP G a0 0) (fun q1 => (if (mI M q1 5) ≤ (mI M a0 5) then some (M, ()) else o_wI M a0 5 ((mI M a0 5) + (1 : Int32)) (fun M3 => some (M3, ()))))
set_option maxHeartbeats 4000000 in
set_option maxRecDepth 100000 in
theorem k_X2_advance {l : Launch} {D : va_G} {cy : cyS} {G : gS} {M M' : mS} {a0 : Nat} (hG : wt G) (hL0 : a0 ∈ gL G) (hK0 : gK G a0 = 1) (h : m_X2_advance G M a0 = some (M', ())) : ctV l yX2_advance wsX2_advance rmX2_advance D cy G M [.ref a0] M' := by
  unfold m_X2_advance at h
  refine ctV_of (cc := cX2_advance) (nL := 1) (ret := none) (lv := [(0, .ref a0)]) hG (by decide) rfl ⟨rfl, rfl⟩ (Nat.le_of_ble_eq_true rfl) rfl ?_
  intro p e s m args below meth c A ls cx w hl
  obtain ⟨hx, hb, hml, hown, hts, hr, hlocks, hK, hA, -, hsx⟩ := id cx
  have hkn : 0 ≤ (rmX2_advance).cells ∧ 0 ≤ (rmX2_advance).slots := ⟨Nat.zero_le _, Nat.zero_le _⟩
  refine lv_aload_n hx hb dX2_advance_0 rfl (lv_at hl 0 rfl) ?_
  refine r_getI (k := 5) (v := .int (mI M a0 5)) cx w hL0 hK0 (by decide) rfl wi_X2_advance_X2 (by decide) rfl (List.mem_of_getElem? (i := 1) rfl) dX2_advance_1 ?_
  refine lv_aload_n hx hb dX2_advance_4 rfl (lv_at hl 0 rfl) ?_
  obtain ⟨q1, eq1, h⟩ := x_rf h
  obtain ⟨hLq1, hKq1⟩ := wt_q hG hL0 hK0 eq1
  have hKq1 : gK G q1 = 6 := hKq1
  refine r_getR (k := 0) cx w hL0 hK0 (by decide) rfl wi_X2_advance_X2 (by decide) rfl eq1 (List.mem_of_getElem? (i := 2) rfl) dX2_advance_5 ?_
  refine r_getI (k := 5) (v := .int (mI M q1 5)) cx w hLq1 hKq1 (by decide) rfl wi_X2_advance_X7 (by decide) rfl (List.mem_of_getElem? (i := 3) rfl) dX2_advance_8 ?_
  refine lv_icmp_ge (tgt := 24) hx hb dX2_advance_11 (by decide) (fun k2 => ?_) (fun k2 => ?_)
  · have h := x_t h k2
    exact r_vret cx w h dX2_advance_24
  · have h := x_f h k2
    refine lv_aload_n hx hb dX2_advance_14 rfl (lv_at hl 0 rfl) ?_
    refine lv_dup hx hb dX2_advance_15 rfl ?_
    refine r_getI (k := 5) (v := .int (mI M a0 5)) cx w hL0 hK0 (by decide) rfl wi_X2_advance_X2 (by decide) rfl (List.mem_of_getElem? (i := 1) rfl) dX2_advance_16 ?_
    refine lv_iconst (v := (1 : Int32)) hx hb dX2_advance_19 (by decide) ?_
    refine lv_iadd hx hb dX2_advance_20 ?_
    obtain ⟨M3, eM3, h⟩ := x_wI h
    refine r_putI (k := 5) (ty := .int) cx w tyX2 tyX2_ok nmX2 hL0 hK0 (by decide) rfl wi_X2_advance_X2 (by decide) rfl rfl rfl rfl st_1_5 (ln_1 _ _ (by decide)) (List.mem_of_getElem? (i := 1) rfl) dX2_advance_21 eM3 (fun H locs w => ?_)
    exact r_vret cx w h dX2_advance_24
-- X2_value
theorem wi_X2_value_X2 : ∀ w ∈ wsX20, w ∈ wsX2_value := by decide +kernel
theorem wi_X2_value_X7 : ∀ w ∈ wsX70, w ∈ wsX2_value := by decide +kernel
abbrev rmX2_value : Room := { frames := 0, cells := 0, slots := 0, locals := 0 }
def m_X2_value_37 (G : gS) (a0 : Nat)  (M : mS)  : Option (mS × Int64) := some (M, (0 : Int64))
def m_X2_value (G : gS) (M : mS) (a0 : Nat) : Option (mS × Int64) := (if (mI M a0 5) < 0 then m_X2_value_37 G a0 M else o_rf (gP G a0 0) (fun q2 => o_rf (gP G q2 4) (fun q3 => (if (Int32.ofNat (gN G q3)) ≤ (mI M a0 5) then m_X2_value_37 G a0 M else o_rf (gP G a0 0) (fun q5 => o_rf (gP G q5 4) (fun q6 => o_ix (mI M a0 5) (gN G q6) (some (M, (mJ M q6 (Int32.toNatClampNeg (mI M a0 5)))))))))))
set_option maxHeartbeats 4000000 in
set_option maxRecDepth 100000 in
theorem b_X2_value_37 {p : Program} {e : Env} {s : State} {m : MethodId} {args : Array Value} {below : List Frame} {meth : Method} {c : Code} {A : Nat → Prop} {l : Launch} {D : va_G} {cy : cyS} {G : gS} (cx : cX p s m args meth c cX2_value RX2 1 (some .long) wsX2_value D cy G A) {k0 n0 : Nat} (hkn : k0 ≤ (rmX2_value).cells ∧ n0 ≤ (rmX2_value).slots) {M' : mS} {r : Int64} {a0 : Nat} (hL0 : a0 ∈ gL G) (hK0 : gK G a0 = 1)  : ∀ (M : mS) (H : Heap) (locs : List Loc) (ls : Array Slot), m_X2_value_37 G a0 M = some (M', r) → wd D cy G M A s.heap H locs → lv_has ls 1 [] → W p l e rmX2_value s m args below meth c H locs k0 n0 (MQ below (va_Ql (fun (r' : Int64) (_ : Unit) => r' = r) (fun _ t => wOut D cy G M' t) A) args s k0 n0 A) (F0 m 37 ls []) := by
  obtain ⟨hx, hb, hml, hown, hts, hr, hlocks, hK, hA, hG, hsx⟩ := id cx
  intro M H locs ls h w hl
  unfold m_X2_value_37 at h
  refine lv_lconst (v := 0) hx hb dX2_value_37 (by decide) ?_
  exact r_lret cx w h dX2_value_38
set_option maxHeartbeats 4000000 in
set_option maxRecDepth 100000 in
theorem k_X2_value {l : Launch} {D : va_G} {cy : cyS} {G : gS} {M M' : mS} {r : Int64} {a0 : Nat} (hG : wt G) (hL0 : a0 ∈ gL G) (hK0 : gK G a0 = 1) (h : m_X2_value G M a0 = some (M', r)) : ctL l yX2_value wsX2_value rmX2_value D cy G M [.ref a0] M' r := by
  unfold m_X2_value at h
  refine ctL_of (cc := cX2_value) (nL := 1) (ret := (some .long)) (lv := [(0, .ref a0)]) hG (by decide) rfl ⟨rfl, rfl⟩ (Nat.le_of_ble_eq_true rfl) rfl ?_
  intro p e s m args below meth c A ls cx w hl
  obtain ⟨hx, hb, hml, hown, hts, hr, hlocks, hK, hA, -, hsx⟩ := id cx
  have hkn : 0 ≤ (rmX2_value).cells ∧ 0 ≤ (rmX2_value).slots := ⟨Nat.zero_le _, Nat.zero_le _⟩
  refine lv_aload_n hx hb dX2_value_0 rfl (lv_at hl 0 rfl) ?_
  refine r_getI (k := 5) (v := .int (mI M a0 5)) cx w hL0 hK0 (by decide) rfl wi_X2_value_X2 (by decide) rfl (List.mem_of_getElem? (i := 1) rfl) dX2_value_1 ?_
  refine lv_if_lt (tgt := 37) hx hb dX2_value_4 (by decide) (fun k1 => ?_) (fun k1 => ?_)
  · have h := x_t h k1
    exact b_X2_value_37 cx hkn hL0 hK0 M s.heap [] ls h w (lv_sub hl [] rfl)
  · have h := x_f h k1
    refine lv_aload_n hx hb dX2_value_7 rfl (lv_at hl 0 rfl) ?_
    refine r_getI (k := 5) (v := .int (mI M a0 5)) cx w hL0 hK0 (by decide) rfl wi_X2_value_X2 (by decide) rfl (List.mem_of_getElem? (i := 1) rfl) dX2_value_8 ?_
    refine lv_aload_n hx hb dX2_value_11 rfl (lv_at hl 0 rfl) ?_
    obtain ⟨q2, eq2, h⟩ := x_rf h
    obtain ⟨hLq2, hKq2⟩ := wt_q hG hL0 hK0 eq2
    have hKq2 : gK G q2 = 6 := hKq2
    refine r_getR (k := 0) cx w hL0 hK0 (by decide) rfl wi_X2_value_X2 (by decide) rfl eq2 (List.mem_of_getElem? (i := 2) rfl) dX2_value_12 ?_
    obtain ⟨q3, eq3, h⟩ := x_rf h
    obtain ⟨hLq3, hKq3⟩ := wt_q hG hLq2 hKq2 eq3
    have hKq3 : gK G q3 = 13 := hKq3
    refine r_getR (k := 4) cx w hLq2 hKq2 (by decide) rfl wi_X2_value_X7 (by decide) rfl eq3 (List.mem_of_getElem? (i := 3) rfl) dX2_value_15 ?_
    refine r_alen cx w hLq3 hKq3 (by decide) dX2_value_18 ?_
    refine lv_icmp_ge (tgt := 37) hx hb dX2_value_19 (by decide) (fun k4 => ?_) (fun k4 => ?_)
    · have h := x_t h k4
      exact b_X2_value_37 cx hkn hL0 hK0 M s.heap [] ls h w (lv_sub hl [] rfl)
    · have h := x_f h k4
      refine lv_aload_n hx hb dX2_value_22 rfl (lv_at hl 0 rfl) ?_
      obtain ⟨q5, eq5, h⟩ := x_rf h
      obtain ⟨hLq5, hKq5⟩ := wt_q hG hL0 hK0 eq5
      have hKq5 : gK G q5 = 6 := hKq5
      refine r_getR (k := 0) cx w hL0 hK0 (by decide) rfl wi_X2_value_X2 (by decide) rfl eq5 (List.mem_of_getElem? (i := 2) rfl) dX2_value_23 ?_
      obtain ⟨q6, eq6, h⟩ := x_rf h
      obtain ⟨hLq6, hKq6⟩ := wt_q hG hLq5 hKq5 eq6
      have hKq6 : gK G q6 = 13 := hKq6
      refine r_getR (k := 4) cx w hLq5 hKq5 (by decide) rfl wi_X2_value_X7 (by decide) rfl eq6 (List.mem_of_getElem? (i := 3) rfl) dX2_value_26 ?_
      refine lv_aload_n hx hb dX2_value_29 rfl (lv_at hl 0 rfl) ?_
      refine r_getI (k := 5) (v := .int (mI M a0 5)) cx w hL0 hK0 (by decide) rfl wi_X2_value_X2 (by decide) rfl (List.mem_of_getElem? (i := 1) rfl) dX2_value_30 ?_
      obtain ⟨z7, h⟩ := x_ix h
      refine r_lald cx w hLq6 hKq6 z7 dX2_value_33 ?_
      refine lv_goto (tgt := 38) hx hb dX2_value_34 (by decide) ?_
      exact r_lret cx w h dX2_value_38
-- X2_indexOf
abbrev rmX2_indexOf : Room := { frames := 0, cells := 0, slots := 0, locals := 0 }
def m_X2_indexOf_34 (G : gS) (c0 : Int64) (a2 : Nat) (c3 : Int32)  (M : mS)  : Option (mS × Int32) := some (M, (-1 : Int32))
def m_X2_indexOf_3 (G : gS) (c0 : Int64) (a2 : Nat) (c3 : Int32)  : Nat → mS → Int32 → Option (mS × Int32)
  | 0, _, _ => none
  | n + 1, M, v4 => (if c3 ≤ v4 then m_X2_indexOf_34 G c0 a2 c3 M else (if (Int32.ofNat (gN G a2)) ≤ v4 then m_X2_indexOf_34 G c0 a2 c3 M else o_ix v4 (gN G a2) ((if (lg_cmp (mJ M a2 (Int32.toNatClampNeg v4)) c0) = 0 then some (M, v4) else o_bd (v4 + 1 : Int32) (fun x5 => m_X2_indexOf_3 G c0 a2 c3 n M x5)))))
def m_X2_indexOf (G : gS) (M : mS) (c0 : Int64) (a2 : Nat) (c3 : Int32) : Option (mS × Int32) := m_X2_indexOf_3 G c0 a2 c3 fu M ((0 : Int32))
set_option maxHeartbeats 4000000 in
set_option maxRecDepth 100000 in
theorem b_X2_indexOf_34 {p : Program} {e : Env} {s : State} {m : MethodId} {args : Array Value} {below : List Frame} {meth : Method} {c : Code} {A : Nat → Prop} {l : Launch} {D : va_G} {cy : cyS} {G : gS} (cx : cX p s m args meth c cX2_indexOf RX2 5 (some .int) wsX2_indexOf D cy G A) {k0 n0 : Nat} (hkn : k0 ≤ (rmX2_indexOf).cells ∧ n0 ≤ (rmX2_indexOf).slots) {M' : mS} {r : Int32} {c0 : Int64} {a2 : Nat} {c3 : Int32} (hL2 : a2 ∈ gL G) (hK2 : gK G a2 = 13)  : ∀ (M : mS) (H : Heap) (locs : List Loc) (ls : Array Slot), m_X2_indexOf_34 G c0 a2 c3 M = some (M', r) → wd D cy G M A s.heap H locs → lv_has ls 5 [] → W p l e rmX2_indexOf s m args below meth c H locs k0 n0 (MQ below (va_Qi (fun (r' : Int32) (_ : Unit) => r' = r) (fun _ t => wOut D cy G M' t) A) args s k0 n0 A) (F0 m 34 ls []) := by
  obtain ⟨hx, hb, hml, hown, hts, hr, hlocks, hK, hA, hG, hsx⟩ := id cx
  intro M H locs ls h w hl
  unfold m_X2_indexOf_34 at h
  refine lv_iconst (v := (-1 : Int32)) hx hb dX2_indexOf_34 (by decide) ?_
  exact r_iret cx w h dX2_indexOf_35
set_option maxHeartbeats 4000000 in
set_option maxRecDepth 100000 in
theorem b_X2_indexOf_3 {p : Program} {e : Env} {s : State} {m : MethodId} {args : Array Value} {below : List Frame} {meth : Method} {c : Code} {A : Nat → Prop} {l : Launch} {D : va_G} {cy : cyS} {G : gS} (cx : cX p s m args meth c cX2_indexOf RX2 5 (some .int) wsX2_indexOf D cy G A) {k0 n0 : Nat} (hkn : k0 ≤ (rmX2_indexOf).cells ∧ n0 ≤ (rmX2_indexOf).slots) {M' : mS} {r : Int32} {c0 : Int64} {a2 : Nat} {c3 : Int32} (hL2 : a2 ∈ gL G) (hK2 : gK G a2 = 13)  : ∀ (n : Nat), ∀ (M : mS) (v4 : Int32) (H : Heap) (locs : List Loc) (ls : Array Slot), m_X2_indexOf_3 G c0 a2 c3 n M v4 = some (M', r) → wd D cy G M A s.heap H locs → lv_has ls 5 [(0, .long c0), (2, .ref a2), (3, .int c3), (4, .int v4)] → W p l e rmX2_indexOf s m args below meth c H locs k0 n0 (MQ below (va_Qi (fun (r' : Int32) (_ : Unit) => r' = r) (fun _ t => wOut D cy G M' t) A) args s k0 n0 A) (F0 m 3 ls []) := by
  obtain ⟨hx, hb, hml, hown, hts, hr, hlocks, hK, hA, hG, hsx⟩ := id cx
  intro n
  induction n with
  | zero =>
    intro M v4 H locs ls h w hl
    have h : none = some _ := h
    cases h
  | succ n ih =>
    intro M v4 H locs ls h w hl
    rw [m_X2_indexOf_3] at h
    refine lv_iload hx hb dX2_indexOf_3 (lv_at hl 3 rfl) ?_
    refine lv_iload_n hx hb dX2_indexOf_5 rfl (lv_at hl 2 rfl) ?_
    refine lv_icmp_ge (tgt := 34) hx hb dX2_indexOf_6 (by decide) (fun k1 => ?_) (fun k1 => ?_)
    · have h := x_t h k1
      exact b_X2_indexOf_34 cx hkn hL2 hK2 M H locs ls h w (lv_sub hl [] rfl)
    · have h := x_f h k1
      refine lv_iload hx hb dX2_indexOf_9 (lv_at hl 3 rfl) ?_
      refine lv_aload_n hx hb dX2_indexOf_11 rfl (lv_at hl 1 rfl) ?_
      refine r_alen cx w hL2 hK2 (by decide) dX2_indexOf_12 ?_
      refine lv_icmp_ge (tgt := 34) hx hb dX2_indexOf_13 (by decide) (fun k2 => ?_) (fun k2 => ?_)
      · have h := x_t h k2
        exact b_X2_indexOf_34 cx hkn hL2 hK2 M H locs ls h w (lv_sub hl [] rfl)
      · have h := x_f h k2
        refine lv_aload_n hx hb dX2_indexOf_16 rfl (lv_at hl 1 rfl) ?_
        refine lv_iload hx hb dX2_indexOf_17 (lv_at hl 3 rfl) ?_
        obtain ⟨z3, h⟩ := x_ix h
        refine r_lald cx w hL2 hK2 z3 dX2_indexOf_19 ?_
        refine lv_lload_n hx hb dX2_indexOf_20 rfl (lv_at hl 0 rfl) ?_
        refine W.lcmp hx hb dX2_indexOf_21 ?_
        refine lv_if_ne (tgt := 28) hx hb dX2_indexOf_22 (by decide) (fun k4 => ?_) (fun k4 => ?_)
        · have h := x_f h k4
          obtain ⟨x5, ex5, h⟩ := x_bd h
          refine lv_iinc (v := x5) (lv' := [(4, .int x5), (0, .long c0), (2, .ref a2), (3, .int c3)]) hx hb dX2_indexOf_28 hl (k := 3) rfl (by rw [ex5]; rfl) (by decide) rfl (fun ls hl => ?_)
          refine lv_goto (tgt := 3) hx hb dX2_indexOf_31 (by decide) ?_
          exact ih M x5 H locs ls h w (lv_sub hl [1, 2, 3, 0] rfl)
        · have h := x_t h k4
          refine lv_iload hx hb dX2_indexOf_25 (lv_at hl 3 rfl) ?_
          exact r_iret cx w h dX2_indexOf_27
set_option maxHeartbeats 4000000 in
set_option maxRecDepth 100000 in
theorem k_X2_indexOf {l : Launch} {D : va_G} {cy : cyS} {G : gS} {M M' : mS} {r : Int32} {c0 : Int64} {a2 : Nat} {c3 : Int32} (hG : wt G) (hL2 : a2 ∈ gL G) (hK2 : gK G a2 = 13) (h : m_X2_indexOf G M c0 a2 c3 = some (M', r)) : ctI l yX2_indexOf wsX2_indexOf rmX2_indexOf D cy G M [.long c0, .ref a2, .int c3] M' r := by
  unfold m_X2_indexOf at h
  refine ctI_of (cc := cX2_indexOf) (nL := 5) (ret := (some .int)) (lv := [(0, .long c0), (2, .ref a2), (3, .int c3)]) hG (by decide) rfl ⟨rfl, rfl⟩ (Nat.le_of_ble_eq_true rfl) rfl ?_
  intro p e s m args below meth c A ls cx w hl
  obtain ⟨hx, hb, hml, hown, hts, hr, hlocks, hK, hA, -, hsx⟩ := id cx
  have hkn : 0 ≤ (rmX2_indexOf).cells ∧ 0 ≤ (rmX2_indexOf).slots := ⟨Nat.zero_le _, Nat.zero_le _⟩
  refine lv_iconst (v := (0 : Int32)) hx hb dX2_indexOf_0 (by decide) ?_
  refine lv_istore (lv' := [(4, .int ((0 : Int32))), (0, .long c0), (2, .ref a2), (3, .int c3)]) hx hb dX2_indexOf_1 hl (by decide) rfl (fun ls hl => ?_)
  exact b_X2_indexOf_3 cx hkn hL2 hK2 fu M ((0 : Int32)) s.heap [] ls h w (lv_sub hl [1, 2, 3, 0] rfl)
-- X2_complain
theorem wi_X2_complain_X2 : ∀ w ∈ wsX20, w ∈ wsX2_complain := by decide +kernel
theorem wi_X2_complain_X7 : ∀ w ∈ wsX70, w ∈ wsX2_complain := by decide +kernel
abbrev rmX2_complain : Room := { frames := 0, cells := 0, slots := 0, locals := 0 }
def m_X2_complain_51 (G : gS) (a0 : Nat) (c1 : Int32)  (M : mS) (s1 : Int32) : Option (mS × Unit) := o_wI M a0 7 s1 (fun M1 => some (M1, ()))
def m_X2_complain_50 (G : gS) (a0 : Nat) (c1 : Int32)  (M : mS)  : Option (mS × Unit) := m_X2_complain_51 G a0 c1 M ((0 : Int32))
def m_X2_complain (G : gS) (M : mS) (a0 : Nat) (c1 : Int32) : Option (mS × Unit) := (if (mI M a0 6) = 0 then o_wI M a0 6 c1 (fun M2 => (if (mI M2 a0 5) < 0 then m_X2_complain_50 G a0 c1 M2 else o_rf (gP G a0 0) (fun q4 => o_rf (gP G q4 3) (fun q5 => (if (Int32.ofNat (gN G q5)) ≤ (mI M2 a0 5) then m_X2_complain_50 G a0 c1 M2 else o_rf (gP G a0 0) (fun q7 => o_rf (gP G q7 3) (fun q8 => o_ix (mI M2 a0 5) (gN G q8) (m_X2_complain_51 G a0 c1 M2 ((mI M2 q8 (Int32.toNatClampNeg (mI M2 a0 5)))))))))))) else some (M, ()))
set_option maxHeartbeats 4000000 in
set_option maxRecDepth 100000 in
theorem b_X2_complain_51 {p : Program} {e : Env} {s : State} {m : MethodId} {args : Array Value} {below : List Frame} {meth : Method} {c : Code} {A : Nat → Prop} {l : Launch} {D : va_G} {cy : cyS} {G : gS} (cx : cX p s m args meth c cX2_complain RX2 2 none wsX2_complain D cy G A) {k0 n0 : Nat} (hkn : k0 ≤ (rmX2_complain).cells ∧ n0 ≤ (rmX2_complain).slots) {M' : mS} {a0 : Nat} {c1 : Int32} (hL0 : a0 ∈ gL G) (hK0 : gK G a0 = 1)  : ∀ (M : mS) (s1 : Int32) (H : Heap) (locs : List Loc) (ls : Array Slot), m_X2_complain_51 G a0 c1 M s1 = some (M', ()) → wd D cy G M A s.heap H locs → lv_has ls 2 [] → W p l e rmX2_complain s m args below meth c H locs k0 n0 (MQ below (va_Qv (fun (_ : Unit) => True) (fun _ t => wOut D cy G M' t) A) args s k0 n0 A) (F0 m 51 ls [.int s1, .ref a0]) := by
  obtain ⟨hx, hb, hml, hown, hts, hr, hlocks, hK, hA, hG, hsx⟩ := id cx
  intro M s1 H locs ls h w hl
  unfold m_X2_complain_51 at h
  obtain ⟨M1, eM1, h⟩ := x_wI h
  refine r_putI (k := 7) (ty := .int) cx w tyX2 tyX2_ok nmX2 hL0 hK0 (by decide) rfl wi_X2_complain_X2 (by decide) rfl rfl rfl rfl st_1_7 (ln_1 _ _ (by decide)) (List.mem_of_getElem? (i := 5) rfl) dX2_complain_51 eM1 (fun H locs w => ?_)
  exact r_vret cx w h dX2_complain_54
set_option maxHeartbeats 4000000 in
set_option maxRecDepth 100000 in
theorem b_X2_complain_50 {p : Program} {e : Env} {s : State} {m : MethodId} {args : Array Value} {below : List Frame} {meth : Method} {c : Code} {A : Nat → Prop} {l : Launch} {D : va_G} {cy : cyS} {G : gS} (cx : cX p s m args meth c cX2_complain RX2 2 none wsX2_complain D cy G A) {k0 n0 : Nat} (hkn : k0 ≤ (rmX2_complain).cells ∧ n0 ≤ (rmX2_complain).slots) {M' : mS} {a0 : Nat} {c1 : Int32} (hL0 : a0 ∈ gL G) (hK0 : gK G a0 = 1)  : ∀ (M : mS) (H : Heap) (locs : List Loc) (ls : Array Slot), m_X2_complain_50 G a0 c1 M = some (M', ()) → wd D cy G M A s.heap H locs → lv_has ls 2 [] → W p l e rmX2_complain s m args below meth c H locs k0 n0 (MQ below (va_Qv (fun (_ : Unit) => True) (fun _ t => wOut D cy G M' t) A) args s k0 n0 A) (F0 m 50 ls [.ref a0]) := by
  obtain ⟨hx, hb, hml, hown, hts, hr, hlocks, hK, hA, hG, hsx⟩ := id cx
  intro M H locs ls h w hl
  unfold m_X2_complain_50 at h
  refine lv_iconst (v := (0 : Int32)) hx hb dX2_complain_50 (by decide) ?_
  exact b_X2_complain_51 cx hkn hL0 hK0 M ((0 : Int32)) H locs ls h w (lv_sub hl [] rfl)
set_option maxHeartbeats 4000000 in
set_option maxRecDepth 100000 in
theorem k_X2_complain {l : Launch} {D : va_G} {cy : cyS} {G : gS} {M M' : mS} {a0 : Nat} {c1 : Int32} (hG : wt G) (hL0 : a0 ∈ gL G) (hK0 : gK G a0 = 1) (h : m_X2_complain G M a0 c1 = some (M', ())) : ctV l yX2_complain wsX2_complain rmX2_complain D cy G M [.ref a0, .int c1] M' := by
  unfold m_X2_complain at h
  refine ctV_of (cc := cX2_complain) (nL := 2) (ret := none) (lv := [(0, .ref a0), (1, .int c1)]) hG (by decide) rfl ⟨rfl, rfl⟩ (Nat.le_of_ble_eq_true rfl) rfl ?_
  intro p e s m args below meth c A ls cx w hl
  obtain ⟨hx, hb, hml, hown, hts, hr, hlocks, hK, hA, -, hsx⟩ := id cx
  have hkn : 0 ≤ (rmX2_complain).cells ∧ 0 ≤ (rmX2_complain).slots := ⟨Nat.zero_le _, Nat.zero_le _⟩
  refine lv_aload_n hx hb dX2_complain_0 rfl (lv_at hl 0 rfl) ?_
  refine r_getI (k := 6) (v := .int (mI M a0 6)) cx w hL0 hK0 (by decide) rfl wi_X2_complain_X2 (by decide) rfl (List.mem_of_getElem? (i := 1) rfl) dX2_complain_1 ?_
  refine lv_if_ne (tgt := 54) hx hb dX2_complain_4 (by decide) (fun k1 => ?_) (fun k1 => ?_)
  · have h := x_f h k1
    exact r_vret cx w h dX2_complain_54
  · have h := x_t h k1
    refine lv_aload_n hx hb dX2_complain_7 rfl (lv_at hl 0 rfl) ?_
    refine lv_iload_n hx hb dX2_complain_8 rfl (lv_at hl 1 rfl) ?_
    obtain ⟨M2, eM2, h⟩ := x_wI h
    refine r_putI (k := 6) (ty := .int) cx w tyX2 tyX2_ok nmX2 hL0 hK0 (by decide) rfl wi_X2_complain_X2 (by decide) rfl rfl rfl rfl st_1_6 (ln_1 _ _ (by decide)) (List.mem_of_getElem? (i := 1) rfl) dX2_complain_9 eM2 (fun H locs w => ?_)
    refine lv_aload_n hx hb dX2_complain_12 rfl (lv_at hl 0 rfl) ?_
    refine lv_aload_n hx hb dX2_complain_13 rfl (lv_at hl 0 rfl) ?_
    refine r_getI (k := 5) (v := .int (mI M2 a0 5)) cx w hL0 hK0 (by decide) rfl wi_X2_complain_X2 (by decide) rfl (List.mem_of_getElem? (i := 2) rfl) dX2_complain_14 ?_
    refine lv_if_lt (tgt := 50) hx hb dX2_complain_17 (by decide) (fun k3 => ?_) (fun k3 => ?_)
    · have h := x_t h k3
      exact b_X2_complain_50 cx hkn hL0 hK0 M2 H locs ls h w (lv_sub hl [] rfl)
    · have h := x_f h k3
      refine lv_aload_n hx hb dX2_complain_20 rfl (lv_at hl 0 rfl) ?_
      refine r_getI (k := 5) (v := .int (mI M2 a0 5)) cx w hL0 hK0 (by decide) rfl wi_X2_complain_X2 (by decide) rfl (List.mem_of_getElem? (i := 2) rfl) dX2_complain_21 ?_
      refine lv_aload_n hx hb dX2_complain_24 rfl (lv_at hl 0 rfl) ?_
      obtain ⟨q4, eq4, h⟩ := x_rf h
      obtain ⟨hLq4, hKq4⟩ := wt_q hG hL0 hK0 eq4
      have hKq4 : gK G q4 = 6 := hKq4
      refine r_getR (k := 0) cx w hL0 hK0 (by decide) rfl wi_X2_complain_X2 (by decide) rfl eq4 (List.mem_of_getElem? (i := 3) rfl) dX2_complain_25 ?_
      obtain ⟨q5, eq5, h⟩ := x_rf h
      obtain ⟨hLq5, hKq5⟩ := wt_q hG hLq4 hKq4 eq5
      have hKq5 : gK G q5 = 12 := hKq5
      refine r_getR (k := 3) cx w hLq4 hKq4 (by decide) rfl wi_X2_complain_X7 (by decide) rfl eq5 (List.mem_of_getElem? (i := 4) rfl) dX2_complain_28 ?_
      refine r_alen cx w hLq5 hKq5 (by decide) dX2_complain_31 ?_
      refine lv_icmp_ge (tgt := 50) hx hb dX2_complain_32 (by decide) (fun k6 => ?_) (fun k6 => ?_)
      · have h := x_t h k6
        exact b_X2_complain_50 cx hkn hL0 hK0 M2 H locs ls h w (lv_sub hl [] rfl)
      · have h := x_f h k6
        refine lv_aload_n hx hb dX2_complain_35 rfl (lv_at hl 0 rfl) ?_
        obtain ⟨q7, eq7, h⟩ := x_rf h
        obtain ⟨hLq7, hKq7⟩ := wt_q hG hL0 hK0 eq7
        have hKq7 : gK G q7 = 6 := hKq7
        refine r_getR (k := 0) cx w hL0 hK0 (by decide) rfl wi_X2_complain_X2 (by decide) rfl eq7 (List.mem_of_getElem? (i := 3) rfl) dX2_complain_36 ?_
        obtain ⟨q8, eq8, h⟩ := x_rf h
        obtain ⟨hLq8, hKq8⟩ := wt_q hG hLq7 hKq7 eq8
        have hKq8 : gK G q8 = 12 := hKq8
        refine r_getR (k := 3) cx w hLq7 hKq7 (by decide) rfl wi_X2_complain_X7 (by decide) rfl eq8 (List.mem_of_getElem? (i := 4) rfl) dX2_complain_39 ?_
        refine lv_aload_n hx hb dX2_complain_42 rfl (lv_at hl 0 rfl) ?_
        refine r_getI (k := 5) (v := .int (mI M2 a0 5)) cx w hL0 hK0 (by decide) rfl wi_X2_complain_X2 (by decide) rfl (List.mem_of_getElem? (i := 2) rfl) dX2_complain_43 ?_
        obtain ⟨z9, h⟩ := x_ix h
        refine r_iald cx w hLq8 hKq8 z9 dX2_complain_46 ?_
        refine lv_goto (tgt := 51) hx hb dX2_complain_47 (by decide) ?_
        exact b_X2_complain_51 cx hkn hL0 hK0 M2 ((mI M2 q8 (Int32.toNatClampNeg (mI M2 a0 5)))) H locs ls h w (lv_sub hl [] rfl)
-- X2_nameRule
theorem wi_X2_nameRule_X2 : ∀ w ∈ wsX20, w ∈ wsX2_nameRule := by decide +kernel
theorem wi_X2_nameRule_X3 : ∀ w ∈ wsX30, w ∈ wsX2_nameRule := by decide +kernel
abbrev rmX2_nameRule : Room := { frames := 1, cells := 0, slots := 0, locals := 24 }
def m_X2_nameRule_23 (G : gS) (a0 : Nat) (c1 : Int64)  (M : mS)  : Option (mS × Unit) := o_rf (gP G a0 1) (fun q1 => o_cl (m_X3_beginRule G M q1) (fun M2 r3 => (if r3 = 0 then o_cl (m_X2_complain G M2 a0 (4 : Int32)) (fun M10 r11 => some (M10, ())) else o_rf (gP G a0 3) (fun q6 => o_rf (gP G a0 1) (fun q7 => o_ix ((mI M2 q7 0) - (1 : Int32)) (gN G q6) (o_wJ M2 q6 (Int32.toNatClampNeg ((mI M2 q7 0) - (1 : Int32))) c1 (fun M9 => some (M9, ()))))))))
def m_X2_nameRule (G : gS) (M : mS) (a0 : Nat) (c1 : Int64) : Option (mS × Unit) := o_rf (gP G a0 3) (fun q1 => o_rf (gP G a0 1) (fun q2 => o_cl (m_X2_indexOf G M c1 q1 (mI M q2 0)) (fun M3 r4 => (if r4 < 0 then m_X2_nameRule_23 G a0 c1 M3 else o_cl (m_X2_complain G M3 a0 (2 : Int32)) (fun M7 r8 => m_X2_nameRule_23 G a0 c1 M7)))))
set_option maxHeartbeats 4000000 in
set_option maxRecDepth 100000 in
theorem b_X2_nameRule_23 {p : Program} {e : Env} {s : State} {m : MethodId} {args : Array Value} {below : List Frame} {meth : Method} {c : Code} {A : Nat → Prop} {l : Launch} {D : va_G} {cy : cyS} {G : gS} (cx : cX p s m args meth c cX2_nameRule RX2 3 none wsX2_nameRule D cy G A) {k0 n0 : Nat} (hkn : k0 ≤ (rmX2_nameRule).cells ∧ n0 ≤ (rmX2_nameRule).slots) {M' : mS} {a0 : Nat} {c1 : Int64} (hL0 : a0 ∈ gL G) (hK0 : gK G a0 = 1)  : ∀ (M : mS) (H : Heap) (locs : List Loc) (ls : Array Slot), m_X2_nameRule_23 G a0 c1 M = some (M', ()) → wd D cy G M A s.heap H locs → lv_has ls 3 [(0, .ref a0), (1, .long c1)] → W p l e rmX2_nameRule s m args below meth c H locs k0 n0 (MQ below (va_Qv (fun (_ : Unit) => True) (fun _ t => wOut D cy G M' t) A) args s k0 n0 A) (F0 m 23 ls []) := by
  obtain ⟨hx, hb, hml, hown, hts, hr, hlocks, hK, hA, hG, hsx⟩ := id cx
  intro M H locs ls h w hl
  unfold m_X2_nameRule_23 at h
  refine lv_aload_n hx hb dX2_nameRule_23 rfl (lv_at hl 0 rfl) ?_
  obtain ⟨q1, eq1, h⟩ := x_rf h
  obtain ⟨hLq1, hKq1⟩ := wt_q hG hL0 hK0 eq1
  have hKq1 : gK G q1 = 2 := hKq1
  refine r_getR (k := 1) cx w hL0 hK0 (by decide) rfl wi_X2_nameRule_X2 (by decide) rfl eq1 (List.mem_of_getElem? (i := 2) rfl) dX2_nameRule_24 ?_
  obtain ⟨M2, r3, y4, h⟩ := x_cl h
  refine r_callVi (As := []) (rest := []) cx w hkn hl.1 (k_X3_beginRule hG hLq1 hKq1 y4) (cwV 0 hts gX2_nameRule_X3_beginRule rfl rfl rfl (by decide +kernel) ⟨Nat.le_of_ble_eq_true rfl, Nat.le_of_ble_eq_true rfl⟩) hLq1 hKq1 (by decide) rfl rfl rfl (Nat.le_of_ble_eq_true rfl) dX2_nameRule_27 (fun H locs w => ?_)
  refine lv_if_ne (tgt := 41) hx hb dX2_nameRule_30 (by decide) (fun k5 => ?_) (fun k5 => ?_)
  · have h := x_f h k5
    refine lv_aload_n hx hb dX2_nameRule_41 rfl (lv_at hl 0 rfl) ?_
    obtain ⟨q6, eq6, h⟩ := x_rf h
    obtain ⟨hLq6, hKq6⟩ := wt_q hG hL0 hK0 eq6
    have hKq6 : gK G q6 = 13 := hKq6
    refine r_getR (k := 3) cx w hL0 hK0 (by decide) rfl wi_X2_nameRule_X2 (by decide) rfl eq6 (List.mem_of_getElem? (i := 1) rfl) dX2_nameRule_42 ?_
    refine lv_aload_n hx hb dX2_nameRule_45 rfl (lv_at hl 0 rfl) ?_
    obtain ⟨q7, eq7, h⟩ := x_rf h
    obtain ⟨hLq7, hKq7⟩ := wt_q hG hL0 hK0 eq7
    have hKq7 : gK G q7 = 2 := hKq7
    refine r_getR (k := 1) cx w hL0 hK0 (by decide) rfl wi_X2_nameRule_X2 (by decide) rfl eq7 (List.mem_of_getElem? (i := 2) rfl) dX2_nameRule_46 ?_
    refine r_getI (k := 0) (v := .int (mI M2 q7 0)) cx w hLq7 hKq7 (by decide) rfl wi_X2_nameRule_X3 (by decide) rfl (List.mem_of_getElem? (i := 3) rfl) dX2_nameRule_49 ?_
    refine lv_iconst (v := (1 : Int32)) hx hb dX2_nameRule_52 (by decide) ?_
    refine lv_isub hx hb dX2_nameRule_53 ?_
    refine lv_lload_n hx hb dX2_nameRule_54 rfl (lv_at hl 1 rfl) ?_
    obtain ⟨z8, h⟩ := x_ix h
    obtain ⟨M9, eM9, h⟩ := x_wJ h
    refine r_last cx w hLq6 hKq6 z8 dX2_nameRule_55 eM9 (fun H locs w => ?_)
    exact r_vret cx w h dX2_nameRule_56
  · have h := x_t h k5
    refine lv_aload_n hx hb dX2_nameRule_33 rfl (lv_at hl 0 rfl) ?_
    refine lv_iconst (v := (4 : Int32)) hx hb dX2_nameRule_34 (by decide) ?_
    obtain ⟨M10, r11, y12, h⟩ := x_cl h
    refine r_callVv (As := [.int ((4 : Int32))]) (rest := []) cx w hkn hl.1 (k_X2_complain hG hL0 hK0 y12) (cwV 1 hts gX2_nameRule_X2_complain rfl rfl rfl (by decide +kernel) ⟨Nat.le_of_ble_eq_true rfl, Nat.le_of_ble_eq_true rfl⟩) hL0 hK0 (by decide) rfl rfl rfl (Nat.le_of_ble_eq_true rfl) dX2_nameRule_35 (fun H locs w => ?_)
    refine lv_goto (tgt := 56) hx hb dX2_nameRule_38 (by decide) ?_
    exact r_vret cx w h dX2_nameRule_56
set_option maxHeartbeats 4000000 in
set_option maxRecDepth 100000 in
theorem k_X2_nameRule {l : Launch} {D : va_G} {cy : cyS} {G : gS} {M M' : mS} {a0 : Nat} {c1 : Int64} (hG : wt G) (hL0 : a0 ∈ gL G) (hK0 : gK G a0 = 1) (h : m_X2_nameRule G M a0 c1 = some (M', ())) : ctV l yX2_nameRule wsX2_nameRule rmX2_nameRule D cy G M [.ref a0, .long c1] M' := by
  unfold m_X2_nameRule at h
  refine ctV_of (cc := cX2_nameRule) (nL := 3) (ret := none) (lv := [(0, .ref a0), (1, .long c1)]) hG (by decide) rfl ⟨rfl, rfl⟩ (Nat.le_of_ble_eq_true rfl) rfl ?_
  intro p e s m args below meth c A ls cx w hl
  obtain ⟨hx, hb, hml, hown, hts, hr, hlocks, hK, hA, -, hsx⟩ := id cx
  have hkn : 0 ≤ (rmX2_nameRule).cells ∧ 0 ≤ (rmX2_nameRule).slots := ⟨Nat.zero_le _, Nat.zero_le _⟩
  refine lv_lload_n hx hb dX2_nameRule_0 rfl (lv_at hl 1 rfl) ?_
  refine lv_aload_n hx hb dX2_nameRule_1 rfl (lv_at hl 0 rfl) ?_
  obtain ⟨q1, eq1, h⟩ := x_rf h
  obtain ⟨hLq1, hKq1⟩ := wt_q hG hL0 hK0 eq1
  have hKq1 : gK G q1 = 13 := hKq1
  refine r_getR (k := 3) cx w hL0 hK0 (by decide) rfl wi_X2_nameRule_X2 (by decide) rfl eq1 (List.mem_of_getElem? (i := 1) rfl) dX2_nameRule_2 ?_
  refine lv_aload_n hx hb dX2_nameRule_5 rfl (lv_at hl 0 rfl) ?_
  obtain ⟨q2, eq2, h⟩ := x_rf h
  obtain ⟨hLq2, hKq2⟩ := wt_q hG hL0 hK0 eq2
  have hKq2 : gK G q2 = 2 := hKq2
  refine r_getR (k := 1) cx w hL0 hK0 (by decide) rfl wi_X2_nameRule_X2 (by decide) rfl eq2 (List.mem_of_getElem? (i := 2) rfl) dX2_nameRule_6 ?_
  refine r_getI (k := 0) (v := .int (mI M q2 0)) cx w hLq2 hKq2 (by decide) rfl wi_X2_nameRule_X3 (by decide) rfl (List.mem_of_getElem? (i := 3) rfl) dX2_nameRule_9 ?_
  obtain ⟨M3, r4, y5, h⟩ := x_cl h
  refine r_callSi (As := [.long c1, .ref q1, .int ((mI M q2 0))]) (rest := []) cx w hkn hl.1 (k_X2_indexOf hG hLq1 hKq1 y5) (va_cwS 3 hts gX2_nameRule_X2_indexOf rfl rfl rfl (by decide +kernel) ⟨Nat.le_of_ble_eq_true rfl, Nat.le_of_ble_eq_true rfl⟩) rfl rfl (Nat.le_of_ble_eq_true rfl) dX2_nameRule_12 (fun H locs w => ?_)
  refine lv_if_lt (tgt := 23) hx hb dX2_nameRule_15 (by decide) (fun k6 => ?_) (fun k6 => ?_)
  · have h := x_t h k6
    exact b_X2_nameRule_23 cx hkn hL0 hK0 M3 H locs ls h w (lv_sub hl [0, 1] rfl)
  · have h := x_f h k6
    refine lv_aload_n hx hb dX2_nameRule_18 rfl (lv_at hl 0 rfl) ?_
    refine lv_iconst (v := (2 : Int32)) hx hb dX2_nameRule_19 (by decide) ?_
    obtain ⟨M7, r8, y9, h⟩ := x_cl h
    refine r_callVv (As := [.int ((2 : Int32))]) (rest := []) cx w hkn hl.1 (k_X2_complain hG hL0 hK0 y9) (cwV 1 hts gX2_nameRule_X2_complain rfl rfl rfl (by decide +kernel) ⟨Nat.le_of_ble_eq_true rfl, Nat.le_of_ble_eq_true rfl⟩) hL0 hK0 (by decide) rfl rfl rfl (Nat.le_of_ble_eq_true rfl) dX2_nameRule_20 (fun H locs w => ?_)
    exact b_X2_nameRule_23 cx hkn hL0 hK0 M7 H locs ls h w (lv_sub hl [0, 1] rfl)
-- X2_ruleLine
theorem wi_X2_ruleLine_X2 : ∀ w ∈ wsX20, w ∈ wsX2_ruleLine := by decide +kernel
abbrev rmX2_ruleLine : Room := { frames := 2, cells := 0, slots := 0, locals := 46 }
def m_X2_ruleLine_88 (G : gS) (a0 : Nat)  (M : mS) (v1 : Int32) : Option (mS × Int32) := (if v1 < (2 : Int32) then o_ck ((0 : Int32) = 0 ∨ (0 : Int32) = 1) (some (M, (0 : Int32))) else o_ck ((1 : Int32) = 0 ∨ (1 : Int32) = 1) (some (M, (1 : Int32))))
def m_X2_ruleLine_78 (G : gS) (a0 : Nat) (kb28 : mS → Int32 → Option (mS × Int32)) (M : mS) (v1 : Int32) : Option (mS × Int32) := o_cl (m_X2_advance G M a0) (fun M1 r2 => o_bd (v1 + 1 : Int32) (fun x4 => kb28 M1 x4))
def m_X2_ruleLine_28 (G : gS) (a0 : Nat)  : Nat → mS → Int32 → Option (mS × Int32)
  | 0, _, _ => none
  | n + 1, M, v1 => (if (400 : Int32) ≤ v1 then m_X2_ruleLine_88 G a0 M v1 else o_cl (m_X2_kind G M a0) (fun M2 r3 => (if r3 < (201 : Int32) then m_X2_ruleLine_88 G a0 M2 v1 else o_cl (m_X2_kind G M2 a0) (fun M6 r7 => (if (204 : Int32) < r7 then m_X2_ruleLine_88 G a0 M6 v1 else o_rf (gP G a0 1) (fun q10 => o_cl (m_X2_kind G M6 a0) (fun M11 r12 => o_cl (m_X3_addTurn G M11 q10 (r12 - (201 : Int32))) (fun M14 r15 => (if r15 = 0 then o_cl (m_X2_complain G M14 a0 (4 : Int32)) (fun M18 r19 => m_X2_ruleLine_78 G a0 (fun M v1 => m_X2_ruleLine_28 G a0 n M v1) M18 v1) else m_X2_ruleLine_78 G a0 (fun M v1 => m_X2_ruleLine_28 G a0 n M v1) M14 v1)))))))))
def m_X2_ruleLine (G : gS) (M : mS) (a0 : Nat) : Option (mS × Int32) := o_cl (m_X2_advance G M a0) (fun M1 r2 => o_cl (m_X2_kind G M1 a0) (fun M4 r5 => (if r5 = (2 : Int32) then o_cl (m_X2_value G M4 a0) (fun M8 r9 => o_cl (m_X2_nameRule G M8 a0 r9) (fun M11 r12 => o_cl (m_X2_advance G M11 a0) (fun M14 r15 => m_X2_ruleLine_28 G a0 fu M14 ((0 : Int32))))) else o_ck ((0 : Int32) = 0 ∨ (0 : Int32) = 1) (some (M4, (0 : Int32))))))
set_option maxHeartbeats 4000000 in
set_option maxRecDepth 100000 in
theorem b_X2_ruleLine_88 {p : Program} {e : Env} {s : State} {m : MethodId} {args : Array Value} {below : List Frame} {meth : Method} {c : Code} {A : Nat → Prop} {l : Launch} {D : va_G} {cy : cyS} {G : gS} (cx : cX p s m args meth c cX2_ruleLine RX2 2 (some .boolean) wsX2_ruleLine D cy G A) {k0 n0 : Nat} (hkn : k0 ≤ (rmX2_ruleLine).cells ∧ n0 ≤ (rmX2_ruleLine).slots) {M' : mS} {r : Int32} {a0 : Nat} (hL0 : a0 ∈ gL G) (hK0 : gK G a0 = 1)  : ∀ (M : mS) (v1 : Int32) (H : Heap) (locs : List Loc) (ls : Array Slot), m_X2_ruleLine_88 G a0 M v1 = some (M', r) → wd D cy G M A s.heap H locs → lv_has ls 2 [(1, .int v1)] → W p l e rmX2_ruleLine s m args below meth c H locs k0 n0 (MQ below (va_Qi (fun (r' : Int32) (_ : Unit) => r' = r) (fun _ t => wOut D cy G M' t) A) args s k0 n0 A) (F0 m 88 ls []) := by
  obtain ⟨hx, hb, hml, hown, hts, hr, hlocks, hK, hA, hG, hsx⟩ := id cx
  intro M v1 H locs ls h w hl
  unfold m_X2_ruleLine_88 at h
  refine lv_iload_n hx hb dX2_ruleLine_88 rfl (lv_at hl 0 rfl) ?_
  refine lv_iconst (v := (2 : Int32)) hx hb dX2_ruleLine_89 (by decide) ?_
  refine lv_icmp_lt (tgt := 97) hx hb dX2_ruleLine_90 (by decide) (fun k1 => ?_) (fun k1 => ?_)
  · have h := x_t h k1
    refine lv_iconst (v := (0 : Int32)) hx hb dX2_ruleLine_97 (by decide) ?_
    obtain ⟨z2, h⟩ := x_ck h
    exact r_zret cx w z2 h dX2_ruleLine_98
  · have h := x_f h k1
    refine lv_iconst (v := (1 : Int32)) hx hb dX2_ruleLine_93 (by decide) ?_
    refine lv_goto (tgt := 98) hx hb dX2_ruleLine_94 (by decide) ?_
    obtain ⟨z3, h⟩ := x_ck h
    exact r_zret cx w z3 h dX2_ruleLine_98
set_option maxHeartbeats 4000000 in
set_option maxRecDepth 100000 in
theorem b_X2_ruleLine_78 {p : Program} {e : Env} {s : State} {m : MethodId} {args : Array Value} {below : List Frame} {meth : Method} {c : Code} {A : Nat → Prop} {l : Launch} {D : va_G} {cy : cyS} {G : gS} (cx : cX p s m args meth c cX2_ruleLine RX2 2 (some .boolean) wsX2_ruleLine D cy G A) {k0 n0 : Nat} (hkn : k0 ≤ (rmX2_ruleLine).cells ∧ n0 ≤ (rmX2_ruleLine).slots) {M' : mS} {r : Int32} {a0 : Nat} (hL0 : a0 ∈ gL G) (hK0 : gK G a0 = 1) {kb28 : mS → Int32 → Option (mS × Int32)} (hkb28 : ∀ (M : mS) (v1 : Int32) (H : Heap) (locs : List Loc) (ls : Array Slot), kb28 M v1 = some (M', r) → wd D cy G M A s.heap H locs → lv_has ls 2 [(0, .ref a0), (1, .int v1)] → W p l e rmX2_ruleLine s m args below meth c H locs k0 n0 (MQ below (va_Qi (fun (r' : Int32) (_ : Unit) => r' = r) (fun _ t => wOut D cy G M' t) A) args s k0 n0 A) (F0 m 28 ls [])) : ∀ (M : mS) (v1 : Int32) (H : Heap) (locs : List Loc) (ls : Array Slot), m_X2_ruleLine_78 G a0 kb28 M v1 = some (M', r) → wd D cy G M A s.heap H locs → lv_has ls 2 [(0, .ref a0), (1, .int v1)] → W p l e rmX2_ruleLine s m args below meth c H locs k0 n0 (MQ below (va_Qi (fun (r' : Int32) (_ : Unit) => r' = r) (fun _ t => wOut D cy G M' t) A) args s k0 n0 A) (F0 m 78 ls []) := by
  obtain ⟨hx, hb, hml, hown, hts, hr, hlocks, hK, hA, hG, hsx⟩ := id cx
  intro M v1 H locs ls h w hl
  unfold m_X2_ruleLine_78 at h
  refine lv_aload_n hx hb dX2_ruleLine_78 rfl (lv_at hl 0 rfl) ?_
  obtain ⟨M1, r2, y3, h⟩ := x_cl h
  refine r_callVv (As := []) (rest := []) cx w hkn hl.1 (k_X2_advance hG hL0 hK0 y3) (cwV 0 hts gX2_ruleLine_X2_advance rfl rfl rfl (by decide +kernel) ⟨Nat.le_of_ble_eq_true rfl, Nat.le_of_ble_eq_true rfl⟩) hL0 hK0 (by decide) rfl rfl rfl (Nat.le_of_ble_eq_true rfl) dX2_ruleLine_79 (fun H locs w => ?_)
  obtain ⟨x4, ex4, h⟩ := x_bd h
  refine lv_iinc (v := x4) (lv' := [(1, .int x4), (0, .ref a0)]) hx hb dX2_ruleLine_82 hl (k := 1) rfl (by rw [ex4]; rfl) (by decide) rfl (fun ls hl => ?_)
  refine lv_goto (tgt := 28) hx hb dX2_ruleLine_85 (by decide) ?_
  exact hkb28 M1 x4 H locs ls h w (lv_sub hl [1, 0] rfl)
set_option maxHeartbeats 4000000 in
set_option maxRecDepth 100000 in
theorem b_X2_ruleLine_28 {p : Program} {e : Env} {s : State} {m : MethodId} {args : Array Value} {below : List Frame} {meth : Method} {c : Code} {A : Nat → Prop} {l : Launch} {D : va_G} {cy : cyS} {G : gS} (cx : cX p s m args meth c cX2_ruleLine RX2 2 (some .boolean) wsX2_ruleLine D cy G A) {k0 n0 : Nat} (hkn : k0 ≤ (rmX2_ruleLine).cells ∧ n0 ≤ (rmX2_ruleLine).slots) {M' : mS} {r : Int32} {a0 : Nat} (hL0 : a0 ∈ gL G) (hK0 : gK G a0 = 1)  : ∀ (n : Nat), ∀ (M : mS) (v1 : Int32) (H : Heap) (locs : List Loc) (ls : Array Slot), m_X2_ruleLine_28 G a0 n M v1 = some (M', r) → wd D cy G M A s.heap H locs → lv_has ls 2 [(0, .ref a0), (1, .int v1)] → W p l e rmX2_ruleLine s m args below meth c H locs k0 n0 (MQ below (va_Qi (fun (r' : Int32) (_ : Unit) => r' = r) (fun _ t => wOut D cy G M' t) A) args s k0 n0 A) (F0 m 28 ls []) := by
  obtain ⟨hx, hb, hml, hown, hts, hr, hlocks, hK, hA, hG, hsx⟩ := id cx
  intro n
  induction n with
  | zero =>
    intro M v1 H locs ls h w hl
    have h : none = some _ := h
    cases h
  | succ n ih =>
    intro M v1 H locs ls h w hl
    rw [m_X2_ruleLine_28] at h
    refine lv_iload_n hx hb dX2_ruleLine_28 rfl (lv_at hl 1 rfl) ?_
    refine lv_sipush (v := (400 : Int32)) hx hb dX2_ruleLine_29 (by decide) ?_
    refine lv_icmp_ge (tgt := 88) hx hb dX2_ruleLine_32 (by decide) (fun k1 => ?_) (fun k1 => ?_)
    · have h := x_t h k1
      exact b_X2_ruleLine_88 cx hkn hL0 hK0 M v1 H locs ls h w (lv_sub hl [1] rfl)
    · have h := x_f h k1
      refine lv_aload_n hx hb dX2_ruleLine_35 rfl (lv_at hl 0 rfl) ?_
      obtain ⟨M2, r3, y4, h⟩ := x_cl h
      refine r_callVi (As := []) (rest := []) cx w hkn hl.1 (k_X2_kind hG hL0 hK0 y4) (cwV 0 hts gX2_ruleLine_X2_kind rfl rfl rfl (by decide +kernel) ⟨Nat.le_of_ble_eq_true rfl, Nat.le_of_ble_eq_true rfl⟩) hL0 hK0 (by decide) rfl rfl rfl (Nat.le_of_ble_eq_true rfl) dX2_ruleLine_36 (fun H locs w => ?_)
      refine lv_sipush (v := (201 : Int32)) hx hb dX2_ruleLine_39 (by decide) ?_
      refine lv_icmp_lt (tgt := 88) hx hb dX2_ruleLine_42 (by decide) (fun k5 => ?_) (fun k5 => ?_)
      · have h := x_t h k5
        exact b_X2_ruleLine_88 cx hkn hL0 hK0 M2 v1 H locs ls h w (lv_sub hl [1] rfl)
      · have h := x_f h k5
        refine lv_aload_n hx hb dX2_ruleLine_45 rfl (lv_at hl 0 rfl) ?_
        obtain ⟨M6, r7, y8, h⟩ := x_cl h
        refine r_callVi (As := []) (rest := []) cx w hkn hl.1 (k_X2_kind hG hL0 hK0 y8) (cwV 0 hts gX2_ruleLine_X2_kind rfl rfl rfl (by decide +kernel) ⟨Nat.le_of_ble_eq_true rfl, Nat.le_of_ble_eq_true rfl⟩) hL0 hK0 (by decide) rfl rfl rfl (Nat.le_of_ble_eq_true rfl) dX2_ruleLine_46 (fun H locs w => ?_)
        refine lv_sipush (v := (204 : Int32)) hx hb dX2_ruleLine_49 (by decide) ?_
        refine lv_icmp_gt (tgt := 88) hx hb dX2_ruleLine_52 (by decide) (fun k9 => ?_) (fun k9 => ?_)
        · have h := x_t h k9
          exact b_X2_ruleLine_88 cx hkn hL0 hK0 M6 v1 H locs ls h w (lv_sub hl [1] rfl)
        · have h := x_f h k9
          refine lv_aload_n hx hb dX2_ruleLine_55 rfl (lv_at hl 0 rfl) ?_
          obtain ⟨q10, eq10, h⟩ := x_rf h
          obtain ⟨hLq10, hKq10⟩ := wt_q hG hL0 hK0 eq10
          have hKq10 : gK G q10 = 2 := hKq10
          refine r_getR (k := 1) cx w hL0 hK0 (by decide) rfl wi_X2_ruleLine_X2 (by decide) rfl eq10 (List.mem_of_getElem? (i := 1) rfl) dX2_ruleLine_56 ?_
          refine lv_aload_n hx hb dX2_ruleLine_59 rfl (lv_at hl 0 rfl) ?_
          obtain ⟨M11, r12, y13, h⟩ := x_cl h
          refine r_callVi (As := []) (rest := [.ref q10]) cx w hkn hl.1 (k_X2_kind hG hL0 hK0 y13) (cwV 0 hts gX2_ruleLine_X2_kind rfl rfl rfl (by decide +kernel) ⟨Nat.le_of_ble_eq_true rfl, Nat.le_of_ble_eq_true rfl⟩) hL0 hK0 (by decide) rfl rfl rfl (Nat.le_of_ble_eq_true rfl) dX2_ruleLine_60 (fun H locs w => ?_)
          refine lv_sipush (v := (201 : Int32)) hx hb dX2_ruleLine_63 (by decide) ?_
          refine lv_isub hx hb dX2_ruleLine_66 ?_
          obtain ⟨M14, r15, y16, h⟩ := x_cl h
          refine r_callVi (As := [.int ((r12 - (201 : Int32)))]) (rest := []) cx w hkn hl.1 (k_X3_addTurn hG hLq10 hKq10 y16) (cwV 1 hts gX2_ruleLine_X3_addTurn rfl rfl rfl (by decide +kernel) ⟨Nat.le_of_ble_eq_true rfl, Nat.le_of_ble_eq_true rfl⟩) hLq10 hKq10 (by decide) rfl rfl rfl (Nat.le_of_ble_eq_true rfl) dX2_ruleLine_67 (fun H locs w => ?_)
          refine lv_if_ne (tgt := 78) hx hb dX2_ruleLine_70 (by decide) (fun k17 => ?_) (fun k17 => ?_)
          · have h := x_f h k17
            exact b_X2_ruleLine_78 cx hkn hL0 hK0 (hkb28 := ih) M14 v1 H locs ls h w (lv_sub hl [0, 1] rfl)
          · have h := x_t h k17
            refine lv_aload_n hx hb dX2_ruleLine_73 rfl (lv_at hl 0 rfl) ?_
            refine lv_iconst (v := (4 : Int32)) hx hb dX2_ruleLine_74 (by decide) ?_
            obtain ⟨M18, r19, y20, h⟩ := x_cl h
            refine r_callVv (As := [.int ((4 : Int32))]) (rest := []) cx w hkn hl.1 (k_X2_complain hG hL0 hK0 y20) (cwV 1 hts gX2_ruleLine_X2_complain rfl rfl rfl (by decide +kernel) ⟨Nat.le_of_ble_eq_true rfl, Nat.le_of_ble_eq_true rfl⟩) hL0 hK0 (by decide) rfl rfl rfl (Nat.le_of_ble_eq_true rfl) dX2_ruleLine_75 (fun H locs w => ?_)
            exact b_X2_ruleLine_78 cx hkn hL0 hK0 (hkb28 := ih) M18 v1 H locs ls h w (lv_sub hl [0, 1] rfl)
set_option maxHeartbeats 4000000 in
set_option maxRecDepth 100000 in
theorem k_X2_ruleLine {l : Launch} {D : va_G} {cy : cyS} {G : gS} {M M' : mS} {r : Int32} {a0 : Nat} (hG : wt G) (hL0 : a0 ∈ gL G) (hK0 : gK G a0 = 1) (h : m_X2_ruleLine G M a0 = some (M', r)) : ctI l yX2_ruleLine wsX2_ruleLine rmX2_ruleLine D cy G M [.ref a0] M' r := by
  unfold m_X2_ruleLine at h
  refine ctI_of (cc := cX2_ruleLine) (nL := 2) (ret := (some .boolean)) (lv := [(0, .ref a0)]) hG (by decide) rfl ⟨rfl, rfl⟩ (Nat.le_of_ble_eq_true rfl) rfl ?_
  intro p e s m args below meth c A ls cx w hl
  obtain ⟨hx, hb, hml, hown, hts, hr, hlocks, hK, hA, -, hsx⟩ := id cx
  have hkn : 0 ≤ (rmX2_ruleLine).cells ∧ 0 ≤ (rmX2_ruleLine).slots := ⟨Nat.zero_le _, Nat.zero_le _⟩
  refine lv_aload_n hx hb dX2_ruleLine_0 rfl (lv_at hl 0 rfl) ?_
  obtain ⟨M1, r2, y3, h⟩ := x_cl h
  refine r_callVv (As := []) (rest := []) cx w hkn hl.1 (k_X2_advance hG hL0 hK0 y3) (cwV 0 hts gX2_ruleLine_X2_advance rfl rfl rfl (by decide +kernel) ⟨Nat.le_of_ble_eq_true rfl, Nat.le_of_ble_eq_true rfl⟩) hL0 hK0 (by decide) rfl rfl rfl (Nat.le_of_ble_eq_true rfl) dX2_ruleLine_1 (fun H locs w => ?_)
  refine lv_aload_n hx hb dX2_ruleLine_4 rfl (lv_at hl 0 rfl) ?_
  obtain ⟨M4, r5, y6, h⟩ := x_cl h
  refine r_callVi (As := []) (rest := []) cx w hkn hl.1 (k_X2_kind hG hL0 hK0 y6) (cwV 0 hts gX2_ruleLine_X2_kind rfl rfl rfl (by decide +kernel) ⟨Nat.le_of_ble_eq_true rfl, Nat.le_of_ble_eq_true rfl⟩) hL0 hK0 (by decide) rfl rfl rfl (Nat.le_of_ble_eq_true rfl) dX2_ruleLine_5 (fun H locs w => ?_)
  refine lv_iconst (v := (2 : Int32)) hx hb dX2_ruleLine_8 (by decide) ?_
  refine lv_icmp_eq (tgt := 14) hx hb dX2_ruleLine_9 (by decide) (fun k7 => ?_) (fun k7 => ?_)
  · have h := x_t h k7
    refine lv_aload_n hx hb dX2_ruleLine_14 rfl (lv_at hl 0 rfl) ?_
    refine lv_aload_n hx hb dX2_ruleLine_15 rfl (lv_at hl 0 rfl) ?_
    obtain ⟨M8, r9, y10, h⟩ := x_cl h
    refine r_callVl (As := []) (rest := [.ref a0]) cx w hkn hl.1 (k_X2_value hG hL0 hK0 y10) (cwV 0 hts gX2_ruleLine_X2_value rfl rfl rfl (by decide +kernel) ⟨Nat.le_of_ble_eq_true rfl, Nat.le_of_ble_eq_true rfl⟩) hL0 hK0 (by decide) rfl rfl rfl (Nat.le_of_ble_eq_true rfl) dX2_ruleLine_16 (fun H locs w => ?_)
    obtain ⟨M11, r12, y13, h⟩ := x_cl h
    refine r_callVv (As := [.long r9]) (rest := []) cx w hkn hl.1 (k_X2_nameRule hG hL0 hK0 y13) (cwV 1 hts gX2_ruleLine_X2_nameRule rfl rfl rfl (by decide +kernel) ⟨Nat.le_of_ble_eq_true rfl, Nat.le_of_ble_eq_true rfl⟩) hL0 hK0 (by decide) rfl rfl rfl (Nat.le_of_ble_eq_true rfl) dX2_ruleLine_19 (fun H locs w => ?_)
    refine lv_aload_n hx hb dX2_ruleLine_22 rfl (lv_at hl 0 rfl) ?_
    obtain ⟨M14, r15, y16, h⟩ := x_cl h
    refine r_callVv (As := []) (rest := []) cx w hkn hl.1 (k_X2_advance hG hL0 hK0 y16) (cwV 0 hts gX2_ruleLine_X2_advance rfl rfl rfl (by decide +kernel) ⟨Nat.le_of_ble_eq_true rfl, Nat.le_of_ble_eq_true rfl⟩) hL0 hK0 (by decide) rfl rfl rfl (Nat.le_of_ble_eq_true rfl) dX2_ruleLine_23 (fun H locs w => ?_)
    refine lv_iconst (v := (0 : Int32)) hx hb dX2_ruleLine_26 (by decide) ?_
    refine lv_istore_n (lv' := [(1, .int ((0 : Int32))), (0, .ref a0)]) hx hb dX2_ruleLine_27 rfl hl (by decide) rfl (fun ls hl => ?_)
    exact b_X2_ruleLine_28 cx hkn hL0 hK0 fu M14 ((0 : Int32)) H locs ls h w (lv_sub hl [1, 0] rfl)
  · have h := x_f h k7
    refine lv_iconst (v := (0 : Int32)) hx hb dX2_ruleLine_12 (by decide) ?_
    obtain ⟨z17, h⟩ := x_ck h
    exact r_zret cx w z17 h dX2_ruleLine_13
-- X2_nameAnt
theorem wi_X2_nameAnt_X2 : ∀ w ∈ wsX20, w ∈ wsX2_nameAnt := by decide +kernel
theorem wi_X2_nameAnt_X8 : ∀ w ∈ wsX80, w ∈ wsX2_nameAnt := by decide +kernel
abbrev rmX2_nameAnt : Room := { frames := 3, cells := 0, slots := 0, locals := 60 }
def m_X2_nameAnt_56 (G : gS) (a0 : Nat) (c1 : Int64)  (M : mS)  : Option (mS × Nat) := o_rf (gP G a0 2) (fun q1 => o_cl (m_X8_latestAnt G M q1) (fun M2 r3 => o_ck (r3 ∈ gL G ∧ gK G r3 = 0) (some (M2, r3))))
def m_X2_nameAnt_23 (G : gS) (a0 : Nat) (c1 : Int64)  (M : mS)  : Option (mS × Nat) := o_rf (gP G a0 2) (fun q1 => o_cl (m_X8_beginAnt G M q1) (fun M2 r3 => (if r3 = 0 then o_cl (m_X2_complain G M2 a0 (4 : Int32)) (fun M10 r11 => m_X2_nameAnt_56 G a0 c1 M10) else o_rf (gP G a0 4) (fun q6 => o_rf (gP G a0 2) (fun q7 => o_ix ((mI M2 q7 4) - (1 : Int32)) (gN G q6) (o_wJ M2 q6 (Int32.toNatClampNeg ((mI M2 q7 4) - (1 : Int32))) c1 (fun M9 => m_X2_nameAnt_56 G a0 c1 M9)))))))
def m_X2_nameAnt (G : gS) (M : mS) (a0 : Nat) (c1 : Int64) : Option (mS × Nat) := o_rf (gP G a0 4) (fun q1 => o_rf (gP G a0 2) (fun q2 => o_cl (m_X2_indexOf G M c1 q1 (mI M q2 4)) (fun M3 r4 => (if r4 < 0 then m_X2_nameAnt_23 G a0 c1 M3 else o_cl (m_X2_complain G M3 a0 (2 : Int32)) (fun M7 r8 => m_X2_nameAnt_23 G a0 c1 M7)))))
set_option maxHeartbeats 4000000 in
set_option maxRecDepth 100000 in
theorem b_X2_nameAnt_56 {p : Program} {e : Env} {s : State} {m : MethodId} {args : Array Value} {below : List Frame} {meth : Method} {c : Code} {A : Nat → Prop} {l : Launch} {D : va_G} {cy : cyS} {G : gS} (cx : cX p s m args meth c cX2_nameAnt RX2 3 (some (.object "FlagAnts$Ant")) wsX2_nameAnt D cy G A) {k0 n0 : Nat} (hkn : k0 ≤ (rmX2_nameAnt).cells ∧ n0 ≤ (rmX2_nameAnt).slots) {M' : mS} {r : Nat} {a0 : Nat} {c1 : Int64} (hL0 : a0 ∈ gL G) (hK0 : gK G a0 = 1)  : ∀ (M : mS) (H : Heap) (locs : List Loc) (ls : Array Slot), m_X2_nameAnt_56 G a0 c1 M = some (M', r) → wd D cy G M A s.heap H locs → lv_has ls 3 [(0, .ref a0)] → W p l e rmX2_nameAnt s m args below meth c H locs k0 n0 (MQ below (va_Qr (fun (_ : Unit) => True) (fun _ a t => a = r ∧ wOut D cy G M' t) A) args s k0 n0 A) (F0 m 56 ls []) := by
  obtain ⟨hx, hb, hml, hown, hts, hr, hlocks, hK, hA, hG, hsx⟩ := id cx
  intro M H locs ls h w hl
  unfold m_X2_nameAnt_56 at h
  refine lv_aload_n hx hb dX2_nameAnt_56 rfl (lv_at hl 0 rfl) ?_
  obtain ⟨q1, eq1, h⟩ := x_rf h
  obtain ⟨hLq1, hKq1⟩ := wt_q hG hL0 hK0 eq1
  have hKq1 : gK G q1 = 7 := hKq1
  refine r_getR (k := 2) cx w hL0 hK0 (by decide) rfl wi_X2_nameAnt_X2 (by decide) rfl eq1 (List.mem_of_getElem? (i := 2) rfl) dX2_nameAnt_57 ?_
  obtain ⟨M2, r3, y4, h⟩ := x_cl h
  refine r_callVr (As := []) (rest := []) cx w hkn hl.1 (k_X8_latestAnt hG hLq1 hKq1 y4) (cwV 0 hts gX2_nameAnt_X8_latestAnt rfl rfl rfl (by decide +kernel) ⟨Nat.le_of_ble_eq_true rfl, Nat.le_of_ble_eq_true rfl⟩) hLq1 hKq1 (by decide) rfl rfl rfl (Nat.le_of_ble_eq_true rfl) dX2_nameAnt_60 (fun H locs w => ?_)
  obtain ⟨⟨hLr3, hKr3⟩, h⟩ := x_ck h
  exact r_aret cx w h dX2_nameAnt_63
set_option maxHeartbeats 4000000 in
set_option maxRecDepth 100000 in
theorem b_X2_nameAnt_23 {p : Program} {e : Env} {s : State} {m : MethodId} {args : Array Value} {below : List Frame} {meth : Method} {c : Code} {A : Nat → Prop} {l : Launch} {D : va_G} {cy : cyS} {G : gS} (cx : cX p s m args meth c cX2_nameAnt RX2 3 (some (.object "FlagAnts$Ant")) wsX2_nameAnt D cy G A) {k0 n0 : Nat} (hkn : k0 ≤ (rmX2_nameAnt).cells ∧ n0 ≤ (rmX2_nameAnt).slots) {M' : mS} {r : Nat} {a0 : Nat} {c1 : Int64} (hL0 : a0 ∈ gL G) (hK0 : gK G a0 = 1)  : ∀ (M : mS) (H : Heap) (locs : List Loc) (ls : Array Slot), m_X2_nameAnt_23 G a0 c1 M = some (M', r) → wd D cy G M A s.heap H locs → lv_has ls 3 [(0, .ref a0), (1, .long c1)] → W p l e rmX2_nameAnt s m args below meth c H locs k0 n0 (MQ below (va_Qr (fun (_ : Unit) => True) (fun _ a t => a = r ∧ wOut D cy G M' t) A) args s k0 n0 A) (F0 m 23 ls []) := by
  obtain ⟨hx, hb, hml, hown, hts, hr, hlocks, hK, hA, hG, hsx⟩ := id cx
  intro M H locs ls h w hl
  unfold m_X2_nameAnt_23 at h
  refine lv_aload_n hx hb dX2_nameAnt_23 rfl (lv_at hl 0 rfl) ?_
  obtain ⟨q1, eq1, h⟩ := x_rf h
  obtain ⟨hLq1, hKq1⟩ := wt_q hG hL0 hK0 eq1
  have hKq1 : gK G q1 = 7 := hKq1
  refine r_getR (k := 2) cx w hL0 hK0 (by decide) rfl wi_X2_nameAnt_X2 (by decide) rfl eq1 (List.mem_of_getElem? (i := 2) rfl) dX2_nameAnt_24 ?_
  obtain ⟨M2, r3, y4, h⟩ := x_cl h
  refine r_callVi (As := []) (rest := []) cx w hkn hl.1 (k_X8_beginAnt hG hLq1 hKq1 y4) (cwV 0 hts gX2_nameAnt_X8_beginAnt rfl rfl rfl (by decide +kernel) ⟨Nat.le_of_ble_eq_true rfl, Nat.le_of_ble_eq_true rfl⟩) hLq1 hKq1 (by decide) rfl rfl rfl (Nat.le_of_ble_eq_true rfl) dX2_nameAnt_27 (fun H locs w => ?_)
  refine lv_if_ne (tgt := 41) hx hb dX2_nameAnt_30 (by decide) (fun k5 => ?_) (fun k5 => ?_)
  · have h := x_f h k5
    refine lv_aload_n hx hb dX2_nameAnt_41 rfl (lv_at hl 0 rfl) ?_
    obtain ⟨q6, eq6, h⟩ := x_rf h
    obtain ⟨hLq6, hKq6⟩ := wt_q hG hL0 hK0 eq6
    have hKq6 : gK G q6 = 13 := hKq6
    refine r_getR (k := 4) cx w hL0 hK0 (by decide) rfl wi_X2_nameAnt_X2 (by decide) rfl eq6 (List.mem_of_getElem? (i := 1) rfl) dX2_nameAnt_42 ?_
    refine lv_aload_n hx hb dX2_nameAnt_45 rfl (lv_at hl 0 rfl) ?_
    obtain ⟨q7, eq7, h⟩ := x_rf h
    obtain ⟨hLq7, hKq7⟩ := wt_q hG hL0 hK0 eq7
    have hKq7 : gK G q7 = 7 := hKq7
    refine r_getR (k := 2) cx w hL0 hK0 (by decide) rfl wi_X2_nameAnt_X2 (by decide) rfl eq7 (List.mem_of_getElem? (i := 2) rfl) dX2_nameAnt_46 ?_
    refine r_getI (k := 4) (v := .int (mI M2 q7 4)) cx w hLq7 hKq7 (by decide) rfl wi_X2_nameAnt_X8 (by decide) rfl (List.mem_of_getElem? (i := 3) rfl) dX2_nameAnt_49 ?_
    refine lv_iconst (v := (1 : Int32)) hx hb dX2_nameAnt_52 (by decide) ?_
    refine lv_isub hx hb dX2_nameAnt_53 ?_
    refine lv_lload_n hx hb dX2_nameAnt_54 rfl (lv_at hl 1 rfl) ?_
    obtain ⟨z8, h⟩ := x_ix h
    obtain ⟨M9, eM9, h⟩ := x_wJ h
    refine r_last cx w hLq6 hKq6 z8 dX2_nameAnt_55 eM9 (fun H locs w => ?_)
    exact b_X2_nameAnt_56 cx hkn hL0 hK0 M9 H locs ls h w (lv_sub hl [0] rfl)
  · have h := x_t h k5
    refine lv_aload_n hx hb dX2_nameAnt_33 rfl (lv_at hl 0 rfl) ?_
    refine lv_iconst (v := (4 : Int32)) hx hb dX2_nameAnt_34 (by decide) ?_
    obtain ⟨M10, r11, y12, h⟩ := x_cl h
    refine r_callVv (As := [.int ((4 : Int32))]) (rest := []) cx w hkn hl.1 (k_X2_complain hG hL0 hK0 y12) (cwV 1 hts gX2_nameAnt_X2_complain rfl rfl rfl (by decide +kernel) ⟨Nat.le_of_ble_eq_true rfl, Nat.le_of_ble_eq_true rfl⟩) hL0 hK0 (by decide) rfl rfl rfl (Nat.le_of_ble_eq_true rfl) dX2_nameAnt_35 (fun H locs w => ?_)
    refine lv_goto (tgt := 56) hx hb dX2_nameAnt_38 (by decide) ?_
    exact b_X2_nameAnt_56 cx hkn hL0 hK0 M10 H locs ls h w (lv_sub hl [0] rfl)
set_option maxHeartbeats 4000000 in
set_option maxRecDepth 100000 in
theorem k_X2_nameAnt {l : Launch} {D : va_G} {cy : cyS} {G : gS} {M M' : mS} {r : Nat} {a0 : Nat} {c1 : Int64} (hG : wt G) (hL0 : a0 ∈ gL G) (hK0 : gK G a0 = 1) (h : m_X2_nameAnt G M a0 c1 = some (M', r)) : ctR l yX2_nameAnt wsX2_nameAnt rmX2_nameAnt D cy G M [.ref a0, .long c1] M' r := by
  unfold m_X2_nameAnt at h
  refine ctR_of (cc := cX2_nameAnt) (nL := 3) (ret := (some (.object "FlagAnts$Ant"))) (lv := [(0, .ref a0), (1, .long c1)]) hG (by decide) rfl ⟨rfl, rfl⟩ (Nat.le_of_ble_eq_true rfl) rfl ?_
  intro p e s m args below meth c A ls cx w hl
  obtain ⟨hx, hb, hml, hown, hts, hr, hlocks, hK, hA, -, hsx⟩ := id cx
  have hkn : 0 ≤ (rmX2_nameAnt).cells ∧ 0 ≤ (rmX2_nameAnt).slots := ⟨Nat.zero_le _, Nat.zero_le _⟩
  refine lv_lload_n hx hb dX2_nameAnt_0 rfl (lv_at hl 1 rfl) ?_
  refine lv_aload_n hx hb dX2_nameAnt_1 rfl (lv_at hl 0 rfl) ?_
  obtain ⟨q1, eq1, h⟩ := x_rf h
  obtain ⟨hLq1, hKq1⟩ := wt_q hG hL0 hK0 eq1
  have hKq1 : gK G q1 = 13 := hKq1
  refine r_getR (k := 4) cx w hL0 hK0 (by decide) rfl wi_X2_nameAnt_X2 (by decide) rfl eq1 (List.mem_of_getElem? (i := 1) rfl) dX2_nameAnt_2 ?_
  refine lv_aload_n hx hb dX2_nameAnt_5 rfl (lv_at hl 0 rfl) ?_
  obtain ⟨q2, eq2, h⟩ := x_rf h
  obtain ⟨hLq2, hKq2⟩ := wt_q hG hL0 hK0 eq2
  have hKq2 : gK G q2 = 7 := hKq2
  refine r_getR (k := 2) cx w hL0 hK0 (by decide) rfl wi_X2_nameAnt_X2 (by decide) rfl eq2 (List.mem_of_getElem? (i := 2) rfl) dX2_nameAnt_6 ?_
  refine r_getI (k := 4) (v := .int (mI M q2 4)) cx w hLq2 hKq2 (by decide) rfl wi_X2_nameAnt_X8 (by decide) rfl (List.mem_of_getElem? (i := 3) rfl) dX2_nameAnt_9 ?_
  obtain ⟨M3, r4, y5, h⟩ := x_cl h
  refine r_callSi (As := [.long c1, .ref q1, .int ((mI M q2 4))]) (rest := []) cx w hkn hl.1 (k_X2_indexOf hG hLq1 hKq1 y5) (va_cwS 3 hts gX2_nameAnt_X2_indexOf rfl rfl rfl (by decide +kernel) ⟨Nat.le_of_ble_eq_true rfl, Nat.le_of_ble_eq_true rfl⟩) rfl rfl (Nat.le_of_ble_eq_true rfl) dX2_nameAnt_12 (fun H locs w => ?_)
  refine lv_if_lt (tgt := 23) hx hb dX2_nameAnt_15 (by decide) (fun k6 => ?_) (fun k6 => ?_)
  · have h := x_t h k6
    exact b_X2_nameAnt_23 cx hkn hL0 hK0 M3 H locs ls h w (lv_sub hl [0, 1] rfl)
  · have h := x_f h k6
    refine lv_aload_n hx hb dX2_nameAnt_18 rfl (lv_at hl 0 rfl) ?_
    refine lv_iconst (v := (2 : Int32)) hx hb dX2_nameAnt_19 (by decide) ?_
    obtain ⟨M7, r8, y9, h⟩ := x_cl h
    refine r_callVv (As := [.int ((2 : Int32))]) (rest := []) cx w hkn hl.1 (k_X2_complain hG hL0 hK0 y9) (cwV 1 hts gX2_nameAnt_X2_complain rfl rfl rfl (by decide +kernel) ⟨Nat.le_of_ble_eq_true rfl, Nat.le_of_ble_eq_true rfl⟩) hL0 hK0 (by decide) rfl rfl rfl (Nat.le_of_ble_eq_true rfl) dX2_nameAnt_20 (fun H locs w => ?_)
    exact b_X2_nameAnt_23 cx hkn hL0 hK0 M7 H locs ls h w (lv_sub hl [0, 1] rfl)
-- X2_take
abbrev rmX2_take : Room := { frames := 1, cells := 0, slots := 0, locals := 20 }
def m_X2_take (G : gS) (M : mS) (a0 : Nat) (c1 : Int32) : Option (mS × Int32) := o_cl (m_X2_kind G M a0) (fun M1 r2 => (if r2 = c1 then o_cl (m_X2_advance G M1 a0) (fun M5 r6 => o_ck ((1 : Int32) = 0 ∨ (1 : Int32) = 1) (some (M5, (1 : Int32)))) else o_ck ((0 : Int32) = 0 ∨ (0 : Int32) = 1) (some (M1, (0 : Int32)))))
set_option maxHeartbeats 4000000 in
set_option maxRecDepth 100000 in
theorem k_X2_take {l : Launch} {D : va_G} {cy : cyS} {G : gS} {M M' : mS} {r : Int32} {a0 : Nat} {c1 : Int32} (hG : wt G) (hL0 : a0 ∈ gL G) (hK0 : gK G a0 = 1) (h : m_X2_take G M a0 c1 = some (M', r)) : ctI l yX2_take wsX2_take rmX2_take D cy G M [.ref a0, .int c1] M' r := by
  unfold m_X2_take at h
  refine ctI_of (cc := cX2_take) (nL := 2) (ret := (some .boolean)) (lv := [(0, .ref a0), (1, .int c1)]) hG (by decide) rfl ⟨rfl, rfl⟩ (Nat.le_of_ble_eq_true rfl) rfl ?_
  intro p e s m args below meth c A ls cx w hl
  obtain ⟨hx, hb, hml, hown, hts, hr, hlocks, hK, hA, -, hsx⟩ := id cx
  have hkn : 0 ≤ (rmX2_take).cells ∧ 0 ≤ (rmX2_take).slots := ⟨Nat.zero_le _, Nat.zero_le _⟩
  refine lv_aload_n hx hb dX2_take_0 rfl (lv_at hl 0 rfl) ?_
  obtain ⟨M1, r2, y3, h⟩ := x_cl h
  refine r_callVi (As := []) (rest := []) cx w hkn hl.1 (k_X2_kind hG hL0 hK0 y3) (cwV 0 hts gX2_take_X2_kind rfl rfl rfl (by decide +kernel) ⟨Nat.le_of_ble_eq_true rfl, Nat.le_of_ble_eq_true rfl⟩) hL0 hK0 (by decide) rfl rfl rfl (Nat.le_of_ble_eq_true rfl) dX2_take_1 (fun H locs w => ?_)
  refine lv_iload_n hx hb dX2_take_4 rfl (lv_at hl 1 rfl) ?_
  refine lv_icmp_eq (tgt := 10) hx hb dX2_take_5 (by decide) (fun k4 => ?_) (fun k4 => ?_)
  · have h := x_t h k4
    refine lv_aload_n hx hb dX2_take_10 rfl (lv_at hl 0 rfl) ?_
    obtain ⟨M5, r6, y7, h⟩ := x_cl h
    refine r_callVv (As := []) (rest := []) cx w hkn hl.1 (k_X2_advance hG hL0 hK0 y7) (cwV 0 hts gX2_take_X2_advance rfl rfl rfl (by decide +kernel) ⟨Nat.le_of_ble_eq_true rfl, Nat.le_of_ble_eq_true rfl⟩) hL0 hK0 (by decide) rfl rfl rfl (Nat.le_of_ble_eq_true rfl) dX2_take_11 (fun H locs w => ?_)
    refine lv_iconst (v := (1 : Int32)) hx hb dX2_take_14 (by decide) ?_
    obtain ⟨z8, h⟩ := x_ck h
    exact r_zret cx w z8 h dX2_take_15
  · have h := x_f h k4
    refine lv_iconst (v := (0 : Int32)) hx hb dX2_take_8 (by decide) ?_
    obtain ⟨z9, h⟩ := x_ck h
    exact r_zret cx w z9 h dX2_take_9
-- X2_knownName
abbrev rmX2_knownName : Room := { frames := 1, cells := 0, slots := 0, locals := 24 }
def m_X2_knownName_19 (G : gS) (a0 : Nat) (a1 : Nat) (c2 : Int32)  (M : mS) (v3 : Int32) : Option (mS × Int32) := o_cl (m_X2_advance G M a0) (fun M1 r2 => (if 0 ≤ v3 then some (M1, v3) else some (M1, (0 : Int32))))
def m_X2_knownName (G : gS) (M : mS) (a0 : Nat) (a1 : Nat) (c2 : Int32) : Option (mS × Int32) := o_cl (m_X2_value G M a0) (fun M1 r2 => o_cl (m_X2_indexOf G M1 r2 a1 c2) (fun M4 r5 => (if 0 ≤ r5 then m_X2_knownName_19 G a0 a1 c2 M4 r5 else o_cl (m_X2_complain G M4 a0 (3 : Int32)) (fun M8 r9 => m_X2_knownName_19 G a0 a1 c2 M8 r5))))
set_option maxHeartbeats 4000000 in
set_option maxRecDepth 100000 in
theorem b_X2_knownName_19 {p : Program} {e : Env} {s : State} {m : MethodId} {args : Array Value} {below : List Frame} {meth : Method} {c : Code} {A : Nat → Prop} {l : Launch} {D : va_G} {cy : cyS} {G : gS} (cx : cX p s m args meth c cX2_knownName RX2 4 (some .int) wsX2_knownName D cy G A) {k0 n0 : Nat} (hkn : k0 ≤ (rmX2_knownName).cells ∧ n0 ≤ (rmX2_knownName).slots) {M' : mS} {r : Int32} {a0 : Nat} {a1 : Nat} {c2 : Int32} (hL0 : a0 ∈ gL G) (hK0 : gK G a0 = 1) (hL1 : a1 ∈ gL G) (hK1 : gK G a1 = 13)  : ∀ (M : mS) (v3 : Int32) (H : Heap) (locs : List Loc) (ls : Array Slot), m_X2_knownName_19 G a0 a1 c2 M v3 = some (M', r) → wd D cy G M A s.heap H locs → lv_has ls 4 [(0, .ref a0), (3, .int v3)] → W p l e rmX2_knownName s m args below meth c H locs k0 n0 (MQ below (va_Qi (fun (r' : Int32) (_ : Unit) => r' = r) (fun _ t => wOut D cy G M' t) A) args s k0 n0 A) (F0 m 19 ls []) := by
  obtain ⟨hx, hb, hml, hown, hts, hr, hlocks, hK, hA, hG, hsx⟩ := id cx
  intro M v3 H locs ls h w hl
  unfold m_X2_knownName_19 at h
  refine lv_aload_n hx hb dX2_knownName_19 rfl (lv_at hl 0 rfl) ?_
  obtain ⟨M1, r2, y3, h⟩ := x_cl h
  refine r_callVv (As := []) (rest := []) cx w hkn hl.1 (k_X2_advance hG hL0 hK0 y3) (cwV 0 hts gX2_knownName_X2_advance rfl rfl rfl (by decide +kernel) ⟨Nat.le_of_ble_eq_true rfl, Nat.le_of_ble_eq_true rfl⟩) hL0 hK0 (by decide) rfl rfl rfl (Nat.le_of_ble_eq_true rfl) dX2_knownName_20 (fun H locs w => ?_)
  refine lv_iload_n hx hb dX2_knownName_23 rfl (lv_at hl 1 rfl) ?_
  refine lv_if_ge (tgt := 31) hx hb dX2_knownName_24 (by decide) (fun k4 => ?_) (fun k4 => ?_)
  · have h := x_t h k4
    refine lv_iload_n hx hb dX2_knownName_31 rfl (lv_at hl 1 rfl) ?_
    exact r_iret cx w h dX2_knownName_32
  · have h := x_f h k4
    refine lv_iconst (v := (0 : Int32)) hx hb dX2_knownName_27 (by decide) ?_
    refine lv_goto (tgt := 32) hx hb dX2_knownName_28 (by decide) ?_
    exact r_iret cx w h dX2_knownName_32
set_option maxHeartbeats 4000000 in
set_option maxRecDepth 100000 in
theorem k_X2_knownName {l : Launch} {D : va_G} {cy : cyS} {G : gS} {M M' : mS} {r : Int32} {a0 : Nat} {a1 : Nat} {c2 : Int32} (hG : wt G) (hL0 : a0 ∈ gL G) (hK0 : gK G a0 = 1) (hL1 : a1 ∈ gL G) (hK1 : gK G a1 = 13) (h : m_X2_knownName G M a0 a1 c2 = some (M', r)) : ctI l yX2_knownName wsX2_knownName rmX2_knownName D cy G M [.ref a0, .ref a1, .int c2] M' r := by
  unfold m_X2_knownName at h
  refine ctI_of (cc := cX2_knownName) (nL := 4) (ret := (some .int)) (lv := [(0, .ref a0), (1, .ref a1), (2, .int c2)]) hG (by decide) rfl ⟨rfl, rfl⟩ (Nat.le_of_ble_eq_true rfl) rfl ?_
  intro p e s m args below meth c A ls cx w hl
  obtain ⟨hx, hb, hml, hown, hts, hr, hlocks, hK, hA, -, hsx⟩ := id cx
  have hkn : 0 ≤ (rmX2_knownName).cells ∧ 0 ≤ (rmX2_knownName).slots := ⟨Nat.zero_le _, Nat.zero_le _⟩
  refine lv_aload_n hx hb dX2_knownName_0 rfl (lv_at hl 0 rfl) ?_
  obtain ⟨M1, r2, y3, h⟩ := x_cl h
  refine r_callVl (As := []) (rest := []) cx w hkn hl.1 (k_X2_value hG hL0 hK0 y3) (cwV 0 hts gX2_knownName_X2_value rfl rfl rfl (by decide +kernel) ⟨Nat.le_of_ble_eq_true rfl, Nat.le_of_ble_eq_true rfl⟩) hL0 hK0 (by decide) rfl rfl rfl (Nat.le_of_ble_eq_true rfl) dX2_knownName_1 (fun H locs w => ?_)
  refine lv_aload_n hx hb dX2_knownName_4 rfl (lv_at hl 1 rfl) ?_
  refine lv_iload_n hx hb dX2_knownName_5 rfl (lv_at hl 2 rfl) ?_
  obtain ⟨M4, r5, y6, h⟩ := x_cl h
  refine r_callSi (As := [.long r2, .ref a1, .int c2]) (rest := []) cx w hkn hl.1 (k_X2_indexOf hG hL1 hK1 y6) (va_cwS 3 hts gX2_knownName_X2_indexOf rfl rfl rfl (by decide +kernel) ⟨Nat.le_of_ble_eq_true rfl, Nat.le_of_ble_eq_true rfl⟩) rfl rfl (Nat.le_of_ble_eq_true rfl) dX2_knownName_6 (fun H locs w => ?_)
  refine lv_istore_n (lv' := [(3, .int r5), (0, .ref a0), (1, .ref a1), (2, .int c2)]) hx hb dX2_knownName_9 rfl hl (by decide) rfl (fun ls hl => ?_)
  refine lv_iload_n hx hb dX2_knownName_10 rfl (lv_at hl 0 rfl) ?_
  refine lv_if_ge (tgt := 19) hx hb dX2_knownName_11 (by decide) (fun k7 => ?_) (fun k7 => ?_)
  · have h := x_t h k7
    exact b_X2_knownName_19 cx hkn hL0 hK0 hL1 hK1 M4 r5 H locs ls h w (lv_sub hl [1, 0] rfl)
  · have h := x_f h k7
    refine lv_aload_n hx hb dX2_knownName_14 rfl (lv_at hl 1 rfl) ?_
    refine lv_iconst (v := (3 : Int32)) hx hb dX2_knownName_15 (by decide) ?_
    obtain ⟨M8, r9, y10, h⟩ := x_cl h
    refine r_callVv (As := [.int ((3 : Int32))]) (rest := []) cx w hkn hl.1 (k_X2_complain hG hL0 hK0 y10) (cwV 1 hts gX2_knownName_X2_complain rfl rfl rfl (by decide +kernel) ⟨Nat.le_of_ble_eq_true rfl, Nat.le_of_ble_eq_true rfl⟩) hL0 hK0 (by decide) rfl rfl rfl (Nat.le_of_ble_eq_true rfl) dX2_knownName_16 (fun H locs w => ?_)
    exact b_X2_knownName_19 cx hkn hL0 hK0 hL1 hK1 M8 r5 H locs ls h w (lv_sub hl [1, 0] rfl)
-- X2_rangedNumber
abbrev rmX2_rangedNumber : Room := { frames := 1, cells := 0, slots := 0, locals := 21 }
def m_X2_rangedNumber_23 (G : gS) (a0 : Nat) (c1 : Int32) (c2 : Int32)  (M : mS) (v3 : Int32) : Option (mS × Int32) := o_cl (m_X2_advance G M a0) (fun M1 r2 => some (M1, v3))
def m_X2_rangedNumber_16 (G : gS) (a0 : Nat) (c1 : Int32) (c2 : Int32)  (M : mS)  : Option (mS × Int32) := o_cl (m_X2_complain G M a0 (5 : Int32)) (fun M1 r2 => m_X2_rangedNumber_23 G a0 c1 c2 M1 c1)
def m_X2_rangedNumber (G : gS) (M : mS) (a0 : Nat) (c1 : Int32) (c2 : Int32) : Option (mS × Int32) := o_cl (m_X2_value G M a0) (fun M1 r2 => o_bd ((Int64.toInt32 r2)) (fun x4 => (if x4 < c1 then m_X2_rangedNumber_16 G a0 c1 c2 M1 else (if x4 ≤ c2 then m_X2_rangedNumber_23 G a0 c1 c2 M1 x4 else m_X2_rangedNumber_16 G a0 c1 c2 M1))))
set_option maxHeartbeats 4000000 in
set_option maxRecDepth 100000 in
theorem b_X2_rangedNumber_23 {p : Program} {e : Env} {s : State} {m : MethodId} {args : Array Value} {below : List Frame} {meth : Method} {c : Code} {A : Nat → Prop} {l : Launch} {D : va_G} {cy : cyS} {G : gS} (cx : cX p s m args meth c cX2_rangedNumber RX2 4 (some .int) wsX2_rangedNumber D cy G A) {k0 n0 : Nat} (hkn : k0 ≤ (rmX2_rangedNumber).cells ∧ n0 ≤ (rmX2_rangedNumber).slots) {M' : mS} {r : Int32} {a0 : Nat} {c1 : Int32} {c2 : Int32} (hL0 : a0 ∈ gL G) (hK0 : gK G a0 = 1)  : ∀ (M : mS) (v3 : Int32) (H : Heap) (locs : List Loc) (ls : Array Slot), m_X2_rangedNumber_23 G a0 c1 c2 M v3 = some (M', r) → wd D cy G M A s.heap H locs → lv_has ls 4 [(0, .ref a0), (3, .int v3)] → W p l e rmX2_rangedNumber s m args below meth c H locs k0 n0 (MQ below (va_Qi (fun (r' : Int32) (_ : Unit) => r' = r) (fun _ t => wOut D cy G M' t) A) args s k0 n0 A) (F0 m 23 ls []) := by
  obtain ⟨hx, hb, hml, hown, hts, hr, hlocks, hK, hA, hG, hsx⟩ := id cx
  intro M v3 H locs ls h w hl
  unfold m_X2_rangedNumber_23 at h
  refine lv_aload_n hx hb dX2_rangedNumber_23 rfl (lv_at hl 0 rfl) ?_
  obtain ⟨M1, r2, y3, h⟩ := x_cl h
  refine r_callVv (As := []) (rest := []) cx w hkn hl.1 (k_X2_advance hG hL0 hK0 y3) (cwV 0 hts gX2_rangedNumber_X2_advance rfl rfl rfl (by decide +kernel) ⟨Nat.le_of_ble_eq_true rfl, Nat.le_of_ble_eq_true rfl⟩) hL0 hK0 (by decide) rfl rfl rfl (Nat.le_of_ble_eq_true rfl) dX2_rangedNumber_24 (fun H locs w => ?_)
  refine lv_iload_n hx hb dX2_rangedNumber_27 rfl (lv_at hl 1 rfl) ?_
  exact r_iret cx w h dX2_rangedNumber_28
set_option maxHeartbeats 4000000 in
set_option maxRecDepth 100000 in
theorem b_X2_rangedNumber_16 {p : Program} {e : Env} {s : State} {m : MethodId} {args : Array Value} {below : List Frame} {meth : Method} {c : Code} {A : Nat → Prop} {l : Launch} {D : va_G} {cy : cyS} {G : gS} (cx : cX p s m args meth c cX2_rangedNumber RX2 4 (some .int) wsX2_rangedNumber D cy G A) {k0 n0 : Nat} (hkn : k0 ≤ (rmX2_rangedNumber).cells ∧ n0 ≤ (rmX2_rangedNumber).slots) {M' : mS} {r : Int32} {a0 : Nat} {c1 : Int32} {c2 : Int32} (hL0 : a0 ∈ gL G) (hK0 : gK G a0 = 1)  : ∀ (M : mS) (H : Heap) (locs : List Loc) (ls : Array Slot), m_X2_rangedNumber_16 G a0 c1 c2 M = some (M', r) → wd D cy G M A s.heap H locs → lv_has ls 4 [(0, .ref a0), (1, .int c1)] → W p l e rmX2_rangedNumber s m args below meth c H locs k0 n0 (MQ below (va_Qi (fun (r' : Int32) (_ : Unit) => r' = r) (fun _ t => wOut D cy G M' t) A) args s k0 n0 A) (F0 m 16 ls []) := by
  obtain ⟨hx, hb, hml, hown, hts, hr, hlocks, hK, hA, hG, hsx⟩ := id cx
  intro M H locs ls h w hl
  unfold m_X2_rangedNumber_16 at h
  refine lv_aload_n hx hb dX2_rangedNumber_16 rfl (lv_at hl 0 rfl) ?_
  refine lv_iconst (v := (5 : Int32)) hx hb dX2_rangedNumber_17 (by decide) ?_
  obtain ⟨M1, r2, y3, h⟩ := x_cl h
  refine r_callVv (As := [.int ((5 : Int32))]) (rest := []) cx w hkn hl.1 (k_X2_complain hG hL0 hK0 y3) (cwV 1 hts gX2_rangedNumber_X2_complain rfl rfl rfl (by decide +kernel) ⟨Nat.le_of_ble_eq_true rfl, Nat.le_of_ble_eq_true rfl⟩) hL0 hK0 (by decide) rfl rfl rfl (Nat.le_of_ble_eq_true rfl) dX2_rangedNumber_18 (fun H locs w => ?_)
  refine lv_iload_n hx hb dX2_rangedNumber_21 rfl (lv_at hl 1 rfl) ?_
  refine lv_istore_n (lv' := [(3, .int c1), (0, .ref a0), (1, .int c1)]) hx hb dX2_rangedNumber_22 rfl hl (by decide) rfl (fun ls hl => ?_)
  exact b_X2_rangedNumber_23 cx hkn hL0 hK0 M1 c1 H locs ls h w (lv_sub hl [1, 0] rfl)
set_option maxHeartbeats 4000000 in
set_option maxRecDepth 100000 in
theorem k_X2_rangedNumber {l : Launch} {D : va_G} {cy : cyS} {G : gS} {M M' : mS} {r : Int32} {a0 : Nat} {c1 : Int32} {c2 : Int32} (hG : wt G) (hL0 : a0 ∈ gL G) (hK0 : gK G a0 = 1) (h : m_X2_rangedNumber G M a0 c1 c2 = some (M', r)) : ctI l yX2_rangedNumber wsX2_rangedNumber rmX2_rangedNumber D cy G M [.ref a0, .int c1, .int c2] M' r := by
  unfold m_X2_rangedNumber at h
  refine ctI_of (cc := cX2_rangedNumber) (nL := 4) (ret := (some .int)) (lv := [(0, .ref a0), (1, .int c1), (2, .int c2)]) hG (by decide) rfl ⟨rfl, rfl⟩ (Nat.le_of_ble_eq_true rfl) rfl ?_
  intro p e s m args below meth c A ls cx w hl
  obtain ⟨hx, hb, hml, hown, hts, hr, hlocks, hK, hA, -, hsx⟩ := id cx
  have hkn : 0 ≤ (rmX2_rangedNumber).cells ∧ 0 ≤ (rmX2_rangedNumber).slots := ⟨Nat.zero_le _, Nat.zero_le _⟩
  refine lv_aload_n hx hb dX2_rangedNumber_0 rfl (lv_at hl 0 rfl) ?_
  obtain ⟨M1, r2, y3, h⟩ := x_cl h
  refine r_callVl (As := []) (rest := []) cx w hkn hl.1 (k_X2_value hG hL0 hK0 y3) (cwV 0 hts gX2_rangedNumber_X2_value rfl rfl rfl (by decide +kernel) ⟨Nat.le_of_ble_eq_true rfl, Nat.le_of_ble_eq_true rfl⟩) hL0 hK0 (by decide) rfl rfl rfl (Nat.le_of_ble_eq_true rfl) dX2_rangedNumber_1 (fun H locs w => ?_)
  refine lv_l2i (v := (Int64.toInt32 r2)) hx hb dX2_rangedNumber_4 rfl ?_
  obtain ⟨x4, ex4, h⟩ := x_bd h
  refine r_topI ex4 ?_
  refine lv_istore_n (lv' := [(3, .int x4), (0, .ref a0), (1, .int c1), (2, .int c2)]) hx hb dX2_rangedNumber_5 rfl hl (by decide) rfl (fun ls hl => ?_)
  refine lv_iload_n hx hb dX2_rangedNumber_6 rfl (lv_at hl 0 rfl) ?_
  refine lv_iload_n hx hb dX2_rangedNumber_7 rfl (lv_at hl 2 rfl) ?_
  refine lv_icmp_lt (tgt := 16) hx hb dX2_rangedNumber_8 (by decide) (fun k5 => ?_) (fun k5 => ?_)
  · have h := x_t h k5
    exact b_X2_rangedNumber_16 cx hkn hL0 hK0 M1 H locs ls h w (lv_sub hl [1, 2] rfl)
  · have h := x_f h k5
    refine lv_iload_n hx hb dX2_rangedNumber_11 rfl (lv_at hl 0 rfl) ?_
    refine lv_iload_n hx hb dX2_rangedNumber_12 rfl (lv_at hl 3 rfl) ?_
    refine lv_icmp_le (tgt := 23) hx hb dX2_rangedNumber_13 (by decide) (fun k6 => ?_) (fun k6 => ?_)
    · have h := x_t h k6
      exact b_X2_rangedNumber_23 cx hkn hL0 hK0 M1 x4 H locs ls h w (lv_sub hl [1, 0] rfl)
    · have h := x_f h k6
      exact b_X2_rangedNumber_16 cx hkn hL0 hK0 M1 H locs ls h w (lv_sub hl [1, 2] rfl)
-- X2_isSide
abbrev rmX2_isSide : Room := { frames := 1, cells := 0, slots := 0, locals := 20 }
def m_X2_isSide_24 (G : gS) (a0 : Nat)  (M : mS)  : Option (mS × Int32) := o_ck ((0 : Int32) = 0 ∨ (0 : Int32) = 1) (some (M, (0 : Int32)))
def m_X2_isSide (G : gS) (M : mS) (a0 : Nat) : Option (mS × Int32) := o_cl (m_X2_kind G M a0) (fun M1 r2 => (if r2 < (209 : Int32) then m_X2_isSide_24 G a0 M1 else o_cl (m_X2_kind G M1 a0) (fun M5 r6 => (if (212 : Int32) < r6 then m_X2_isSide_24 G a0 M5 else o_ck ((1 : Int32) = 0 ∨ (1 : Int32) = 1) (some (M5, (1 : Int32)))))))
set_option maxHeartbeats 4000000 in
set_option maxRecDepth 100000 in
theorem b_X2_isSide_24 {p : Program} {e : Env} {s : State} {m : MethodId} {args : Array Value} {below : List Frame} {meth : Method} {c : Code} {A : Nat → Prop} {l : Launch} {D : va_G} {cy : cyS} {G : gS} (cx : cX p s m args meth c cX2_isSide RX2 1 (some .boolean) wsX2_isSide D cy G A) {k0 n0 : Nat} (hkn : k0 ≤ (rmX2_isSide).cells ∧ n0 ≤ (rmX2_isSide).slots) {M' : mS} {r : Int32} {a0 : Nat} (hL0 : a0 ∈ gL G) (hK0 : gK G a0 = 1)  : ∀ (M : mS) (H : Heap) (locs : List Loc) (ls : Array Slot), m_X2_isSide_24 G a0 M = some (M', r) → wd D cy G M A s.heap H locs → lv_has ls 1 [] → W p l e rmX2_isSide s m args below meth c H locs k0 n0 (MQ below (va_Qi (fun (r' : Int32) (_ : Unit) => r' = r) (fun _ t => wOut D cy G M' t) A) args s k0 n0 A) (F0 m 24 ls []) := by
  obtain ⟨hx, hb, hml, hown, hts, hr, hlocks, hK, hA, hG, hsx⟩ := id cx
  intro M H locs ls h w hl
  unfold m_X2_isSide_24 at h
  refine lv_iconst (v := (0 : Int32)) hx hb dX2_isSide_24 (by decide) ?_
  obtain ⟨z1, h⟩ := x_ck h
  exact r_zret cx w z1 h dX2_isSide_25
set_option maxHeartbeats 4000000 in
set_option maxRecDepth 100000 in
theorem k_X2_isSide {l : Launch} {D : va_G} {cy : cyS} {G : gS} {M M' : mS} {r : Int32} {a0 : Nat} (hG : wt G) (hL0 : a0 ∈ gL G) (hK0 : gK G a0 = 1) (h : m_X2_isSide G M a0 = some (M', r)) : ctI l yX2_isSide wsX2_isSide rmX2_isSide D cy G M [.ref a0] M' r := by
  unfold m_X2_isSide at h
  refine ctI_of (cc := cX2_isSide) (nL := 1) (ret := (some .boolean)) (lv := [(0, .ref a0)]) hG (by decide) rfl ⟨rfl, rfl⟩ (Nat.le_of_ble_eq_true rfl) rfl ?_
  intro p e s m args below meth c A ls cx w hl
  obtain ⟨hx, hb, hml, hown, hts, hr, hlocks, hK, hA, -, hsx⟩ := id cx
  have hkn : 0 ≤ (rmX2_isSide).cells ∧ 0 ≤ (rmX2_isSide).slots := ⟨Nat.zero_le _, Nat.zero_le _⟩
  refine lv_aload_n hx hb dX2_isSide_0 rfl (lv_at hl 0 rfl) ?_
  obtain ⟨M1, r2, y3, h⟩ := x_cl h
  refine r_callVi (As := []) (rest := []) cx w hkn hl.1 (k_X2_kind hG hL0 hK0 y3) (cwV 0 hts gX2_isSide_X2_kind rfl rfl rfl (by decide +kernel) ⟨Nat.le_of_ble_eq_true rfl, Nat.le_of_ble_eq_true rfl⟩) hL0 hK0 (by decide) rfl rfl rfl (Nat.le_of_ble_eq_true rfl) dX2_isSide_1 (fun H locs w => ?_)
  refine lv_sipush (v := (209 : Int32)) hx hb dX2_isSide_4 (by decide) ?_
  refine lv_icmp_lt (tgt := 24) hx hb dX2_isSide_7 (by decide) (fun k4 => ?_) (fun k4 => ?_)
  · have h := x_t h k4
    exact b_X2_isSide_24 cx hkn hL0 hK0 M1 H locs ls h w (lv_sub hl [] rfl)
  · have h := x_f h k4
    refine lv_aload_n hx hb dX2_isSide_10 rfl (lv_at hl 0 rfl) ?_
    obtain ⟨M5, r6, y7, h⟩ := x_cl h
    refine r_callVi (As := []) (rest := []) cx w hkn hl.1 (k_X2_kind hG hL0 hK0 y7) (cwV 0 hts gX2_isSide_X2_kind rfl rfl rfl (by decide +kernel) ⟨Nat.le_of_ble_eq_true rfl, Nat.le_of_ble_eq_true rfl⟩) hL0 hK0 (by decide) rfl rfl rfl (Nat.le_of_ble_eq_true rfl) dX2_isSide_11 (fun H locs w => ?_)
    refine lv_sipush (v := (212 : Int32)) hx hb dX2_isSide_14 (by decide) ?_
    refine lv_icmp_gt (tgt := 24) hx hb dX2_isSide_17 (by decide) (fun k8 => ?_) (fun k8 => ?_)
    · have h := x_t h k8
      exact b_X2_isSide_24 cx hkn hL0 hK0 M5 H locs ls h w (lv_sub hl [] rfl)
    · have h := x_f h k8
      refine lv_iconst (v := (1 : Int32)) hx hb dX2_isSide_20 (by decide) ?_
      refine lv_goto (tgt := 25) hx hb dX2_isSide_21 (by decide) ?_
      obtain ⟨z9, h⟩ := x_ck h
      exact r_zret cx w z9 h dX2_isSide_25
-- X2_takeSide
abbrev rmX2_takeSide : Room := { frames := 1, cells := 0, slots := 0, locals := 20 }
def m_X2_takeSide (G : gS) (M : mS) (a0 : Nat) : Option (mS × Int32) := o_cl (m_X2_kind G M a0) (fun M1 r2 => o_bd ((r2 - (209 : Int32))) (fun x4 => o_cl (m_X2_advance G M1 a0) (fun M5 r6 => some (M5, x4))))
set_option maxHeartbeats 4000000 in
set_option maxRecDepth 100000 in
theorem k_X2_takeSide {l : Launch} {D : va_G} {cy : cyS} {G : gS} {M M' : mS} {r : Int32} {a0 : Nat} (hG : wt G) (hL0 : a0 ∈ gL G) (hK0 : gK G a0 = 1) (h : m_X2_takeSide G M a0 = some (M', r)) : ctI l yX2_takeSide wsX2_takeSide rmX2_takeSide D cy G M [.ref a0] M' r := by
  unfold m_X2_takeSide at h
  refine ctI_of (cc := cX2_takeSide) (nL := 2) (ret := (some .int)) (lv := [(0, .ref a0)]) hG (by decide) rfl ⟨rfl, rfl⟩ (Nat.le_of_ble_eq_true rfl) rfl ?_
  intro p e s m args below meth c A ls cx w hl
  obtain ⟨hx, hb, hml, hown, hts, hr, hlocks, hK, hA, -, hsx⟩ := id cx
  have hkn : 0 ≤ (rmX2_takeSide).cells ∧ 0 ≤ (rmX2_takeSide).slots := ⟨Nat.zero_le _, Nat.zero_le _⟩
  refine lv_aload_n hx hb dX2_takeSide_0 rfl (lv_at hl 0 rfl) ?_
  obtain ⟨M1, r2, y3, h⟩ := x_cl h
  refine r_callVi (As := []) (rest := []) cx w hkn hl.1 (k_X2_kind hG hL0 hK0 y3) (cwV 0 hts gX2_takeSide_X2_kind rfl rfl rfl (by decide +kernel) ⟨Nat.le_of_ble_eq_true rfl, Nat.le_of_ble_eq_true rfl⟩) hL0 hK0 (by decide) rfl rfl rfl (Nat.le_of_ble_eq_true rfl) dX2_takeSide_1 (fun H locs w => ?_)
  refine lv_sipush (v := (209 : Int32)) hx hb dX2_takeSide_4 (by decide) ?_
  refine lv_isub hx hb dX2_takeSide_7 ?_
  obtain ⟨x4, ex4, h⟩ := x_bd h
  refine r_topI ex4 ?_
  refine lv_istore_n (lv' := [(1, .int x4), (0, .ref a0)]) hx hb dX2_takeSide_8 rfl hl (by decide) rfl (fun ls hl => ?_)
  refine lv_aload_n hx hb dX2_takeSide_9 rfl (lv_at hl 1 rfl) ?_
  obtain ⟨M5, r6, y7, h⟩ := x_cl h
  refine r_callVv (As := []) (rest := []) cx w hkn hl.1 (k_X2_advance hG hL0 hK0 y7) (cwV 0 hts gX2_takeSide_X2_advance rfl rfl rfl (by decide +kernel) ⟨Nat.le_of_ble_eq_true rfl, Nat.le_of_ble_eq_true rfl⟩) hL0 hK0 (by decide) rfl rfl rfl (Nat.le_of_ble_eq_true rfl) dX2_takeSide_10 (fun H locs w => ?_)
  refine lv_iload_n hx hb dX2_takeSide_13 rfl (lv_at hl 0 rfl) ?_
  exact r_iret cx w h dX2_takeSide_14
-- X2_antLine
theorem wi_X2_antLine_X0 : ∀ w ∈ wsX00, w ∈ wsX2_antLine := by decide +kernel
theorem wi_X2_antLine_X2 : ∀ w ∈ wsX20, w ∈ wsX2_antLine := by decide +kernel
theorem wi_X2_antLine_X3 : ∀ w ∈ wsX30, w ∈ wsX2_antLine := by decide +kernel
abbrev rmX2_antLine : Room := { frames := 4, cells := 0, slots := 0, locals := 82 }
def m_X2_antLine_45 (G : gS) (a0 : Nat)  (M : mS)  : Option (mS × Int32) := o_ck ((0 : Int32) = 0 ∨ (0 : Int32) = 1) (some (M, (0 : Int32)))
def m_X2_antLine_84 (G : gS) (a0 : Nat)  (M : mS)  : Option (mS × Int32) := o_ck ((0 : Int32) = 0 ∨ (0 : Int32) = 1) (some (M, (0 : Int32)))
def m_X2_antLine_133 (G : gS) (a0 : Nat)  (M : mS)  : Option (mS × Int32) := o_ck ((0 : Int32) = 0 ∨ (0 : Int32) = 1) (some (M, (0 : Int32)))
def m_X2_antLine (G : gS) (M : mS) (a0 : Nat) : Option (mS × Int32) := o_cl (m_X2_advance G M a0) (fun M1 r2 => o_cl (m_X2_kind G M1 a0) (fun M4 r5 => (if r5 = (2 : Int32) then o_cl (m_X2_value G M4 a0) (fun M8 r9 => o_cl (m_X2_nameAnt G M8 a0 r9) (fun M11 r12 => o_ck (r12 ∈ gL G ∧ gK G r12 = 0) (o_cl (m_X2_advance G M11 a0) (fun M15 r16 => o_cl (m_X2_take G M15 a0 (206 : Int32)) (fun M18 r19 => (if r19 = 0 then m_X2_antLine_45 G a0 M18 else o_cl (m_X2_kind G M18 a0) (fun M22 r23 => (if r23 = (2 : Int32) then o_rf (gP G a0 3) (fun q26 => o_rf (gP G a0 1) (fun q27 => o_cl (m_X2_knownName G M22 a0 q26 (mI M22 q27 0)) (fun M28 r29 => o_wI M28 r12 0 r29 (fun M31 => o_cl (m_X2_take G M31 a0 (207 : Int32)) (fun M32 r33 => (if r33 = 0 then m_X2_antLine_84 G a0 M32 else o_cl (m_X2_kind G M32 a0) (fun M36 r37 => (if r37 = (3 : Int32) then o_cl (m_X2_rangedNumber G M36 a0 (0 : Int32) (63 : Int32)) (fun M40 r41 => o_cl (m_X2_kind G M40 a0) (fun M43 r44 => (if r44 = (3 : Int32) then o_cl (m_X2_rangedNumber G M43 a0 (0 : Int32) (63 : Int32)) (fun M47 r48 => o_cl (m_X0_moveTo G M47 r12 r41 r48) (fun M50 r51 => o_cl (m_X2_take G M50 a0 (208 : Int32)) (fun M53 r54 => (if r54 = 0 then m_X2_antLine_133 G a0 M53 else o_cl (m_X2_isSide G M53 a0) (fun M57 r58 => (if r58 = 0 then m_X2_antLine_133 G a0 M57 else o_cl (m_X2_takeSide G M57 a0) (fun M61 r62 => o_cl (m_X0_turnTo G M61 r12 r62) (fun M64 r65 => o_ck ((1 : Int32) = 0 ∨ (1 : Int32) = 1) (some (M64, (1 : Int32))))))))))) else o_ck ((0 : Int32) = 0 ∨ (0 : Int32) = 1) (some (M43, (0 : Int32)))))) else m_X2_antLine_84 G a0 M36)))))))) else m_X2_antLine_45 G a0 M22)))))))) else o_ck ((0 : Int32) = 0 ∨ (0 : Int32) = 1) (some (M4, (0 : Int32))))))
set_option maxHeartbeats 4000000 in
set_option maxRecDepth 100000 in
theorem b_X2_antLine_45 {p : Program} {e : Env} {s : State} {m : MethodId} {args : Array Value} {below : List Frame} {meth : Method} {c : Code} {A : Nat → Prop} {l : Launch} {D : va_G} {cy : cyS} {G : gS} (cx : cX p s m args meth c cX2_antLine RX2 3 (some .boolean) wsX2_antLine D cy G A) {k0 n0 : Nat} (hkn : k0 ≤ (rmX2_antLine).cells ∧ n0 ≤ (rmX2_antLine).slots) {M' : mS} {r : Int32} {a0 : Nat} (hL0 : a0 ∈ gL G) (hK0 : gK G a0 = 1)  : ∀ (M : mS) (H : Heap) (locs : List Loc) (ls : Array Slot), m_X2_antLine_45 G a0 M = some (M', r) → wd D cy G M A s.heap H locs → lv_has ls 3 [] → W p l e rmX2_antLine s m args below meth c H locs k0 n0 (MQ below (va_Qi (fun (r' : Int32) (_ : Unit) => r' = r) (fun _ t => wOut D cy G M' t) A) args s k0 n0 A) (F0 m 45 ls []) := by
  obtain ⟨hx, hb, hml, hown, hts, hr, hlocks, hK, hA, hG, hsx⟩ := id cx
  intro M H locs ls h w hl
  unfold m_X2_antLine_45 at h
  refine lv_iconst (v := (0 : Int32)) hx hb dX2_antLine_45 (by decide) ?_
  obtain ⟨z1, h⟩ := x_ck h
  exact r_zret cx w z1 h dX2_antLine_46
set_option maxHeartbeats 4000000 in
set_option maxRecDepth 100000 in
theorem b_X2_antLine_84 {p : Program} {e : Env} {s : State} {m : MethodId} {args : Array Value} {below : List Frame} {meth : Method} {c : Code} {A : Nat → Prop} {l : Launch} {D : va_G} {cy : cyS} {G : gS} (cx : cX p s m args meth c cX2_antLine RX2 3 (some .boolean) wsX2_antLine D cy G A) {k0 n0 : Nat} (hkn : k0 ≤ (rmX2_antLine).cells ∧ n0 ≤ (rmX2_antLine).slots) {M' : mS} {r : Int32} {a0 : Nat} (hL0 : a0 ∈ gL G) (hK0 : gK G a0 = 1)  : ∀ (M : mS) (H : Heap) (locs : List Loc) (ls : Array Slot), m_X2_antLine_84 G a0 M = some (M', r) → wd D cy G M A s.heap H locs → lv_has ls 3 [] → W p l e rmX2_antLine s m args below meth c H locs k0 n0 (MQ below (va_Qi (fun (r' : Int32) (_ : Unit) => r' = r) (fun _ t => wOut D cy G M' t) A) args s k0 n0 A) (F0 m 84 ls []) := by
  obtain ⟨hx, hb, hml, hown, hts, hr, hlocks, hK, hA, hG, hsx⟩ := id cx
  intro M H locs ls h w hl
  unfold m_X2_antLine_84 at h
  refine lv_iconst (v := (0 : Int32)) hx hb dX2_antLine_84 (by decide) ?_
  obtain ⟨z1, h⟩ := x_ck h
  exact r_zret cx w z1 h dX2_antLine_85
set_option maxHeartbeats 4000000 in
set_option maxRecDepth 100000 in
theorem b_X2_antLine_133 {p : Program} {e : Env} {s : State} {m : MethodId} {args : Array Value} {below : List Frame} {meth : Method} {c : Code} {A : Nat → Prop} {l : Launch} {D : va_G} {cy : cyS} {G : gS} (cx : cX p s m args meth c cX2_antLine RX2 3 (some .boolean) wsX2_antLine D cy G A) {k0 n0 : Nat} (hkn : k0 ≤ (rmX2_antLine).cells ∧ n0 ≤ (rmX2_antLine).slots) {M' : mS} {r : Int32} {a0 : Nat} (hL0 : a0 ∈ gL G) (hK0 : gK G a0 = 1)  : ∀ (M : mS) (H : Heap) (locs : List Loc) (ls : Array Slot), m_X2_antLine_133 G a0 M = some (M', r) → wd D cy G M A s.heap H locs → lv_has ls 3 [] → W p l e rmX2_antLine s m args below meth c H locs k0 n0 (MQ below (va_Qi (fun (r' : Int32) (_ : Unit) => r' = r) (fun _ t => wOut D cy G M' t) A) args s k0 n0 A) (F0 m 133 ls []) := by
  obtain ⟨hx, hb, hml, hown, hts, hr, hlocks, hK, hA, hG, hsx⟩ := id cx
  intro M H locs ls h w hl
  unfold m_X2_antLine_133 at h
  refine lv_iconst (v := (0 : Int32)) hx hb dX2_antLine_133 (by decide) ?_
  obtain ⟨z1, h⟩ := x_ck h
  exact r_zret cx w z1 h dX2_antLine_134
set_option maxHeartbeats 4000000 in
set_option maxRecDepth 100000 in
theorem k_X2_antLine {l : Launch} {D : va_G} {cy : cyS} {G : gS} {M M' : mS} {r : Int32} {a0 : Nat} (hG : wt G) (hL0 : a0 ∈ gL G) (hK0 : gK G a0 = 1) (h : m_X2_antLine G M a0 = some (M', r)) : ctI l yX2_antLine wsX2_antLine rmX2_antLine D cy G M [.ref a0] M' r := by
  unfold m_X2_antLine at h
  refine ctI_of (cc := cX2_antLine) (nL := 3) (ret := (some .boolean)) (lv := [(0, .ref a0)]) hG (by decide) rfl ⟨rfl, rfl⟩ (Nat.le_of_ble_eq_true rfl) rfl ?_
  intro p e s m args below meth c A ls cx w hl
  obtain ⟨hx, hb, hml, hown, hts, hr, hlocks, hK, hA, -, hsx⟩ := id cx
  have hkn : 0 ≤ (rmX2_antLine).cells ∧ 0 ≤ (rmX2_antLine).slots := ⟨Nat.zero_le _, Nat.zero_le _⟩
  refine lv_aload_n hx hb dX2_antLine_0 rfl (lv_at hl 0 rfl) ?_
  obtain ⟨M1, r2, y3, h⟩ := x_cl h
  refine r_callVv (As := []) (rest := []) cx w hkn hl.1 (k_X2_advance hG hL0 hK0 y3) (cwV 0 hts gX2_antLine_X2_advance rfl rfl rfl (by decide +kernel) ⟨Nat.le_of_ble_eq_true rfl, Nat.le_of_ble_eq_true rfl⟩) hL0 hK0 (by decide) rfl rfl rfl (Nat.le_of_ble_eq_true rfl) dX2_antLine_1 (fun H locs w => ?_)
  refine lv_aload_n hx hb dX2_antLine_4 rfl (lv_at hl 0 rfl) ?_
  obtain ⟨M4, r5, y6, h⟩ := x_cl h
  refine r_callVi (As := []) (rest := []) cx w hkn hl.1 (k_X2_kind hG hL0 hK0 y6) (cwV 0 hts gX2_antLine_X2_kind rfl rfl rfl (by decide +kernel) ⟨Nat.le_of_ble_eq_true rfl, Nat.le_of_ble_eq_true rfl⟩) hL0 hK0 (by decide) rfl rfl rfl (Nat.le_of_ble_eq_true rfl) dX2_antLine_5 (fun H locs w => ?_)
  refine lv_iconst (v := (2 : Int32)) hx hb dX2_antLine_8 (by decide) ?_
  refine lv_icmp_eq (tgt := 14) hx hb dX2_antLine_9 (by decide) (fun k7 => ?_) (fun k7 => ?_)
  · have h := x_t h k7
    refine lv_aload_n hx hb dX2_antLine_14 rfl (lv_at hl 0 rfl) ?_
    refine lv_aload_n hx hb dX2_antLine_15 rfl (lv_at hl 0 rfl) ?_
    obtain ⟨M8, r9, y10, h⟩ := x_cl h
    refine r_callVl (As := []) (rest := [.ref a0]) cx w hkn hl.1 (k_X2_value hG hL0 hK0 y10) (cwV 0 hts gX2_antLine_X2_value rfl rfl rfl (by decide +kernel) ⟨Nat.le_of_ble_eq_true rfl, Nat.le_of_ble_eq_true rfl⟩) hL0 hK0 (by decide) rfl rfl rfl (Nat.le_of_ble_eq_true rfl) dX2_antLine_16 (fun H locs w => ?_)
    obtain ⟨M11, r12, y13, h⟩ := x_cl h
    refine r_callVr (As := [.long r9]) (rest := []) cx w hkn hl.1 (k_X2_nameAnt hG hL0 hK0 y13) (cwV 1 hts gX2_antLine_X2_nameAnt rfl rfl rfl (by decide +kernel) ⟨Nat.le_of_ble_eq_true rfl, Nat.le_of_ble_eq_true rfl⟩) hL0 hK0 (by decide) rfl rfl rfl (Nat.le_of_ble_eq_true rfl) dX2_antLine_19 (fun H locs w => ?_)
    obtain ⟨⟨hLr12, hKr12⟩, h⟩ := x_ck h
    refine lv_astore_n (lv' := [(1, .ref r12), (0, .ref a0)]) hx hb dX2_antLine_22 rfl hl (by decide) rfl (fun ls hl => ?_)
    refine lv_aload_n hx hb dX2_antLine_23 rfl (lv_at hl 1 rfl) ?_
    obtain ⟨M15, r16, y17, h⟩ := x_cl h
    refine r_callVv (As := []) (rest := []) cx w hkn hl.1 (k_X2_advance hG hL0 hK0 y17) (cwV 0 hts gX2_antLine_X2_advance rfl rfl rfl (by decide +kernel) ⟨Nat.le_of_ble_eq_true rfl, Nat.le_of_ble_eq_true rfl⟩) hL0 hK0 (by decide) rfl rfl rfl (Nat.le_of_ble_eq_true rfl) dX2_antLine_24 (fun H locs w => ?_)
    refine lv_aload_n hx hb dX2_antLine_27 rfl (lv_at hl 1 rfl) ?_
    refine lv_sipush (v := (206 : Int32)) hx hb dX2_antLine_28 (by decide) ?_
    obtain ⟨M18, r19, y20, h⟩ := x_cl h
    refine r_callVi (As := [.int ((206 : Int32))]) (rest := []) cx w hkn hl.1 (k_X2_take hG hL0 hK0 y20) (cwV 1 hts gX2_antLine_X2_take rfl rfl rfl (by decide +kernel) ⟨Nat.le_of_ble_eq_true rfl, Nat.le_of_ble_eq_true rfl⟩) hL0 hK0 (by decide) rfl rfl rfl (Nat.le_of_ble_eq_true rfl) dX2_antLine_31 (fun H locs w => ?_)
    refine lv_if_eq (tgt := 45) hx hb dX2_antLine_34 (by decide) (fun k21 => ?_) (fun k21 => ?_)
    · have h := x_t h k21
      exact b_X2_antLine_45 cx hkn hL0 hK0 M18 H locs ls h w (lv_sub hl [] rfl)
    · have h := x_f h k21
      refine lv_aload_n hx hb dX2_antLine_37 rfl (lv_at hl 1 rfl) ?_
      obtain ⟨M22, r23, y24, h⟩ := x_cl h
      refine r_callVi (As := []) (rest := []) cx w hkn hl.1 (k_X2_kind hG hL0 hK0 y24) (cwV 0 hts gX2_antLine_X2_kind rfl rfl rfl (by decide +kernel) ⟨Nat.le_of_ble_eq_true rfl, Nat.le_of_ble_eq_true rfl⟩) hL0 hK0 (by decide) rfl rfl rfl (Nat.le_of_ble_eq_true rfl) dX2_antLine_38 (fun H locs w => ?_)
      refine lv_iconst (v := (2 : Int32)) hx hb dX2_antLine_41 (by decide) ?_
      refine lv_icmp_eq (tgt := 47) hx hb dX2_antLine_42 (by decide) (fun k25 => ?_) (fun k25 => ?_)
      · have h := x_t h k25
        refine lv_aload_n hx hb dX2_antLine_47 rfl (lv_at hl 0 rfl) ?_
        refine lv_aload_n hx hb dX2_antLine_48 rfl (lv_at hl 1 rfl) ?_
        refine lv_aload_n hx hb dX2_antLine_49 rfl (lv_at hl 1 rfl) ?_
        obtain ⟨q26, eq26, h⟩ := x_rf h
        obtain ⟨hLq26, hKq26⟩ := wt_q hG hL0 hK0 eq26
        have hKq26 : gK G q26 = 13 := hKq26
        refine r_getR (k := 3) cx w hL0 hK0 (by decide) rfl wi_X2_antLine_X2 (by decide) rfl eq26 (List.mem_of_getElem? (i := 1) rfl) dX2_antLine_50 ?_
        refine lv_aload_n hx hb dX2_antLine_53 rfl (lv_at hl 1 rfl) ?_
        obtain ⟨q27, eq27, h⟩ := x_rf h
        obtain ⟨hLq27, hKq27⟩ := wt_q hG hL0 hK0 eq27
        have hKq27 : gK G q27 = 2 := hKq27
        refine r_getR (k := 1) cx w hL0 hK0 (by decide) rfl wi_X2_antLine_X2 (by decide) rfl eq27 (List.mem_of_getElem? (i := 2) rfl) dX2_antLine_54 ?_
        refine r_getI (k := 0) (v := .int (mI M22 q27 0)) cx w hLq27 hKq27 (by decide) rfl wi_X2_antLine_X3 (by decide) rfl (List.mem_of_getElem? (i := 3) rfl) dX2_antLine_57 ?_
        obtain ⟨M28, r29, y30, h⟩ := x_cl h
        refine r_callVi (As := [.ref q26, .int ((mI M22 q27 0))]) (rest := [.ref r12]) cx w hkn hl.1 (k_X2_knownName hG hL0 hK0 hLq26 hKq26 y30) (cwV 2 hts gX2_antLine_X2_knownName rfl rfl rfl (by decide +kernel) ⟨Nat.le_of_ble_eq_true rfl, Nat.le_of_ble_eq_true rfl⟩) hL0 hK0 (by decide) rfl rfl rfl (Nat.le_of_ble_eq_true rfl) dX2_antLine_60 (fun H locs w => ?_)
        obtain ⟨M31, eM31, h⟩ := x_wI h
        refine r_putI (k := 0) (ty := .int) cx w tyX0 tyX0_ok nmX0 hLr12 hKr12 (by decide) rfl wi_X2_antLine_X0 (by decide) rfl rfl rfl rfl st_0_0 (ln_0 _ _ (by decide)) (List.mem_of_getElem? (i := 4) rfl) dX2_antLine_63 eM31 (fun H locs w => ?_)
        refine lv_aload_n hx hb dX2_antLine_66 rfl (lv_at hl 1 rfl) ?_
        refine lv_sipush (v := (207 : Int32)) hx hb dX2_antLine_67 (by decide) ?_
        obtain ⟨M32, r33, y34, h⟩ := x_cl h
        refine r_callVi (As := [.int ((207 : Int32))]) (rest := []) cx w hkn hl.1 (k_X2_take hG hL0 hK0 y34) (cwV 1 hts gX2_antLine_X2_take rfl rfl rfl (by decide +kernel) ⟨Nat.le_of_ble_eq_true rfl, Nat.le_of_ble_eq_true rfl⟩) hL0 hK0 (by decide) rfl rfl rfl (Nat.le_of_ble_eq_true rfl) dX2_antLine_70 (fun H locs w => ?_)
        refine lv_if_eq (tgt := 84) hx hb dX2_antLine_73 (by decide) (fun k35 => ?_) (fun k35 => ?_)
        · have h := x_t h k35
          exact b_X2_antLine_84 cx hkn hL0 hK0 M32 H locs ls h w (lv_sub hl [] rfl)
        · have h := x_f h k35
          refine lv_aload_n hx hb dX2_antLine_76 rfl (lv_at hl 1 rfl) ?_
          obtain ⟨M36, r37, y38, h⟩ := x_cl h
          refine r_callVi (As := []) (rest := []) cx w hkn hl.1 (k_X2_kind hG hL0 hK0 y38) (cwV 0 hts gX2_antLine_X2_kind rfl rfl rfl (by decide +kernel) ⟨Nat.le_of_ble_eq_true rfl, Nat.le_of_ble_eq_true rfl⟩) hL0 hK0 (by decide) rfl rfl rfl (Nat.le_of_ble_eq_true rfl) dX2_antLine_77 (fun H locs w => ?_)
          refine lv_iconst (v := (3 : Int32)) hx hb dX2_antLine_80 (by decide) ?_
          refine lv_icmp_eq (tgt := 86) hx hb dX2_antLine_81 (by decide) (fun k39 => ?_) (fun k39 => ?_)
          · have h := x_t h k39
            refine lv_aload_n hx hb dX2_antLine_86 rfl (lv_at hl 1 rfl) ?_
            refine lv_iconst (v := (0 : Int32)) hx hb dX2_antLine_87 (by decide) ?_
            refine lv_bipush (v := (63 : Int32)) hx hb dX2_antLine_88 (by decide) ?_
            obtain ⟨M40, r41, y42, h⟩ := x_cl h
            refine r_callVi (As := [.int ((0 : Int32)), .int ((63 : Int32))]) (rest := []) cx w hkn hl.1 (k_X2_rangedNumber hG hL0 hK0 y42) (cwV 2 hts gX2_antLine_X2_rangedNumber rfl rfl rfl (by decide +kernel) ⟨Nat.le_of_ble_eq_true rfl, Nat.le_of_ble_eq_true rfl⟩) hL0 hK0 (by decide) rfl rfl rfl (Nat.le_of_ble_eq_true rfl) dX2_antLine_90 (fun H locs w => ?_)
            refine lv_istore_n (lv' := [(2, .int r41), (1, .ref r12), (0, .ref a0)]) hx hb dX2_antLine_93 rfl hl (by decide) rfl (fun ls hl => ?_)
            refine lv_aload_n hx hb dX2_antLine_94 rfl (lv_at hl 2 rfl) ?_
            obtain ⟨M43, r44, y45, h⟩ := x_cl h
            refine r_callVi (As := []) (rest := []) cx w hkn hl.1 (k_X2_kind hG hL0 hK0 y45) (cwV 0 hts gX2_antLine_X2_kind rfl rfl rfl (by decide +kernel) ⟨Nat.le_of_ble_eq_true rfl, Nat.le_of_ble_eq_true rfl⟩) hL0 hK0 (by decide) rfl rfl rfl (Nat.le_of_ble_eq_true rfl) dX2_antLine_95 (fun H locs w => ?_)
            refine lv_iconst (v := (3 : Int32)) hx hb dX2_antLine_98 (by decide) ?_
            refine lv_icmp_eq (tgt := 104) hx hb dX2_antLine_99 (by decide) (fun k46 => ?_) (fun k46 => ?_)
            · have h := x_t h k46
              refine lv_aload_n hx hb dX2_antLine_104 rfl (lv_at hl 1 rfl) ?_
              refine lv_iload_n hx hb dX2_antLine_105 rfl (lv_at hl 0 rfl) ?_
              refine lv_aload_n hx hb dX2_antLine_106 rfl (lv_at hl 2 rfl) ?_
              refine lv_iconst (v := (0 : Int32)) hx hb dX2_antLine_107 (by decide) ?_
              refine lv_bipush (v := (63 : Int32)) hx hb dX2_antLine_108 (by decide) ?_
              obtain ⟨M47, r48, y49, h⟩ := x_cl h
              refine r_callVi (As := [.int ((0 : Int32)), .int ((63 : Int32))]) (rest := [.int r41, .ref r12]) cx w hkn hl.1 (k_X2_rangedNumber hG hL0 hK0 y49) (cwV 2 hts gX2_antLine_X2_rangedNumber rfl rfl rfl (by decide +kernel) ⟨Nat.le_of_ble_eq_true rfl, Nat.le_of_ble_eq_true rfl⟩) hL0 hK0 (by decide) rfl rfl rfl (Nat.le_of_ble_eq_true rfl) dX2_antLine_110 (fun H locs w => ?_)
              obtain ⟨M50, r51, y52, h⟩ := x_cl h
              refine r_callVv (As := [.int r41, .int r48]) (rest := []) cx w hkn hl.1 (k_X0_moveTo hG hLr12 hKr12 y52) (cwV 2 hts gX2_antLine_X0_moveTo rfl rfl rfl (by decide +kernel) ⟨Nat.le_of_ble_eq_true rfl, Nat.le_of_ble_eq_true rfl⟩) hLr12 hKr12 (by decide) rfl rfl rfl (Nat.le_of_ble_eq_true rfl) dX2_antLine_113 (fun H locs w => ?_)
              refine lv_aload_n hx hb dX2_antLine_116 rfl (lv_at hl 2 rfl) ?_
              refine lv_sipush (v := (208 : Int32)) hx hb dX2_antLine_117 (by decide) ?_
              obtain ⟨M53, r54, y55, h⟩ := x_cl h
              refine r_callVi (As := [.int ((208 : Int32))]) (rest := []) cx w hkn hl.1 (k_X2_take hG hL0 hK0 y55) (cwV 1 hts gX2_antLine_X2_take rfl rfl rfl (by decide +kernel) ⟨Nat.le_of_ble_eq_true rfl, Nat.le_of_ble_eq_true rfl⟩) hL0 hK0 (by decide) rfl rfl rfl (Nat.le_of_ble_eq_true rfl) dX2_antLine_120 (fun H locs w => ?_)
              refine lv_if_eq (tgt := 133) hx hb dX2_antLine_123 (by decide) (fun k56 => ?_) (fun k56 => ?_)
              · have h := x_t h k56
                exact b_X2_antLine_133 cx hkn hL0 hK0 M53 H locs ls h w (lv_sub hl [] rfl)
              · have h := x_f h k56
                refine lv_aload_n hx hb dX2_antLine_126 rfl (lv_at hl 2 rfl) ?_
                obtain ⟨M57, r58, y59, h⟩ := x_cl h
                refine r_callVi (As := []) (rest := []) cx w hkn hl.1 (k_X2_isSide hG hL0 hK0 y59) (cwV 0 hts gX2_antLine_X2_isSide rfl rfl rfl (by decide +kernel) ⟨Nat.le_of_ble_eq_true rfl, Nat.le_of_ble_eq_true rfl⟩) hL0 hK0 (by decide) rfl rfl rfl (Nat.le_of_ble_eq_true rfl) dX2_antLine_127 (fun H locs w => ?_)
                refine lv_if_ne (tgt := 135) hx hb dX2_antLine_130 (by decide) (fun k60 => ?_) (fun k60 => ?_)
                · have h := x_f h k60
                  refine lv_aload_n hx hb dX2_antLine_135 rfl (lv_at hl 1 rfl) ?_
                  refine lv_aload_n hx hb dX2_antLine_136 rfl (lv_at hl 2 rfl) ?_
                  obtain ⟨M61, r62, y63, h⟩ := x_cl h
                  refine r_callVi (As := []) (rest := [.ref r12]) cx w hkn hl.1 (k_X2_takeSide hG hL0 hK0 y63) (cwV 0 hts gX2_antLine_X2_takeSide rfl rfl rfl (by decide +kernel) ⟨Nat.le_of_ble_eq_true rfl, Nat.le_of_ble_eq_true rfl⟩) hL0 hK0 (by decide) rfl rfl rfl (Nat.le_of_ble_eq_true rfl) dX2_antLine_137 (fun H locs w => ?_)
                  obtain ⟨M64, r65, y66, h⟩ := x_cl h
                  refine r_callVv (As := [.int r62]) (rest := []) cx w hkn hl.1 (k_X0_turnTo hG hLr12 hKr12 y66) (cwV 1 hts gX2_antLine_X0_turnTo rfl rfl rfl (by decide +kernel) ⟨Nat.le_of_ble_eq_true rfl, Nat.le_of_ble_eq_true rfl⟩) hLr12 hKr12 (by decide) rfl rfl rfl (Nat.le_of_ble_eq_true rfl) dX2_antLine_140 (fun H locs w => ?_)
                  refine lv_iconst (v := (1 : Int32)) hx hb dX2_antLine_143 (by decide) ?_
                  obtain ⟨z67, h⟩ := x_ck h
                  exact r_zret cx w z67 h dX2_antLine_144
                · have h := x_t h k60
                  exact b_X2_antLine_133 cx hkn hL0 hK0 M57 H locs ls h w (lv_sub hl [] rfl)
            · have h := x_f h k46
              refine lv_iconst (v := (0 : Int32)) hx hb dX2_antLine_102 (by decide) ?_
              obtain ⟨z68, h⟩ := x_ck h
              exact r_zret cx w z68 h dX2_antLine_103
          · have h := x_f h k39
            exact b_X2_antLine_84 cx hkn hL0 hK0 M36 H locs ls h w (lv_sub hl [] rfl)
      · have h := x_f h k25
        exact b_X2_antLine_45 cx hkn hL0 hK0 M22 H locs ls h w (lv_sub hl [] rfl)
  · have h := x_f h k7
    refine lv_iconst (v := (0 : Int32)) hx hb dX2_antLine_12 (by decide) ?_
    obtain ⟨z69, h⟩ := x_ck h
    exact r_zret cx w z69 h dX2_antLine_13
-- X2_paintLine
theorem wi_X2_paintLine_X2 : ∀ w ∈ wsX20, w ∈ wsX2_paintLine := by decide +kernel
abbrev rmX2_paintLine : Room := { frames := 2, cells := 0, slots := 0, locals := 45 }
def m_X2_paintLine (G : gS) (M : mS) (a0 : Nat) : Option (mS × Int32) := o_cl (m_X2_advance G M a0) (fun M1 r2 => o_cl (m_X2_kind G M1 a0) (fun M4 r5 => (if r5 = (3 : Int32) then o_cl (m_X2_rangedNumber G M4 a0 (0 : Int32) (63 : Int32)) (fun M8 r9 => o_cl (m_X2_kind G M8 a0) (fun M11 r12 => (if r12 = (3 : Int32) then o_cl (m_X2_rangedNumber G M11 a0 (0 : Int32) (63 : Int32)) (fun M15 r16 => o_cl (m_X2_kind G M15 a0) (fun M18 r19 => (if r19 = (3 : Int32) then o_rf (gP G a0 2) (fun q22 => o_cl (m_X2_rangedNumber G M18 a0 (0 : Int32) (5 : Int32)) (fun M23 r24 => o_cl (m_X8_setStone G M23 q22 ((r16 * (64 : Int32)) + r9) r24) (fun M26 r27 => o_ck ((1 : Int32) = 0 ∨ (1 : Int32) = 1) (some (M26, (1 : Int32)))))) else o_ck ((0 : Int32) = 0 ∨ (0 : Int32) = 1) (some (M18, (0 : Int32)))))) else o_ck ((0 : Int32) = 0 ∨ (0 : Int32) = 1) (some (M11, (0 : Int32)))))) else o_ck ((0 : Int32) = 0 ∨ (0 : Int32) = 1) (some (M4, (0 : Int32))))))
set_option maxHeartbeats 4000000 in
set_option maxRecDepth 100000 in
theorem k_X2_paintLine {l : Launch} {D : va_G} {cy : cyS} {G : gS} {M M' : mS} {r : Int32} {a0 : Nat} (hG : wt G) (hL0 : a0 ∈ gL G) (hK0 : gK G a0 = 1) (h : m_X2_paintLine G M a0 = some (M', r)) : ctI l yX2_paintLine wsX2_paintLine rmX2_paintLine D cy G M [.ref a0] M' r := by
  unfold m_X2_paintLine at h
  refine ctI_of (cc := cX2_paintLine) (nL := 3) (ret := (some .boolean)) (lv := [(0, .ref a0)]) hG (by decide) rfl ⟨rfl, rfl⟩ (Nat.le_of_ble_eq_true rfl) rfl ?_
  intro p e s m args below meth c A ls cx w hl
  obtain ⟨hx, hb, hml, hown, hts, hr, hlocks, hK, hA, -, hsx⟩ := id cx
  have hkn : 0 ≤ (rmX2_paintLine).cells ∧ 0 ≤ (rmX2_paintLine).slots := ⟨Nat.zero_le _, Nat.zero_le _⟩
  refine lv_aload_n hx hb dX2_paintLine_0 rfl (lv_at hl 0 rfl) ?_
  obtain ⟨M1, r2, y3, h⟩ := x_cl h
  refine r_callVv (As := []) (rest := []) cx w hkn hl.1 (k_X2_advance hG hL0 hK0 y3) (cwV 0 hts gX2_paintLine_X2_advance rfl rfl rfl (by decide +kernel) ⟨Nat.le_of_ble_eq_true rfl, Nat.le_of_ble_eq_true rfl⟩) hL0 hK0 (by decide) rfl rfl rfl (Nat.le_of_ble_eq_true rfl) dX2_paintLine_1 (fun H locs w => ?_)
  refine lv_aload_n hx hb dX2_paintLine_4 rfl (lv_at hl 0 rfl) ?_
  obtain ⟨M4, r5, y6, h⟩ := x_cl h
  refine r_callVi (As := []) (rest := []) cx w hkn hl.1 (k_X2_kind hG hL0 hK0 y6) (cwV 0 hts gX2_paintLine_X2_kind rfl rfl rfl (by decide +kernel) ⟨Nat.le_of_ble_eq_true rfl, Nat.le_of_ble_eq_true rfl⟩) hL0 hK0 (by decide) rfl rfl rfl (Nat.le_of_ble_eq_true rfl) dX2_paintLine_5 (fun H locs w => ?_)
  refine lv_iconst (v := (3 : Int32)) hx hb dX2_paintLine_8 (by decide) ?_
  refine lv_icmp_eq (tgt := 14) hx hb dX2_paintLine_9 (by decide) (fun k7 => ?_) (fun k7 => ?_)
  · have h := x_t h k7
    refine lv_aload_n hx hb dX2_paintLine_14 rfl (lv_at hl 0 rfl) ?_
    refine lv_iconst (v := (0 : Int32)) hx hb dX2_paintLine_15 (by decide) ?_
    refine lv_bipush (v := (63 : Int32)) hx hb dX2_paintLine_16 (by decide) ?_
    obtain ⟨M8, r9, y10, h⟩ := x_cl h
    refine r_callVi (As := [.int ((0 : Int32)), .int ((63 : Int32))]) (rest := []) cx w hkn hl.1 (k_X2_rangedNumber hG hL0 hK0 y10) (cwV 2 hts gX2_paintLine_X2_rangedNumber rfl rfl rfl (by decide +kernel) ⟨Nat.le_of_ble_eq_true rfl, Nat.le_of_ble_eq_true rfl⟩) hL0 hK0 (by decide) rfl rfl rfl (Nat.le_of_ble_eq_true rfl) dX2_paintLine_18 (fun H locs w => ?_)
    refine lv_istore_n (lv' := [(1, .int r9), (0, .ref a0)]) hx hb dX2_paintLine_21 rfl hl (by decide) rfl (fun ls hl => ?_)
    refine lv_aload_n hx hb dX2_paintLine_22 rfl (lv_at hl 1 rfl) ?_
    obtain ⟨M11, r12, y13, h⟩ := x_cl h
    refine r_callVi (As := []) (rest := []) cx w hkn hl.1 (k_X2_kind hG hL0 hK0 y13) (cwV 0 hts gX2_paintLine_X2_kind rfl rfl rfl (by decide +kernel) ⟨Nat.le_of_ble_eq_true rfl, Nat.le_of_ble_eq_true rfl⟩) hL0 hK0 (by decide) rfl rfl rfl (Nat.le_of_ble_eq_true rfl) dX2_paintLine_23 (fun H locs w => ?_)
    refine lv_iconst (v := (3 : Int32)) hx hb dX2_paintLine_26 (by decide) ?_
    refine lv_icmp_eq (tgt := 32) hx hb dX2_paintLine_27 (by decide) (fun k14 => ?_) (fun k14 => ?_)
    · have h := x_t h k14
      refine lv_aload_n hx hb dX2_paintLine_32 rfl (lv_at hl 1 rfl) ?_
      refine lv_iconst (v := (0 : Int32)) hx hb dX2_paintLine_33 (by decide) ?_
      refine lv_bipush (v := (63 : Int32)) hx hb dX2_paintLine_34 (by decide) ?_
      obtain ⟨M15, r16, y17, h⟩ := x_cl h
      refine r_callVi (As := [.int ((0 : Int32)), .int ((63 : Int32))]) (rest := []) cx w hkn hl.1 (k_X2_rangedNumber hG hL0 hK0 y17) (cwV 2 hts gX2_paintLine_X2_rangedNumber rfl rfl rfl (by decide +kernel) ⟨Nat.le_of_ble_eq_true rfl, Nat.le_of_ble_eq_true rfl⟩) hL0 hK0 (by decide) rfl rfl rfl (Nat.le_of_ble_eq_true rfl) dX2_paintLine_36 (fun H locs w => ?_)
      refine lv_istore_n (lv' := [(2, .int r16), (1, .int r9), (0, .ref a0)]) hx hb dX2_paintLine_39 rfl hl (by decide) rfl (fun ls hl => ?_)
      refine lv_aload_n hx hb dX2_paintLine_40 rfl (lv_at hl 2 rfl) ?_
      obtain ⟨M18, r19, y20, h⟩ := x_cl h
      refine r_callVi (As := []) (rest := []) cx w hkn hl.1 (k_X2_kind hG hL0 hK0 y20) (cwV 0 hts gX2_paintLine_X2_kind rfl rfl rfl (by decide +kernel) ⟨Nat.le_of_ble_eq_true rfl, Nat.le_of_ble_eq_true rfl⟩) hL0 hK0 (by decide) rfl rfl rfl (Nat.le_of_ble_eq_true rfl) dX2_paintLine_41 (fun H locs w => ?_)
      refine lv_iconst (v := (3 : Int32)) hx hb dX2_paintLine_44 (by decide) ?_
      refine lv_icmp_eq (tgt := 50) hx hb dX2_paintLine_45 (by decide) (fun k21 => ?_) (fun k21 => ?_)
      · have h := x_t h k21
        refine lv_aload_n hx hb dX2_paintLine_50 rfl (lv_at hl 2 rfl) ?_
        obtain ⟨q22, eq22, h⟩ := x_rf h
        obtain ⟨hLq22, hKq22⟩ := wt_q hG hL0 hK0 eq22
        have hKq22 : gK G q22 = 7 := hKq22
        refine r_getR (k := 2) cx w hL0 hK0 (by decide) rfl wi_X2_paintLine_X2 (by decide) rfl eq22 (List.mem_of_getElem? (i := 1) rfl) dX2_paintLine_51 ?_
        refine lv_iload_n hx hb dX2_paintLine_54 rfl (lv_at hl 0 rfl) ?_
        refine lv_bipush (v := (64 : Int32)) hx hb dX2_paintLine_55 (by decide) ?_
        refine lv_imul hx hb dX2_paintLine_57 ?_
        refine lv_iload_n hx hb dX2_paintLine_58 rfl (lv_at hl 1 rfl) ?_
        refine lv_iadd hx hb dX2_paintLine_59 ?_
        refine lv_aload_n hx hb dX2_paintLine_60 rfl (lv_at hl 2 rfl) ?_
        refine lv_iconst (v := (0 : Int32)) hx hb dX2_paintLine_61 (by decide) ?_
        refine lv_iconst (v := (5 : Int32)) hx hb dX2_paintLine_62 (by decide) ?_
        obtain ⟨M23, r24, y25, h⟩ := x_cl h
        refine r_callVi (As := [.int ((0 : Int32)), .int ((5 : Int32))]) (rest := [.int (((r16 * (64 : Int32)) + r9)), .ref q22]) cx w hkn hl.1 (k_X2_rangedNumber hG hL0 hK0 y25) (cwV 2 hts gX2_paintLine_X2_rangedNumber rfl rfl rfl (by decide +kernel) ⟨Nat.le_of_ble_eq_true rfl, Nat.le_of_ble_eq_true rfl⟩) hL0 hK0 (by decide) rfl rfl rfl (Nat.le_of_ble_eq_true rfl) dX2_paintLine_63 (fun H locs w => ?_)
        obtain ⟨M26, r27, y28, h⟩ := x_cl h
        refine r_callVv (As := [.int (((r16 * (64 : Int32)) + r9)), .int r24]) (rest := []) cx w hkn hl.1 (k_X8_setStone hG hLq22 hKq22 y28) (cwV 2 hts gX2_paintLine_X8_setStone rfl rfl rfl (by decide +kernel) ⟨Nat.le_of_ble_eq_true rfl, Nat.le_of_ble_eq_true rfl⟩) hLq22 hKq22 (by decide) rfl rfl rfl (Nat.le_of_ble_eq_true rfl) dX2_paintLine_66 (fun H locs w => ?_)
        refine lv_iconst (v := (1 : Int32)) hx hb dX2_paintLine_69 (by decide) ?_
        obtain ⟨z29, h⟩ := x_ck h
        exact r_zret cx w z29 h dX2_paintLine_70
      · have h := x_f h k21
        refine lv_iconst (v := (0 : Int32)) hx hb dX2_paintLine_48 (by decide) ?_
        obtain ⟨z30, h⟩ := x_ck h
        exact r_zret cx w z30 h dX2_paintLine_49
    · have h := x_f h k14
      refine lv_iconst (v := (0 : Int32)) hx hb dX2_paintLine_30 (by decide) ?_
      obtain ⟨z31, h⟩ := x_ck h
      exact r_zret cx w z31 h dX2_paintLine_31
  · have h := x_f h k7
    refine lv_iconst (v := (0 : Int32)) hx hb dX2_paintLine_12 (by decide) ?_
    obtain ⟨z32, h⟩ := x_ck h
    exact r_zret cx w z32 h dX2_paintLine_13
-- X2_takeOrderWord
theorem wi_X2_takeOrderWord_X2 : ∀ w ∈ wsX20, w ∈ wsX2_takeOrderWord := by decide +kernel
abbrev rmX2_takeOrderWord : Room := { frames := 1, cells := 0, slots := 0, locals := 21 }
def m_X2_takeOrderWord_19 (G : gS) (a0 : Nat)  (M : mS)  : Option (mS × Unit) := o_cl (m_X2_advance G M a0) (fun M1 r2 => some (M1, ()))
def m_X2_takeOrderWord (G : gS) (M : mS) (a0 : Nat) : Option (mS × Unit) := o_rf (gP G a0 1) (fun q1 => o_cl (m_X2_kind G M a0) (fun M2 r3 => o_cl (m_X3_beginOrder G M2 q1 r3) (fun M5 r6 => (if r6 = 0 then o_cl (m_X2_complain G M5 a0 (4 : Int32)) (fun M9 r10 => m_X2_takeOrderWord_19 G a0 M9) else m_X2_takeOrderWord_19 G a0 M5))))
set_option maxHeartbeats 4000000 in
set_option maxRecDepth 100000 in
theorem b_X2_takeOrderWord_19 {p : Program} {e : Env} {s : State} {m : MethodId} {args : Array Value} {below : List Frame} {meth : Method} {c : Code} {A : Nat → Prop} {l : Launch} {D : va_G} {cy : cyS} {G : gS} (cx : cX p s m args meth c cX2_takeOrderWord RX2 1 none wsX2_takeOrderWord D cy G A) {k0 n0 : Nat} (hkn : k0 ≤ (rmX2_takeOrderWord).cells ∧ n0 ≤ (rmX2_takeOrderWord).slots) {M' : mS} {a0 : Nat} (hL0 : a0 ∈ gL G) (hK0 : gK G a0 = 1)  : ∀ (M : mS) (H : Heap) (locs : List Loc) (ls : Array Slot), m_X2_takeOrderWord_19 G a0 M = some (M', ()) → wd D cy G M A s.heap H locs → lv_has ls 1 [(0, .ref a0)] → W p l e rmX2_takeOrderWord s m args below meth c H locs k0 n0 (MQ below (va_Qv (fun (_ : Unit) => True) (fun _ t => wOut D cy G M' t) A) args s k0 n0 A) (F0 m 19 ls []) := by
  obtain ⟨hx, hb, hml, hown, hts, hr, hlocks, hK, hA, hG, hsx⟩ := id cx
  intro M H locs ls h w hl
  unfold m_X2_takeOrderWord_19 at h
  refine lv_aload_n hx hb dX2_takeOrderWord_19 rfl (lv_at hl 0 rfl) ?_
  obtain ⟨M1, r2, y3, h⟩ := x_cl h
  refine r_callVv (As := []) (rest := []) cx w hkn hl.1 (k_X2_advance hG hL0 hK0 y3) (cwV 0 hts gX2_takeOrderWord_X2_advance rfl rfl rfl (by decide +kernel) ⟨Nat.le_of_ble_eq_true rfl, Nat.le_of_ble_eq_true rfl⟩) hL0 hK0 (by decide) rfl rfl rfl (Nat.le_of_ble_eq_true rfl) dX2_takeOrderWord_20 (fun H locs w => ?_)
  exact r_vret cx w h dX2_takeOrderWord_23
set_option maxHeartbeats 4000000 in
set_option maxRecDepth 100000 in
theorem k_X2_takeOrderWord {l : Launch} {D : va_G} {cy : cyS} {G : gS} {M M' : mS} {a0 : Nat} (hG : wt G) (hL0 : a0 ∈ gL G) (hK0 : gK G a0 = 1) (h : m_X2_takeOrderWord G M a0 = some (M', ())) : ctV l yX2_takeOrderWord wsX2_takeOrderWord rmX2_takeOrderWord D cy G M [.ref a0] M' := by
  unfold m_X2_takeOrderWord at h
  refine ctV_of (cc := cX2_takeOrderWord) (nL := 1) (ret := none) (lv := [(0, .ref a0)]) hG (by decide) rfl ⟨rfl, rfl⟩ (Nat.le_of_ble_eq_true rfl) rfl ?_
  intro p e s m args below meth c A ls cx w hl
  obtain ⟨hx, hb, hml, hown, hts, hr, hlocks, hK, hA, -, hsx⟩ := id cx
  have hkn : 0 ≤ (rmX2_takeOrderWord).cells ∧ 0 ≤ (rmX2_takeOrderWord).slots := ⟨Nat.zero_le _, Nat.zero_le _⟩
  refine lv_aload_n hx hb dX2_takeOrderWord_0 rfl (lv_at hl 0 rfl) ?_
  obtain ⟨q1, eq1, h⟩ := x_rf h
  obtain ⟨hLq1, hKq1⟩ := wt_q hG hL0 hK0 eq1
  have hKq1 : gK G q1 = 2 := hKq1
  refine r_getR (k := 1) cx w hL0 hK0 (by decide) rfl wi_X2_takeOrderWord_X2 (by decide) rfl eq1 (List.mem_of_getElem? (i := 1) rfl) dX2_takeOrderWord_1 ?_
  refine lv_aload_n hx hb dX2_takeOrderWord_4 rfl (lv_at hl 0 rfl) ?_
  obtain ⟨M2, r3, y4, h⟩ := x_cl h
  refine r_callVi (As := []) (rest := [.ref q1]) cx w hkn hl.1 (k_X2_kind hG hL0 hK0 y4) (cwV 0 hts gX2_takeOrderWord_X2_kind rfl rfl rfl (by decide +kernel) ⟨Nat.le_of_ble_eq_true rfl, Nat.le_of_ble_eq_true rfl⟩) hL0 hK0 (by decide) rfl rfl rfl (Nat.le_of_ble_eq_true rfl) dX2_takeOrderWord_5 (fun H locs w => ?_)
  obtain ⟨M5, r6, y7, h⟩ := x_cl h
  refine r_callVi (As := [.int r3]) (rest := []) cx w hkn hl.1 (k_X3_beginOrder hG hLq1 hKq1 y7) (cwV 1 hts gX2_takeOrderWord_X3_beginOrder rfl rfl rfl (by decide +kernel) ⟨Nat.le_of_ble_eq_true rfl, Nat.le_of_ble_eq_true rfl⟩) hLq1 hKq1 (by decide) rfl rfl rfl (Nat.le_of_ble_eq_true rfl) dX2_takeOrderWord_8 (fun H locs w => ?_)
  refine lv_if_ne (tgt := 19) hx hb dX2_takeOrderWord_11 (by decide) (fun k8 => ?_) (fun k8 => ?_)
  · have h := x_f h k8
    exact b_X2_takeOrderWord_19 cx hkn hL0 hK0 M5 H locs ls h w (lv_sub hl [0] rfl)
  · have h := x_t h k8
    refine lv_aload_n hx hb dX2_takeOrderWord_14 rfl (lv_at hl 0 rfl) ?_
    refine lv_iconst (v := (4 : Int32)) hx hb dX2_takeOrderWord_15 (by decide) ?_
    obtain ⟨M9, r10, y11, h⟩ := x_cl h
    refine r_callVv (As := [.int ((4 : Int32))]) (rest := []) cx w hkn hl.1 (k_X2_complain hG hL0 hK0 y11) (cwV 1 hts gX2_takeOrderWord_X2_complain rfl rfl rfl (by decide +kernel) ⟨Nat.le_of_ble_eq_true rfl, Nat.le_of_ble_eq_true rfl⟩) hL0 hK0 (by decide) rfl rfl rfl (Nat.le_of_ble_eq_true rfl) dX2_takeOrderWord_16 (fun H locs w => ?_)
    exact b_X2_takeOrderWord_19 cx hkn hL0 hK0 M9 H locs ls h w (lv_sub hl [0] rfl)
-- X2_antOperation
theorem wi_X2_antOperation_X2 : ∀ w ∈ wsX20, w ∈ wsX2_antOperation := by decide +kernel
theorem wi_X2_antOperation_X8 : ∀ w ∈ wsX80, w ∈ wsX2_antOperation := by decide +kernel
abbrev rmX2_antOperation : Room := { frames := 2, cells := 0, slots := 0, locals := 47 }
def m_X2_antOperation (G : gS) (M : mS) (a0 : Nat) : Option (mS × Int32) := o_cl (m_X2_kind G M a0) (fun M1 r2 => o_cl (m_X2_advance G M1 a0) (fun M4 r5 => o_cl (m_X2_kind G M4 a0) (fun M7 r8 => (if r8 = (2 : Int32) then o_rf (gP G a0 1) (fun q11 => o_rf (gP G a0 4) (fun q12 => o_rf (gP G a0 2) (fun q13 => o_cl (m_X2_knownName G M7 a0 q12 (mI M7 q13 4)) (fun M14 r15 => o_cl (m_X3_addOperation G M14 q11 r2 r15) (fun M17 r18 => o_ck ((1 : Int32) = 0 ∨ (1 : Int32) = 1) (some (M17, (1 : Int32)))))))) else o_ck ((0 : Int32) = 0 ∨ (0 : Int32) = 1) (some (M7, (0 : Int32)))))))
set_option maxHeartbeats 4000000 in
set_option maxRecDepth 100000 in
theorem k_X2_antOperation {l : Launch} {D : va_G} {cy : cyS} {G : gS} {M M' : mS} {r : Int32} {a0 : Nat} (hG : wt G) (hL0 : a0 ∈ gL G) (hK0 : gK G a0 = 1) (h : m_X2_antOperation G M a0 = some (M', r)) : ctI l yX2_antOperation wsX2_antOperation rmX2_antOperation D cy G M [.ref a0] M' r := by
  unfold m_X2_antOperation at h
  refine ctI_of (cc := cX2_antOperation) (nL := 2) (ret := (some .boolean)) (lv := [(0, .ref a0)]) hG (by decide) rfl ⟨rfl, rfl⟩ (Nat.le_of_ble_eq_true rfl) rfl ?_
  intro p e s m args below meth c A ls cx w hl
  obtain ⟨hx, hb, hml, hown, hts, hr, hlocks, hK, hA, -, hsx⟩ := id cx
  have hkn : 0 ≤ (rmX2_antOperation).cells ∧ 0 ≤ (rmX2_antOperation).slots := ⟨Nat.zero_le _, Nat.zero_le _⟩
  refine lv_aload_n hx hb dX2_antOperation_0 rfl (lv_at hl 0 rfl) ?_
  obtain ⟨M1, r2, y3, h⟩ := x_cl h
  refine r_callVi (As := []) (rest := []) cx w hkn hl.1 (k_X2_kind hG hL0 hK0 y3) (cwV 0 hts gX2_antOperation_X2_kind rfl rfl rfl (by decide +kernel) ⟨Nat.le_of_ble_eq_true rfl, Nat.le_of_ble_eq_true rfl⟩) hL0 hK0 (by decide) rfl rfl rfl (Nat.le_of_ble_eq_true rfl) dX2_antOperation_1 (fun H locs w => ?_)
  refine lv_istore_n (lv' := [(1, .int r2), (0, .ref a0)]) hx hb dX2_antOperation_4 rfl hl (by decide) rfl (fun ls hl => ?_)
  refine lv_aload_n hx hb dX2_antOperation_5 rfl (lv_at hl 1 rfl) ?_
  obtain ⟨M4, r5, y6, h⟩ := x_cl h
  refine r_callVv (As := []) (rest := []) cx w hkn hl.1 (k_X2_advance hG hL0 hK0 y6) (cwV 0 hts gX2_antOperation_X2_advance rfl rfl rfl (by decide +kernel) ⟨Nat.le_of_ble_eq_true rfl, Nat.le_of_ble_eq_true rfl⟩) hL0 hK0 (by decide) rfl rfl rfl (Nat.le_of_ble_eq_true rfl) dX2_antOperation_6 (fun H locs w => ?_)
  refine lv_aload_n hx hb dX2_antOperation_9 rfl (lv_at hl 1 rfl) ?_
  obtain ⟨M7, r8, y9, h⟩ := x_cl h
  refine r_callVi (As := []) (rest := []) cx w hkn hl.1 (k_X2_kind hG hL0 hK0 y9) (cwV 0 hts gX2_antOperation_X2_kind rfl rfl rfl (by decide +kernel) ⟨Nat.le_of_ble_eq_true rfl, Nat.le_of_ble_eq_true rfl⟩) hL0 hK0 (by decide) rfl rfl rfl (Nat.le_of_ble_eq_true rfl) dX2_antOperation_10 (fun H locs w => ?_)
  refine lv_iconst (v := (2 : Int32)) hx hb dX2_antOperation_13 (by decide) ?_
  refine lv_icmp_eq (tgt := 19) hx hb dX2_antOperation_14 (by decide) (fun k10 => ?_) (fun k10 => ?_)
  · have h := x_t h k10
    refine lv_aload_n hx hb dX2_antOperation_19 rfl (lv_at hl 1 rfl) ?_
    obtain ⟨q11, eq11, h⟩ := x_rf h
    obtain ⟨hLq11, hKq11⟩ := wt_q hG hL0 hK0 eq11
    have hKq11 : gK G q11 = 2 := hKq11
    refine r_getR (k := 1) cx w hL0 hK0 (by decide) rfl wi_X2_antOperation_X2 (by decide) rfl eq11 (List.mem_of_getElem? (i := 1) rfl) dX2_antOperation_20 ?_
    refine lv_iload_n hx hb dX2_antOperation_23 rfl (lv_at hl 0 rfl) ?_
    refine lv_aload_n hx hb dX2_antOperation_24 rfl (lv_at hl 1 rfl) ?_
    refine lv_aload_n hx hb dX2_antOperation_25 rfl (lv_at hl 1 rfl) ?_
    obtain ⟨q12, eq12, h⟩ := x_rf h
    obtain ⟨hLq12, hKq12⟩ := wt_q hG hL0 hK0 eq12
    have hKq12 : gK G q12 = 13 := hKq12
    refine r_getR (k := 4) cx w hL0 hK0 (by decide) rfl wi_X2_antOperation_X2 (by decide) rfl eq12 (List.mem_of_getElem? (i := 2) rfl) dX2_antOperation_26 ?_
    refine lv_aload_n hx hb dX2_antOperation_29 rfl (lv_at hl 1 rfl) ?_
    obtain ⟨q13, eq13, h⟩ := x_rf h
    obtain ⟨hLq13, hKq13⟩ := wt_q hG hL0 hK0 eq13
    have hKq13 : gK G q13 = 7 := hKq13
    refine r_getR (k := 2) cx w hL0 hK0 (by decide) rfl wi_X2_antOperation_X2 (by decide) rfl eq13 (List.mem_of_getElem? (i := 3) rfl) dX2_antOperation_30 ?_
    refine r_getI (k := 4) (v := .int (mI M7 q13 4)) cx w hLq13 hKq13 (by decide) rfl wi_X2_antOperation_X8 (by decide) rfl (List.mem_of_getElem? (i := 4) rfl) dX2_antOperation_33 ?_
    obtain ⟨M14, r15, y16, h⟩ := x_cl h
    refine r_callVi (As := [.ref q12, .int ((mI M7 q13 4))]) (rest := [.int r2, .ref q11]) cx w hkn hl.1 (k_X2_knownName hG hL0 hK0 hLq12 hKq12 y16) (cwV 2 hts gX2_antOperation_X2_knownName rfl rfl rfl (by decide +kernel) ⟨Nat.le_of_ble_eq_true rfl, Nat.le_of_ble_eq_true rfl⟩) hL0 hK0 (by decide) rfl rfl rfl (Nat.le_of_ble_eq_true rfl) dX2_antOperation_36 (fun H locs w => ?_)
    obtain ⟨M17, r18, y19, h⟩ := x_cl h
    refine r_callVv (As := [.int r2, .int r15]) (rest := []) cx w hkn hl.1 (k_X3_addOperation hG hLq11 hKq11 y19) (cwV 2 hts gX2_antOperation_X3_addOperation rfl rfl rfl (by decide +kernel) ⟨Nat.le_of_ble_eq_true rfl, Nat.le_of_ble_eq_true rfl⟩) hLq11 hKq11 (by decide) rfl rfl rfl (Nat.le_of_ble_eq_true rfl) dX2_antOperation_39 (fun H locs w => ?_)
    refine lv_iconst (v := (1 : Int32)) hx hb dX2_antOperation_42 (by decide) ?_
    obtain ⟨z20, h⟩ := x_ck h
    exact r_zret cx w z20 h dX2_antOperation_43
  · have h := x_f h k10
    refine lv_iconst (v := (0 : Int32)) hx hb dX2_antOperation_17 (by decide) ?_
    obtain ⟨z21, h⟩ := x_ck h
    exact r_zret cx w z21 h dX2_antOperation_18
-- a group that calls itself: X2_sum X2_product X2_factor X2_negatedFactor X2_group X2_choice
abbrev RM1 (n : Nat) : Room := { frames := n + 3, cells := 0, slots := 0, locals := 60 * n + 68 }
theorem rm_up1 {n mL : Nat} (h : mL ≤ 41) : (RM1 n).frames + 1 ≤ (RM1 (n + 1)).frames ∧ 8 + (mL + 11) + (RM1 n).locals ≤ (RM1 (n + 1)).locals := ⟨by show n + 3 + 1 ≤ n + 1 + 3; omega, by show 8 + (mL + 11) + (60 * n + 68) ≤ 60 * (n + 1) + 68; omega⟩
theorem rm_lo1 {n f lo mL : Nat} (h1 : f + 1 ≤ 3) (h2 : 8 + (mL + 11) + lo ≤ 68) : f + 1 ≤ (RM1 (n + 1)).frames ∧ 8 + (mL + 11) + lo ≤ (RM1 (n + 1)).locals := ⟨by show f + 1 ≤ n + 1 + 3; omega, by show 8 + (mL + 11) + lo ≤ 60 * (n + 1) + 68; omega⟩
def SC1 (l : Launch) (D : va_G) (cy : cyS) (G : gS) (a : Nat) (rm : Room) (R : Nat → mS → Int32 → Int32 → Option (mS × Int32)) : Prop := (∀ (M : mS) (x y : Int32) (M' : mS) (r : Int32), R 0 M x y = some (M', r) → ctI l yX2_sum wsX2_sum rm D cy G M [.ref a, .int x] M' r) ∧ (∀ (M : mS) (x y : Int32) (M' : mS) (r : Int32), R 1 M x y = some (M', r) → ctI l yX2_product wsX2_product rm D cy G M [.ref a, .int x] M' r) ∧ (∀ (M : mS) (x y : Int32) (M' : mS) (r : Int32), R 2 M x y = some (M', r) → ctI l yX2_factor wsX2_factor rm D cy G M [.ref a, .int x] M' r) ∧ (∀ (M : mS) (x y : Int32) (M' : mS) (r : Int32), R 3 M x y = some (M', r) → ctI l yX2_negatedFactor wsX2_negatedFactor rm D cy G M [.ref a, .int x] M' r) ∧ (∀ (M : mS) (x y : Int32) (M' : mS) (r : Int32), R 4 M x y = some (M', r) → ctI l yX2_group wsX2_group rm D cy G M [.ref a, .int x, .int y] M' r) ∧ (∀ (M : mS) (x y : Int32) (M' : mS) (r : Int32), R 5 M x y = some (M', r) → ctI l yX2_choice wsX2_choice rm D cy G M [.ref a, .int x] M' r)
theorem wi_X2_sum_X2 : ∀ w ∈ wsX20, w ∈ wsX2_sum := by decide +kernel
theorem wi_X2_product_X2 : ∀ w ∈ wsX20, w ∈ wsX2_product := by decide +kernel
theorem wi_X2_factor_X2 : ∀ w ∈ wsX20, w ∈ wsX2_factor := by decide +kernel
theorem wi_X2_negatedFactor_X2 : ∀ w ∈ wsX20, w ∈ wsX2_negatedFactor := by decide +kernel
theorem wi_X2_group_X2 : ∀ w ∈ wsX20, w ∈ wsX2_group := by decide +kernel
theorem wi_X2_choice_X2 : ∀ w ∈ wsX20, w ∈ wsX2_choice := by decide +kernel
def q_X2_sum_69 (G : gS) (R : Nat → mS → Int32 → Int32 → Option (mS × Int32)) (a0 : Nat) (c1 : Int32)  (M : mS) (v2 : Int32) : Option (mS × Int32) := o_ck (v2 = 0 ∨ v2 = 1) (some (M, v2))
def q_X2_sum_37 (G : gS) (R : Nat → mS → Int32 → Int32 → Option (mS × Int32)) (a0 : Nat) (c1 : Int32) (kb8 : mS → Int32 → Int32 → Option (mS × Int32)) (M : mS) (v3 : Int32) : Option (mS × Int32) := o_cl (m_X2_kind G M a0) (fun M1 r2 => o_cl (m_X2_advance G M1 a0) (fun M4 r5 => o_cl (R 1 M4 c1 (0 : Int32)) (fun M7 r8 => o_rf (gP G a0 1) (fun q10 => o_cl (m_X3_addOperation G M7 q10 r2 (0 : Int32)) (fun M11 r12 => o_bd (v3 + 1 : Int32) (fun x14 => kb8 M11 r8 x14))))))
def q_X2_sum_8 (G : gS) (R : Nat → mS → Int32 → Int32 → Option (mS × Int32)) (a0 : Nat) (c1 : Int32)  : Nat → mS → Int32 → Int32 → Option (mS × Int32)
  | 0, _, _, _ => none
  | n + 1, M, v2, v3 => (if (400 : Int32) ≤ v3 then q_X2_sum_69 G R a0 c1 M v2 else (if v2 = 0 then q_X2_sum_69 G R a0 c1 M v2 else o_cl (m_X2_kind G M a0) (fun M3 r4 => (if r4 = (43 : Int32) then q_X2_sum_37 G R a0 c1 (fun M v2 v3 => q_X2_sum_8 G R a0 c1 n M v2 v3) M3 v3 else o_cl (m_X2_kind G M3 a0) (fun M7 r8 => (if r8 = (45 : Int32) then q_X2_sum_37 G R a0 c1 (fun M v2 v3 => q_X2_sum_8 G R a0 c1 n M v2 v3) M7 v3 else q_X2_sum_69 G R a0 c1 M7 v2))))))
def q_X2_sum (G : gS) (R : Nat → mS → Int32 → Int32 → Option (mS × Int32)) (M : mS) (a0 : Nat) (c1 : Int32) : Option (mS × Int32) := o_cl (R 1 M c1 (0 : Int32)) (fun M1 r2 => q_X2_sum_8 G R a0 c1 fu M1 r2 ((0 : Int32)))
def q_X2_product_69 (G : gS) (R : Nat → mS → Int32 → Int32 → Option (mS × Int32)) (a0 : Nat) (c1 : Int32)  (M : mS) (v2 : Int32) : Option (mS × Int32) := o_ck (v2 = 0 ∨ v2 = 1) (some (M, v2))
def q_X2_product_37 (G : gS) (R : Nat → mS → Int32 → Int32 → Option (mS × Int32)) (a0 : Nat) (c1 : Int32) (kb8 : mS → Int32 → Int32 → Option (mS × Int32)) (M : mS) (v3 : Int32) : Option (mS × Int32) := o_cl (m_X2_kind G M a0) (fun M1 r2 => o_cl (m_X2_advance G M1 a0) (fun M4 r5 => o_cl (R 2 M4 c1 (0 : Int32)) (fun M7 r8 => o_rf (gP G a0 1) (fun q10 => o_cl (m_X3_addOperation G M7 q10 r2 (0 : Int32)) (fun M11 r12 => o_bd (v3 + 1 : Int32) (fun x14 => kb8 M11 r8 x14))))))
def q_X2_product_8 (G : gS) (R : Nat → mS → Int32 → Int32 → Option (mS × Int32)) (a0 : Nat) (c1 : Int32)  : Nat → mS → Int32 → Int32 → Option (mS × Int32)
  | 0, _, _, _ => none
  | n + 1, M, v2, v3 => (if (400 : Int32) ≤ v3 then q_X2_product_69 G R a0 c1 M v2 else (if v2 = 0 then q_X2_product_69 G R a0 c1 M v2 else o_cl (m_X2_kind G M a0) (fun M3 r4 => (if r4 = (42 : Int32) then q_X2_product_37 G R a0 c1 (fun M v2 v3 => q_X2_product_8 G R a0 c1 n M v2 v3) M3 v3 else o_cl (m_X2_kind G M3 a0) (fun M7 r8 => (if r8 = (47 : Int32) then q_X2_product_37 G R a0 c1 (fun M v2 v3 => q_X2_product_8 G R a0 c1 n M v2 v3) M7 v3 else q_X2_product_69 G R a0 c1 M7 v2))))))
def q_X2_product (G : gS) (R : Nat → mS → Int32 → Int32 → Option (mS × Int32)) (M : mS) (a0 : Nat) (c1 : Int32) : Option (mS × Int32) := o_cl (R 2 M c1 (0 : Int32)) (fun M1 r2 => q_X2_product_8 G R a0 c1 fu M1 r2 ((0 : Int32)))
def q_X2_factor (G : gS) (R : Nat → mS → Int32 → Int32 → Option (mS × Int32)) (M : mS) (a0 : Nat) (c1 : Int32) : Option (mS × Int32) := o_cl (m_X2_kind G M a0) (fun M1 r2 => (if r2 = 3 then o_rf (gP G a0 1) (fun q5 => o_cl (m_X2_kind G M1 a0) (fun M6 r7 => o_cl (m_X2_value G M6 a0) (fun M9 r10 => o_cl (m_X3_addOperation G M9 q5 r7 (Int64.toInt32 r10)) (fun M12 r13 => o_cl (m_X2_advance G M12 a0) (fun M15 r16 => o_ck ((1 : Int32) = 0 ∨ (1 : Int32) = 1) (some (M15, (1 : Int32)))))))) else if r2 = 40 then o_cl (R 4 M1 c1 (40 : Int32)) (fun M20 r21 => o_ck (r21 = 0 ∨ r21 = 1) (some (M20, r21))) else if r2 = 45 then o_cl (R 3 M1 c1 (0 : Int32)) (fun M25 r26 => o_ck (r26 = 0 ∨ r26 = 1) (some (M25, r26))) else if r2 = 220 then o_rf (gP G a0 1) (fun q30 => o_cl (m_X2_kind G M1 a0) (fun M31 r32 => o_cl (m_X2_value G M31 a0) (fun M34 r35 => o_cl (m_X3_addOperation G M34 q30 r32 (Int64.toInt32 r35)) (fun M37 r38 => o_cl (m_X2_advance G M37 a0) (fun M40 r41 => o_ck ((1 : Int32) = 0 ∨ (1 : Int32) = 1) (some (M40, (1 : Int32)))))))) else if r2 = 221 then o_rf (gP G a0 1) (fun q45 => o_cl (m_X2_kind G M1 a0) (fun M46 r47 => o_cl (m_X2_value G M46 a0) (fun M49 r50 => o_cl (m_X3_addOperation G M49 q45 r47 (Int64.toInt32 r50)) (fun M52 r53 => o_cl (m_X2_advance G M52 a0) (fun M55 r56 => o_ck ((1 : Int32) = 0 ∨ (1 : Int32) = 1) (some (M55, (1 : Int32)))))))) else if r2 = 222 then o_cl (m_X2_antOperation G M1 a0) (fun M60 r61 => o_ck (r61 = 0 ∨ r61 = 1) (some (M60, r61))) else if r2 = 223 then o_cl (m_X2_antOperation G M1 a0) (fun M65 r66 => o_ck (r66 = 0 ∨ r66 = 1) (some (M65, r66))) else if r2 = 224 then o_cl (m_X2_antOperation G M1 a0) (fun M70 r71 => o_ck (r71 = 0 ∨ r71 = 1) (some (M70, r71))) else if r2 = 225 then o_cl (m_X2_advance G M1 a0) (fun M75 r76 => o_cl (R 4 M75 c1 (225 : Int32)) (fun M78 r79 => o_ck (r79 = 0 ∨ r79 = 1) (some (M78, r79)))) else if r2 = 231 then o_cl (R 5 M1 c1 (0 : Int32)) (fun M83 r84 => o_ck (r84 = 0 ∨ r84 = 1) (some (M83, r84))) else if r2 = 232 then o_cl (R 5 M1 c1 (0 : Int32)) (fun M88 r89 => o_ck (r89 = 0 ∨ r89 = 1) (some (M88, r89))) else o_ck ((0 : Int32) = 0 ∨ (0 : Int32) = 1) (some (M1, (0 : Int32)))))
def q_X2_negatedFactor (G : gS) (R : Nat → mS → Int32 → Int32 → Option (mS × Int32)) (M : mS) (a0 : Nat) (c1 : Int32) : Option (mS × Int32) := (if c1 < (8 : Int32) then o_cl (m_X2_advance G M a0) (fun M2 r3 => o_cl (R 2 M2 (c1 + (1 : Int32)) (0 : Int32)) (fun M5 r6 => o_rf (gP G a0 1) (fun q8 => o_cl (m_X3_addOperation G M5 q8 (4 : Int32) (0 : Int32)) (fun M9 r10 => o_ck (r6 = 0 ∨ r6 = 1) (some (M9, r6)))))) else o_ck ((0 : Int32) = 0 ∨ (0 : Int32) = 1) (some (M, (0 : Int32))))
def q_X2_group_34 (G : gS) (R : Nat → mS → Int32 → Int32 → Option (mS × Int32)) (a0 : Nat) (c1 : Int32) (c2 : Int32)  (M : mS)  : Option (mS × Int32) := o_ck ((0 : Int32) = 0 ∨ (0 : Int32) = 1) (some (M, (0 : Int32)))
def q_X2_group_52 (G : gS) (R : Nat → mS → Int32 → Int32 → Option (mS × Int32)) (a0 : Nat) (c1 : Int32) (c2 : Int32)  (M : mS)  : Option (mS × Int32) := o_ck ((1 : Int32) = 0 ∨ (1 : Int32) = 1) (some (M, (1 : Int32)))
def q_X2_group (G : gS) (R : Nat → mS → Int32 → Int32 → Option (mS × Int32)) (M : mS) (a0 : Nat) (c1 : Int32) (c2 : Int32) : Option (mS × Int32) := (if (8 : Int32) ≤ c1 then q_X2_group_34 G R a0 c1 c2 M else o_cl (m_X2_take G M a0 (40 : Int32)) (fun M2 r3 => (if r3 = 0 then q_X2_group_34 G R a0 c1 c2 M2 else o_cl (R 0 M2 (c1 + (1 : Int32)) (0 : Int32)) (fun M6 r7 => (if r7 = 0 then q_X2_group_34 G R a0 c1 c2 M6 else o_cl (m_X2_take G M6 a0 (41 : Int32)) (fun M10 r11 => (if r11 = 0 then q_X2_group_34 G R a0 c1 c2 M10 else (if c2 = (225 : Int32) then o_rf (gP G a0 1) (fun q15 => o_cl (m_X3_addOperation G M10 q15 c2 (0 : Int32)) (fun M16 r17 => q_X2_group_52 G R a0 c1 c2 M16)) else q_X2_group_52 G R a0 c1 c2 M10))))))))
def q_X2_choice_62 (G : gS) (R : Nat → mS → Int32 → Int32 → Option (mS × Int32)) (a0 : Nat) (c1 : Int32)  (M : mS)  : Option (mS × Int32) := o_ck ((0 : Int32) = 0 ∨ (0 : Int32) = 1) (some (M, (0 : Int32)))
def q_X2_choice (G : gS) (R : Nat → mS → Int32 → Int32 → Option (mS × Int32)) (M : mS) (a0 : Nat) (c1 : Int32) : Option (mS × Int32) := o_cl (m_X2_kind G M a0) (fun M1 r2 => o_cl (m_X2_advance G M1 a0) (fun M4 r5 => (if (8 : Int32) ≤ c1 then q_X2_choice_62 G R a0 c1 M4 else o_cl (m_X2_take G M4 a0 (40 : Int32)) (fun M8 r9 => (if r9 = 0 then q_X2_choice_62 G R a0 c1 M8 else o_cl (R 0 M8 (c1 + (1 : Int32)) (0 : Int32)) (fun M12 r13 => (if r13 = 0 then q_X2_choice_62 G R a0 c1 M12 else o_cl (m_X2_take G M12 a0 (44 : Int32)) (fun M16 r17 => (if r17 = 0 then q_X2_choice_62 G R a0 c1 M16 else o_cl (R 0 M16 (c1 + (1 : Int32)) (0 : Int32)) (fun M20 r21 => (if r21 = 0 then q_X2_choice_62 G R a0 c1 M20 else o_cl (m_X2_take G M20 a0 (41 : Int32)) (fun M24 r25 => (if r25 = 0 then q_X2_choice_62 G R a0 c1 M24 else o_rf (gP G a0 1) (fun q28 => o_cl (m_X3_addOperation G M24 q28 r2 (0 : Int32)) (fun M29 r30 => o_ck ((1 : Int32) = 0 ∨ (1 : Int32) = 1) (some (M29, (1 : Int32))))))))))))))))))
set_option maxHeartbeats 4000000 in
set_option maxRecDepth 100000 in
theorem b_X2_sum_69 {p : Program} {e : Env} {s : State} {m : MethodId} {args : Array Value} {below : List Frame} {meth : Method} {c : Code} {A : Nat → Prop} {l : Launch} {D : va_G} {cy : cyS} {G : gS} (cx : cX p s m args meth c cX2_sum RX2 5 (some .boolean) wsX2_sum D cy G A) {k0 n0 : Nat} {N0 : Nat} (hkn : k0 ≤ ((RM1 (N0 + 1))).cells ∧ n0 ≤ ((RM1 (N0 + 1))).slots) {M' : mS} {r : Int32} {a0 : Nat} {c1 : Int32} (hL0 : a0 ∈ gL G) (hK0 : gK G a0 = 1)  {R : Nat → mS → Int32 → Int32 → Option (mS × Int32)} (hR : SC1 l D cy G a0 (RM1 N0) R)  : ∀ (M : mS) (v2 : Int32) (H : Heap) (locs : List Loc) (ls : Array Slot), q_X2_sum_69 G R a0 c1 M v2 = some (M', r) → wd D cy G M A s.heap H locs → lv_has ls 5 [(2, .int v2)] → W p l e (RM1 (N0 + 1)) s m args below meth c H locs k0 n0 (MQ below (va_Qi (fun (r' : Int32) (_ : Unit) => r' = r) (fun _ t => wOut D cy G M' t) A) args s k0 n0 A) (F0 m 69 ls []) := by
  obtain ⟨hx, hb, hml, hown, hts, hr, hlocks, hK, hA, hG, hsx⟩ := id cx
  intro M v2 H locs ls h w hl
  unfold q_X2_sum_69 at h
  refine lv_iload_n hx hb dX2_sum_69 rfl (lv_at hl 0 rfl) ?_
  obtain ⟨z1, h⟩ := x_ck h
  exact r_zret cx w z1 h dX2_sum_70
set_option maxHeartbeats 4000000 in
set_option maxRecDepth 100000 in
theorem b_X2_sum_37 {p : Program} {e : Env} {s : State} {m : MethodId} {args : Array Value} {below : List Frame} {meth : Method} {c : Code} {A : Nat → Prop} {l : Launch} {D : va_G} {cy : cyS} {G : gS} (cx : cX p s m args meth c cX2_sum RX2 5 (some .boolean) wsX2_sum D cy G A) {k0 n0 : Nat} {N0 : Nat} (hkn : k0 ≤ ((RM1 (N0 + 1))).cells ∧ n0 ≤ ((RM1 (N0 + 1))).slots) {M' : mS} {r : Int32} {a0 : Nat} {c1 : Int32} (hL0 : a0 ∈ gL G) (hK0 : gK G a0 = 1)  {R : Nat → mS → Int32 → Int32 → Option (mS × Int32)} (hR : SC1 l D cy G a0 (RM1 N0) R) {kb8 : mS → Int32 → Int32 → Option (mS × Int32)} (hkb8 : ∀ (M : mS) (v2 : Int32) (v3 : Int32) (H : Heap) (locs : List Loc) (ls : Array Slot), kb8 M v2 v3 = some (M', r) → wd D cy G M A s.heap H locs → lv_has ls 5 [(0, .ref a0), (1, .int c1), (2, .int v2), (3, .int v3)] → W p l e (RM1 (N0 + 1)) s m args below meth c H locs k0 n0 (MQ below (va_Qi (fun (r' : Int32) (_ : Unit) => r' = r) (fun _ t => wOut D cy G M' t) A) args s k0 n0 A) (F0 m 8 ls [])) : ∀ (M : mS) (v3 : Int32) (H : Heap) (locs : List Loc) (ls : Array Slot), q_X2_sum_37 G R a0 c1 kb8 M v3 = some (M', r) → wd D cy G M A s.heap H locs → lv_has ls 5 [(0, .ref a0), (1, .int c1), (3, .int v3)] → W p l e (RM1 (N0 + 1)) s m args below meth c H locs k0 n0 (MQ below (va_Qi (fun (r' : Int32) (_ : Unit) => r' = r) (fun _ t => wOut D cy G M' t) A) args s k0 n0 A) (F0 m 37 ls []) := by
  obtain ⟨hx, hb, hml, hown, hts, hr, hlocks, hK, hA, hG, hsx⟩ := id cx
  intro M v3 H locs ls h w hl
  unfold q_X2_sum_37 at h
  refine lv_aload_n hx hb dX2_sum_37 rfl (lv_at hl 0 rfl) ?_
  obtain ⟨M1, r2, y3, h⟩ := x_cl h
  refine r_callVi (As := []) (rest := []) cx w hkn hl.1 (k_X2_kind hG hL0 hK0 y3) (cwV 0 hts gX2_sum_X2_kind rfl rfl rfl (by decide +kernel) (rm_lo1 (Nat.le_of_ble_eq_true rfl) (Nat.le_of_ble_eq_true rfl))) hL0 hK0 (by decide) rfl rfl rfl (Nat.le_of_ble_eq_true rfl) dX2_sum_38 (fun H locs w => ?_)
  refine lv_istore (lv' := [(4, .int r2), (0, .ref a0), (1, .int c1), (3, .int v3)]) hx hb dX2_sum_41 hl (by decide) rfl (fun ls hl => ?_)
  refine lv_aload_n hx hb dX2_sum_43 rfl (lv_at hl 1 rfl) ?_
  obtain ⟨M4, r5, y6, h⟩ := x_cl h
  refine r_callVv (As := []) (rest := []) cx w hkn hl.1 (k_X2_advance hG hL0 hK0 y6) (cwV 0 hts gX2_sum_X2_advance rfl rfl rfl (by decide +kernel) (rm_lo1 (Nat.le_of_ble_eq_true rfl) (Nat.le_of_ble_eq_true rfl))) hL0 hK0 (by decide) rfl rfl rfl (Nat.le_of_ble_eq_true rfl) dX2_sum_44 (fun H locs w => ?_)
  refine lv_aload_n hx hb dX2_sum_47 rfl (lv_at hl 1 rfl) ?_
  refine lv_iload_n hx hb dX2_sum_48 rfl (lv_at hl 2 rfl) ?_
  obtain ⟨M7, r8, y9, h⟩ := x_cl h
  refine r_callVi (As := [.int c1]) (rest := []) cx w hkn hl.1 (hR.2.1 _ _ _ _ _ y9) (cwV 1 hts gX2_sum_X2_product rfl rfl rfl (by decide +kernel) (rm_up1 (by decide))) hL0 hK0 (by decide) rfl rfl rfl (Nat.le_of_ble_eq_true rfl) dX2_sum_49 (fun H locs w => ?_)
  refine lv_istore_n (lv' := [(2, .int r8), (4, .int r2), (0, .ref a0), (1, .int c1), (3, .int v3)]) hx hb dX2_sum_52 rfl hl (by decide) rfl (fun ls hl => ?_)
  refine lv_aload_n hx hb dX2_sum_53 rfl (lv_at hl 2 rfl) ?_
  obtain ⟨q10, eq10, h⟩ := x_rf h
  obtain ⟨hLq10, hKq10⟩ := wt_q hG hL0 hK0 eq10
  have hKq10 : gK G q10 = 2 := hKq10
  refine r_getR (k := 1) cx w hL0 hK0 (by decide) rfl wi_X2_sum_X2 (by decide) rfl eq10 (List.mem_of_getElem? (i := 1) rfl) dX2_sum_54 ?_
  refine lv_iload hx hb dX2_sum_57 (lv_at hl 1 rfl) ?_
  refine lv_iconst (v := (0 : Int32)) hx hb dX2_sum_59 (by decide) ?_
  obtain ⟨M11, r12, y13, h⟩ := x_cl h
  refine r_callVv (As := [.int r2, .int ((0 : Int32))]) (rest := []) cx w hkn hl.1 (k_X3_addOperation hG hLq10 hKq10 y13) (cwV 2 hts gX2_sum_X3_addOperation rfl rfl rfl (by decide +kernel) (rm_lo1 (Nat.le_of_ble_eq_true rfl) (Nat.le_of_ble_eq_true rfl))) hLq10 hKq10 (by decide) rfl rfl rfl (Nat.le_of_ble_eq_true rfl) dX2_sum_60 (fun H locs w => ?_)
  obtain ⟨x14, ex14, h⟩ := x_bd h
  refine lv_iinc (v := x14) (lv' := [(3, .int x14), (2, .int r8), (4, .int r2), (0, .ref a0), (1, .int c1)]) hx hb dX2_sum_63 hl (k := 4) rfl (by rw [ex14]; rfl) (by decide) rfl (fun ls hl => ?_)
  refine lv_goto (tgt := 8) hx hb dX2_sum_66 (by decide) ?_
  exact hkb8 M11 r8 x14 H locs ls h w (lv_sub hl [3, 4, 1, 0] rfl)
set_option maxHeartbeats 4000000 in
set_option maxRecDepth 100000 in
theorem b_X2_sum_8 {p : Program} {e : Env} {s : State} {m : MethodId} {args : Array Value} {below : List Frame} {meth : Method} {c : Code} {A : Nat → Prop} {l : Launch} {D : va_G} {cy : cyS} {G : gS} (cx : cX p s m args meth c cX2_sum RX2 5 (some .boolean) wsX2_sum D cy G A) {k0 n0 : Nat} {N0 : Nat} (hkn : k0 ≤ ((RM1 (N0 + 1))).cells ∧ n0 ≤ ((RM1 (N0 + 1))).slots) {M' : mS} {r : Int32} {a0 : Nat} {c1 : Int32} (hL0 : a0 ∈ gL G) (hK0 : gK G a0 = 1)  {R : Nat → mS → Int32 → Int32 → Option (mS × Int32)} (hR : SC1 l D cy G a0 (RM1 N0) R)  : ∀ (n : Nat), ∀ (M : mS) (v2 : Int32) (v3 : Int32) (H : Heap) (locs : List Loc) (ls : Array Slot), q_X2_sum_8 G R a0 c1 n M v2 v3 = some (M', r) → wd D cy G M A s.heap H locs → lv_has ls 5 [(0, .ref a0), (1, .int c1), (2, .int v2), (3, .int v3)] → W p l e (RM1 (N0 + 1)) s m args below meth c H locs k0 n0 (MQ below (va_Qi (fun (r' : Int32) (_ : Unit) => r' = r) (fun _ t => wOut D cy G M' t) A) args s k0 n0 A) (F0 m 8 ls []) := by
  obtain ⟨hx, hb, hml, hown, hts, hr, hlocks, hK, hA, hG, hsx⟩ := id cx
  intro n
  induction n with
  | zero =>
    intro M v2 v3 H locs ls h w hl
    have h : none = some _ := h
    cases h
  | succ n ih =>
    intro M v2 v3 H locs ls h w hl
    rw [q_X2_sum_8] at h
    refine lv_iload_n hx hb dX2_sum_8 rfl (lv_at hl 3 rfl) ?_
    refine lv_sipush (v := (400 : Int32)) hx hb dX2_sum_9 (by decide) ?_
    refine lv_icmp_ge (tgt := 69) hx hb dX2_sum_12 (by decide) (fun k1 => ?_) (fun k1 => ?_)
    · have h := x_t h k1
      exact b_X2_sum_69 cx hkn hL0 hK0 hR M v2 H locs ls h w (lv_sub hl [2] rfl)
    · have h := x_f h k1
      refine lv_iload_n hx hb dX2_sum_15 rfl (lv_at hl 2 rfl) ?_
      refine lv_if_eq (tgt := 69) hx hb dX2_sum_16 (by decide) (fun k2 => ?_) (fun k2 => ?_)
      · have h := x_t h k2
        exact b_X2_sum_69 cx hkn hL0 hK0 hR M v2 H locs ls h w (lv_sub hl [2] rfl)
      · have h := x_f h k2
        refine lv_aload_n hx hb dX2_sum_19 rfl (lv_at hl 0 rfl) ?_
        obtain ⟨M3, r4, y5, h⟩ := x_cl h
        refine r_callVi (As := []) (rest := []) cx w hkn hl.1 (k_X2_kind hG hL0 hK0 y5) (cwV 0 hts gX2_sum_X2_kind rfl rfl rfl (by decide +kernel) (rm_lo1 (Nat.le_of_ble_eq_true rfl) (Nat.le_of_ble_eq_true rfl))) hL0 hK0 (by decide) rfl rfl rfl (Nat.le_of_ble_eq_true rfl) dX2_sum_20 (fun H locs w => ?_)
        refine lv_bipush (v := (43 : Int32)) hx hb dX2_sum_23 (by decide) ?_
        refine lv_icmp_eq (tgt := 37) hx hb dX2_sum_25 (by decide) (fun k6 => ?_) (fun k6 => ?_)
        · have h := x_t h k6
          exact b_X2_sum_37 cx hkn hL0 hK0 hR (hkb8 := ih) M3 v3 H locs ls h w (lv_sub hl [0, 1, 3] rfl)
        · have h := x_f h k6
          refine lv_aload_n hx hb dX2_sum_28 rfl (lv_at hl 0 rfl) ?_
          obtain ⟨M7, r8, y9, h⟩ := x_cl h
          refine r_callVi (As := []) (rest := []) cx w hkn hl.1 (k_X2_kind hG hL0 hK0 y9) (cwV 0 hts gX2_sum_X2_kind rfl rfl rfl (by decide +kernel) (rm_lo1 (Nat.le_of_ble_eq_true rfl) (Nat.le_of_ble_eq_true rfl))) hL0 hK0 (by decide) rfl rfl rfl (Nat.le_of_ble_eq_true rfl) dX2_sum_29 (fun H locs w => ?_)
          refine lv_bipush (v := (45 : Int32)) hx hb dX2_sum_32 (by decide) ?_
          refine lv_icmp_ne (tgt := 69) hx hb dX2_sum_34 (by decide) (fun k10 => ?_) (fun k10 => ?_)
          · have h := x_f h k10
            exact b_X2_sum_69 cx hkn hL0 hK0 hR M7 v2 H locs ls h w (lv_sub hl [2] rfl)
          · have h := x_t h k10
            exact b_X2_sum_37 cx hkn hL0 hK0 hR (hkb8 := ih) M7 v3 H locs ls h w (lv_sub hl [0, 1, 3] rfl)
set_option maxHeartbeats 4000000 in
set_option maxRecDepth 100000 in
theorem kq_X2_sum {l : Launch} {D : va_G} {cy : cyS} {G : gS} {M M' : mS} {r : Int32} {a0 : Nat} {c1 : Int32} (hG : wt G) (hL0 : a0 ∈ gL G) (hK0 : gK G a0 = 1) {N0 : Nat} {R : Nat → mS → Int32 → Int32 → Option (mS × Int32)} (hR : SC1 l D cy G a0 (RM1 N0) R) (h : q_X2_sum G R M a0 c1 = some (M', r)) : ctI l yX2_sum wsX2_sum (RM1 (N0 + 1)) D cy G M [.ref a0, .int c1] M' r := by
  unfold q_X2_sum at h
  refine ctI_of (cc := cX2_sum) (nL := 5) (ret := (some .boolean)) (lv := [(0, .ref a0), (1, .int c1)]) hG (by decide) rfl ⟨rfl, rfl⟩ (Nat.le_of_ble_eq_true rfl) rfl ?_
  intro p e s m args below meth c A ls cx w hl
  obtain ⟨hx, hb, hml, hown, hts, hr, hlocks, hK, hA, -, hsx⟩ := id cx
  have hkn : 0 ≤ ((RM1 (N0 + 1))).cells ∧ 0 ≤ ((RM1 (N0 + 1))).slots := ⟨Nat.zero_le _, Nat.zero_le _⟩
  refine lv_aload_n hx hb dX2_sum_0 rfl (lv_at hl 0 rfl) ?_
  refine lv_iload_n hx hb dX2_sum_1 rfl (lv_at hl 1 rfl) ?_
  obtain ⟨M1, r2, y3, h⟩ := x_cl h
  refine r_callVi (As := [.int c1]) (rest := []) cx w hkn hl.1 (hR.2.1 _ _ _ _ _ y3) (cwV 1 hts gX2_sum_X2_product rfl rfl rfl (by decide +kernel) (rm_up1 (by decide))) hL0 hK0 (by decide) rfl rfl rfl (Nat.le_of_ble_eq_true rfl) dX2_sum_2 (fun H locs w => ?_)
  refine lv_istore_n (lv' := [(2, .int r2), (0, .ref a0), (1, .int c1)]) hx hb dX2_sum_5 rfl hl (by decide) rfl (fun ls hl => ?_)
  refine lv_iconst (v := (0 : Int32)) hx hb dX2_sum_6 (by decide) ?_
  refine lv_istore_n (lv' := [(3, .int ((0 : Int32))), (2, .int r2), (0, .ref a0), (1, .int c1)]) hx hb dX2_sum_7 rfl hl (by decide) rfl (fun ls hl => ?_)
  exact b_X2_sum_8 cx hkn hL0 hK0 hR fu M1 r2 ((0 : Int32)) H locs ls h w (lv_sub hl [2, 3, 1, 0] rfl)
set_option maxHeartbeats 4000000 in
set_option maxRecDepth 100000 in
theorem b_X2_product_69 {p : Program} {e : Env} {s : State} {m : MethodId} {args : Array Value} {below : List Frame} {meth : Method} {c : Code} {A : Nat → Prop} {l : Launch} {D : va_G} {cy : cyS} {G : gS} (cx : cX p s m args meth c cX2_product RX2 5 (some .boolean) wsX2_product D cy G A) {k0 n0 : Nat} {N0 : Nat} (hkn : k0 ≤ ((RM1 (N0 + 1))).cells ∧ n0 ≤ ((RM1 (N0 + 1))).slots) {M' : mS} {r : Int32} {a0 : Nat} {c1 : Int32} (hL0 : a0 ∈ gL G) (hK0 : gK G a0 = 1)  {R : Nat → mS → Int32 → Int32 → Option (mS × Int32)} (hR : SC1 l D cy G a0 (RM1 N0) R)  : ∀ (M : mS) (v2 : Int32) (H : Heap) (locs : List Loc) (ls : Array Slot), q_X2_product_69 G R a0 c1 M v2 = some (M', r) → wd D cy G M A s.heap H locs → lv_has ls 5 [(2, .int v2)] → W p l e (RM1 (N0 + 1)) s m args below meth c H locs k0 n0 (MQ below (va_Qi (fun (r' : Int32) (_ : Unit) => r' = r) (fun _ t => wOut D cy G M' t) A) args s k0 n0 A) (F0 m 69 ls []) := by
  obtain ⟨hx, hb, hml, hown, hts, hr, hlocks, hK, hA, hG, hsx⟩ := id cx
  intro M v2 H locs ls h w hl
  unfold q_X2_product_69 at h
  refine lv_iload_n hx hb dX2_product_69 rfl (lv_at hl 0 rfl) ?_
  obtain ⟨z1, h⟩ := x_ck h
  exact r_zret cx w z1 h dX2_product_70
set_option maxHeartbeats 4000000 in
set_option maxRecDepth 100000 in
theorem b_X2_product_37 {p : Program} {e : Env} {s : State} {m : MethodId} {args : Array Value} {below : List Frame} {meth : Method} {c : Code} {A : Nat → Prop} {l : Launch} {D : va_G} {cy : cyS} {G : gS} (cx : cX p s m args meth c cX2_product RX2 5 (some .boolean) wsX2_product D cy G A) {k0 n0 : Nat} {N0 : Nat} (hkn : k0 ≤ ((RM1 (N0 + 1))).cells ∧ n0 ≤ ((RM1 (N0 + 1))).slots) {M' : mS} {r : Int32} {a0 : Nat} {c1 : Int32} (hL0 : a0 ∈ gL G) (hK0 : gK G a0 = 1)  {R : Nat → mS → Int32 → Int32 → Option (mS × Int32)} (hR : SC1 l D cy G a0 (RM1 N0) R) {kb8 : mS → Int32 → Int32 → Option (mS × Int32)} (hkb8 : ∀ (M : mS) (v2 : Int32) (v3 : Int32) (H : Heap) (locs : List Loc) (ls : Array Slot), kb8 M v2 v3 = some (M', r) → wd D cy G M A s.heap H locs → lv_has ls 5 [(0, .ref a0), (1, .int c1), (2, .int v2), (3, .int v3)] → W p l e (RM1 (N0 + 1)) s m args below meth c H locs k0 n0 (MQ below (va_Qi (fun (r' : Int32) (_ : Unit) => r' = r) (fun _ t => wOut D cy G M' t) A) args s k0 n0 A) (F0 m 8 ls [])) : ∀ (M : mS) (v3 : Int32) (H : Heap) (locs : List Loc) (ls : Array Slot), q_X2_product_37 G R a0 c1 kb8 M v3 = some (M', r) → wd D cy G M A s.heap H locs → lv_has ls 5 [(0, .ref a0), (1, .int c1), (3, .int v3)] → W p l e (RM1 (N0 + 1)) s m args below meth c H locs k0 n0 (MQ below (va_Qi (fun (r' : Int32) (_ : Unit) => r' = r) (fun _ t => wOut D cy G M' t) A) args s k0 n0 A) (F0 m 37 ls []) := by
  obtain ⟨hx, hb, hml, hown, hts, hr, hlocks, hK, hA, hG, hsx⟩ := id cx
  intro M v3 H locs ls h w hl
  unfold q_X2_product_37 at h
  refine lv_aload_n hx hb dX2_product_37 rfl (lv_at hl 0 rfl) ?_
  obtain ⟨M1, r2, y3, h⟩ := x_cl h
  refine r_callVi (As := []) (rest := []) cx w hkn hl.1 (k_X2_kind hG hL0 hK0 y3) (cwV 0 hts gX2_product_X2_kind rfl rfl rfl (by decide +kernel) (rm_lo1 (Nat.le_of_ble_eq_true rfl) (Nat.le_of_ble_eq_true rfl))) hL0 hK0 (by decide) rfl rfl rfl (Nat.le_of_ble_eq_true rfl) dX2_product_38 (fun H locs w => ?_)
  refine lv_istore (lv' := [(4, .int r2), (0, .ref a0), (1, .int c1), (3, .int v3)]) hx hb dX2_product_41 hl (by decide) rfl (fun ls hl => ?_)
  refine lv_aload_n hx hb dX2_product_43 rfl (lv_at hl 1 rfl) ?_
  obtain ⟨M4, r5, y6, h⟩ := x_cl h
  refine r_callVv (As := []) (rest := []) cx w hkn hl.1 (k_X2_advance hG hL0 hK0 y6) (cwV 0 hts gX2_product_X2_advance rfl rfl rfl (by decide +kernel) (rm_lo1 (Nat.le_of_ble_eq_true rfl) (Nat.le_of_ble_eq_true rfl))) hL0 hK0 (by decide) rfl rfl rfl (Nat.le_of_ble_eq_true rfl) dX2_product_44 (fun H locs w => ?_)
  refine lv_aload_n hx hb dX2_product_47 rfl (lv_at hl 1 rfl) ?_
  refine lv_iload_n hx hb dX2_product_48 rfl (lv_at hl 2 rfl) ?_
  obtain ⟨M7, r8, y9, h⟩ := x_cl h
  refine r_callVi (As := [.int c1]) (rest := []) cx w hkn hl.1 (hR.2.2.1 _ _ _ _ _ y9) (cwV 1 hts gX2_product_X2_factor rfl rfl rfl (by decide +kernel) (rm_up1 (by decide))) hL0 hK0 (by decide) rfl rfl rfl (Nat.le_of_ble_eq_true rfl) dX2_product_49 (fun H locs w => ?_)
  refine lv_istore_n (lv' := [(2, .int r8), (4, .int r2), (0, .ref a0), (1, .int c1), (3, .int v3)]) hx hb dX2_product_52 rfl hl (by decide) rfl (fun ls hl => ?_)
  refine lv_aload_n hx hb dX2_product_53 rfl (lv_at hl 2 rfl) ?_
  obtain ⟨q10, eq10, h⟩ := x_rf h
  obtain ⟨hLq10, hKq10⟩ := wt_q hG hL0 hK0 eq10
  have hKq10 : gK G q10 = 2 := hKq10
  refine r_getR (k := 1) cx w hL0 hK0 (by decide) rfl wi_X2_product_X2 (by decide) rfl eq10 (List.mem_of_getElem? (i := 1) rfl) dX2_product_54 ?_
  refine lv_iload hx hb dX2_product_57 (lv_at hl 1 rfl) ?_
  refine lv_iconst (v := (0 : Int32)) hx hb dX2_product_59 (by decide) ?_
  obtain ⟨M11, r12, y13, h⟩ := x_cl h
  refine r_callVv (As := [.int r2, .int ((0 : Int32))]) (rest := []) cx w hkn hl.1 (k_X3_addOperation hG hLq10 hKq10 y13) (cwV 2 hts gX2_product_X3_addOperation rfl rfl rfl (by decide +kernel) (rm_lo1 (Nat.le_of_ble_eq_true rfl) (Nat.le_of_ble_eq_true rfl))) hLq10 hKq10 (by decide) rfl rfl rfl (Nat.le_of_ble_eq_true rfl) dX2_product_60 (fun H locs w => ?_)
  obtain ⟨x14, ex14, h⟩ := x_bd h
  refine lv_iinc (v := x14) (lv' := [(3, .int x14), (2, .int r8), (4, .int r2), (0, .ref a0), (1, .int c1)]) hx hb dX2_product_63 hl (k := 4) rfl (by rw [ex14]; rfl) (by decide) rfl (fun ls hl => ?_)
  refine lv_goto (tgt := 8) hx hb dX2_product_66 (by decide) ?_
  exact hkb8 M11 r8 x14 H locs ls h w (lv_sub hl [3, 4, 1, 0] rfl)
set_option maxHeartbeats 4000000 in
set_option maxRecDepth 100000 in
theorem b_X2_product_8 {p : Program} {e : Env} {s : State} {m : MethodId} {args : Array Value} {below : List Frame} {meth : Method} {c : Code} {A : Nat → Prop} {l : Launch} {D : va_G} {cy : cyS} {G : gS} (cx : cX p s m args meth c cX2_product RX2 5 (some .boolean) wsX2_product D cy G A) {k0 n0 : Nat} {N0 : Nat} (hkn : k0 ≤ ((RM1 (N0 + 1))).cells ∧ n0 ≤ ((RM1 (N0 + 1))).slots) {M' : mS} {r : Int32} {a0 : Nat} {c1 : Int32} (hL0 : a0 ∈ gL G) (hK0 : gK G a0 = 1)  {R : Nat → mS → Int32 → Int32 → Option (mS × Int32)} (hR : SC1 l D cy G a0 (RM1 N0) R)  : ∀ (n : Nat), ∀ (M : mS) (v2 : Int32) (v3 : Int32) (H : Heap) (locs : List Loc) (ls : Array Slot), q_X2_product_8 G R a0 c1 n M v2 v3 = some (M', r) → wd D cy G M A s.heap H locs → lv_has ls 5 [(0, .ref a0), (1, .int c1), (2, .int v2), (3, .int v3)] → W p l e (RM1 (N0 + 1)) s m args below meth c H locs k0 n0 (MQ below (va_Qi (fun (r' : Int32) (_ : Unit) => r' = r) (fun _ t => wOut D cy G M' t) A) args s k0 n0 A) (F0 m 8 ls []) := by
  obtain ⟨hx, hb, hml, hown, hts, hr, hlocks, hK, hA, hG, hsx⟩ := id cx
  intro n
  induction n with
  | zero =>
    intro M v2 v3 H locs ls h w hl
    have h : none = some _ := h
    cases h
  | succ n ih =>
    intro M v2 v3 H locs ls h w hl
    rw [q_X2_product_8] at h
    refine lv_iload_n hx hb dX2_product_8 rfl (lv_at hl 3 rfl) ?_
    refine lv_sipush (v := (400 : Int32)) hx hb dX2_product_9 (by decide) ?_
    refine lv_icmp_ge (tgt := 69) hx hb dX2_product_12 (by decide) (fun k1 => ?_) (fun k1 => ?_)
    · have h := x_t h k1
      exact b_X2_product_69 cx hkn hL0 hK0 hR M v2 H locs ls h w (lv_sub hl [2] rfl)
    · have h := x_f h k1
      refine lv_iload_n hx hb dX2_product_15 rfl (lv_at hl 2 rfl) ?_
      refine lv_if_eq (tgt := 69) hx hb dX2_product_16 (by decide) (fun k2 => ?_) (fun k2 => ?_)
      · have h := x_t h k2
        exact b_X2_product_69 cx hkn hL0 hK0 hR M v2 H locs ls h w (lv_sub hl [2] rfl)
      · have h := x_f h k2
        refine lv_aload_n hx hb dX2_product_19 rfl (lv_at hl 0 rfl) ?_
        obtain ⟨M3, r4, y5, h⟩ := x_cl h
        refine r_callVi (As := []) (rest := []) cx w hkn hl.1 (k_X2_kind hG hL0 hK0 y5) (cwV 0 hts gX2_product_X2_kind rfl rfl rfl (by decide +kernel) (rm_lo1 (Nat.le_of_ble_eq_true rfl) (Nat.le_of_ble_eq_true rfl))) hL0 hK0 (by decide) rfl rfl rfl (Nat.le_of_ble_eq_true rfl) dX2_product_20 (fun H locs w => ?_)
        refine lv_bipush (v := (42 : Int32)) hx hb dX2_product_23 (by decide) ?_
        refine lv_icmp_eq (tgt := 37) hx hb dX2_product_25 (by decide) (fun k6 => ?_) (fun k6 => ?_)
        · have h := x_t h k6
          exact b_X2_product_37 cx hkn hL0 hK0 hR (hkb8 := ih) M3 v3 H locs ls h w (lv_sub hl [0, 1, 3] rfl)
        · have h := x_f h k6
          refine lv_aload_n hx hb dX2_product_28 rfl (lv_at hl 0 rfl) ?_
          obtain ⟨M7, r8, y9, h⟩ := x_cl h
          refine r_callVi (As := []) (rest := []) cx w hkn hl.1 (k_X2_kind hG hL0 hK0 y9) (cwV 0 hts gX2_product_X2_kind rfl rfl rfl (by decide +kernel) (rm_lo1 (Nat.le_of_ble_eq_true rfl) (Nat.le_of_ble_eq_true rfl))) hL0 hK0 (by decide) rfl rfl rfl (Nat.le_of_ble_eq_true rfl) dX2_product_29 (fun H locs w => ?_)
          refine lv_bipush (v := (47 : Int32)) hx hb dX2_product_32 (by decide) ?_
          refine lv_icmp_ne (tgt := 69) hx hb dX2_product_34 (by decide) (fun k10 => ?_) (fun k10 => ?_)
          · have h := x_f h k10
            exact b_X2_product_69 cx hkn hL0 hK0 hR M7 v2 H locs ls h w (lv_sub hl [2] rfl)
          · have h := x_t h k10
            exact b_X2_product_37 cx hkn hL0 hK0 hR (hkb8 := ih) M7 v3 H locs ls h w (lv_sub hl [0, 1, 3] rfl)
set_option maxHeartbeats 4000000 in
set_option maxRecDepth 100000 in
theorem kq_X2_product {l : Launch} {D : va_G} {cy : cyS} {G : gS} {M M' : mS} {r : Int32} {a0 : Nat} {c1 : Int32} (hG : wt G) (hL0 : a0 ∈ gL G) (hK0 : gK G a0 = 1) {N0 : Nat} {R : Nat → mS → Int32 → Int32 → Option (mS × Int32)} (hR : SC1 l D cy G a0 (RM1 N0) R) (h : q_X2_product G R M a0 c1 = some (M', r)) : ctI l yX2_product wsX2_product (RM1 (N0 + 1)) D cy G M [.ref a0, .int c1] M' r := by
  unfold q_X2_product at h
  refine ctI_of (cc := cX2_product) (nL := 5) (ret := (some .boolean)) (lv := [(0, .ref a0), (1, .int c1)]) hG (by decide) rfl ⟨rfl, rfl⟩ (Nat.le_of_ble_eq_true rfl) rfl ?_
  intro p e s m args below meth c A ls cx w hl
  obtain ⟨hx, hb, hml, hown, hts, hr, hlocks, hK, hA, -, hsx⟩ := id cx
  have hkn : 0 ≤ ((RM1 (N0 + 1))).cells ∧ 0 ≤ ((RM1 (N0 + 1))).slots := ⟨Nat.zero_le _, Nat.zero_le _⟩
  refine lv_aload_n hx hb dX2_product_0 rfl (lv_at hl 0 rfl) ?_
  refine lv_iload_n hx hb dX2_product_1 rfl (lv_at hl 1 rfl) ?_
  obtain ⟨M1, r2, y3, h⟩ := x_cl h
  refine r_callVi (As := [.int c1]) (rest := []) cx w hkn hl.1 (hR.2.2.1 _ _ _ _ _ y3) (cwV 1 hts gX2_product_X2_factor rfl rfl rfl (by decide +kernel) (rm_up1 (by decide))) hL0 hK0 (by decide) rfl rfl rfl (Nat.le_of_ble_eq_true rfl) dX2_product_2 (fun H locs w => ?_)
  refine lv_istore_n (lv' := [(2, .int r2), (0, .ref a0), (1, .int c1)]) hx hb dX2_product_5 rfl hl (by decide) rfl (fun ls hl => ?_)
  refine lv_iconst (v := (0 : Int32)) hx hb dX2_product_6 (by decide) ?_
  refine lv_istore_n (lv' := [(3, .int ((0 : Int32))), (2, .int r2), (0, .ref a0), (1, .int c1)]) hx hb dX2_product_7 rfl hl (by decide) rfl (fun ls hl => ?_)
  exact b_X2_product_8 cx hkn hL0 hK0 hR fu M1 r2 ((0 : Int32)) H locs ls h w (lv_sub hl [2, 3, 1, 0] rfl)
set_option maxHeartbeats 4000000 in
set_option maxRecDepth 100000 in
theorem kq_X2_factor {l : Launch} {D : va_G} {cy : cyS} {G : gS} {M M' : mS} {r : Int32} {a0 : Nat} {c1 : Int32} (hG : wt G) (hL0 : a0 ∈ gL G) (hK0 : gK G a0 = 1) {N0 : Nat} {R : Nat → mS → Int32 → Int32 → Option (mS × Int32)} (hR : SC1 l D cy G a0 (RM1 N0) R) (h : q_X2_factor G R M a0 c1 = some (M', r)) : ctI l yX2_factor wsX2_factor (RM1 (N0 + 1)) D cy G M [.ref a0, .int c1] M' r := by
  unfold q_X2_factor at h
  refine ctI_of (cc := cX2_factor) (nL := 2) (ret := (some .boolean)) (lv := [(0, .ref a0), (1, .int c1)]) hG (by decide) rfl ⟨rfl, rfl⟩ (Nat.le_of_ble_eq_true rfl) rfl ?_
  intro p e s m args below meth c A ls cx w hl
  obtain ⟨hx, hb, hml, hown, hts, hr, hlocks, hK, hA, -, hsx⟩ := id cx
  have hkn : 0 ≤ ((RM1 (N0 + 1))).cells ∧ 0 ≤ ((RM1 (N0 + 1))).slots := ⟨Nat.zero_le _, Nat.zero_le _⟩
  refine lv_aload_n hx hb dX2_factor_0 rfl (lv_at hl 0 rfl) ?_
  obtain ⟨M1, r2, y3, h⟩ := x_cl h
  refine r_callVi (As := []) (rest := []) cx w hkn hl.1 (k_X2_kind hG hL0 hK0 y3) (cwV 0 hts gX2_factor_X2_kind rfl rfl rfl (by decide +kernel) (rm_lo1 (Nat.le_of_ble_eq_true rfl) (Nat.le_of_ble_eq_true rfl))) hL0 hK0 (by decide) rfl rfl rfl (Nat.le_of_ble_eq_true rfl) dX2_factor_1 (fun H locs w => ?_)
  rcases Decidable.em (r2 = 3) with k4 | k4
  · have h := x_t h k4
    rw [k4]
    refine lv_lookup (tgt := 104) hx hb dX2_factor_4 (by decide) rfl (by decide) ?_
    refine lv_aload_n hx hb dX2_factor_104 rfl (lv_at hl 0 rfl) ?_
    obtain ⟨q5, eq5, h⟩ := x_rf h
    obtain ⟨hLq5, hKq5⟩ := wt_q hG hL0 hK0 eq5
    have hKq5 : gK G q5 = 2 := hKq5
    refine r_getR (k := 1) cx w hL0 hK0 (by decide) rfl wi_X2_factor_X2 (by decide) rfl eq5 (List.mem_of_getElem? (i := 1) rfl) dX2_factor_105 ?_
    refine lv_aload_n hx hb dX2_factor_108 rfl (lv_at hl 0 rfl) ?_
    obtain ⟨M6, r7, y8, h⟩ := x_cl h
    refine r_callVi (As := []) (rest := [.ref q5]) cx w hkn hl.1 (k_X2_kind hG hL0 hK0 y8) (cwV 0 hts gX2_factor_X2_kind rfl rfl rfl (by decide +kernel) (rm_lo1 (Nat.le_of_ble_eq_true rfl) (Nat.le_of_ble_eq_true rfl))) hL0 hK0 (by decide) rfl rfl rfl (Nat.le_of_ble_eq_true rfl) dX2_factor_109 (fun H locs w => ?_)
    refine lv_aload_n hx hb dX2_factor_112 rfl (lv_at hl 0 rfl) ?_
    obtain ⟨M9, r10, y11, h⟩ := x_cl h
    refine r_callVl (As := []) (rest := [.int r7, .ref q5]) cx w hkn hl.1 (k_X2_value hG hL0 hK0 y11) (cwV 0 hts gX2_factor_X2_value rfl rfl rfl (by decide +kernel) (rm_lo1 (Nat.le_of_ble_eq_true rfl) (Nat.le_of_ble_eq_true rfl))) hL0 hK0 (by decide) rfl rfl rfl (Nat.le_of_ble_eq_true rfl) dX2_factor_113 (fun H locs w => ?_)
    refine lv_l2i (v := (Int64.toInt32 r10)) hx hb dX2_factor_116 rfl ?_
    obtain ⟨M12, r13, y14, h⟩ := x_cl h
    refine r_callVv (As := [.int r7, .int ((Int64.toInt32 r10))]) (rest := []) cx w hkn hl.1 (k_X3_addOperation hG hLq5 hKq5 y14) (cwV 2 hts gX2_factor_X3_addOperation rfl rfl rfl (by decide +kernel) (rm_lo1 (Nat.le_of_ble_eq_true rfl) (Nat.le_of_ble_eq_true rfl))) hLq5 hKq5 (by decide) rfl rfl rfl (Nat.le_of_ble_eq_true rfl) dX2_factor_117 (fun H locs w => ?_)
    refine lv_aload_n hx hb dX2_factor_120 rfl (lv_at hl 0 rfl) ?_
    obtain ⟨M15, r16, y17, h⟩ := x_cl h
    refine r_callVv (As := []) (rest := []) cx w hkn hl.1 (k_X2_advance hG hL0 hK0 y17) (cwV 0 hts gX2_factor_X2_advance rfl rfl rfl (by decide +kernel) (rm_lo1 (Nat.le_of_ble_eq_true rfl) (Nat.le_of_ble_eq_true rfl))) hL0 hK0 (by decide) rfl rfl rfl (Nat.le_of_ble_eq_true rfl) dX2_factor_121 (fun H locs w => ?_)
    refine lv_iconst (v := (1 : Int32)) hx hb dX2_factor_124 (by decide) ?_
    obtain ⟨z18, h⟩ := x_ck h
    exact r_zret cx w z18 h dX2_factor_125
  · have h := x_f h k4
    rcases Decidable.em (r2 = 40) with k19 | k19
    · have h := x_t h k19
      rw [k19]
      refine lv_lookup (tgt := 150) hx hb dX2_factor_4 (by decide) rfl (by decide) ?_
      refine lv_aload_n hx hb dX2_factor_150 rfl (lv_at hl 0 rfl) ?_
      refine lv_iload_n hx hb dX2_factor_151 rfl (lv_at hl 1 rfl) ?_
      refine lv_bipush (v := (40 : Int32)) hx hb dX2_factor_152 (by decide) ?_
      obtain ⟨M20, r21, y22, h⟩ := x_cl h
      refine r_callVi (As := [.int c1, .int ((40 : Int32))]) (rest := []) cx w hkn hl.1 (hR.2.2.2.2.1 _ _ _ _ _ y22) (cwV 2 hts gX2_factor_X2_group rfl rfl rfl (by decide +kernel) (rm_up1 (by decide))) hL0 hK0 (by decide) rfl rfl rfl (Nat.le_of_ble_eq_true rfl) dX2_factor_154 (fun H locs w => ?_)
      obtain ⟨z23, h⟩ := x_ck h
      exact r_zret cx w z23 h dX2_factor_157
    · have h := x_f h k19
      rcases Decidable.em (r2 = 45) with k24 | k24
      · have h := x_t h k24
        rw [k24]
        refine lv_lookup (tgt := 144) hx hb dX2_factor_4 (by decide) rfl (by decide) ?_
        refine lv_aload_n hx hb dX2_factor_144 rfl (lv_at hl 0 rfl) ?_
        refine lv_iload_n hx hb dX2_factor_145 rfl (lv_at hl 1 rfl) ?_
        obtain ⟨M25, r26, y27, h⟩ := x_cl h
        refine r_callVi (As := [.int c1]) (rest := []) cx w hkn hl.1 (hR.2.2.2.1 _ _ _ _ _ y27) (cwV 1 hts gX2_factor_X2_negatedFactor rfl rfl rfl (by decide +kernel) (rm_up1 (by decide))) hL0 hK0 (by decide) rfl rfl rfl (Nat.le_of_ble_eq_true rfl) dX2_factor_146 (fun H locs w => ?_)
        obtain ⟨z28, h⟩ := x_ck h
        exact r_zret cx w z28 h dX2_factor_149
      · have h := x_f h k24
        rcases Decidable.em (r2 = 220) with k29 | k29
        · have h := x_t h k29
          rw [k29]
          refine lv_lookup (tgt := 104) hx hb dX2_factor_4 (by decide) rfl (by decide) ?_
          refine lv_aload_n hx hb dX2_factor_104 rfl (lv_at hl 0 rfl) ?_
          obtain ⟨q30, eq30, h⟩ := x_rf h
          obtain ⟨hLq30, hKq30⟩ := wt_q hG hL0 hK0 eq30
          have hKq30 : gK G q30 = 2 := hKq30
          refine r_getR (k := 1) cx w hL0 hK0 (by decide) rfl wi_X2_factor_X2 (by decide) rfl eq30 (List.mem_of_getElem? (i := 1) rfl) dX2_factor_105 ?_
          refine lv_aload_n hx hb dX2_factor_108 rfl (lv_at hl 0 rfl) ?_
          obtain ⟨M31, r32, y33, h⟩ := x_cl h
          refine r_callVi (As := []) (rest := [.ref q30]) cx w hkn hl.1 (k_X2_kind hG hL0 hK0 y33) (cwV 0 hts gX2_factor_X2_kind rfl rfl rfl (by decide +kernel) (rm_lo1 (Nat.le_of_ble_eq_true rfl) (Nat.le_of_ble_eq_true rfl))) hL0 hK0 (by decide) rfl rfl rfl (Nat.le_of_ble_eq_true rfl) dX2_factor_109 (fun H locs w => ?_)
          refine lv_aload_n hx hb dX2_factor_112 rfl (lv_at hl 0 rfl) ?_
          obtain ⟨M34, r35, y36, h⟩ := x_cl h
          refine r_callVl (As := []) (rest := [.int r32, .ref q30]) cx w hkn hl.1 (k_X2_value hG hL0 hK0 y36) (cwV 0 hts gX2_factor_X2_value rfl rfl rfl (by decide +kernel) (rm_lo1 (Nat.le_of_ble_eq_true rfl) (Nat.le_of_ble_eq_true rfl))) hL0 hK0 (by decide) rfl rfl rfl (Nat.le_of_ble_eq_true rfl) dX2_factor_113 (fun H locs w => ?_)
          refine lv_l2i (v := (Int64.toInt32 r35)) hx hb dX2_factor_116 rfl ?_
          obtain ⟨M37, r38, y39, h⟩ := x_cl h
          refine r_callVv (As := [.int r32, .int ((Int64.toInt32 r35))]) (rest := []) cx w hkn hl.1 (k_X3_addOperation hG hLq30 hKq30 y39) (cwV 2 hts gX2_factor_X3_addOperation rfl rfl rfl (by decide +kernel) (rm_lo1 (Nat.le_of_ble_eq_true rfl) (Nat.le_of_ble_eq_true rfl))) hLq30 hKq30 (by decide) rfl rfl rfl (Nat.le_of_ble_eq_true rfl) dX2_factor_117 (fun H locs w => ?_)
          refine lv_aload_n hx hb dX2_factor_120 rfl (lv_at hl 0 rfl) ?_
          obtain ⟨M40, r41, y42, h⟩ := x_cl h
          refine r_callVv (As := []) (rest := []) cx w hkn hl.1 (k_X2_advance hG hL0 hK0 y42) (cwV 0 hts gX2_factor_X2_advance rfl rfl rfl (by decide +kernel) (rm_lo1 (Nat.le_of_ble_eq_true rfl) (Nat.le_of_ble_eq_true rfl))) hL0 hK0 (by decide) rfl rfl rfl (Nat.le_of_ble_eq_true rfl) dX2_factor_121 (fun H locs w => ?_)
          refine lv_iconst (v := (1 : Int32)) hx hb dX2_factor_124 (by decide) ?_
          obtain ⟨z43, h⟩ := x_ck h
          exact r_zret cx w z43 h dX2_factor_125
        · have h := x_f h k29
          rcases Decidable.em (r2 = 221) with k44 | k44
          · have h := x_t h k44
            rw [k44]
            refine lv_lookup (tgt := 104) hx hb dX2_factor_4 (by decide) rfl (by decide) ?_
            refine lv_aload_n hx hb dX2_factor_104 rfl (lv_at hl 0 rfl) ?_
            obtain ⟨q45, eq45, h⟩ := x_rf h
            obtain ⟨hLq45, hKq45⟩ := wt_q hG hL0 hK0 eq45
            have hKq45 : gK G q45 = 2 := hKq45
            refine r_getR (k := 1) cx w hL0 hK0 (by decide) rfl wi_X2_factor_X2 (by decide) rfl eq45 (List.mem_of_getElem? (i := 1) rfl) dX2_factor_105 ?_
            refine lv_aload_n hx hb dX2_factor_108 rfl (lv_at hl 0 rfl) ?_
            obtain ⟨M46, r47, y48, h⟩ := x_cl h
            refine r_callVi (As := []) (rest := [.ref q45]) cx w hkn hl.1 (k_X2_kind hG hL0 hK0 y48) (cwV 0 hts gX2_factor_X2_kind rfl rfl rfl (by decide +kernel) (rm_lo1 (Nat.le_of_ble_eq_true rfl) (Nat.le_of_ble_eq_true rfl))) hL0 hK0 (by decide) rfl rfl rfl (Nat.le_of_ble_eq_true rfl) dX2_factor_109 (fun H locs w => ?_)
            refine lv_aload_n hx hb dX2_factor_112 rfl (lv_at hl 0 rfl) ?_
            obtain ⟨M49, r50, y51, h⟩ := x_cl h
            refine r_callVl (As := []) (rest := [.int r47, .ref q45]) cx w hkn hl.1 (k_X2_value hG hL0 hK0 y51) (cwV 0 hts gX2_factor_X2_value rfl rfl rfl (by decide +kernel) (rm_lo1 (Nat.le_of_ble_eq_true rfl) (Nat.le_of_ble_eq_true rfl))) hL0 hK0 (by decide) rfl rfl rfl (Nat.le_of_ble_eq_true rfl) dX2_factor_113 (fun H locs w => ?_)
            refine lv_l2i (v := (Int64.toInt32 r50)) hx hb dX2_factor_116 rfl ?_
            obtain ⟨M52, r53, y54, h⟩ := x_cl h
            refine r_callVv (As := [.int r47, .int ((Int64.toInt32 r50))]) (rest := []) cx w hkn hl.1 (k_X3_addOperation hG hLq45 hKq45 y54) (cwV 2 hts gX2_factor_X3_addOperation rfl rfl rfl (by decide +kernel) (rm_lo1 (Nat.le_of_ble_eq_true rfl) (Nat.le_of_ble_eq_true rfl))) hLq45 hKq45 (by decide) rfl rfl rfl (Nat.le_of_ble_eq_true rfl) dX2_factor_117 (fun H locs w => ?_)
            refine lv_aload_n hx hb dX2_factor_120 rfl (lv_at hl 0 rfl) ?_
            obtain ⟨M55, r56, y57, h⟩ := x_cl h
            refine r_callVv (As := []) (rest := []) cx w hkn hl.1 (k_X2_advance hG hL0 hK0 y57) (cwV 0 hts gX2_factor_X2_advance rfl rfl rfl (by decide +kernel) (rm_lo1 (Nat.le_of_ble_eq_true rfl) (Nat.le_of_ble_eq_true rfl))) hL0 hK0 (by decide) rfl rfl rfl (Nat.le_of_ble_eq_true rfl) dX2_factor_121 (fun H locs w => ?_)
            refine lv_iconst (v := (1 : Int32)) hx hb dX2_factor_124 (by decide) ?_
            obtain ⟨z58, h⟩ := x_ck h
            exact r_zret cx w z58 h dX2_factor_125
          · have h := x_f h k44
            rcases Decidable.em (r2 = 222) with k59 | k59
            · have h := x_t h k59
              rw [k59]
              refine lv_lookup (tgt := 126) hx hb dX2_factor_4 (by decide) rfl (by decide) ?_
              refine lv_aload_n hx hb dX2_factor_126 rfl (lv_at hl 0 rfl) ?_
              obtain ⟨M60, r61, y62, h⟩ := x_cl h
              refine r_callVi (As := []) (rest := []) cx w hkn hl.1 (k_X2_antOperation hG hL0 hK0 y62) (cwV 0 hts gX2_factor_X2_antOperation rfl rfl rfl (by decide +kernel) (rm_lo1 (Nat.le_of_ble_eq_true rfl) (Nat.le_of_ble_eq_true rfl))) hL0 hK0 (by decide) rfl rfl rfl (Nat.le_of_ble_eq_true rfl) dX2_factor_127 (fun H locs w => ?_)
              obtain ⟨z63, h⟩ := x_ck h
              exact r_zret cx w z63 h dX2_factor_130
            · have h := x_f h k59
              rcases Decidable.em (r2 = 223) with k64 | k64
              · have h := x_t h k64
                rw [k64]
                refine lv_lookup (tgt := 126) hx hb dX2_factor_4 (by decide) rfl (by decide) ?_
                refine lv_aload_n hx hb dX2_factor_126 rfl (lv_at hl 0 rfl) ?_
                obtain ⟨M65, r66, y67, h⟩ := x_cl h
                refine r_callVi (As := []) (rest := []) cx w hkn hl.1 (k_X2_antOperation hG hL0 hK0 y67) (cwV 0 hts gX2_factor_X2_antOperation rfl rfl rfl (by decide +kernel) (rm_lo1 (Nat.le_of_ble_eq_true rfl) (Nat.le_of_ble_eq_true rfl))) hL0 hK0 (by decide) rfl rfl rfl (Nat.le_of_ble_eq_true rfl) dX2_factor_127 (fun H locs w => ?_)
                obtain ⟨z68, h⟩ := x_ck h
                exact r_zret cx w z68 h dX2_factor_130
              · have h := x_f h k64
                rcases Decidable.em (r2 = 224) with k69 | k69
                · have h := x_t h k69
                  rw [k69]
                  refine lv_lookup (tgt := 126) hx hb dX2_factor_4 (by decide) rfl (by decide) ?_
                  refine lv_aload_n hx hb dX2_factor_126 rfl (lv_at hl 0 rfl) ?_
                  obtain ⟨M70, r71, y72, h⟩ := x_cl h
                  refine r_callVi (As := []) (rest := []) cx w hkn hl.1 (k_X2_antOperation hG hL0 hK0 y72) (cwV 0 hts gX2_factor_X2_antOperation rfl rfl rfl (by decide +kernel) (rm_lo1 (Nat.le_of_ble_eq_true rfl) (Nat.le_of_ble_eq_true rfl))) hL0 hK0 (by decide) rfl rfl rfl (Nat.le_of_ble_eq_true rfl) dX2_factor_127 (fun H locs w => ?_)
                  obtain ⟨z73, h⟩ := x_ck h
                  exact r_zret cx w z73 h dX2_factor_130
                · have h := x_f h k69
                  rcases Decidable.em (r2 = 225) with k74 | k74
                  · have h := x_t h k74
                    rw [k74]
                    refine lv_lookup (tgt := 131) hx hb dX2_factor_4 (by decide) rfl (by decide) ?_
                    refine lv_aload_n hx hb dX2_factor_131 rfl (lv_at hl 0 rfl) ?_
                    obtain ⟨M75, r76, y77, h⟩ := x_cl h
                    refine r_callVv (As := []) (rest := []) cx w hkn hl.1 (k_X2_advance hG hL0 hK0 y77) (cwV 0 hts gX2_factor_X2_advance rfl rfl rfl (by decide +kernel) (rm_lo1 (Nat.le_of_ble_eq_true rfl) (Nat.le_of_ble_eq_true rfl))) hL0 hK0 (by decide) rfl rfl rfl (Nat.le_of_ble_eq_true rfl) dX2_factor_132 (fun H locs w => ?_)
                    refine lv_aload_n hx hb dX2_factor_135 rfl (lv_at hl 0 rfl) ?_
                    refine lv_iload_n hx hb dX2_factor_136 rfl (lv_at hl 1 rfl) ?_
                    refine lv_sipush (v := (225 : Int32)) hx hb dX2_factor_137 (by decide) ?_
                    obtain ⟨M78, r79, y80, h⟩ := x_cl h
                    refine r_callVi (As := [.int c1, .int ((225 : Int32))]) (rest := []) cx w hkn hl.1 (hR.2.2.2.2.1 _ _ _ _ _ y80) (cwV 2 hts gX2_factor_X2_group rfl rfl rfl (by decide +kernel) (rm_up1 (by decide))) hL0 hK0 (by decide) rfl rfl rfl (Nat.le_of_ble_eq_true rfl) dX2_factor_140 (fun H locs w => ?_)
                    obtain ⟨z81, h⟩ := x_ck h
                    exact r_zret cx w z81 h dX2_factor_143
                  · have h := x_f h k74
                    rcases Decidable.em (r2 = 231) with k82 | k82
                    · have h := x_t h k82
                      rw [k82]
                      refine lv_lookup (tgt := 158) hx hb dX2_factor_4 (by decide) rfl (by decide) ?_
                      refine lv_aload_n hx hb dX2_factor_158 rfl (lv_at hl 0 rfl) ?_
                      refine lv_iload_n hx hb dX2_factor_159 rfl (lv_at hl 1 rfl) ?_
                      obtain ⟨M83, r84, y85, h⟩ := x_cl h
                      refine r_callVi (As := [.int c1]) (rest := []) cx w hkn hl.1 (hR.2.2.2.2.2 _ _ _ _ _ y85) (cwV 1 hts gX2_factor_X2_choice rfl rfl rfl (by decide +kernel) (rm_up1 (by decide))) hL0 hK0 (by decide) rfl rfl rfl (Nat.le_of_ble_eq_true rfl) dX2_factor_160 (fun H locs w => ?_)
                      obtain ⟨z86, h⟩ := x_ck h
                      exact r_zret cx w z86 h dX2_factor_163
                    · have h := x_f h k82
                      rcases Decidable.em (r2 = 232) with k87 | k87
                      · have h := x_t h k87
                        rw [k87]
                        refine lv_lookup (tgt := 158) hx hb dX2_factor_4 (by decide) rfl (by decide) ?_
                        refine lv_aload_n hx hb dX2_factor_158 rfl (lv_at hl 0 rfl) ?_
                        refine lv_iload_n hx hb dX2_factor_159 rfl (lv_at hl 1 rfl) ?_
                        obtain ⟨M88, r89, y90, h⟩ := x_cl h
                        refine r_callVi (As := [.int c1]) (rest := []) cx w hkn hl.1 (hR.2.2.2.2.2 _ _ _ _ _ y90) (cwV 1 hts gX2_factor_X2_choice rfl rfl rfl (by decide +kernel) (rm_up1 (by decide))) hL0 hK0 (by decide) rfl rfl rfl (Nat.le_of_ble_eq_true rfl) dX2_factor_160 (fun H locs w => ?_)
                        obtain ⟨z91, h⟩ := x_ck h
                        exact r_zret cx w z91 h dX2_factor_163
                      · have h := x_f h k87
                        refine lv_lookup (tgt := 164) hx hb dX2_factor_4 (by decide) (off := 160) (by have nk4 : ¬ (3 = Int32.toInt r2) := fun hh => k4 (Int32.toInt_inj.mp hh.symm); have nk19 : ¬ (40 = Int32.toInt r2) := fun hh => k19 (Int32.toInt_inj.mp hh.symm); have nk24 : ¬ (45 = Int32.toInt r2) := fun hh => k24 (Int32.toInt_inj.mp hh.symm); have nk29 : ¬ (220 = Int32.toInt r2) := fun hh => k29 (Int32.toInt_inj.mp hh.symm); have nk44 : ¬ (221 = Int32.toInt r2) := fun hh => k44 (Int32.toInt_inj.mp hh.symm); have nk59 : ¬ (222 = Int32.toInt r2) := fun hh => k59 (Int32.toInt_inj.mp hh.symm); have nk64 : ¬ (223 = Int32.toInt r2) := fun hh => k64 (Int32.toInt_inj.mp hh.symm); have nk69 : ¬ (224 = Int32.toInt r2) := fun hh => k69 (Int32.toInt_inj.mp hh.symm); have nk74 : ¬ (225 = Int32.toInt r2) := fun hh => k74 (Int32.toInt_inj.mp hh.symm); have nk82 : ¬ (231 = Int32.toInt r2) := fun hh => k82 (Int32.toInt_inj.mp hh.symm); have nk87 : ¬ (232 = Int32.toInt r2) := fun hh => k87 (Int32.toInt_inj.mp hh.symm); simp [Op.lookupswitch.offset, nk4, nk19, nk24, nk29, nk44, nk59, nk64, nk69, nk74, nk82, nk87]) (by decide) ?_
                        refine lv_iconst (v := (0 : Int32)) hx hb dX2_factor_164 (by decide) ?_
                        obtain ⟨z92, h⟩ := x_ck h
                        exact r_zret cx w z92 h dX2_factor_165
set_option maxHeartbeats 4000000 in
set_option maxRecDepth 100000 in
theorem kq_X2_negatedFactor {l : Launch} {D : va_G} {cy : cyS} {G : gS} {M M' : mS} {r : Int32} {a0 : Nat} {c1 : Int32} (hG : wt G) (hL0 : a0 ∈ gL G) (hK0 : gK G a0 = 1) {N0 : Nat} {R : Nat → mS → Int32 → Int32 → Option (mS × Int32)} (hR : SC1 l D cy G a0 (RM1 N0) R) (h : q_X2_negatedFactor G R M a0 c1 = some (M', r)) : ctI l yX2_negatedFactor wsX2_negatedFactor (RM1 (N0 + 1)) D cy G M [.ref a0, .int c1] M' r := by
  unfold q_X2_negatedFactor at h
  refine ctI_of (cc := cX2_negatedFactor) (nL := 3) (ret := (some .boolean)) (lv := [(0, .ref a0), (1, .int c1)]) hG (by decide) rfl ⟨rfl, rfl⟩ (Nat.le_of_ble_eq_true rfl) rfl ?_
  intro p e s m args below meth c A ls cx w hl
  obtain ⟨hx, hb, hml, hown, hts, hr, hlocks, hK, hA, -, hsx⟩ := id cx
  have hkn : 0 ≤ ((RM1 (N0 + 1))).cells ∧ 0 ≤ ((RM1 (N0 + 1))).slots := ⟨Nat.zero_le _, Nat.zero_le _⟩
  refine lv_iload_n hx hb dX2_negatedFactor_0 rfl (lv_at hl 1 rfl) ?_
  refine lv_bipush (v := (8 : Int32)) hx hb dX2_negatedFactor_1 (by decide) ?_
  refine lv_icmp_lt (tgt := 8) hx hb dX2_negatedFactor_3 (by decide) (fun k1 => ?_) (fun k1 => ?_)
  · have h := x_t h k1
    refine lv_aload_n hx hb dX2_negatedFactor_8 rfl (lv_at hl 0 rfl) ?_
    obtain ⟨M2, r3, y4, h⟩ := x_cl h
    refine r_callVv (As := []) (rest := []) cx w hkn hl.1 (k_X2_advance hG hL0 hK0 y4) (cwV 0 hts gX2_negatedFactor_X2_advance rfl rfl rfl (by decide +kernel) (rm_lo1 (Nat.le_of_ble_eq_true rfl) (Nat.le_of_ble_eq_true rfl))) hL0 hK0 (by decide) rfl rfl rfl (Nat.le_of_ble_eq_true rfl) dX2_negatedFactor_9 (fun H locs w => ?_)
    refine lv_aload_n hx hb dX2_negatedFactor_12 rfl (lv_at hl 0 rfl) ?_
    refine lv_iload_n hx hb dX2_negatedFactor_13 rfl (lv_at hl 1 rfl) ?_
    refine lv_iconst (v := (1 : Int32)) hx hb dX2_negatedFactor_14 (by decide) ?_
    refine lv_iadd hx hb dX2_negatedFactor_15 ?_
    obtain ⟨M5, r6, y7, h⟩ := x_cl h
    refine r_callVi (As := [.int ((c1 + (1 : Int32)))]) (rest := []) cx w hkn hl.1 (hR.2.2.1 _ _ _ _ _ y7) (cwV 1 hts gX2_negatedFactor_X2_factor rfl rfl rfl (by decide +kernel) (rm_up1 (by decide))) hL0 hK0 (by decide) rfl rfl rfl (Nat.le_of_ble_eq_true rfl) dX2_negatedFactor_16 (fun H locs w => ?_)
    refine lv_istore_n (lv' := [(2, .int r6), (0, .ref a0), (1, .int c1)]) hx hb dX2_negatedFactor_19 rfl hl (by decide) rfl (fun ls hl => ?_)
    refine lv_aload_n hx hb dX2_negatedFactor_20 rfl (lv_at hl 1 rfl) ?_
    obtain ⟨q8, eq8, h⟩ := x_rf h
    obtain ⟨hLq8, hKq8⟩ := wt_q hG hL0 hK0 eq8
    have hKq8 : gK G q8 = 2 := hKq8
    refine r_getR (k := 1) cx w hL0 hK0 (by decide) rfl wi_X2_negatedFactor_X2 (by decide) rfl eq8 (List.mem_of_getElem? (i := 1) rfl) dX2_negatedFactor_21 ?_
    refine lv_iconst (v := (4 : Int32)) hx hb dX2_negatedFactor_24 (by decide) ?_
    refine lv_iconst (v := (0 : Int32)) hx hb dX2_negatedFactor_25 (by decide) ?_
    obtain ⟨M9, r10, y11, h⟩ := x_cl h
    refine r_callVv (As := [.int ((4 : Int32)), .int ((0 : Int32))]) (rest := []) cx w hkn hl.1 (k_X3_addOperation hG hLq8 hKq8 y11) (cwV 2 hts gX2_negatedFactor_X3_addOperation rfl rfl rfl (by decide +kernel) (rm_lo1 (Nat.le_of_ble_eq_true rfl) (Nat.le_of_ble_eq_true rfl))) hLq8 hKq8 (by decide) rfl rfl rfl (Nat.le_of_ble_eq_true rfl) dX2_negatedFactor_26 (fun H locs w => ?_)
    refine lv_iload_n hx hb dX2_negatedFactor_29 rfl (lv_at hl 0 rfl) ?_
    obtain ⟨z12, h⟩ := x_ck h
    exact r_zret cx w z12 h dX2_negatedFactor_30
  · have h := x_f h k1
    refine lv_iconst (v := (0 : Int32)) hx hb dX2_negatedFactor_6 (by decide) ?_
    obtain ⟨z13, h⟩ := x_ck h
    exact r_zret cx w z13 h dX2_negatedFactor_7
set_option maxHeartbeats 4000000 in
set_option maxRecDepth 100000 in
theorem b_X2_group_34 {p : Program} {e : Env} {s : State} {m : MethodId} {args : Array Value} {below : List Frame} {meth : Method} {c : Code} {A : Nat → Prop} {l : Launch} {D : va_G} {cy : cyS} {G : gS} (cx : cX p s m args meth c cX2_group RX2 3 (some .boolean) wsX2_group D cy G A) {k0 n0 : Nat} {N0 : Nat} (hkn : k0 ≤ ((RM1 (N0 + 1))).cells ∧ n0 ≤ ((RM1 (N0 + 1))).slots) {M' : mS} {r : Int32} {a0 : Nat} {c1 : Int32} {c2 : Int32} (hL0 : a0 ∈ gL G) (hK0 : gK G a0 = 1)  {R : Nat → mS → Int32 → Int32 → Option (mS × Int32)} (hR : SC1 l D cy G a0 (RM1 N0) R)  : ∀ (M : mS) (H : Heap) (locs : List Loc) (ls : Array Slot), q_X2_group_34 G R a0 c1 c2 M = some (M', r) → wd D cy G M A s.heap H locs → lv_has ls 3 [] → W p l e (RM1 (N0 + 1)) s m args below meth c H locs k0 n0 (MQ below (va_Qi (fun (r' : Int32) (_ : Unit) => r' = r) (fun _ t => wOut D cy G M' t) A) args s k0 n0 A) (F0 m 34 ls []) := by
  obtain ⟨hx, hb, hml, hown, hts, hr, hlocks, hK, hA, hG, hsx⟩ := id cx
  intro M H locs ls h w hl
  unfold q_X2_group_34 at h
  refine lv_iconst (v := (0 : Int32)) hx hb dX2_group_34 (by decide) ?_
  obtain ⟨z1, h⟩ := x_ck h
  exact r_zret cx w z1 h dX2_group_35
set_option maxHeartbeats 4000000 in
set_option maxRecDepth 100000 in
theorem b_X2_group_52 {p : Program} {e : Env} {s : State} {m : MethodId} {args : Array Value} {below : List Frame} {meth : Method} {c : Code} {A : Nat → Prop} {l : Launch} {D : va_G} {cy : cyS} {G : gS} (cx : cX p s m args meth c cX2_group RX2 3 (some .boolean) wsX2_group D cy G A) {k0 n0 : Nat} {N0 : Nat} (hkn : k0 ≤ ((RM1 (N0 + 1))).cells ∧ n0 ≤ ((RM1 (N0 + 1))).slots) {M' : mS} {r : Int32} {a0 : Nat} {c1 : Int32} {c2 : Int32} (hL0 : a0 ∈ gL G) (hK0 : gK G a0 = 1)  {R : Nat → mS → Int32 → Int32 → Option (mS × Int32)} (hR : SC1 l D cy G a0 (RM1 N0) R)  : ∀ (M : mS) (H : Heap) (locs : List Loc) (ls : Array Slot), q_X2_group_52 G R a0 c1 c2 M = some (M', r) → wd D cy G M A s.heap H locs → lv_has ls 3 [] → W p l e (RM1 (N0 + 1)) s m args below meth c H locs k0 n0 (MQ below (va_Qi (fun (r' : Int32) (_ : Unit) => r' = r) (fun _ t => wOut D cy G M' t) A) args s k0 n0 A) (F0 m 52 ls []) := by
  obtain ⟨hx, hb, hml, hown, hts, hr, hlocks, hK, hA, hG, hsx⟩ := id cx
  intro M H locs ls h w hl
  unfold q_X2_group_52 at h
  refine lv_iconst (v := (1 : Int32)) hx hb dX2_group_52 (by decide) ?_
  obtain ⟨z1, h⟩ := x_ck h
  exact r_zret cx w z1 h dX2_group_53
set_option maxHeartbeats 4000000 in
set_option maxRecDepth 100000 in
theorem kq_X2_group {l : Launch} {D : va_G} {cy : cyS} {G : gS} {M M' : mS} {r : Int32} {a0 : Nat} {c1 : Int32} {c2 : Int32} (hG : wt G) (hL0 : a0 ∈ gL G) (hK0 : gK G a0 = 1) {N0 : Nat} {R : Nat → mS → Int32 → Int32 → Option (mS × Int32)} (hR : SC1 l D cy G a0 (RM1 N0) R) (h : q_X2_group G R M a0 c1 c2 = some (M', r)) : ctI l yX2_group wsX2_group (RM1 (N0 + 1)) D cy G M [.ref a0, .int c1, .int c2] M' r := by
  unfold q_X2_group at h
  refine ctI_of (cc := cX2_group) (nL := 3) (ret := (some .boolean)) (lv := [(0, .ref a0), (1, .int c1), (2, .int c2)]) hG (by decide) rfl ⟨rfl, rfl⟩ (Nat.le_of_ble_eq_true rfl) rfl ?_
  intro p e s m args below meth c A ls cx w hl
  obtain ⟨hx, hb, hml, hown, hts, hr, hlocks, hK, hA, -, hsx⟩ := id cx
  have hkn : 0 ≤ ((RM1 (N0 + 1))).cells ∧ 0 ≤ ((RM1 (N0 + 1))).slots := ⟨Nat.zero_le _, Nat.zero_le _⟩
  refine lv_iload_n hx hb dX2_group_0 rfl (lv_at hl 1 rfl) ?_
  refine lv_bipush (v := (8 : Int32)) hx hb dX2_group_1 (by decide) ?_
  refine lv_icmp_ge (tgt := 34) hx hb dX2_group_3 (by decide) (fun k1 => ?_) (fun k1 => ?_)
  · have h := x_t h k1
    exact b_X2_group_34 cx hkn hL0 hK0 hR M s.heap [] ls h w (lv_sub hl [] rfl)
  · have h := x_f h k1
    refine lv_aload_n hx hb dX2_group_6 rfl (lv_at hl 0 rfl) ?_
    refine lv_bipush (v := (40 : Int32)) hx hb dX2_group_7 (by decide) ?_
    obtain ⟨M2, r3, y4, h⟩ := x_cl h
    refine r_callVi (As := [.int ((40 : Int32))]) (rest := []) cx w hkn hl.1 (k_X2_take hG hL0 hK0 y4) (cwV 1 hts gX2_group_X2_take rfl rfl rfl (by decide +kernel) (rm_lo1 (Nat.le_of_ble_eq_true rfl) (Nat.le_of_ble_eq_true rfl))) hL0 hK0 (by decide) rfl rfl rfl (Nat.le_of_ble_eq_true rfl) dX2_group_9 (fun H locs w => ?_)
    refine lv_if_eq (tgt := 34) hx hb dX2_group_12 (by decide) (fun k5 => ?_) (fun k5 => ?_)
    · have h := x_t h k5
      exact b_X2_group_34 cx hkn hL0 hK0 hR M2 H locs ls h w (lv_sub hl [] rfl)
    · have h := x_f h k5
      refine lv_aload_n hx hb dX2_group_15 rfl (lv_at hl 0 rfl) ?_
      refine lv_iload_n hx hb dX2_group_16 rfl (lv_at hl 1 rfl) ?_
      refine lv_iconst (v := (1 : Int32)) hx hb dX2_group_17 (by decide) ?_
      refine lv_iadd hx hb dX2_group_18 ?_
      obtain ⟨M6, r7, y8, h⟩ := x_cl h
      refine r_callVi (As := [.int ((c1 + (1 : Int32)))]) (rest := []) cx w hkn hl.1 (hR.1 _ _ _ _ _ y8) (cwV 1 hts gX2_group_X2_sum rfl rfl rfl (by decide +kernel) (rm_up1 (by decide))) hL0 hK0 (by decide) rfl rfl rfl (Nat.le_of_ble_eq_true rfl) dX2_group_19 (fun H locs w => ?_)
      refine lv_if_eq (tgt := 34) hx hb dX2_group_22 (by decide) (fun k9 => ?_) (fun k9 => ?_)
      · have h := x_t h k9
        exact b_X2_group_34 cx hkn hL0 hK0 hR M6 H locs ls h w (lv_sub hl [] rfl)
      · have h := x_f h k9
        refine lv_aload_n hx hb dX2_group_25 rfl (lv_at hl 0 rfl) ?_
        refine lv_bipush (v := (41 : Int32)) hx hb dX2_group_26 (by decide) ?_
        obtain ⟨M10, r11, y12, h⟩ := x_cl h
        refine r_callVi (As := [.int ((41 : Int32))]) (rest := []) cx w hkn hl.1 (k_X2_take hG hL0 hK0 y12) (cwV 1 hts gX2_group_X2_take rfl rfl rfl (by decide +kernel) (rm_lo1 (Nat.le_of_ble_eq_true rfl) (Nat.le_of_ble_eq_true rfl))) hL0 hK0 (by decide) rfl rfl rfl (Nat.le_of_ble_eq_true rfl) dX2_group_28 (fun H locs w => ?_)
        refine lv_if_ne (tgt := 36) hx hb dX2_group_31 (by decide) (fun k13 => ?_) (fun k13 => ?_)
        · have h := x_f h k13
          refine lv_iload_n hx hb dX2_group_36 rfl (lv_at hl 2 rfl) ?_
          refine lv_sipush (v := (225 : Int32)) hx hb dX2_group_37 (by decide) ?_
          refine lv_icmp_ne (tgt := 52) hx hb dX2_group_40 (by decide) (fun k14 => ?_) (fun k14 => ?_)
          · have h := x_f h k14
            exact b_X2_group_52 cx hkn hL0 hK0 hR M10 H locs ls h w (lv_sub hl [] rfl)
          · have h := x_t h k14
            refine lv_aload_n hx hb dX2_group_43 rfl (lv_at hl 0 rfl) ?_
            obtain ⟨q15, eq15, h⟩ := x_rf h
            obtain ⟨hLq15, hKq15⟩ := wt_q hG hL0 hK0 eq15
            have hKq15 : gK G q15 = 2 := hKq15
            refine r_getR (k := 1) cx w hL0 hK0 (by decide) rfl wi_X2_group_X2 (by decide) rfl eq15 (List.mem_of_getElem? (i := 1) rfl) dX2_group_44 ?_
            refine lv_iload_n hx hb dX2_group_47 rfl (lv_at hl 2 rfl) ?_
            refine lv_iconst (v := (0 : Int32)) hx hb dX2_group_48 (by decide) ?_
            obtain ⟨M16, r17, y18, h⟩ := x_cl h
            refine r_callVv (As := [.int c2, .int ((0 : Int32))]) (rest := []) cx w hkn hl.1 (k_X3_addOperation hG hLq15 hKq15 y18) (cwV 2 hts gX2_group_X3_addOperation rfl rfl rfl (by decide +kernel) (rm_lo1 (Nat.le_of_ble_eq_true rfl) (Nat.le_of_ble_eq_true rfl))) hLq15 hKq15 (by decide) rfl rfl rfl (Nat.le_of_ble_eq_true rfl) dX2_group_49 (fun H locs w => ?_)
            exact b_X2_group_52 cx hkn hL0 hK0 hR M16 H locs ls h w (lv_sub hl [] rfl)
        · have h := x_t h k13
          exact b_X2_group_34 cx hkn hL0 hK0 hR M10 H locs ls h w (lv_sub hl [] rfl)
set_option maxHeartbeats 4000000 in
set_option maxRecDepth 100000 in
theorem b_X2_choice_62 {p : Program} {e : Env} {s : State} {m : MethodId} {args : Array Value} {below : List Frame} {meth : Method} {c : Code} {A : Nat → Prop} {l : Launch} {D : va_G} {cy : cyS} {G : gS} (cx : cX p s m args meth c cX2_choice RX2 3 (some .boolean) wsX2_choice D cy G A) {k0 n0 : Nat} {N0 : Nat} (hkn : k0 ≤ ((RM1 (N0 + 1))).cells ∧ n0 ≤ ((RM1 (N0 + 1))).slots) {M' : mS} {r : Int32} {a0 : Nat} {c1 : Int32} (hL0 : a0 ∈ gL G) (hK0 : gK G a0 = 1)  {R : Nat → mS → Int32 → Int32 → Option (mS × Int32)} (hR : SC1 l D cy G a0 (RM1 N0) R)  : ∀ (M : mS) (H : Heap) (locs : List Loc) (ls : Array Slot), q_X2_choice_62 G R a0 c1 M = some (M', r) → wd D cy G M A s.heap H locs → lv_has ls 3 [] → W p l e (RM1 (N0 + 1)) s m args below meth c H locs k0 n0 (MQ below (va_Qi (fun (r' : Int32) (_ : Unit) => r' = r) (fun _ t => wOut D cy G M' t) A) args s k0 n0 A) (F0 m 62 ls []) := by
  obtain ⟨hx, hb, hml, hown, hts, hr, hlocks, hK, hA, hG, hsx⟩ := id cx
  intro M H locs ls h w hl
  unfold q_X2_choice_62 at h
  refine lv_iconst (v := (0 : Int32)) hx hb dX2_choice_62 (by decide) ?_
  obtain ⟨z1, h⟩ := x_ck h
  exact r_zret cx w z1 h dX2_choice_63
set_option maxHeartbeats 4000000 in
set_option maxRecDepth 100000 in
theorem kq_X2_choice {l : Launch} {D : va_G} {cy : cyS} {G : gS} {M M' : mS} {r : Int32} {a0 : Nat} {c1 : Int32} (hG : wt G) (hL0 : a0 ∈ gL G) (hK0 : gK G a0 = 1) {N0 : Nat} {R : Nat → mS → Int32 → Int32 → Option (mS × Int32)} (hR : SC1 l D cy G a0 (RM1 N0) R) (h : q_X2_choice G R M a0 c1 = some (M', r)) : ctI l yX2_choice wsX2_choice (RM1 (N0 + 1)) D cy G M [.ref a0, .int c1] M' r := by
  unfold q_X2_choice at h
  refine ctI_of (cc := cX2_choice) (nL := 3) (ret := (some .boolean)) (lv := [(0, .ref a0), (1, .int c1)]) hG (by decide) rfl ⟨rfl, rfl⟩ (Nat.le_of_ble_eq_true rfl) rfl ?_
  intro p e s m args below meth c A ls cx w hl
  obtain ⟨hx, hb, hml, hown, hts, hr, hlocks, hK, hA, -, hsx⟩ := id cx
  have hkn : 0 ≤ ((RM1 (N0 + 1))).cells ∧ 0 ≤ ((RM1 (N0 + 1))).slots := ⟨Nat.zero_le _, Nat.zero_le _⟩
  refine lv_aload_n hx hb dX2_choice_0 rfl (lv_at hl 0 rfl) ?_
  obtain ⟨M1, r2, y3, h⟩ := x_cl h
  refine r_callVi (As := []) (rest := []) cx w hkn hl.1 (k_X2_kind hG hL0 hK0 y3) (cwV 0 hts gX2_choice_X2_kind rfl rfl rfl (by decide +kernel) (rm_lo1 (Nat.le_of_ble_eq_true rfl) (Nat.le_of_ble_eq_true rfl))) hL0 hK0 (by decide) rfl rfl rfl (Nat.le_of_ble_eq_true rfl) dX2_choice_1 (fun H locs w => ?_)
  refine lv_istore_n (lv' := [(2, .int r2), (0, .ref a0), (1, .int c1)]) hx hb dX2_choice_4 rfl hl (by decide) rfl (fun ls hl => ?_)
  refine lv_aload_n hx hb dX2_choice_5 rfl (lv_at hl 1 rfl) ?_
  obtain ⟨M4, r5, y6, h⟩ := x_cl h
  refine r_callVv (As := []) (rest := []) cx w hkn hl.1 (k_X2_advance hG hL0 hK0 y6) (cwV 0 hts gX2_choice_X2_advance rfl rfl rfl (by decide +kernel) (rm_lo1 (Nat.le_of_ble_eq_true rfl) (Nat.le_of_ble_eq_true rfl))) hL0 hK0 (by decide) rfl rfl rfl (Nat.le_of_ble_eq_true rfl) dX2_choice_6 (fun H locs w => ?_)
  refine lv_iload_n hx hb dX2_choice_9 rfl (lv_at hl 2 rfl) ?_
  refine lv_bipush (v := (8 : Int32)) hx hb dX2_choice_10 (by decide) ?_
  refine lv_icmp_ge (tgt := 62) hx hb dX2_choice_12 (by decide) (fun k7 => ?_) (fun k7 => ?_)
  · have h := x_t h k7
    exact b_X2_choice_62 cx hkn hL0 hK0 hR M4 H locs ls h w (lv_sub hl [] rfl)
  · have h := x_f h k7
    refine lv_aload_n hx hb dX2_choice_15 rfl (lv_at hl 1 rfl) ?_
    refine lv_bipush (v := (40 : Int32)) hx hb dX2_choice_16 (by decide) ?_
    obtain ⟨M8, r9, y10, h⟩ := x_cl h
    refine r_callVi (As := [.int ((40 : Int32))]) (rest := []) cx w hkn hl.1 (k_X2_take hG hL0 hK0 y10) (cwV 1 hts gX2_choice_X2_take rfl rfl rfl (by decide +kernel) (rm_lo1 (Nat.le_of_ble_eq_true rfl) (Nat.le_of_ble_eq_true rfl))) hL0 hK0 (by decide) rfl rfl rfl (Nat.le_of_ble_eq_true rfl) dX2_choice_18 (fun H locs w => ?_)
    refine lv_if_eq (tgt := 62) hx hb dX2_choice_21 (by decide) (fun k11 => ?_) (fun k11 => ?_)
    · have h := x_t h k11
      exact b_X2_choice_62 cx hkn hL0 hK0 hR M8 H locs ls h w (lv_sub hl [] rfl)
    · have h := x_f h k11
      refine lv_aload_n hx hb dX2_choice_24 rfl (lv_at hl 1 rfl) ?_
      refine lv_iload_n hx hb dX2_choice_25 rfl (lv_at hl 2 rfl) ?_
      refine lv_iconst (v := (1 : Int32)) hx hb dX2_choice_26 (by decide) ?_
      refine lv_iadd hx hb dX2_choice_27 ?_
      obtain ⟨M12, r13, y14, h⟩ := x_cl h
      refine r_callVi (As := [.int ((c1 + (1 : Int32)))]) (rest := []) cx w hkn hl.1 (hR.1 _ _ _ _ _ y14) (cwV 1 hts gX2_choice_X2_sum rfl rfl rfl (by decide +kernel) (rm_up1 (by decide))) hL0 hK0 (by decide) rfl rfl rfl (Nat.le_of_ble_eq_true rfl) dX2_choice_28 (fun H locs w => ?_)
      refine lv_if_eq (tgt := 62) hx hb dX2_choice_31 (by decide) (fun k15 => ?_) (fun k15 => ?_)
      · have h := x_t h k15
        exact b_X2_choice_62 cx hkn hL0 hK0 hR M12 H locs ls h w (lv_sub hl [] rfl)
      · have h := x_f h k15
        refine lv_aload_n hx hb dX2_choice_34 rfl (lv_at hl 1 rfl) ?_
        refine lv_bipush (v := (44 : Int32)) hx hb dX2_choice_35 (by decide) ?_
        obtain ⟨M16, r17, y18, h⟩ := x_cl h
        refine r_callVi (As := [.int ((44 : Int32))]) (rest := []) cx w hkn hl.1 (k_X2_take hG hL0 hK0 y18) (cwV 1 hts gX2_choice_X2_take rfl rfl rfl (by decide +kernel) (rm_lo1 (Nat.le_of_ble_eq_true rfl) (Nat.le_of_ble_eq_true rfl))) hL0 hK0 (by decide) rfl rfl rfl (Nat.le_of_ble_eq_true rfl) dX2_choice_37 (fun H locs w => ?_)
        refine lv_if_eq (tgt := 62) hx hb dX2_choice_40 (by decide) (fun k19 => ?_) (fun k19 => ?_)
        · have h := x_t h k19
          exact b_X2_choice_62 cx hkn hL0 hK0 hR M16 H locs ls h w (lv_sub hl [] rfl)
        · have h := x_f h k19
          refine lv_aload_n hx hb dX2_choice_43 rfl (lv_at hl 1 rfl) ?_
          refine lv_iload_n hx hb dX2_choice_44 rfl (lv_at hl 2 rfl) ?_
          refine lv_iconst (v := (1 : Int32)) hx hb dX2_choice_45 (by decide) ?_
          refine lv_iadd hx hb dX2_choice_46 ?_
          obtain ⟨M20, r21, y22, h⟩ := x_cl h
          refine r_callVi (As := [.int ((c1 + (1 : Int32)))]) (rest := []) cx w hkn hl.1 (hR.1 _ _ _ _ _ y22) (cwV 1 hts gX2_choice_X2_sum rfl rfl rfl (by decide +kernel) (rm_up1 (by decide))) hL0 hK0 (by decide) rfl rfl rfl (Nat.le_of_ble_eq_true rfl) dX2_choice_47 (fun H locs w => ?_)
          refine lv_if_eq (tgt := 62) hx hb dX2_choice_50 (by decide) (fun k23 => ?_) (fun k23 => ?_)
          · have h := x_t h k23
            exact b_X2_choice_62 cx hkn hL0 hK0 hR M20 H locs ls h w (lv_sub hl [] rfl)
          · have h := x_f h k23
            refine lv_aload_n hx hb dX2_choice_53 rfl (lv_at hl 1 rfl) ?_
            refine lv_bipush (v := (41 : Int32)) hx hb dX2_choice_54 (by decide) ?_
            obtain ⟨M24, r25, y26, h⟩ := x_cl h
            refine r_callVi (As := [.int ((41 : Int32))]) (rest := []) cx w hkn hl.1 (k_X2_take hG hL0 hK0 y26) (cwV 1 hts gX2_choice_X2_take rfl rfl rfl (by decide +kernel) (rm_lo1 (Nat.le_of_ble_eq_true rfl) (Nat.le_of_ble_eq_true rfl))) hL0 hK0 (by decide) rfl rfl rfl (Nat.le_of_ble_eq_true rfl) dX2_choice_56 (fun H locs w => ?_)
            refine lv_if_ne (tgt := 64) hx hb dX2_choice_59 (by decide) (fun k27 => ?_) (fun k27 => ?_)
            · have h := x_f h k27
              refine lv_aload_n hx hb dX2_choice_64 rfl (lv_at hl 1 rfl) ?_
              obtain ⟨q28, eq28, h⟩ := x_rf h
              obtain ⟨hLq28, hKq28⟩ := wt_q hG hL0 hK0 eq28
              have hKq28 : gK G q28 = 2 := hKq28
              refine r_getR (k := 1) cx w hL0 hK0 (by decide) rfl wi_X2_choice_X2 (by decide) rfl eq28 (List.mem_of_getElem? (i := 1) rfl) dX2_choice_65 ?_
              refine lv_iload_n hx hb dX2_choice_68 rfl (lv_at hl 0 rfl) ?_
              refine lv_iconst (v := (0 : Int32)) hx hb dX2_choice_69 (by decide) ?_
              obtain ⟨M29, r30, y31, h⟩ := x_cl h
              refine r_callVv (As := [.int r2, .int ((0 : Int32))]) (rest := []) cx w hkn hl.1 (k_X3_addOperation hG hLq28 hKq28 y31) (cwV 2 hts gX2_choice_X3_addOperation rfl rfl rfl (by decide +kernel) (rm_lo1 (Nat.le_of_ble_eq_true rfl) (Nat.le_of_ble_eq_true rfl))) hLq28 hKq28 (by decide) rfl rfl rfl (Nat.le_of_ble_eq_true rfl) dX2_choice_70 (fun H locs w => ?_)
              refine lv_iconst (v := (1 : Int32)) hx hb dX2_choice_73 (by decide) ?_
              obtain ⟨z32, h⟩ := x_ck h
              exact r_zret cx w z32 h dX2_choice_74
            · have h := x_t h k27
              exact b_X2_choice_62 cx hkn hL0 hK0 hR M24 H locs ls h w (lv_sub hl [] rfl)
def rec1 (G : gS) (a : Nat) : Nat → Nat → mS → Int32 → Int32 → Option (mS × Int32)
  | 0, _, _, _, _ => none
  | n + 1, t, M, x, y => if t = 0 then q_X2_sum G (rec1 G a n) M a x else if t = 1 then q_X2_product G (rec1 G a n) M a x else if t = 2 then q_X2_factor G (rec1 G a n) M a x else if t = 3 then q_X2_negatedFactor G (rec1 G a n) M a x else if t = 4 then q_X2_group G (rec1 G a n) M a x y else if t = 5 then q_X2_choice G (rec1 G a n) M a x else none
theorem kr1 {l : Launch} {D : va_G} {cy : cyS} {G : gS} {a : Nat} (hG : wt G) (hL : a ∈ gL G) (hK : gK G a = 1) : ∀ n : Nat, SC1 l D cy G a (RM1 n) (rec1 G a n) := by
  intro n
  induction n with
  | zero => exact ⟨fun M x y M' r h => nn h, fun M x y M' r h => nn h, fun M x y M' r h => nn h, fun M x y M' r h => nn h, fun M x y M' r h => nn h, fun M x y M' r h => nn h⟩
  | succ n ih => exact ⟨fun M x y M' r h => kq_X2_sum hG hL hK ih h, fun M x y M' r h => kq_X2_product hG hL hK ih h, fun M x y M' r h => kq_X2_factor hG hL hK ih h, fun M x y M' r h => kq_X2_negatedFactor hG hL hK ih h, fun M x y M' r h => kq_X2_group hG hL hK ih h, fun M x y M' r h => kq_X2_choice hG hL hK ih h⟩
def m_X2_sum (G : gS) (M : mS) (a : Nat) (x : Int32) : Option (mS × Int32) := rec1 G a 64 0 M x (0 : Int32)
abbrev rmX2_sum : Room := RM1 64
theorem k_X2_sum {l : Launch} {D : va_G} {cy : cyS} {G : gS} {M M' : mS} {r : Int32} {a : Nat} {x : Int32} (hG : wt G) (hL : a ∈ gL G) (hK : gK G a = 1) (h : m_X2_sum G M a x = some (M', r)) : ctI l yX2_sum wsX2_sum rmX2_sum D cy G M [.ref a, .int x] M' r := ((kr1 (l := l) (D := D) (cy := cy) hG hL hK 64).1) _ _ _ _ _ h
def m_X2_product (G : gS) (M : mS) (a : Nat) (x : Int32) : Option (mS × Int32) := rec1 G a 64 1 M x (0 : Int32)
abbrev rmX2_product : Room := RM1 64
theorem k_X2_product {l : Launch} {D : va_G} {cy : cyS} {G : gS} {M M' : mS} {r : Int32} {a : Nat} {x : Int32} (hG : wt G) (hL : a ∈ gL G) (hK : gK G a = 1) (h : m_X2_product G M a x = some (M', r)) : ctI l yX2_product wsX2_product rmX2_product D cy G M [.ref a, .int x] M' r := ((kr1 (l := l) (D := D) (cy := cy) hG hL hK 64).2.1) _ _ _ _ _ h
def m_X2_factor (G : gS) (M : mS) (a : Nat) (x : Int32) : Option (mS × Int32) := rec1 G a 64 2 M x (0 : Int32)
abbrev rmX2_factor : Room := RM1 64
theorem k_X2_factor {l : Launch} {D : va_G} {cy : cyS} {G : gS} {M M' : mS} {r : Int32} {a : Nat} {x : Int32} (hG : wt G) (hL : a ∈ gL G) (hK : gK G a = 1) (h : m_X2_factor G M a x = some (M', r)) : ctI l yX2_factor wsX2_factor rmX2_factor D cy G M [.ref a, .int x] M' r := ((kr1 (l := l) (D := D) (cy := cy) hG hL hK 64).2.2.1) _ _ _ _ _ h
def m_X2_negatedFactor (G : gS) (M : mS) (a : Nat) (x : Int32) : Option (mS × Int32) := rec1 G a 64 3 M x (0 : Int32)
abbrev rmX2_negatedFactor : Room := RM1 64
theorem k_X2_negatedFactor {l : Launch} {D : va_G} {cy : cyS} {G : gS} {M M' : mS} {r : Int32} {a : Nat} {x : Int32} (hG : wt G) (hL : a ∈ gL G) (hK : gK G a = 1) (h : m_X2_negatedFactor G M a x = some (M', r)) : ctI l yX2_negatedFactor wsX2_negatedFactor rmX2_negatedFactor D cy G M [.ref a, .int x] M' r := ((kr1 (l := l) (D := D) (cy := cy) hG hL hK 64).2.2.2.1) _ _ _ _ _ h
def m_X2_group (G : gS) (M : mS) (a : Nat) (x : Int32) (y : Int32) : Option (mS × Int32) := rec1 G a 64 4 M x y
abbrev rmX2_group : Room := RM1 64
theorem k_X2_group {l : Launch} {D : va_G} {cy : cyS} {G : gS} {M M' : mS} {r : Int32} {a : Nat} {x : Int32} {y : Int32} (hG : wt G) (hL : a ∈ gL G) (hK : gK G a = 1) (h : m_X2_group G M a x y = some (M', r)) : ctI l yX2_group wsX2_group rmX2_group D cy G M [.ref a, .int x, .int y] M' r := ((kr1 (l := l) (D := D) (cy := cy) hG hL hK 64).2.2.2.2.1) _ _ _ _ _ h
def m_X2_choice (G : gS) (M : mS) (a : Nat) (x : Int32) : Option (mS × Int32) := rec1 G a 64 5 M x (0 : Int32)
abbrev rmX2_choice : Room := RM1 64
theorem k_X2_choice {l : Launch} {D : va_G} {cy : cyS} {G : gS} {M M' : mS} {r : Int32} {a : Nat} {x : Int32} (hG : wt G) (hL : a ∈ gL G) (hK : gK G a = 1) (h : m_X2_choice G M a x = some (M', r)) : ctI l yX2_choice wsX2_choice rmX2_choice D cy G M [.ref a, .int x] M' r := ((kr1 (l := l) (D := D) (cy := cy) hG hL hK 64).2.2.2.2.2) _ _ _ _ _ h
-- X2_isComparison
abbrev rmX2_isComparison : Room := { frames := 0, cells := 0, slots := 0, locals := 0 }
def m_X2_isComparison_32 (G : gS) (c0 : Int32)  (M : mS)  : Option (mS × Int32) := o_ck ((1 : Int32) = 0 ∨ (1 : Int32) = 1) (some (M, (1 : Int32)))
def m_X2_isComparison (G : gS) (M : mS) (c0 : Int32) : Option (mS × Int32) := (if c0 = (60 : Int32) then m_X2_isComparison_32 G c0 M else (if c0 = (62 : Int32) then m_X2_isComparison_32 G c0 M else (if c0 = (61 : Int32) then m_X2_isComparison_32 G c0 M else (if c0 = (128 : Int32) then m_X2_isComparison_32 G c0 M else (if c0 = (129 : Int32) then m_X2_isComparison_32 G c0 M else o_ck ((0 : Int32) = 0 ∨ (0 : Int32) = 1) (some (M, (0 : Int32))))))))
set_option maxHeartbeats 4000000 in
set_option maxRecDepth 100000 in
theorem b_X2_isComparison_32 {p : Program} {e : Env} {s : State} {m : MethodId} {args : Array Value} {below : List Frame} {meth : Method} {c : Code} {A : Nat → Prop} {l : Launch} {D : va_G} {cy : cyS} {G : gS} (cx : cX p s m args meth c cX2_isComparison RX2 1 (some .boolean) wsX2_isComparison D cy G A) {k0 n0 : Nat} (hkn : k0 ≤ (rmX2_isComparison).cells ∧ n0 ≤ (rmX2_isComparison).slots) {M' : mS} {r : Int32} {c0 : Int32}   : ∀ (M : mS) (H : Heap) (locs : List Loc) (ls : Array Slot), m_X2_isComparison_32 G c0 M = some (M', r) → wd D cy G M A s.heap H locs → lv_has ls 1 [] → W p l e rmX2_isComparison s m args below meth c H locs k0 n0 (MQ below (va_Qi (fun (r' : Int32) (_ : Unit) => r' = r) (fun _ t => wOut D cy G M' t) A) args s k0 n0 A) (F0 m 32 ls []) := by
  obtain ⟨hx, hb, hml, hown, hts, hr, hlocks, hK, hA, hG, hsx⟩ := id cx
  intro M H locs ls h w hl
  unfold m_X2_isComparison_32 at h
  refine lv_iconst (v := (1 : Int32)) hx hb dX2_isComparison_32 (by decide) ?_
  refine lv_goto (tgt := 37) hx hb dX2_isComparison_33 (by decide) ?_
  obtain ⟨z1, h⟩ := x_ck h
  exact r_zret cx w z1 h dX2_isComparison_37
set_option maxHeartbeats 4000000 in
set_option maxRecDepth 100000 in
theorem k_X2_isComparison {l : Launch} {D : va_G} {cy : cyS} {G : gS} {M M' : mS} {r : Int32} {c0 : Int32} (hG : wt G)  (h : m_X2_isComparison G M c0 = some (M', r)) : ctI l yX2_isComparison wsX2_isComparison rmX2_isComparison D cy G M [.int c0] M' r := by
  unfold m_X2_isComparison at h
  refine ctI_of (cc := cX2_isComparison) (nL := 1) (ret := (some .boolean)) (lv := [(0, .int c0)]) hG (by decide) rfl ⟨rfl, rfl⟩ (Nat.le_of_ble_eq_true rfl) rfl ?_
  intro p e s m args below meth c A ls cx w hl
  obtain ⟨hx, hb, hml, hown, hts, hr, hlocks, hK, hA, -, hsx⟩ := id cx
  have hkn : 0 ≤ (rmX2_isComparison).cells ∧ 0 ≤ (rmX2_isComparison).slots := ⟨Nat.zero_le _, Nat.zero_le _⟩
  refine lv_iload_n hx hb dX2_isComparison_0 rfl (lv_at hl 0 rfl) ?_
  refine lv_bipush (v := (60 : Int32)) hx hb dX2_isComparison_1 (by decide) ?_
  refine lv_icmp_eq (tgt := 32) hx hb dX2_isComparison_3 (by decide) (fun k1 => ?_) (fun k1 => ?_)
  · have h := x_t h k1
    exact b_X2_isComparison_32 cx hkn M s.heap [] ls h w (lv_sub hl [] rfl)
  · have h := x_f h k1
    refine lv_iload_n hx hb dX2_isComparison_6 rfl (lv_at hl 0 rfl) ?_
    refine lv_bipush (v := (62 : Int32)) hx hb dX2_isComparison_7 (by decide) ?_
    refine lv_icmp_eq (tgt := 32) hx hb dX2_isComparison_9 (by decide) (fun k2 => ?_) (fun k2 => ?_)
    · have h := x_t h k2
      exact b_X2_isComparison_32 cx hkn M s.heap [] ls h w (lv_sub hl [] rfl)
    · have h := x_f h k2
      refine lv_iload_n hx hb dX2_isComparison_12 rfl (lv_at hl 0 rfl) ?_
      refine lv_bipush (v := (61 : Int32)) hx hb dX2_isComparison_13 (by decide) ?_
      refine lv_icmp_eq (tgt := 32) hx hb dX2_isComparison_15 (by decide) (fun k3 => ?_) (fun k3 => ?_)
      · have h := x_t h k3
        exact b_X2_isComparison_32 cx hkn M s.heap [] ls h w (lv_sub hl [] rfl)
      · have h := x_f h k3
        refine lv_iload_n hx hb dX2_isComparison_18 rfl (lv_at hl 0 rfl) ?_
        refine lv_sipush (v := (128 : Int32)) hx hb dX2_isComparison_19 (by decide) ?_
        refine lv_icmp_eq (tgt := 32) hx hb dX2_isComparison_22 (by decide) (fun k4 => ?_) (fun k4 => ?_)
        · have h := x_t h k4
          exact b_X2_isComparison_32 cx hkn M s.heap [] ls h w (lv_sub hl [] rfl)
        · have h := x_f h k4
          refine lv_iload_n hx hb dX2_isComparison_25 rfl (lv_at hl 0 rfl) ?_
          refine lv_sipush (v := (129 : Int32)) hx hb dX2_isComparison_26 (by decide) ?_
          refine lv_icmp_ne (tgt := 36) hx hb dX2_isComparison_29 (by decide) (fun k5 => ?_) (fun k5 => ?_)
          · have h := x_f h k5
            refine lv_iconst (v := (0 : Int32)) hx hb dX2_isComparison_36 (by decide) ?_
            obtain ⟨z6, h⟩ := x_ck h
            exact r_zret cx w z6 h dX2_isComparison_37
          · have h := x_t h k5
            exact b_X2_isComparison_32 cx hkn M s.heap [] ls h w (lv_sub hl [] rfl)
-- a group that calls itself: X2_test X2_both X2_single X2_negatedSingle X2_bracket
abbrev RM2 (n : Nat) : Room := { frames := n + 68, cells := 0, slots := 0, locals := 60 * n + 3932 }
theorem rm_up2 {n mL : Nat} (h : mL ≤ 41) : (RM2 n).frames + 1 ≤ (RM2 (n + 1)).frames ∧ 8 + (mL + 11) + (RM2 n).locals ≤ (RM2 (n + 1)).locals := ⟨by show n + 68 + 1 ≤ n + 1 + 68; omega, by show 8 + (mL + 11) + (60 * n + 3932) ≤ 60 * (n + 1) + 3932; omega⟩
theorem rm_lo2 {n f lo mL : Nat} (h1 : f + 1 ≤ 68) (h2 : 8 + (mL + 11) + lo ≤ 3932) : f + 1 ≤ (RM2 (n + 1)).frames ∧ 8 + (mL + 11) + lo ≤ (RM2 (n + 1)).locals := ⟨by show f + 1 ≤ n + 1 + 68; omega, by show 8 + (mL + 11) + lo ≤ 60 * (n + 1) + 3932; omega⟩
def SC2 (l : Launch) (D : va_G) (cy : cyS) (G : gS) (a : Nat) (rm : Room) (R : Nat → mS → Int32 → Int32 → Option (mS × Int32)) : Prop := (∀ (M : mS) (x y : Int32) (M' : mS) (r : Int32), R 0 M x y = some (M', r) → ctI l yX2_test wsX2_test rm D cy G M [.ref a, .int x] M' r) ∧ (∀ (M : mS) (x y : Int32) (M' : mS) (r : Int32), R 1 M x y = some (M', r) → ctI l yX2_both wsX2_both rm D cy G M [.ref a, .int x] M' r) ∧ (∀ (M : mS) (x y : Int32) (M' : mS) (r : Int32), R 2 M x y = some (M', r) → ctI l yX2_single wsX2_single rm D cy G M [.ref a, .int x] M' r) ∧ (∀ (M : mS) (x y : Int32) (M' : mS) (r : Int32), R 3 M x y = some (M', r) → ctI l yX2_negatedSingle wsX2_negatedSingle rm D cy G M [.ref a, .int x] M' r) ∧ (∀ (M : mS) (x y : Int32) (M' : mS) (r : Int32), R 4 M x y = some (M', r) → ctI l yX2_bracket wsX2_bracket rm D cy G M [.ref a, .int x] M' r)
theorem wi_X2_test_X2 : ∀ w ∈ wsX20, w ∈ wsX2_test := by decide +kernel
theorem wi_X2_both_X2 : ∀ w ∈ wsX20, w ∈ wsX2_both := by decide +kernel
theorem wi_X2_single_X2 : ∀ w ∈ wsX20, w ∈ wsX2_single := by decide +kernel
theorem wi_X2_negatedSingle_X2 : ∀ w ∈ wsX20, w ∈ wsX2_negatedSingle := by decide +kernel
def q_X2_test_52 (G : gS) (R : Nat → mS → Int32 → Int32 → Option (mS × Int32)) (a0 : Nat) (c1 : Int32)  (M : mS) (v2 : Int32) : Option (mS × Int32) := o_ck (v2 = 0 ∨ v2 = 1) (some (M, v2))
def q_X2_test_8 (G : gS) (R : Nat → mS → Int32 → Int32 → Option (mS × Int32)) (a0 : Nat) (c1 : Int32)  : Nat → mS → Int32 → Int32 → Option (mS × Int32)
  | 0, _, _, _ => none
  | n + 1, M, v2, v3 => (if (400 : Int32) ≤ v3 then q_X2_test_52 G R a0 c1 M v2 else (if v2 = 0 then q_X2_test_52 G R a0 c1 M v2 else o_cl (m_X2_take G M a0 (230 : Int32)) (fun M3 r4 => (if r4 = 0 then q_X2_test_52 G R a0 c1 M3 v2 else o_cl (R 1 M3 c1 (0 : Int32)) (fun M7 r8 => o_rf (gP G a0 1) (fun q10 => o_cl (m_X3_addOperation G M7 q10 (230 : Int32) (0 : Int32)) (fun M11 r12 => o_bd (v3 + 1 : Int32) (fun x14 => q_X2_test_8 G R a0 c1 n M11 r8 x14))))))))
def q_X2_test (G : gS) (R : Nat → mS → Int32 → Int32 → Option (mS × Int32)) (M : mS) (a0 : Nat) (c1 : Int32) : Option (mS × Int32) := o_cl (R 1 M c1 (0 : Int32)) (fun M1 r2 => q_X2_test_8 G R a0 c1 fu M1 r2 ((0 : Int32)))
def q_X2_both_52 (G : gS) (R : Nat → mS → Int32 → Int32 → Option (mS × Int32)) (a0 : Nat) (c1 : Int32)  (M : mS) (v2 : Int32) : Option (mS × Int32) := o_ck (v2 = 0 ∨ v2 = 1) (some (M, v2))
def q_X2_both_8 (G : gS) (R : Nat → mS → Int32 → Int32 → Option (mS × Int32)) (a0 : Nat) (c1 : Int32)  : Nat → mS → Int32 → Int32 → Option (mS × Int32)
  | 0, _, _, _ => none
  | n + 1, M, v2, v3 => (if (400 : Int32) ≤ v3 then q_X2_both_52 G R a0 c1 M v2 else (if v2 = 0 then q_X2_both_52 G R a0 c1 M v2 else o_cl (m_X2_take G M a0 (229 : Int32)) (fun M3 r4 => (if r4 = 0 then q_X2_both_52 G R a0 c1 M3 v2 else o_cl (R 2 M3 c1 (0 : Int32)) (fun M7 r8 => o_rf (gP G a0 1) (fun q10 => o_cl (m_X3_addOperation G M7 q10 (229 : Int32) (0 : Int32)) (fun M11 r12 => o_bd (v3 + 1 : Int32) (fun x14 => q_X2_both_8 G R a0 c1 n M11 r8 x14))))))))
def q_X2_both (G : gS) (R : Nat → mS → Int32 → Int32 → Option (mS × Int32)) (M : mS) (a0 : Nat) (c1 : Int32) : Option (mS × Int32) := o_cl (R 2 M c1 (0 : Int32)) (fun M1 r2 => q_X2_both_8 G R a0 c1 fu M1 r2 ((0 : Int32)))
def q_X2_single_83 (G : gS) (R : Nat → mS → Int32 → Int32 → Option (mS × Int32)) (a0 : Nat) (c1 : Int32)  (M : mS)  : Option (mS × Int32) := o_ck ((0 : Int32) = 0 ∨ (0 : Int32) = 1) (some (M, (0 : Int32)))
def q_X2_single (G : gS) (R : Nat → mS → Int32 → Int32 → Option (mS × Int32)) (M : mS) (a0 : Nat) (c1 : Int32) : Option (mS × Int32) := o_cl (m_X2_kind G M a0) (fun M1 r2 => (if r2 = 91 then o_cl (R 4 M1 c1 (0 : Int32)) (fun M5 r6 => o_ck (r6 = 0 ∨ r6 = 1) (some (M5, r6))) else if r2 = 226 then o_cl (m_X2_antOperation G M1 a0) (fun M10 r11 => o_ck (r11 = 0 ∨ r11 = 1) (some (M10, r11))) else if r2 = 227 then o_cl (m_X2_antOperation G M1 a0) (fun M15 r16 => o_ck (r16 = 0 ∨ r16 = 1) (some (M15, r16))) else if r2 = 228 then o_cl (R 3 M1 c1 (0 : Int32)) (fun M20 r21 => o_ck (r21 = 0 ∨ r21 = 1) (some (M20, r21))) else o_cl (m_X2_sum G M1 a0 c1) (fun M24 r25 => (if r25 = 0 then q_X2_single_83 G R a0 c1 M24 else o_cl (m_X2_kind G M24 a0) (fun M28 r29 => o_cl (m_X2_isComparison G M28 r29) (fun M31 r32 => (if r32 = 0 then q_X2_single_83 G R a0 c1 M31 else o_cl (m_X2_kind G M31 a0) (fun M35 r36 => o_cl (m_X2_advance G M35 a0) (fun M38 r39 => o_cl (m_X2_sum G M38 a0 c1) (fun M41 r42 => o_rf (gP G a0 1) (fun q44 => o_cl (m_X3_addOperation G M41 q44 r36 (0 : Int32)) (fun M45 r46 => o_ck (r42 = 0 ∨ r42 = 1) (some (M45, r42))))))))))))))
def q_X2_negatedSingle (G : gS) (R : Nat → mS → Int32 → Int32 → Option (mS × Int32)) (M : mS) (a0 : Nat) (c1 : Int32) : Option (mS × Int32) := (if c1 < (8 : Int32) then o_cl (m_X2_advance G M a0) (fun M2 r3 => o_cl (R 2 M2 (c1 + (1 : Int32)) (0 : Int32)) (fun M5 r6 => o_rf (gP G a0 1) (fun q8 => o_cl (m_X3_addOperation G M5 q8 (228 : Int32) (0 : Int32)) (fun M9 r10 => o_ck (r6 = 0 ∨ r6 = 1) (some (M9, r6)))))) else o_ck ((0 : Int32) = 0 ∨ (0 : Int32) = 1) (some (M, (0 : Int32))))
def q_X2_bracket_35 (G : gS) (R : Nat → mS → Int32 → Int32 → Option (mS × Int32)) (a0 : Nat) (c1 : Int32)  (M : mS)  : Option (mS × Int32) := o_ck ((0 : Int32) = 0 ∨ (0 : Int32) = 1) (some (M, (0 : Int32)))
def q_X2_bracket (G : gS) (R : Nat → mS → Int32 → Int32 → Option (mS × Int32)) (M : mS) (a0 : Nat) (c1 : Int32) : Option (mS × Int32) := (if c1 < (8 : Int32) then o_cl (m_X2_advance G M a0) (fun M2 r3 => o_cl (R 0 M2 (c1 + (1 : Int32)) (0 : Int32)) (fun M5 r6 => (if r6 = 0 then q_X2_bracket_35 G R a0 c1 M5 else o_cl (m_X2_take G M5 a0 (93 : Int32)) (fun M9 r10 => (if r10 = 0 then q_X2_bracket_35 G R a0 c1 M9 else o_ck ((1 : Int32) = 0 ∨ (1 : Int32) = 1) (some (M9, (1 : Int32)))))))) else o_ck ((0 : Int32) = 0 ∨ (0 : Int32) = 1) (some (M, (0 : Int32))))
set_option maxHeartbeats 4000000 in
set_option maxRecDepth 100000 in
theorem b_X2_test_52 {p : Program} {e : Env} {s : State} {m : MethodId} {args : Array Value} {below : List Frame} {meth : Method} {c : Code} {A : Nat → Prop} {l : Launch} {D : va_G} {cy : cyS} {G : gS} (cx : cX p s m args meth c cX2_test RX2 4 (some .boolean) wsX2_test D cy G A) {k0 n0 : Nat} {N0 : Nat} (hkn : k0 ≤ ((RM2 (N0 + 1))).cells ∧ n0 ≤ ((RM2 (N0 + 1))).slots) {M' : mS} {r : Int32} {a0 : Nat} {c1 : Int32} (hL0 : a0 ∈ gL G) (hK0 : gK G a0 = 1)  {R : Nat → mS → Int32 → Int32 → Option (mS × Int32)} (hR : SC2 l D cy G a0 (RM2 N0) R)  : ∀ (M : mS) (v2 : Int32) (H : Heap) (locs : List Loc) (ls : Array Slot), q_X2_test_52 G R a0 c1 M v2 = some (M', r) → wd D cy G M A s.heap H locs → lv_has ls 4 [(2, .int v2)] → W p l e (RM2 (N0 + 1)) s m args below meth c H locs k0 n0 (MQ below (va_Qi (fun (r' : Int32) (_ : Unit) => r' = r) (fun _ t => wOut D cy G M' t) A) args s k0 n0 A) (F0 m 52 ls []) := by
  obtain ⟨hx, hb, hml, hown, hts, hr, hlocks, hK, hA, hG, hsx⟩ := id cx
  intro M v2 H locs ls h w hl
  unfold q_X2_test_52 at h
  refine lv_iload_n hx hb dX2_test_52 rfl (lv_at hl 0 rfl) ?_
  obtain ⟨z1, h⟩ := x_ck h
  exact r_zret cx w z1 h dX2_test_53
set_option maxHeartbeats 4000000 in
set_option maxRecDepth 100000 in
theorem b_X2_test_8 {p : Program} {e : Env} {s : State} {m : MethodId} {args : Array Value} {below : List Frame} {meth : Method} {c : Code} {A : Nat → Prop} {l : Launch} {D : va_G} {cy : cyS} {G : gS} (cx : cX p s m args meth c cX2_test RX2 4 (some .boolean) wsX2_test D cy G A) {k0 n0 : Nat} {N0 : Nat} (hkn : k0 ≤ ((RM2 (N0 + 1))).cells ∧ n0 ≤ ((RM2 (N0 + 1))).slots) {M' : mS} {r : Int32} {a0 : Nat} {c1 : Int32} (hL0 : a0 ∈ gL G) (hK0 : gK G a0 = 1)  {R : Nat → mS → Int32 → Int32 → Option (mS × Int32)} (hR : SC2 l D cy G a0 (RM2 N0) R)  : ∀ (n : Nat), ∀ (M : mS) (v2 : Int32) (v3 : Int32) (H : Heap) (locs : List Loc) (ls : Array Slot), q_X2_test_8 G R a0 c1 n M v2 v3 = some (M', r) → wd D cy G M A s.heap H locs → lv_has ls 4 [(0, .ref a0), (1, .int c1), (2, .int v2), (3, .int v3)] → W p l e (RM2 (N0 + 1)) s m args below meth c H locs k0 n0 (MQ below (va_Qi (fun (r' : Int32) (_ : Unit) => r' = r) (fun _ t => wOut D cy G M' t) A) args s k0 n0 A) (F0 m 8 ls []) := by
  obtain ⟨hx, hb, hml, hown, hts, hr, hlocks, hK, hA, hG, hsx⟩ := id cx
  intro n
  induction n with
  | zero =>
    intro M v2 v3 H locs ls h w hl
    have h : none = some _ := h
    cases h
  | succ n ih =>
    intro M v2 v3 H locs ls h w hl
    rw [q_X2_test_8] at h
    refine lv_iload_n hx hb dX2_test_8 rfl (lv_at hl 3 rfl) ?_
    refine lv_sipush (v := (400 : Int32)) hx hb dX2_test_9 (by decide) ?_
    refine lv_icmp_ge (tgt := 52) hx hb dX2_test_12 (by decide) (fun k1 => ?_) (fun k1 => ?_)
    · have h := x_t h k1
      exact b_X2_test_52 cx hkn hL0 hK0 hR M v2 H locs ls h w (lv_sub hl [2] rfl)
    · have h := x_f h k1
      refine lv_iload_n hx hb dX2_test_15 rfl (lv_at hl 2 rfl) ?_
      refine lv_if_eq (tgt := 52) hx hb dX2_test_16 (by decide) (fun k2 => ?_) (fun k2 => ?_)
      · have h := x_t h k2
        exact b_X2_test_52 cx hkn hL0 hK0 hR M v2 H locs ls h w (lv_sub hl [2] rfl)
      · have h := x_f h k2
        refine lv_aload_n hx hb dX2_test_19 rfl (lv_at hl 0 rfl) ?_
        refine lv_sipush (v := (230 : Int32)) hx hb dX2_test_20 (by decide) ?_
        obtain ⟨M3, r4, y5, h⟩ := x_cl h
        refine r_callVi (As := [.int ((230 : Int32))]) (rest := []) cx w hkn hl.1 (k_X2_take hG hL0 hK0 y5) (cwV 1 hts gX2_test_X2_take rfl rfl rfl (by decide +kernel) (rm_lo2 (Nat.le_of_ble_eq_true rfl) (Nat.le_of_ble_eq_true rfl))) hL0 hK0 (by decide) rfl rfl rfl (Nat.le_of_ble_eq_true rfl) dX2_test_23 (fun H locs w => ?_)
        refine lv_if_eq (tgt := 52) hx hb dX2_test_26 (by decide) (fun k6 => ?_) (fun k6 => ?_)
        · have h := x_t h k6
          exact b_X2_test_52 cx hkn hL0 hK0 hR M3 v2 H locs ls h w (lv_sub hl [2] rfl)
        · have h := x_f h k6
          refine lv_aload_n hx hb dX2_test_29 rfl (lv_at hl 0 rfl) ?_
          refine lv_iload_n hx hb dX2_test_30 rfl (lv_at hl 1 rfl) ?_
          obtain ⟨M7, r8, y9, h⟩ := x_cl h
          refine r_callVi (As := [.int c1]) (rest := []) cx w hkn hl.1 (hR.2.1 _ _ _ _ _ y9) (cwV 1 hts gX2_test_X2_both rfl rfl rfl (by decide +kernel) (rm_up2 (by decide))) hL0 hK0 (by decide) rfl rfl rfl (Nat.le_of_ble_eq_true rfl) dX2_test_31 (fun H locs w => ?_)
          refine lv_istore_n (lv' := [(2, .int r8), (0, .ref a0), (1, .int c1), (3, .int v3)]) hx hb dX2_test_34 rfl hl (by decide) rfl (fun ls hl => ?_)
          refine lv_aload_n hx hb dX2_test_35 rfl (lv_at hl 1 rfl) ?_
          obtain ⟨q10, eq10, h⟩ := x_rf h
          obtain ⟨hLq10, hKq10⟩ := wt_q hG hL0 hK0 eq10
          have hKq10 : gK G q10 = 2 := hKq10
          refine r_getR (k := 1) cx w hL0 hK0 (by decide) rfl wi_X2_test_X2 (by decide) rfl eq10 (List.mem_of_getElem? (i := 1) rfl) dX2_test_36 ?_
          refine lv_sipush (v := (230 : Int32)) hx hb dX2_test_39 (by decide) ?_
          refine lv_iconst (v := (0 : Int32)) hx hb dX2_test_42 (by decide) ?_
          obtain ⟨M11, r12, y13, h⟩ := x_cl h
          refine r_callVv (As := [.int ((230 : Int32)), .int ((0 : Int32))]) (rest := []) cx w hkn hl.1 (k_X3_addOperation hG hLq10 hKq10 y13) (cwV 2 hts gX2_test_X3_addOperation rfl rfl rfl (by decide +kernel) (rm_lo2 (Nat.le_of_ble_eq_true rfl) (Nat.le_of_ble_eq_true rfl))) hLq10 hKq10 (by decide) rfl rfl rfl (Nat.le_of_ble_eq_true rfl) dX2_test_43 (fun H locs w => ?_)
          obtain ⟨x14, ex14, h⟩ := x_bd h
          refine lv_iinc (v := x14) (lv' := [(3, .int x14), (2, .int r8), (0, .ref a0), (1, .int c1)]) hx hb dX2_test_46 hl (k := 3) rfl (by rw [ex14]; rfl) (by decide) rfl (fun ls hl => ?_)
          refine lv_goto (tgt := 8) hx hb dX2_test_49 (by decide) ?_
          exact ih M11 r8 x14 H locs ls h w (lv_sub hl [2, 3, 1, 0] rfl)
set_option maxHeartbeats 4000000 in
set_option maxRecDepth 100000 in
theorem kq_X2_test {l : Launch} {D : va_G} {cy : cyS} {G : gS} {M M' : mS} {r : Int32} {a0 : Nat} {c1 : Int32} (hG : wt G) (hL0 : a0 ∈ gL G) (hK0 : gK G a0 = 1) {N0 : Nat} {R : Nat → mS → Int32 → Int32 → Option (mS × Int32)} (hR : SC2 l D cy G a0 (RM2 N0) R) (h : q_X2_test G R M a0 c1 = some (M', r)) : ctI l yX2_test wsX2_test (RM2 (N0 + 1)) D cy G M [.ref a0, .int c1] M' r := by
  unfold q_X2_test at h
  refine ctI_of (cc := cX2_test) (nL := 4) (ret := (some .boolean)) (lv := [(0, .ref a0), (1, .int c1)]) hG (by decide) rfl ⟨rfl, rfl⟩ (Nat.le_of_ble_eq_true rfl) rfl ?_
  intro p e s m args below meth c A ls cx w hl
  obtain ⟨hx, hb, hml, hown, hts, hr, hlocks, hK, hA, -, hsx⟩ := id cx
  have hkn : 0 ≤ ((RM2 (N0 + 1))).cells ∧ 0 ≤ ((RM2 (N0 + 1))).slots := ⟨Nat.zero_le _, Nat.zero_le _⟩
  refine lv_aload_n hx hb dX2_test_0 rfl (lv_at hl 0 rfl) ?_
  refine lv_iload_n hx hb dX2_test_1 rfl (lv_at hl 1 rfl) ?_
  obtain ⟨M1, r2, y3, h⟩ := x_cl h
  refine r_callVi (As := [.int c1]) (rest := []) cx w hkn hl.1 (hR.2.1 _ _ _ _ _ y3) (cwV 1 hts gX2_test_X2_both rfl rfl rfl (by decide +kernel) (rm_up2 (by decide))) hL0 hK0 (by decide) rfl rfl rfl (Nat.le_of_ble_eq_true rfl) dX2_test_2 (fun H locs w => ?_)
  refine lv_istore_n (lv' := [(2, .int r2), (0, .ref a0), (1, .int c1)]) hx hb dX2_test_5 rfl hl (by decide) rfl (fun ls hl => ?_)
  refine lv_iconst (v := (0 : Int32)) hx hb dX2_test_6 (by decide) ?_
  refine lv_istore_n (lv' := [(3, .int ((0 : Int32))), (2, .int r2), (0, .ref a0), (1, .int c1)]) hx hb dX2_test_7 rfl hl (by decide) rfl (fun ls hl => ?_)
  exact b_X2_test_8 cx hkn hL0 hK0 hR fu M1 r2 ((0 : Int32)) H locs ls h w (lv_sub hl [2, 3, 1, 0] rfl)
set_option maxHeartbeats 4000000 in
set_option maxRecDepth 100000 in
theorem b_X2_both_52 {p : Program} {e : Env} {s : State} {m : MethodId} {args : Array Value} {below : List Frame} {meth : Method} {c : Code} {A : Nat → Prop} {l : Launch} {D : va_G} {cy : cyS} {G : gS} (cx : cX p s m args meth c cX2_both RX2 4 (some .boolean) wsX2_both D cy G A) {k0 n0 : Nat} {N0 : Nat} (hkn : k0 ≤ ((RM2 (N0 + 1))).cells ∧ n0 ≤ ((RM2 (N0 + 1))).slots) {M' : mS} {r : Int32} {a0 : Nat} {c1 : Int32} (hL0 : a0 ∈ gL G) (hK0 : gK G a0 = 1)  {R : Nat → mS → Int32 → Int32 → Option (mS × Int32)} (hR : SC2 l D cy G a0 (RM2 N0) R)  : ∀ (M : mS) (v2 : Int32) (H : Heap) (locs : List Loc) (ls : Array Slot), q_X2_both_52 G R a0 c1 M v2 = some (M', r) → wd D cy G M A s.heap H locs → lv_has ls 4 [(2, .int v2)] → W p l e (RM2 (N0 + 1)) s m args below meth c H locs k0 n0 (MQ below (va_Qi (fun (r' : Int32) (_ : Unit) => r' = r) (fun _ t => wOut D cy G M' t) A) args s k0 n0 A) (F0 m 52 ls []) := by
  obtain ⟨hx, hb, hml, hown, hts, hr, hlocks, hK, hA, hG, hsx⟩ := id cx
  intro M v2 H locs ls h w hl
  unfold q_X2_both_52 at h
  refine lv_iload_n hx hb dX2_both_52 rfl (lv_at hl 0 rfl) ?_
  obtain ⟨z1, h⟩ := x_ck h
  exact r_zret cx w z1 h dX2_both_53
set_option maxHeartbeats 4000000 in
set_option maxRecDepth 100000 in
theorem b_X2_both_8 {p : Program} {e : Env} {s : State} {m : MethodId} {args : Array Value} {below : List Frame} {meth : Method} {c : Code} {A : Nat → Prop} {l : Launch} {D : va_G} {cy : cyS} {G : gS} (cx : cX p s m args meth c cX2_both RX2 4 (some .boolean) wsX2_both D cy G A) {k0 n0 : Nat} {N0 : Nat} (hkn : k0 ≤ ((RM2 (N0 + 1))).cells ∧ n0 ≤ ((RM2 (N0 + 1))).slots) {M' : mS} {r : Int32} {a0 : Nat} {c1 : Int32} (hL0 : a0 ∈ gL G) (hK0 : gK G a0 = 1)  {R : Nat → mS → Int32 → Int32 → Option (mS × Int32)} (hR : SC2 l D cy G a0 (RM2 N0) R)  : ∀ (n : Nat), ∀ (M : mS) (v2 : Int32) (v3 : Int32) (H : Heap) (locs : List Loc) (ls : Array Slot), q_X2_both_8 G R a0 c1 n M v2 v3 = some (M', r) → wd D cy G M A s.heap H locs → lv_has ls 4 [(0, .ref a0), (1, .int c1), (2, .int v2), (3, .int v3)] → W p l e (RM2 (N0 + 1)) s m args below meth c H locs k0 n0 (MQ below (va_Qi (fun (r' : Int32) (_ : Unit) => r' = r) (fun _ t => wOut D cy G M' t) A) args s k0 n0 A) (F0 m 8 ls []) := by
  obtain ⟨hx, hb, hml, hown, hts, hr, hlocks, hK, hA, hG, hsx⟩ := id cx
  intro n
  induction n with
  | zero =>
    intro M v2 v3 H locs ls h w hl
    have h : none = some _ := h
    cases h
  | succ n ih =>
    intro M v2 v3 H locs ls h w hl
    rw [q_X2_both_8] at h
    refine lv_iload_n hx hb dX2_both_8 rfl (lv_at hl 3 rfl) ?_
    refine lv_sipush (v := (400 : Int32)) hx hb dX2_both_9 (by decide) ?_
    refine lv_icmp_ge (tgt := 52) hx hb dX2_both_12 (by decide) (fun k1 => ?_) (fun k1 => ?_)
    · have h := x_t h k1
      exact b_X2_both_52 cx hkn hL0 hK0 hR M v2 H locs ls h w (lv_sub hl [2] rfl)
    · have h := x_f h k1
      refine lv_iload_n hx hb dX2_both_15 rfl (lv_at hl 2 rfl) ?_
      refine lv_if_eq (tgt := 52) hx hb dX2_both_16 (by decide) (fun k2 => ?_) (fun k2 => ?_)
      · have h := x_t h k2
        exact b_X2_both_52 cx hkn hL0 hK0 hR M v2 H locs ls h w (lv_sub hl [2] rfl)
      · have h := x_f h k2
        refine lv_aload_n hx hb dX2_both_19 rfl (lv_at hl 0 rfl) ?_
        refine lv_sipush (v := (229 : Int32)) hx hb dX2_both_20 (by decide) ?_
        obtain ⟨M3, r4, y5, h⟩ := x_cl h
        refine r_callVi (As := [.int ((229 : Int32))]) (rest := []) cx w hkn hl.1 (k_X2_take hG hL0 hK0 y5) (cwV 1 hts gX2_both_X2_take rfl rfl rfl (by decide +kernel) (rm_lo2 (Nat.le_of_ble_eq_true rfl) (Nat.le_of_ble_eq_true rfl))) hL0 hK0 (by decide) rfl rfl rfl (Nat.le_of_ble_eq_true rfl) dX2_both_23 (fun H locs w => ?_)
        refine lv_if_eq (tgt := 52) hx hb dX2_both_26 (by decide) (fun k6 => ?_) (fun k6 => ?_)
        · have h := x_t h k6
          exact b_X2_both_52 cx hkn hL0 hK0 hR M3 v2 H locs ls h w (lv_sub hl [2] rfl)
        · have h := x_f h k6
          refine lv_aload_n hx hb dX2_both_29 rfl (lv_at hl 0 rfl) ?_
          refine lv_iload_n hx hb dX2_both_30 rfl (lv_at hl 1 rfl) ?_
          obtain ⟨M7, r8, y9, h⟩ := x_cl h
          refine r_callVi (As := [.int c1]) (rest := []) cx w hkn hl.1 (hR.2.2.1 _ _ _ _ _ y9) (cwV 1 hts gX2_both_X2_single rfl rfl rfl (by decide +kernel) (rm_up2 (by decide))) hL0 hK0 (by decide) rfl rfl rfl (Nat.le_of_ble_eq_true rfl) dX2_both_31 (fun H locs w => ?_)
          refine lv_istore_n (lv' := [(2, .int r8), (0, .ref a0), (1, .int c1), (3, .int v3)]) hx hb dX2_both_34 rfl hl (by decide) rfl (fun ls hl => ?_)
          refine lv_aload_n hx hb dX2_both_35 rfl (lv_at hl 1 rfl) ?_
          obtain ⟨q10, eq10, h⟩ := x_rf h
          obtain ⟨hLq10, hKq10⟩ := wt_q hG hL0 hK0 eq10
          have hKq10 : gK G q10 = 2 := hKq10
          refine r_getR (k := 1) cx w hL0 hK0 (by decide) rfl wi_X2_both_X2 (by decide) rfl eq10 (List.mem_of_getElem? (i := 1) rfl) dX2_both_36 ?_
          refine lv_sipush (v := (229 : Int32)) hx hb dX2_both_39 (by decide) ?_
          refine lv_iconst (v := (0 : Int32)) hx hb dX2_both_42 (by decide) ?_
          obtain ⟨M11, r12, y13, h⟩ := x_cl h
          refine r_callVv (As := [.int ((229 : Int32)), .int ((0 : Int32))]) (rest := []) cx w hkn hl.1 (k_X3_addOperation hG hLq10 hKq10 y13) (cwV 2 hts gX2_both_X3_addOperation rfl rfl rfl (by decide +kernel) (rm_lo2 (Nat.le_of_ble_eq_true rfl) (Nat.le_of_ble_eq_true rfl))) hLq10 hKq10 (by decide) rfl rfl rfl (Nat.le_of_ble_eq_true rfl) dX2_both_43 (fun H locs w => ?_)
          obtain ⟨x14, ex14, h⟩ := x_bd h
          refine lv_iinc (v := x14) (lv' := [(3, .int x14), (2, .int r8), (0, .ref a0), (1, .int c1)]) hx hb dX2_both_46 hl (k := 3) rfl (by rw [ex14]; rfl) (by decide) rfl (fun ls hl => ?_)
          refine lv_goto (tgt := 8) hx hb dX2_both_49 (by decide) ?_
          exact ih M11 r8 x14 H locs ls h w (lv_sub hl [2, 3, 1, 0] rfl)
set_option maxHeartbeats 4000000 in
set_option maxRecDepth 100000 in
theorem kq_X2_both {l : Launch} {D : va_G} {cy : cyS} {G : gS} {M M' : mS} {r : Int32} {a0 : Nat} {c1 : Int32} (hG : wt G) (hL0 : a0 ∈ gL G) (hK0 : gK G a0 = 1) {N0 : Nat} {R : Nat → mS → Int32 → Int32 → Option (mS × Int32)} (hR : SC2 l D cy G a0 (RM2 N0) R) (h : q_X2_both G R M a0 c1 = some (M', r)) : ctI l yX2_both wsX2_both (RM2 (N0 + 1)) D cy G M [.ref a0, .int c1] M' r := by
  unfold q_X2_both at h
  refine ctI_of (cc := cX2_both) (nL := 4) (ret := (some .boolean)) (lv := [(0, .ref a0), (1, .int c1)]) hG (by decide) rfl ⟨rfl, rfl⟩ (Nat.le_of_ble_eq_true rfl) rfl ?_
  intro p e s m args below meth c A ls cx w hl
  obtain ⟨hx, hb, hml, hown, hts, hr, hlocks, hK, hA, -, hsx⟩ := id cx
  have hkn : 0 ≤ ((RM2 (N0 + 1))).cells ∧ 0 ≤ ((RM2 (N0 + 1))).slots := ⟨Nat.zero_le _, Nat.zero_le _⟩
  refine lv_aload_n hx hb dX2_both_0 rfl (lv_at hl 0 rfl) ?_
  refine lv_iload_n hx hb dX2_both_1 rfl (lv_at hl 1 rfl) ?_
  obtain ⟨M1, r2, y3, h⟩ := x_cl h
  refine r_callVi (As := [.int c1]) (rest := []) cx w hkn hl.1 (hR.2.2.1 _ _ _ _ _ y3) (cwV 1 hts gX2_both_X2_single rfl rfl rfl (by decide +kernel) (rm_up2 (by decide))) hL0 hK0 (by decide) rfl rfl rfl (Nat.le_of_ble_eq_true rfl) dX2_both_2 (fun H locs w => ?_)
  refine lv_istore_n (lv' := [(2, .int r2), (0, .ref a0), (1, .int c1)]) hx hb dX2_both_5 rfl hl (by decide) rfl (fun ls hl => ?_)
  refine lv_iconst (v := (0 : Int32)) hx hb dX2_both_6 (by decide) ?_
  refine lv_istore_n (lv' := [(3, .int ((0 : Int32))), (2, .int r2), (0, .ref a0), (1, .int c1)]) hx hb dX2_both_7 rfl hl (by decide) rfl (fun ls hl => ?_)
  exact b_X2_both_8 cx hkn hL0 hK0 hR fu M1 r2 ((0 : Int32)) H locs ls h w (lv_sub hl [2, 3, 1, 0] rfl)
set_option maxHeartbeats 4000000 in
set_option maxRecDepth 100000 in
theorem b_X2_single_83 {p : Program} {e : Env} {s : State} {m : MethodId} {args : Array Value} {below : List Frame} {meth : Method} {c : Code} {A : Nat → Prop} {l : Launch} {D : va_G} {cy : cyS} {G : gS} (cx : cX p s m args meth c cX2_single RX2 4 (some .boolean) wsX2_single D cy G A) {k0 n0 : Nat} {N0 : Nat} (hkn : k0 ≤ ((RM2 (N0 + 1))).cells ∧ n0 ≤ ((RM2 (N0 + 1))).slots) {M' : mS} {r : Int32} {a0 : Nat} {c1 : Int32} (hL0 : a0 ∈ gL G) (hK0 : gK G a0 = 1)  {R : Nat → mS → Int32 → Int32 → Option (mS × Int32)} (hR : SC2 l D cy G a0 (RM2 N0) R)  : ∀ (M : mS) (H : Heap) (locs : List Loc) (ls : Array Slot), q_X2_single_83 G R a0 c1 M = some (M', r) → wd D cy G M A s.heap H locs → lv_has ls 4 [] → W p l e (RM2 (N0 + 1)) s m args below meth c H locs k0 n0 (MQ below (va_Qi (fun (r' : Int32) (_ : Unit) => r' = r) (fun _ t => wOut D cy G M' t) A) args s k0 n0 A) (F0 m 83 ls []) := by
  obtain ⟨hx, hb, hml, hown, hts, hr, hlocks, hK, hA, hG, hsx⟩ := id cx
  intro M H locs ls h w hl
  unfold q_X2_single_83 at h
  refine lv_iconst (v := (0 : Int32)) hx hb dX2_single_83 (by decide) ?_
  obtain ⟨z1, h⟩ := x_ck h
  exact r_zret cx w z1 h dX2_single_84
set_option maxHeartbeats 4000000 in
set_option maxRecDepth 100000 in
theorem kq_X2_single {l : Launch} {D : va_G} {cy : cyS} {G : gS} {M M' : mS} {r : Int32} {a0 : Nat} {c1 : Int32} (hG : wt G) (hL0 : a0 ∈ gL G) (hK0 : gK G a0 = 1) {N0 : Nat} {R : Nat → mS → Int32 → Int32 → Option (mS × Int32)} (hR : SC2 l D cy G a0 (RM2 N0) R) (h : q_X2_single G R M a0 c1 = some (M', r)) : ctI l yX2_single wsX2_single (RM2 (N0 + 1)) D cy G M [.ref a0, .int c1] M' r := by
  unfold q_X2_single at h
  refine ctI_of (cc := cX2_single) (nL := 4) (ret := (some .boolean)) (lv := [(0, .ref a0), (1, .int c1)]) hG (by decide) rfl ⟨rfl, rfl⟩ (Nat.le_of_ble_eq_true rfl) rfl ?_
  intro p e s m args below meth c A ls cx w hl
  obtain ⟨hx, hb, hml, hown, hts, hr, hlocks, hK, hA, -, hsx⟩ := id cx
  have hkn : 0 ≤ ((RM2 (N0 + 1))).cells ∧ 0 ≤ ((RM2 (N0 + 1))).slots := ⟨Nat.zero_le _, Nat.zero_le _⟩
  refine lv_aload_n hx hb dX2_single_0 rfl (lv_at hl 0 rfl) ?_
  obtain ⟨M1, r2, y3, h⟩ := x_cl h
  refine r_callVi (As := []) (rest := []) cx w hkn hl.1 (k_X2_kind hG hL0 hK0 y3) (cwV 0 hts gX2_single_X2_kind rfl rfl rfl (by decide +kernel) (rm_lo2 (Nat.le_of_ble_eq_true rfl) (Nat.le_of_ble_eq_true rfl))) hL0 hK0 (by decide) rfl rfl rfl (Nat.le_of_ble_eq_true rfl) dX2_single_1 (fun H locs w => ?_)
  rcases Decidable.em (r2 = 91) with k4 | k4
  · have h := x_t h k4
    rw [k4]
    refine lv_lookup (tgt := 54) hx hb dX2_single_4 (by decide) rfl (by decide) ?_
    refine lv_aload_n hx hb dX2_single_54 rfl (lv_at hl 0 rfl) ?_
    refine lv_iload_n hx hb dX2_single_55 rfl (lv_at hl 1 rfl) ?_
    obtain ⟨M5, r6, y7, h⟩ := x_cl h
    refine r_callVi (As := [.int c1]) (rest := []) cx w hkn hl.1 (hR.2.2.2.2 _ _ _ _ _ y7) (cwV 1 hts gX2_single_X2_bracket rfl rfl rfl (by decide +kernel) (rm_up2 (by decide))) hL0 hK0 (by decide) rfl rfl rfl (Nat.le_of_ble_eq_true rfl) dX2_single_56 (fun H locs w => ?_)
    obtain ⟨z8, h⟩ := x_ck h
    exact r_zret cx w z8 h dX2_single_59
  · have h := x_f h k4
    rcases Decidable.em (r2 = 226) with k9 | k9
    · have h := x_t h k9
      rw [k9]
      refine lv_lookup (tgt := 60) hx hb dX2_single_4 (by decide) rfl (by decide) ?_
      refine lv_aload_n hx hb dX2_single_60 rfl (lv_at hl 0 rfl) ?_
      obtain ⟨M10, r11, y12, h⟩ := x_cl h
      refine r_callVi (As := []) (rest := []) cx w hkn hl.1 (k_X2_antOperation hG hL0 hK0 y12) (cwV 0 hts gX2_single_X2_antOperation rfl rfl rfl (by decide +kernel) (rm_lo2 (Nat.le_of_ble_eq_true rfl) (Nat.le_of_ble_eq_true rfl))) hL0 hK0 (by decide) rfl rfl rfl (Nat.le_of_ble_eq_true rfl) dX2_single_61 (fun H locs w => ?_)
      obtain ⟨z13, h⟩ := x_ck h
      exact r_zret cx w z13 h dX2_single_64
    · have h := x_f h k9
      rcases Decidable.em (r2 = 227) with k14 | k14
      · have h := x_t h k14
        rw [k14]
        refine lv_lookup (tgt := 60) hx hb dX2_single_4 (by decide) rfl (by decide) ?_
        refine lv_aload_n hx hb dX2_single_60 rfl (lv_at hl 0 rfl) ?_
        obtain ⟨M15, r16, y17, h⟩ := x_cl h
        refine r_callVi (As := []) (rest := []) cx w hkn hl.1 (k_X2_antOperation hG hL0 hK0 y17) (cwV 0 hts gX2_single_X2_antOperation rfl rfl rfl (by decide +kernel) (rm_lo2 (Nat.le_of_ble_eq_true rfl) (Nat.le_of_ble_eq_true rfl))) hL0 hK0 (by decide) rfl rfl rfl (Nat.le_of_ble_eq_true rfl) dX2_single_61 (fun H locs w => ?_)
        obtain ⟨z18, h⟩ := x_ck h
        exact r_zret cx w z18 h dX2_single_64
      · have h := x_f h k14
        rcases Decidable.em (r2 = 228) with k19 | k19
        · have h := x_t h k19
          rw [k19]
          refine lv_lookup (tgt := 48) hx hb dX2_single_4 (by decide) rfl (by decide) ?_
          refine lv_aload_n hx hb dX2_single_48 rfl (lv_at hl 0 rfl) ?_
          refine lv_iload_n hx hb dX2_single_49 rfl (lv_at hl 1 rfl) ?_
          obtain ⟨M20, r21, y22, h⟩ := x_cl h
          refine r_callVi (As := [.int c1]) (rest := []) cx w hkn hl.1 (hR.2.2.2.1 _ _ _ _ _ y22) (cwV 1 hts gX2_single_X2_negatedSingle rfl rfl rfl (by decide +kernel) (rm_up2 (by decide))) hL0 hK0 (by decide) rfl rfl rfl (Nat.le_of_ble_eq_true rfl) dX2_single_50 (fun H locs w => ?_)
          obtain ⟨z23, h⟩ := x_ck h
          exact r_zret cx w z23 h dX2_single_53
        · have h := x_f h k19
          refine lv_lookup (tgt := 65) hx hb dX2_single_4 (by decide) (off := 61) (by have nk4 : ¬ (91 = Int32.toInt r2) := fun hh => k4 (Int32.toInt_inj.mp hh.symm); have nk9 : ¬ (226 = Int32.toInt r2) := fun hh => k9 (Int32.toInt_inj.mp hh.symm); have nk14 : ¬ (227 = Int32.toInt r2) := fun hh => k14 (Int32.toInt_inj.mp hh.symm); have nk19 : ¬ (228 = Int32.toInt r2) := fun hh => k19 (Int32.toInt_inj.mp hh.symm); simp [Op.lookupswitch.offset, nk4, nk9, nk14, nk19]) (by decide) ?_
          refine lv_aload_n hx hb dX2_single_65 rfl (lv_at hl 0 rfl) ?_
          refine lv_iload_n hx hb dX2_single_66 rfl (lv_at hl 1 rfl) ?_
          obtain ⟨M24, r25, y26, h⟩ := x_cl h
          refine r_callVi (As := [.int c1]) (rest := []) cx w hkn hl.1 (k_X2_sum hG hL0 hK0 y26) (cwV 1 hts gX2_single_X2_sum rfl rfl rfl (by decide +kernel) (rm_lo2 (Nat.le_of_ble_eq_true rfl) (Nat.le_of_ble_eq_true rfl))) hL0 hK0 (by decide) rfl rfl rfl (Nat.le_of_ble_eq_true rfl) dX2_single_67 (fun H locs w => ?_)
          refine lv_if_eq (tgt := 83) hx hb dX2_single_70 (by decide) (fun k27 => ?_) (fun k27 => ?_)
          · have h := x_t h k27
            exact b_X2_single_83 cx hkn hL0 hK0 hR M24 H locs ls h w (lv_sub hl [] rfl)
          · have h := x_f h k27
            refine lv_aload_n hx hb dX2_single_73 rfl (lv_at hl 0 rfl) ?_
            obtain ⟨M28, r29, y30, h⟩ := x_cl h
            refine r_callVi (As := []) (rest := []) cx w hkn hl.1 (k_X2_kind hG hL0 hK0 y30) (cwV 0 hts gX2_single_X2_kind rfl rfl rfl (by decide +kernel) (rm_lo2 (Nat.le_of_ble_eq_true rfl) (Nat.le_of_ble_eq_true rfl))) hL0 hK0 (by decide) rfl rfl rfl (Nat.le_of_ble_eq_true rfl) dX2_single_74 (fun H locs w => ?_)
            obtain ⟨M31, r32, y33, h⟩ := x_cl h
            refine r_callSi (As := [.int r29]) (rest := []) cx w hkn hl.1 (k_X2_isComparison hG y33) (va_cwS 1 hts gX2_single_X2_isComparison rfl rfl rfl (by decide +kernel) (rm_lo2 (Nat.le_of_ble_eq_true rfl) (Nat.le_of_ble_eq_true rfl))) rfl rfl (Nat.le_of_ble_eq_true rfl) dX2_single_77 (fun H locs w => ?_)
            refine lv_if_ne (tgt := 85) hx hb dX2_single_80 (by decide) (fun k34 => ?_) (fun k34 => ?_)
            · have h := x_f h k34
              refine lv_aload_n hx hb dX2_single_85 rfl (lv_at hl 0 rfl) ?_
              obtain ⟨M35, r36, y37, h⟩ := x_cl h
              refine r_callVi (As := []) (rest := []) cx w hkn hl.1 (k_X2_kind hG hL0 hK0 y37) (cwV 0 hts gX2_single_X2_kind rfl rfl rfl (by decide +kernel) (rm_lo2 (Nat.le_of_ble_eq_true rfl) (Nat.le_of_ble_eq_true rfl))) hL0 hK0 (by decide) rfl rfl rfl (Nat.le_of_ble_eq_true rfl) dX2_single_86 (fun H locs w => ?_)
              refine lv_istore_n (lv' := [(2, .int r36), (0, .ref a0), (1, .int c1)]) hx hb dX2_single_89 rfl hl (by decide) rfl (fun ls hl => ?_)
              refine lv_aload_n hx hb dX2_single_90 rfl (lv_at hl 1 rfl) ?_
              obtain ⟨M38, r39, y40, h⟩ := x_cl h
              refine r_callVv (As := []) (rest := []) cx w hkn hl.1 (k_X2_advance hG hL0 hK0 y40) (cwV 0 hts gX2_single_X2_advance rfl rfl rfl (by decide +kernel) (rm_lo2 (Nat.le_of_ble_eq_true rfl) (Nat.le_of_ble_eq_true rfl))) hL0 hK0 (by decide) rfl rfl rfl (Nat.le_of_ble_eq_true rfl) dX2_single_91 (fun H locs w => ?_)
              refine lv_aload_n hx hb dX2_single_94 rfl (lv_at hl 1 rfl) ?_
              refine lv_iload_n hx hb dX2_single_95 rfl (lv_at hl 2 rfl) ?_
              obtain ⟨M41, r42, y43, h⟩ := x_cl h
              refine r_callVi (As := [.int c1]) (rest := []) cx w hkn hl.1 (k_X2_sum hG hL0 hK0 y43) (cwV 1 hts gX2_single_X2_sum rfl rfl rfl (by decide +kernel) (rm_lo2 (Nat.le_of_ble_eq_true rfl) (Nat.le_of_ble_eq_true rfl))) hL0 hK0 (by decide) rfl rfl rfl (Nat.le_of_ble_eq_true rfl) dX2_single_96 (fun H locs w => ?_)
              refine lv_istore_n (lv' := [(3, .int r42), (2, .int r36), (0, .ref a0), (1, .int c1)]) hx hb dX2_single_99 rfl hl (by decide) rfl (fun ls hl => ?_)
              refine lv_aload_n hx hb dX2_single_100 rfl (lv_at hl 2 rfl) ?_
              obtain ⟨q44, eq44, h⟩ := x_rf h
              obtain ⟨hLq44, hKq44⟩ := wt_q hG hL0 hK0 eq44
              have hKq44 : gK G q44 = 2 := hKq44
              refine r_getR (k := 1) cx w hL0 hK0 (by decide) rfl wi_X2_single_X2 (by decide) rfl eq44 (List.mem_of_getElem? (i := 1) rfl) dX2_single_101 ?_
              refine lv_iload_n hx hb dX2_single_104 rfl (lv_at hl 1 rfl) ?_
              refine lv_iconst (v := (0 : Int32)) hx hb dX2_single_105 (by decide) ?_
              obtain ⟨M45, r46, y47, h⟩ := x_cl h
              refine r_callVv (As := [.int r36, .int ((0 : Int32))]) (rest := []) cx w hkn hl.1 (k_X3_addOperation hG hLq44 hKq44 y47) (cwV 2 hts gX2_single_X3_addOperation rfl rfl rfl (by decide +kernel) (rm_lo2 (Nat.le_of_ble_eq_true rfl) (Nat.le_of_ble_eq_true rfl))) hLq44 hKq44 (by decide) rfl rfl rfl (Nat.le_of_ble_eq_true rfl) dX2_single_106 (fun H locs w => ?_)
              refine lv_iload_n hx hb dX2_single_109 rfl (lv_at hl 0 rfl) ?_
              obtain ⟨z48, h⟩ := x_ck h
              exact r_zret cx w z48 h dX2_single_110
            · have h := x_t h k34
              exact b_X2_single_83 cx hkn hL0 hK0 hR M31 H locs ls h w (lv_sub hl [] rfl)
set_option maxHeartbeats 4000000 in
set_option maxRecDepth 100000 in
theorem kq_X2_negatedSingle {l : Launch} {D : va_G} {cy : cyS} {G : gS} {M M' : mS} {r : Int32} {a0 : Nat} {c1 : Int32} (hG : wt G) (hL0 : a0 ∈ gL G) (hK0 : gK G a0 = 1) {N0 : Nat} {R : Nat → mS → Int32 → Int32 → Option (mS × Int32)} (hR : SC2 l D cy G a0 (RM2 N0) R) (h : q_X2_negatedSingle G R M a0 c1 = some (M', r)) : ctI l yX2_negatedSingle wsX2_negatedSingle (RM2 (N0 + 1)) D cy G M [.ref a0, .int c1] M' r := by
  unfold q_X2_negatedSingle at h
  refine ctI_of (cc := cX2_negatedSingle) (nL := 3) (ret := (some .boolean)) (lv := [(0, .ref a0), (1, .int c1)]) hG (by decide) rfl ⟨rfl, rfl⟩ (Nat.le_of_ble_eq_true rfl) rfl ?_
  intro p e s m args below meth c A ls cx w hl
  obtain ⟨hx, hb, hml, hown, hts, hr, hlocks, hK, hA, -, hsx⟩ := id cx
  have hkn : 0 ≤ ((RM2 (N0 + 1))).cells ∧ 0 ≤ ((RM2 (N0 + 1))).slots := ⟨Nat.zero_le _, Nat.zero_le _⟩
  refine lv_iload_n hx hb dX2_negatedSingle_0 rfl (lv_at hl 1 rfl) ?_
  refine lv_bipush (v := (8 : Int32)) hx hb dX2_negatedSingle_1 (by decide) ?_
  refine lv_icmp_lt (tgt := 8) hx hb dX2_negatedSingle_3 (by decide) (fun k1 => ?_) (fun k1 => ?_)
  · have h := x_t h k1
    refine lv_aload_n hx hb dX2_negatedSingle_8 rfl (lv_at hl 0 rfl) ?_
    obtain ⟨M2, r3, y4, h⟩ := x_cl h
    refine r_callVv (As := []) (rest := []) cx w hkn hl.1 (k_X2_advance hG hL0 hK0 y4) (cwV 0 hts gX2_negatedSingle_X2_advance rfl rfl rfl (by decide +kernel) (rm_lo2 (Nat.le_of_ble_eq_true rfl) (Nat.le_of_ble_eq_true rfl))) hL0 hK0 (by decide) rfl rfl rfl (Nat.le_of_ble_eq_true rfl) dX2_negatedSingle_9 (fun H locs w => ?_)
    refine lv_aload_n hx hb dX2_negatedSingle_12 rfl (lv_at hl 0 rfl) ?_
    refine lv_iload_n hx hb dX2_negatedSingle_13 rfl (lv_at hl 1 rfl) ?_
    refine lv_iconst (v := (1 : Int32)) hx hb dX2_negatedSingle_14 (by decide) ?_
    refine lv_iadd hx hb dX2_negatedSingle_15 ?_
    obtain ⟨M5, r6, y7, h⟩ := x_cl h
    refine r_callVi (As := [.int ((c1 + (1 : Int32)))]) (rest := []) cx w hkn hl.1 (hR.2.2.1 _ _ _ _ _ y7) (cwV 1 hts gX2_negatedSingle_X2_single rfl rfl rfl (by decide +kernel) (rm_up2 (by decide))) hL0 hK0 (by decide) rfl rfl rfl (Nat.le_of_ble_eq_true rfl) dX2_negatedSingle_16 (fun H locs w => ?_)
    refine lv_istore_n (lv' := [(2, .int r6), (0, .ref a0), (1, .int c1)]) hx hb dX2_negatedSingle_19 rfl hl (by decide) rfl (fun ls hl => ?_)
    refine lv_aload_n hx hb dX2_negatedSingle_20 rfl (lv_at hl 1 rfl) ?_
    obtain ⟨q8, eq8, h⟩ := x_rf h
    obtain ⟨hLq8, hKq8⟩ := wt_q hG hL0 hK0 eq8
    have hKq8 : gK G q8 = 2 := hKq8
    refine r_getR (k := 1) cx w hL0 hK0 (by decide) rfl wi_X2_negatedSingle_X2 (by decide) rfl eq8 (List.mem_of_getElem? (i := 1) rfl) dX2_negatedSingle_21 ?_
    refine lv_sipush (v := (228 : Int32)) hx hb dX2_negatedSingle_24 (by decide) ?_
    refine lv_iconst (v := (0 : Int32)) hx hb dX2_negatedSingle_27 (by decide) ?_
    obtain ⟨M9, r10, y11, h⟩ := x_cl h
    refine r_callVv (As := [.int ((228 : Int32)), .int ((0 : Int32))]) (rest := []) cx w hkn hl.1 (k_X3_addOperation hG hLq8 hKq8 y11) (cwV 2 hts gX2_negatedSingle_X3_addOperation rfl rfl rfl (by decide +kernel) (rm_lo2 (Nat.le_of_ble_eq_true rfl) (Nat.le_of_ble_eq_true rfl))) hLq8 hKq8 (by decide) rfl rfl rfl (Nat.le_of_ble_eq_true rfl) dX2_negatedSingle_28 (fun H locs w => ?_)
    refine lv_iload_n hx hb dX2_negatedSingle_31 rfl (lv_at hl 0 rfl) ?_
    obtain ⟨z12, h⟩ := x_ck h
    exact r_zret cx w z12 h dX2_negatedSingle_32
  · have h := x_f h k1
    refine lv_iconst (v := (0 : Int32)) hx hb dX2_negatedSingle_6 (by decide) ?_
    obtain ⟨z13, h⟩ := x_ck h
    exact r_zret cx w z13 h dX2_negatedSingle_7
set_option maxHeartbeats 4000000 in
set_option maxRecDepth 100000 in
theorem b_X2_bracket_35 {p : Program} {e : Env} {s : State} {m : MethodId} {args : Array Value} {below : List Frame} {meth : Method} {c : Code} {A : Nat → Prop} {l : Launch} {D : va_G} {cy : cyS} {G : gS} (cx : cX p s m args meth c cX2_bracket RX2 2 (some .boolean) wsX2_bracket D cy G A) {k0 n0 : Nat} {N0 : Nat} (hkn : k0 ≤ ((RM2 (N0 + 1))).cells ∧ n0 ≤ ((RM2 (N0 + 1))).slots) {M' : mS} {r : Int32} {a0 : Nat} {c1 : Int32} (hL0 : a0 ∈ gL G) (hK0 : gK G a0 = 1)  {R : Nat → mS → Int32 → Int32 → Option (mS × Int32)} (hR : SC2 l D cy G a0 (RM2 N0) R)  : ∀ (M : mS) (H : Heap) (locs : List Loc) (ls : Array Slot), q_X2_bracket_35 G R a0 c1 M = some (M', r) → wd D cy G M A s.heap H locs → lv_has ls 2 [] → W p l e (RM2 (N0 + 1)) s m args below meth c H locs k0 n0 (MQ below (va_Qi (fun (r' : Int32) (_ : Unit) => r' = r) (fun _ t => wOut D cy G M' t) A) args s k0 n0 A) (F0 m 35 ls []) := by
  obtain ⟨hx, hb, hml, hown, hts, hr, hlocks, hK, hA, hG, hsx⟩ := id cx
  intro M H locs ls h w hl
  unfold q_X2_bracket_35 at h
  refine lv_iconst (v := (0 : Int32)) hx hb dX2_bracket_35 (by decide) ?_
  obtain ⟨z1, h⟩ := x_ck h
  exact r_zret cx w z1 h dX2_bracket_36
set_option maxHeartbeats 4000000 in
set_option maxRecDepth 100000 in
theorem kq_X2_bracket {l : Launch} {D : va_G} {cy : cyS} {G : gS} {M M' : mS} {r : Int32} {a0 : Nat} {c1 : Int32} (hG : wt G) (hL0 : a0 ∈ gL G) (hK0 : gK G a0 = 1) {N0 : Nat} {R : Nat → mS → Int32 → Int32 → Option (mS × Int32)} (hR : SC2 l D cy G a0 (RM2 N0) R) (h : q_X2_bracket G R M a0 c1 = some (M', r)) : ctI l yX2_bracket wsX2_bracket (RM2 (N0 + 1)) D cy G M [.ref a0, .int c1] M' r := by
  unfold q_X2_bracket at h
  refine ctI_of (cc := cX2_bracket) (nL := 2) (ret := (some .boolean)) (lv := [(0, .ref a0), (1, .int c1)]) hG (by decide) rfl ⟨rfl, rfl⟩ (Nat.le_of_ble_eq_true rfl) rfl ?_
  intro p e s m args below meth c A ls cx w hl
  obtain ⟨hx, hb, hml, hown, hts, hr, hlocks, hK, hA, -, hsx⟩ := id cx
  have hkn : 0 ≤ ((RM2 (N0 + 1))).cells ∧ 0 ≤ ((RM2 (N0 + 1))).slots := ⟨Nat.zero_le _, Nat.zero_le _⟩
  refine lv_iload_n hx hb dX2_bracket_0 rfl (lv_at hl 1 rfl) ?_
  refine lv_bipush (v := (8 : Int32)) hx hb dX2_bracket_1 (by decide) ?_
  refine lv_icmp_lt (tgt := 8) hx hb dX2_bracket_3 (by decide) (fun k1 => ?_) (fun k1 => ?_)
  · have h := x_t h k1
    refine lv_aload_n hx hb dX2_bracket_8 rfl (lv_at hl 0 rfl) ?_
    obtain ⟨M2, r3, y4, h⟩ := x_cl h
    refine r_callVv (As := []) (rest := []) cx w hkn hl.1 (k_X2_advance hG hL0 hK0 y4) (cwV 0 hts gX2_bracket_X2_advance rfl rfl rfl (by decide +kernel) (rm_lo2 (Nat.le_of_ble_eq_true rfl) (Nat.le_of_ble_eq_true rfl))) hL0 hK0 (by decide) rfl rfl rfl (Nat.le_of_ble_eq_true rfl) dX2_bracket_9 (fun H locs w => ?_)
    refine lv_aload_n hx hb dX2_bracket_12 rfl (lv_at hl 0 rfl) ?_
    refine lv_iload_n hx hb dX2_bracket_13 rfl (lv_at hl 1 rfl) ?_
    refine lv_iconst (v := (1 : Int32)) hx hb dX2_bracket_14 (by decide) ?_
    refine lv_iadd hx hb dX2_bracket_15 ?_
    obtain ⟨M5, r6, y7, h⟩ := x_cl h
    refine r_callVi (As := [.int ((c1 + (1 : Int32)))]) (rest := []) cx w hkn hl.1 (hR.1 _ _ _ _ _ y7) (cwV 1 hts gX2_bracket_X2_test rfl rfl rfl (by decide +kernel) (rm_up2 (by decide))) hL0 hK0 (by decide) rfl rfl rfl (Nat.le_of_ble_eq_true rfl) dX2_bracket_16 (fun H locs w => ?_)
    refine lv_if_eq (tgt := 35) hx hb dX2_bracket_19 (by decide) (fun k8 => ?_) (fun k8 => ?_)
    · have h := x_t h k8
      exact b_X2_bracket_35 cx hkn hL0 hK0 hR M5 H locs ls h w (lv_sub hl [] rfl)
    · have h := x_f h k8
      refine lv_aload_n hx hb dX2_bracket_22 rfl (lv_at hl 0 rfl) ?_
      refine lv_bipush (v := (93 : Int32)) hx hb dX2_bracket_23 (by decide) ?_
      obtain ⟨M9, r10, y11, h⟩ := x_cl h
      refine r_callVi (As := [.int ((93 : Int32))]) (rest := []) cx w hkn hl.1 (k_X2_take hG hL0 hK0 y11) (cwV 1 hts gX2_bracket_X2_take rfl rfl rfl (by decide +kernel) (rm_lo2 (Nat.le_of_ble_eq_true rfl) (Nat.le_of_ble_eq_true rfl))) hL0 hK0 (by decide) rfl rfl rfl (Nat.le_of_ble_eq_true rfl) dX2_bracket_25 (fun H locs w => ?_)
      refine lv_if_eq (tgt := 35) hx hb dX2_bracket_28 (by decide) (fun k12 => ?_) (fun k12 => ?_)
      · have h := x_t h k12
        exact b_X2_bracket_35 cx hkn hL0 hK0 hR M9 H locs ls h w (lv_sub hl [] rfl)
      · have h := x_f h k12
        refine lv_iconst (v := (1 : Int32)) hx hb dX2_bracket_31 (by decide) ?_
        refine lv_goto (tgt := 36) hx hb dX2_bracket_32 (by decide) ?_
        obtain ⟨z13, h⟩ := x_ck h
        exact r_zret cx w z13 h dX2_bracket_36
  · have h := x_f h k1
    refine lv_iconst (v := (0 : Int32)) hx hb dX2_bracket_6 (by decide) ?_
    obtain ⟨z14, h⟩ := x_ck h
    exact r_zret cx w z14 h dX2_bracket_7
def rec2 (G : gS) (a : Nat) : Nat → Nat → mS → Int32 → Int32 → Option (mS × Int32)
  | 0, _, _, _, _ => none
  | n + 1, t, M, x, y => if t = 0 then q_X2_test G (rec2 G a n) M a x else if t = 1 then q_X2_both G (rec2 G a n) M a x else if t = 2 then q_X2_single G (rec2 G a n) M a x else if t = 3 then q_X2_negatedSingle G (rec2 G a n) M a x else if t = 4 then q_X2_bracket G (rec2 G a n) M a x else none
theorem kr2 {l : Launch} {D : va_G} {cy : cyS} {G : gS} {a : Nat} (hG : wt G) (hL : a ∈ gL G) (hK : gK G a = 1) : ∀ n : Nat, SC2 l D cy G a (RM2 n) (rec2 G a n) := by
  intro n
  induction n with
  | zero => exact ⟨fun M x y M' r h => nn h, fun M x y M' r h => nn h, fun M x y M' r h => nn h, fun M x y M' r h => nn h, fun M x y M' r h => nn h⟩
  | succ n ih => exact ⟨fun M x y M' r h => kq_X2_test hG hL hK ih h, fun M x y M' r h => kq_X2_both hG hL hK ih h, fun M x y M' r h => kq_X2_single hG hL hK ih h, fun M x y M' r h => kq_X2_negatedSingle hG hL hK ih h, fun M x y M' r h => kq_X2_bracket hG hL hK ih h⟩
def m_X2_test (G : gS) (M : mS) (a : Nat) (x : Int32) : Option (mS × Int32) := rec2 G a 64 0 M x (0 : Int32)
abbrev rmX2_test : Room := RM2 64
theorem k_X2_test {l : Launch} {D : va_G} {cy : cyS} {G : gS} {M M' : mS} {r : Int32} {a : Nat} {x : Int32} (hG : wt G) (hL : a ∈ gL G) (hK : gK G a = 1) (h : m_X2_test G M a x = some (M', r)) : ctI l yX2_test wsX2_test rmX2_test D cy G M [.ref a, .int x] M' r := ((kr2 (l := l) (D := D) (cy := cy) hG hL hK 64).1) _ _ _ _ _ h
def m_X2_both (G : gS) (M : mS) (a : Nat) (x : Int32) : Option (mS × Int32) := rec2 G a 64 1 M x (0 : Int32)
abbrev rmX2_both : Room := RM2 64
theorem k_X2_both {l : Launch} {D : va_G} {cy : cyS} {G : gS} {M M' : mS} {r : Int32} {a : Nat} {x : Int32} (hG : wt G) (hL : a ∈ gL G) (hK : gK G a = 1) (h : m_X2_both G M a x = some (M', r)) : ctI l yX2_both wsX2_both rmX2_both D cy G M [.ref a, .int x] M' r := ((kr2 (l := l) (D := D) (cy := cy) hG hL hK 64).2.1) _ _ _ _ _ h
def m_X2_single (G : gS) (M : mS) (a : Nat) (x : Int32) : Option (mS × Int32) := rec2 G a 64 2 M x (0 : Int32)
abbrev rmX2_single : Room := RM2 64
theorem k_X2_single {l : Launch} {D : va_G} {cy : cyS} {G : gS} {M M' : mS} {r : Int32} {a : Nat} {x : Int32} (hG : wt G) (hL : a ∈ gL G) (hK : gK G a = 1) (h : m_X2_single G M a x = some (M', r)) : ctI l yX2_single wsX2_single rmX2_single D cy G M [.ref a, .int x] M' r := ((kr2 (l := l) (D := D) (cy := cy) hG hL hK 64).2.2.1) _ _ _ _ _ h
def m_X2_negatedSingle (G : gS) (M : mS) (a : Nat) (x : Int32) : Option (mS × Int32) := rec2 G a 64 3 M x (0 : Int32)
abbrev rmX2_negatedSingle : Room := RM2 64
theorem k_X2_negatedSingle {l : Launch} {D : va_G} {cy : cyS} {G : gS} {M M' : mS} {r : Int32} {a : Nat} {x : Int32} (hG : wt G) (hL : a ∈ gL G) (hK : gK G a = 1) (h : m_X2_negatedSingle G M a x = some (M', r)) : ctI l yX2_negatedSingle wsX2_negatedSingle rmX2_negatedSingle D cy G M [.ref a, .int x] M' r := ((kr2 (l := l) (D := D) (cy := cy) hG hL hK 64).2.2.2.1) _ _ _ _ _ h
def m_X2_bracket (G : gS) (M : mS) (a : Nat) (x : Int32) : Option (mS × Int32) := rec2 G a 64 4 M x (0 : Int32)
abbrev rmX2_bracket : Room := RM2 64
theorem k_X2_bracket {l : Launch} {D : va_G} {cy : cyS} {G : gS} {M M' : mS} {r : Int32} {a : Nat} {x : Int32} (hG : wt G) (hL : a ∈ gL G) (hK : gK G a = 1) (h : m_X2_bracket G M a x = some (M', r)) : ctI l yX2_bracket wsX2_bracket rmX2_bracket D cy G M [.ref a, .int x] M' r := ((kr2 (l := l) (D := D) (cy := cy) hG hL hK 64).2.2.2.2) _ _ _ _ _ h
-- X2_washLine
theorem wi_X2_washLine_X2 : ∀ w ∈ wsX20, w ∈ wsX2_washLine := by decide +kernel
abbrev rmX2_washLine : Room := { frames := 133, cells := 0, slots := 0, locals := 7795 }
def m_X2_washLine_40 (G : gS) (a0 : Nat)  (M : mS)  : Option (mS × Int32) := o_ck ((0 : Int32) = 0 ∨ (0 : Int32) = 1) (some (M, (0 : Int32)))
def m_X2_washLine_79 (G : gS) (a0 : Nat)  (M : mS)  : Option (mS × Int32) := o_ck ((0 : Int32) = 0 ∨ (0 : Int32) = 1) (some (M, (0 : Int32)))
def m_X2_washLine (G : gS) (M : mS) (a0 : Nat) : Option (mS × Int32) := o_cl (m_X2_takeOrderWord G M a0) (fun M1 r2 => o_cl (m_X2_kind G M1 a0) (fun M4 r5 => (if r5 = (3 : Int32) then o_cl (m_X2_rangedNumber G M4 a0 (0 : Int32) (63 : Int32)) (fun M8 r9 => o_cl (m_X2_take G M8 a0 (215 : Int32)) (fun M11 r12 => (if r12 = 0 then m_X2_washLine_40 G a0 M11 else o_cl (m_X2_kind G M11 a0) (fun M15 r16 => (if r16 = (3 : Int32) then o_rf (gP G a0 1) (fun q19 => o_cl (m_X2_rangedNumber G M15 a0 r9 (63 : Int32)) (fun M20 r21 => o_cl (m_X3_setOrderNumbers G M20 q19 r9 r21) (fun M23 r24 => o_cl (m_X2_take G M23 a0 (219 : Int32)) (fun M26 r27 => (if r27 = 0 then m_X2_washLine_79 G a0 M26 else o_cl (m_X2_test G M26 a0 (0 : Int32)) (fun M30 r31 => (if r31 = 0 then m_X2_washLine_79 G a0 M30 else o_ck ((1 : Int32) = 0 ∨ (1 : Int32) = 1) (some (M30, (1 : Int32)))))))))) else m_X2_washLine_40 G a0 M15))))) else o_ck ((0 : Int32) = 0 ∨ (0 : Int32) = 1) (some (M4, (0 : Int32))))))
set_option maxHeartbeats 4000000 in
set_option maxRecDepth 100000 in
theorem b_X2_washLine_40 {p : Program} {e : Env} {s : State} {m : MethodId} {args : Array Value} {below : List Frame} {meth : Method} {c : Code} {A : Nat → Prop} {l : Launch} {D : va_G} {cy : cyS} {G : gS} (cx : cX p s m args meth c cX2_washLine RX2 2 (some .boolean) wsX2_washLine D cy G A) {k0 n0 : Nat} (hkn : k0 ≤ (rmX2_washLine).cells ∧ n0 ≤ (rmX2_washLine).slots) {M' : mS} {r : Int32} {a0 : Nat} (hL0 : a0 ∈ gL G) (hK0 : gK G a0 = 1)  : ∀ (M : mS) (H : Heap) (locs : List Loc) (ls : Array Slot), m_X2_washLine_40 G a0 M = some (M', r) → wd D cy G M A s.heap H locs → lv_has ls 2 [] → W p l e rmX2_washLine s m args below meth c H locs k0 n0 (MQ below (va_Qi (fun (r' : Int32) (_ : Unit) => r' = r) (fun _ t => wOut D cy G M' t) A) args s k0 n0 A) (F0 m 40 ls []) := by
  obtain ⟨hx, hb, hml, hown, hts, hr, hlocks, hK, hA, hG, hsx⟩ := id cx
  intro M H locs ls h w hl
  unfold m_X2_washLine_40 at h
  refine lv_iconst (v := (0 : Int32)) hx hb dX2_washLine_40 (by decide) ?_
  obtain ⟨z1, h⟩ := x_ck h
  exact r_zret cx w z1 h dX2_washLine_41
set_option maxHeartbeats 4000000 in
set_option maxRecDepth 100000 in
theorem b_X2_washLine_79 {p : Program} {e : Env} {s : State} {m : MethodId} {args : Array Value} {below : List Frame} {meth : Method} {c : Code} {A : Nat → Prop} {l : Launch} {D : va_G} {cy : cyS} {G : gS} (cx : cX p s m args meth c cX2_washLine RX2 2 (some .boolean) wsX2_washLine D cy G A) {k0 n0 : Nat} (hkn : k0 ≤ (rmX2_washLine).cells ∧ n0 ≤ (rmX2_washLine).slots) {M' : mS} {r : Int32} {a0 : Nat} (hL0 : a0 ∈ gL G) (hK0 : gK G a0 = 1)  : ∀ (M : mS) (H : Heap) (locs : List Loc) (ls : Array Slot), m_X2_washLine_79 G a0 M = some (M', r) → wd D cy G M A s.heap H locs → lv_has ls 2 [] → W p l e rmX2_washLine s m args below meth c H locs k0 n0 (MQ below (va_Qi (fun (r' : Int32) (_ : Unit) => r' = r) (fun _ t => wOut D cy G M' t) A) args s k0 n0 A) (F0 m 79 ls []) := by
  obtain ⟨hx, hb, hml, hown, hts, hr, hlocks, hK, hA, hG, hsx⟩ := id cx
  intro M H locs ls h w hl
  unfold m_X2_washLine_79 at h
  refine lv_iconst (v := (0 : Int32)) hx hb dX2_washLine_79 (by decide) ?_
  obtain ⟨z1, h⟩ := x_ck h
  exact r_zret cx w z1 h dX2_washLine_80
set_option maxHeartbeats 4000000 in
set_option maxRecDepth 100000 in
theorem k_X2_washLine {l : Launch} {D : va_G} {cy : cyS} {G : gS} {M M' : mS} {r : Int32} {a0 : Nat} (hG : wt G) (hL0 : a0 ∈ gL G) (hK0 : gK G a0 = 1) (h : m_X2_washLine G M a0 = some (M', r)) : ctI l yX2_washLine wsX2_washLine rmX2_washLine D cy G M [.ref a0] M' r := by
  unfold m_X2_washLine at h
  refine ctI_of (cc := cX2_washLine) (nL := 2) (ret := (some .boolean)) (lv := [(0, .ref a0)]) hG (by decide) rfl ⟨rfl, rfl⟩ (Nat.le_of_ble_eq_true rfl) rfl ?_
  intro p e s m args below meth c A ls cx w hl
  obtain ⟨hx, hb, hml, hown, hts, hr, hlocks, hK, hA, -, hsx⟩ := id cx
  have hkn : 0 ≤ (rmX2_washLine).cells ∧ 0 ≤ (rmX2_washLine).slots := ⟨Nat.zero_le _, Nat.zero_le _⟩
  refine lv_aload_n hx hb dX2_washLine_0 rfl (lv_at hl 0 rfl) ?_
  obtain ⟨M1, r2, y3, h⟩ := x_cl h
  refine r_callVv (As := []) (rest := []) cx w hkn hl.1 (k_X2_takeOrderWord hG hL0 hK0 y3) (cwV 0 hts gX2_washLine_X2_takeOrderWord rfl rfl rfl (by decide +kernel) ⟨Nat.le_of_ble_eq_true rfl, Nat.le_of_ble_eq_true rfl⟩) hL0 hK0 (by decide) rfl rfl rfl (Nat.le_of_ble_eq_true rfl) dX2_washLine_1 (fun H locs w => ?_)
  refine lv_aload_n hx hb dX2_washLine_4 rfl (lv_at hl 0 rfl) ?_
  obtain ⟨M4, r5, y6, h⟩ := x_cl h
  refine r_callVi (As := []) (rest := []) cx w hkn hl.1 (k_X2_kind hG hL0 hK0 y6) (cwV 0 hts gX2_washLine_X2_kind rfl rfl rfl (by decide +kernel) ⟨Nat.le_of_ble_eq_true rfl, Nat.le_of_ble_eq_true rfl⟩) hL0 hK0 (by decide) rfl rfl rfl (Nat.le_of_ble_eq_true rfl) dX2_washLine_5 (fun H locs w => ?_)
  refine lv_iconst (v := (3 : Int32)) hx hb dX2_washLine_8 (by decide) ?_
  refine lv_icmp_eq (tgt := 14) hx hb dX2_washLine_9 (by decide) (fun k7 => ?_) (fun k7 => ?_)
  · have h := x_t h k7
    refine lv_aload_n hx hb dX2_washLine_14 rfl (lv_at hl 0 rfl) ?_
    refine lv_iconst (v := (0 : Int32)) hx hb dX2_washLine_15 (by decide) ?_
    refine lv_bipush (v := (63 : Int32)) hx hb dX2_washLine_16 (by decide) ?_
    obtain ⟨M8, r9, y10, h⟩ := x_cl h
    refine r_callVi (As := [.int ((0 : Int32)), .int ((63 : Int32))]) (rest := []) cx w hkn hl.1 (k_X2_rangedNumber hG hL0 hK0 y10) (cwV 2 hts gX2_washLine_X2_rangedNumber rfl rfl rfl (by decide +kernel) ⟨Nat.le_of_ble_eq_true rfl, Nat.le_of_ble_eq_true rfl⟩) hL0 hK0 (by decide) rfl rfl rfl (Nat.le_of_ble_eq_true rfl) dX2_washLine_18 (fun H locs w => ?_)
    refine lv_istore_n (lv' := [(1, .int r9), (0, .ref a0)]) hx hb dX2_washLine_21 rfl hl (by decide) rfl (fun ls hl => ?_)
    refine lv_aload_n hx hb dX2_washLine_22 rfl (lv_at hl 1 rfl) ?_
    refine lv_sipush (v := (215 : Int32)) hx hb dX2_washLine_23 (by decide) ?_
    obtain ⟨M11, r12, y13, h⟩ := x_cl h
    refine r_callVi (As := [.int ((215 : Int32))]) (rest := []) cx w hkn hl.1 (k_X2_take hG hL0 hK0 y13) (cwV 1 hts gX2_washLine_X2_take rfl rfl rfl (by decide +kernel) ⟨Nat.le_of_ble_eq_true rfl, Nat.le_of_ble_eq_true rfl⟩) hL0 hK0 (by decide) rfl rfl rfl (Nat.le_of_ble_eq_true rfl) dX2_washLine_26 (fun H locs w => ?_)
    refine lv_if_eq (tgt := 40) hx hb dX2_washLine_29 (by decide) (fun k14 => ?_) (fun k14 => ?_)
    · have h := x_t h k14
      exact b_X2_washLine_40 cx hkn hL0 hK0 M11 H locs ls h w (lv_sub hl [] rfl)
    · have h := x_f h k14
      refine lv_aload_n hx hb dX2_washLine_32 rfl (lv_at hl 1 rfl) ?_
      obtain ⟨M15, r16, y17, h⟩ := x_cl h
      refine r_callVi (As := []) (rest := []) cx w hkn hl.1 (k_X2_kind hG hL0 hK0 y17) (cwV 0 hts gX2_washLine_X2_kind rfl rfl rfl (by decide +kernel) ⟨Nat.le_of_ble_eq_true rfl, Nat.le_of_ble_eq_true rfl⟩) hL0 hK0 (by decide) rfl rfl rfl (Nat.le_of_ble_eq_true rfl) dX2_washLine_33 (fun H locs w => ?_)
      refine lv_iconst (v := (3 : Int32)) hx hb dX2_washLine_36 (by decide) ?_
      refine lv_icmp_eq (tgt := 42) hx hb dX2_washLine_37 (by decide) (fun k18 => ?_) (fun k18 => ?_)
      · have h := x_t h k18
        refine lv_aload_n hx hb dX2_washLine_42 rfl (lv_at hl 1 rfl) ?_
        obtain ⟨q19, eq19, h⟩ := x_rf h
        obtain ⟨hLq19, hKq19⟩ := wt_q hG hL0 hK0 eq19
        have hKq19 : gK G q19 = 2 := hKq19
        refine r_getR (k := 1) cx w hL0 hK0 (by decide) rfl wi_X2_washLine_X2 (by decide) rfl eq19 (List.mem_of_getElem? (i := 1) rfl) dX2_washLine_43 ?_
        refine lv_iload_n hx hb dX2_washLine_46 rfl (lv_at hl 0 rfl) ?_
        refine lv_aload_n hx hb dX2_washLine_47 rfl (lv_at hl 1 rfl) ?_
        refine lv_iload_n hx hb dX2_washLine_48 rfl (lv_at hl 0 rfl) ?_
        refine lv_bipush (v := (63 : Int32)) hx hb dX2_washLine_49 (by decide) ?_
        obtain ⟨M20, r21, y22, h⟩ := x_cl h
        refine r_callVi (As := [.int r9, .int ((63 : Int32))]) (rest := [.int r9, .ref q19]) cx w hkn hl.1 (k_X2_rangedNumber hG hL0 hK0 y22) (cwV 2 hts gX2_washLine_X2_rangedNumber rfl rfl rfl (by decide +kernel) ⟨Nat.le_of_ble_eq_true rfl, Nat.le_of_ble_eq_true rfl⟩) hL0 hK0 (by decide) rfl rfl rfl (Nat.le_of_ble_eq_true rfl) dX2_washLine_51 (fun H locs w => ?_)
        obtain ⟨M23, r24, y25, h⟩ := x_cl h
        refine r_callVv (As := [.int r9, .int r21]) (rest := []) cx w hkn hl.1 (k_X3_setOrderNumbers hG hLq19 hKq19 y25) (cwV 2 hts gX2_washLine_X3_setOrderNumbers rfl rfl rfl (by decide +kernel) ⟨Nat.le_of_ble_eq_true rfl, Nat.le_of_ble_eq_true rfl⟩) hLq19 hKq19 (by decide) rfl rfl rfl (Nat.le_of_ble_eq_true rfl) dX2_washLine_54 (fun H locs w => ?_)
        refine lv_aload_n hx hb dX2_washLine_57 rfl (lv_at hl 1 rfl) ?_
        refine lv_sipush (v := (219 : Int32)) hx hb dX2_washLine_58 (by decide) ?_
        obtain ⟨M26, r27, y28, h⟩ := x_cl h
        refine r_callVi (As := [.int ((219 : Int32))]) (rest := []) cx w hkn hl.1 (k_X2_take hG hL0 hK0 y28) (cwV 1 hts gX2_washLine_X2_take rfl rfl rfl (by decide +kernel) ⟨Nat.le_of_ble_eq_true rfl, Nat.le_of_ble_eq_true rfl⟩) hL0 hK0 (by decide) rfl rfl rfl (Nat.le_of_ble_eq_true rfl) dX2_washLine_61 (fun H locs w => ?_)
        refine lv_if_eq (tgt := 79) hx hb dX2_washLine_64 (by decide) (fun k29 => ?_) (fun k29 => ?_)
        · have h := x_t h k29
          exact b_X2_washLine_79 cx hkn hL0 hK0 M26 H locs ls h w (lv_sub hl [] rfl)
        · have h := x_f h k29
          refine lv_aload_n hx hb dX2_washLine_67 rfl (lv_at hl 1 rfl) ?_
          refine lv_iconst (v := (0 : Int32)) hx hb dX2_washLine_68 (by decide) ?_
          obtain ⟨M30, r31, y32, h⟩ := x_cl h
          refine r_callVi (As := [.int ((0 : Int32))]) (rest := []) cx w hkn hl.1 (k_X2_test hG hL0 hK0 y32) (cwV 1 hts gX2_washLine_X2_test rfl rfl rfl (by decide +kernel) ⟨Nat.le_of_ble_eq_true rfl, Nat.le_of_ble_eq_true rfl⟩) hL0 hK0 (by decide) rfl rfl rfl (Nat.le_of_ble_eq_true rfl) dX2_washLine_69 (fun H locs w => ?_)
          refine lv_if_eq (tgt := 79) hx hb dX2_washLine_72 (by decide) (fun k33 => ?_) (fun k33 => ?_)
          · have h := x_t h k33
            exact b_X2_washLine_79 cx hkn hL0 hK0 M30 H locs ls h w (lv_sub hl [] rfl)
          · have h := x_f h k33
            refine lv_iconst (v := (1 : Int32)) hx hb dX2_washLine_75 (by decide) ?_
            refine lv_goto (tgt := 80) hx hb dX2_washLine_76 (by decide) ?_
            obtain ⟨z34, h⟩ := x_ck h
            exact r_zret cx w z34 h dX2_washLine_80
      · have h := x_f h k18
        exact b_X2_washLine_40 cx hkn hL0 hK0 M15 H locs ls h w (lv_sub hl [] rfl)
  · have h := x_f h k7
    refine lv_iconst (v := (0 : Int32)) hx hb dX2_washLine_12 (by decide) ?_
    obtain ⟨z35, h⟩ := x_ck h
    exact r_zret cx w z35 h dX2_washLine_13
-- X2_faceLine
theorem wi_X2_faceLine_X2 : ∀ w ∈ wsX20, w ∈ wsX2_faceLine := by decide +kernel
theorem wi_X2_faceLine_X8 : ∀ w ∈ wsX80, w ∈ wsX2_faceLine := by decide +kernel
abbrev rmX2_faceLine : Room := { frames := 133, cells := 0, slots := 0, locals := 7795 }
def m_X2_faceLine_73 (G : gS) (a0 : Nat)  (M : mS)  : Option (mS × Int32) := o_ck ((0 : Int32) = 0 ∨ (0 : Int32) = 1) (some (M, (0 : Int32)))
def m_X2_faceLine (G : gS) (M : mS) (a0 : Nat) : Option (mS × Int32) := o_cl (m_X2_takeOrderWord G M a0) (fun M1 r2 => o_cl (m_X2_kind G M1 a0) (fun M4 r5 => (if r5 = (2 : Int32) then o_rf (gP G a0 4) (fun q8 => o_rf (gP G a0 2) (fun q9 => o_cl (m_X2_knownName G M4 a0 q8 (mI M4 q9 4)) (fun M10 r11 => o_cl (m_X2_isSide G M10 a0) (fun M13 r14 => (if r14 = 0 then o_ck ((0 : Int32) = 0 ∨ (0 : Int32) = 1) (some (M13, (0 : Int32))) else o_rf (gP G a0 1) (fun q17 => o_cl (m_X2_takeSide G M13 a0) (fun M18 r19 => o_cl (m_X3_setOrderNumbers G M18 q17 r11 r19) (fun M21 r22 => o_cl (m_X2_take G M21 a0 (219 : Int32)) (fun M24 r25 => (if r25 = 0 then m_X2_faceLine_73 G a0 M24 else o_cl (m_X2_test G M24 a0 (0 : Int32)) (fun M28 r29 => (if r29 = 0 then m_X2_faceLine_73 G a0 M28 else o_ck ((1 : Int32) = 0 ∨ (1 : Int32) = 1) (some (M28, (1 : Int32))))))))))))))) else o_ck ((0 : Int32) = 0 ∨ (0 : Int32) = 1) (some (M4, (0 : Int32))))))
set_option maxHeartbeats 4000000 in
set_option maxRecDepth 100000 in
theorem b_X2_faceLine_73 {p : Program} {e : Env} {s : State} {m : MethodId} {args : Array Value} {below : List Frame} {meth : Method} {c : Code} {A : Nat → Prop} {l : Launch} {D : va_G} {cy : cyS} {G : gS} (cx : cX p s m args meth c cX2_faceLine RX2 2 (some .boolean) wsX2_faceLine D cy G A) {k0 n0 : Nat} (hkn : k0 ≤ (rmX2_faceLine).cells ∧ n0 ≤ (rmX2_faceLine).slots) {M' : mS} {r : Int32} {a0 : Nat} (hL0 : a0 ∈ gL G) (hK0 : gK G a0 = 1)  : ∀ (M : mS) (H : Heap) (locs : List Loc) (ls : Array Slot), m_X2_faceLine_73 G a0 M = some (M', r) → wd D cy G M A s.heap H locs → lv_has ls 2 [] → W p l e rmX2_faceLine s m args below meth c H locs k0 n0 (MQ below (va_Qi (fun (r' : Int32) (_ : Unit) => r' = r) (fun _ t => wOut D cy G M' t) A) args s k0 n0 A) (F0 m 73 ls []) := by
  obtain ⟨hx, hb, hml, hown, hts, hr, hlocks, hK, hA, hG, hsx⟩ := id cx
  intro M H locs ls h w hl
  unfold m_X2_faceLine_73 at h
  refine lv_iconst (v := (0 : Int32)) hx hb dX2_faceLine_73 (by decide) ?_
  obtain ⟨z1, h⟩ := x_ck h
  exact r_zret cx w z1 h dX2_faceLine_74
set_option maxHeartbeats 4000000 in
set_option maxRecDepth 100000 in
theorem k_X2_faceLine {l : Launch} {D : va_G} {cy : cyS} {G : gS} {M M' : mS} {r : Int32} {a0 : Nat} (hG : wt G) (hL0 : a0 ∈ gL G) (hK0 : gK G a0 = 1) (h : m_X2_faceLine G M a0 = some (M', r)) : ctI l yX2_faceLine wsX2_faceLine rmX2_faceLine D cy G M [.ref a0] M' r := by
  unfold m_X2_faceLine at h
  refine ctI_of (cc := cX2_faceLine) (nL := 2) (ret := (some .boolean)) (lv := [(0, .ref a0)]) hG (by decide) rfl ⟨rfl, rfl⟩ (Nat.le_of_ble_eq_true rfl) rfl ?_
  intro p e s m args below meth c A ls cx w hl
  obtain ⟨hx, hb, hml, hown, hts, hr, hlocks, hK, hA, -, hsx⟩ := id cx
  have hkn : 0 ≤ (rmX2_faceLine).cells ∧ 0 ≤ (rmX2_faceLine).slots := ⟨Nat.zero_le _, Nat.zero_le _⟩
  refine lv_aload_n hx hb dX2_faceLine_0 rfl (lv_at hl 0 rfl) ?_
  obtain ⟨M1, r2, y3, h⟩ := x_cl h
  refine r_callVv (As := []) (rest := []) cx w hkn hl.1 (k_X2_takeOrderWord hG hL0 hK0 y3) (cwV 0 hts gX2_faceLine_X2_takeOrderWord rfl rfl rfl (by decide +kernel) ⟨Nat.le_of_ble_eq_true rfl, Nat.le_of_ble_eq_true rfl⟩) hL0 hK0 (by decide) rfl rfl rfl (Nat.le_of_ble_eq_true rfl) dX2_faceLine_1 (fun H locs w => ?_)
  refine lv_aload_n hx hb dX2_faceLine_4 rfl (lv_at hl 0 rfl) ?_
  obtain ⟨M4, r5, y6, h⟩ := x_cl h
  refine r_callVi (As := []) (rest := []) cx w hkn hl.1 (k_X2_kind hG hL0 hK0 y6) (cwV 0 hts gX2_faceLine_X2_kind rfl rfl rfl (by decide +kernel) ⟨Nat.le_of_ble_eq_true rfl, Nat.le_of_ble_eq_true rfl⟩) hL0 hK0 (by decide) rfl rfl rfl (Nat.le_of_ble_eq_true rfl) dX2_faceLine_5 (fun H locs w => ?_)
  refine lv_iconst (v := (2 : Int32)) hx hb dX2_faceLine_8 (by decide) ?_
  refine lv_icmp_eq (tgt := 14) hx hb dX2_faceLine_9 (by decide) (fun k7 => ?_) (fun k7 => ?_)
  · have h := x_t h k7
    refine lv_aload_n hx hb dX2_faceLine_14 rfl (lv_at hl 0 rfl) ?_
    refine lv_aload_n hx hb dX2_faceLine_15 rfl (lv_at hl 0 rfl) ?_
    obtain ⟨q8, eq8, h⟩ := x_rf h
    obtain ⟨hLq8, hKq8⟩ := wt_q hG hL0 hK0 eq8
    have hKq8 : gK G q8 = 13 := hKq8
    refine r_getR (k := 4) cx w hL0 hK0 (by decide) rfl wi_X2_faceLine_X2 (by decide) rfl eq8 (List.mem_of_getElem? (i := 1) rfl) dX2_faceLine_16 ?_
    refine lv_aload_n hx hb dX2_faceLine_19 rfl (lv_at hl 0 rfl) ?_
    obtain ⟨q9, eq9, h⟩ := x_rf h
    obtain ⟨hLq9, hKq9⟩ := wt_q hG hL0 hK0 eq9
    have hKq9 : gK G q9 = 7 := hKq9
    refine r_getR (k := 2) cx w hL0 hK0 (by decide) rfl wi_X2_faceLine_X2 (by decide) rfl eq9 (List.mem_of_getElem? (i := 2) rfl) dX2_faceLine_20 ?_
    refine r_getI (k := 4) (v := .int (mI M4 q9 4)) cx w hLq9 hKq9 (by decide) rfl wi_X2_faceLine_X8 (by decide) rfl (List.mem_of_getElem? (i := 3) rfl) dX2_faceLine_23 ?_
    obtain ⟨M10, r11, y12, h⟩ := x_cl h
    refine r_callVi (As := [.ref q8, .int ((mI M4 q9 4))]) (rest := []) cx w hkn hl.1 (k_X2_knownName hG hL0 hK0 hLq8 hKq8 y12) (cwV 2 hts gX2_faceLine_X2_knownName rfl rfl rfl (by decide +kernel) ⟨Nat.le_of_ble_eq_true rfl, Nat.le_of_ble_eq_true rfl⟩) hL0 hK0 (by decide) rfl rfl rfl (Nat.le_of_ble_eq_true rfl) dX2_faceLine_26 (fun H locs w => ?_)
    refine lv_istore_n (lv' := [(1, .int r11), (0, .ref a0)]) hx hb dX2_faceLine_29 rfl hl (by decide) rfl (fun ls hl => ?_)
    refine lv_aload_n hx hb dX2_faceLine_30 rfl (lv_at hl 1 rfl) ?_
    obtain ⟨M13, r14, y15, h⟩ := x_cl h
    refine r_callVi (As := []) (rest := []) cx w hkn hl.1 (k_X2_isSide hG hL0 hK0 y15) (cwV 0 hts gX2_faceLine_X2_isSide rfl rfl rfl (by decide +kernel) ⟨Nat.le_of_ble_eq_true rfl, Nat.le_of_ble_eq_true rfl⟩) hL0 hK0 (by decide) rfl rfl rfl (Nat.le_of_ble_eq_true rfl) dX2_faceLine_31 (fun H locs w => ?_)
    refine lv_if_ne (tgt := 39) hx hb dX2_faceLine_34 (by decide) (fun k16 => ?_) (fun k16 => ?_)
    · have h := x_f h k16
      refine lv_aload_n hx hb dX2_faceLine_39 rfl (lv_at hl 1 rfl) ?_
      obtain ⟨q17, eq17, h⟩ := x_rf h
      obtain ⟨hLq17, hKq17⟩ := wt_q hG hL0 hK0 eq17
      have hKq17 : gK G q17 = 2 := hKq17
      refine r_getR (k := 1) cx w hL0 hK0 (by decide) rfl wi_X2_faceLine_X2 (by decide) rfl eq17 (List.mem_of_getElem? (i := 4) rfl) dX2_faceLine_40 ?_
      refine lv_iload_n hx hb dX2_faceLine_43 rfl (lv_at hl 0 rfl) ?_
      refine lv_aload_n hx hb dX2_faceLine_44 rfl (lv_at hl 1 rfl) ?_
      obtain ⟨M18, r19, y20, h⟩ := x_cl h
      refine r_callVi (As := []) (rest := [.int r11, .ref q17]) cx w hkn hl.1 (k_X2_takeSide hG hL0 hK0 y20) (cwV 0 hts gX2_faceLine_X2_takeSide rfl rfl rfl (by decide +kernel) ⟨Nat.le_of_ble_eq_true rfl, Nat.le_of_ble_eq_true rfl⟩) hL0 hK0 (by decide) rfl rfl rfl (Nat.le_of_ble_eq_true rfl) dX2_faceLine_45 (fun H locs w => ?_)
      obtain ⟨M21, r22, y23, h⟩ := x_cl h
      refine r_callVv (As := [.int r11, .int r19]) (rest := []) cx w hkn hl.1 (k_X3_setOrderNumbers hG hLq17 hKq17 y23) (cwV 2 hts gX2_faceLine_X3_setOrderNumbers rfl rfl rfl (by decide +kernel) ⟨Nat.le_of_ble_eq_true rfl, Nat.le_of_ble_eq_true rfl⟩) hLq17 hKq17 (by decide) rfl rfl rfl (Nat.le_of_ble_eq_true rfl) dX2_faceLine_48 (fun H locs w => ?_)
      refine lv_aload_n hx hb dX2_faceLine_51 rfl (lv_at hl 1 rfl) ?_
      refine lv_sipush (v := (219 : Int32)) hx hb dX2_faceLine_52 (by decide) ?_
      obtain ⟨M24, r25, y26, h⟩ := x_cl h
      refine r_callVi (As := [.int ((219 : Int32))]) (rest := []) cx w hkn hl.1 (k_X2_take hG hL0 hK0 y26) (cwV 1 hts gX2_faceLine_X2_take rfl rfl rfl (by decide +kernel) ⟨Nat.le_of_ble_eq_true rfl, Nat.le_of_ble_eq_true rfl⟩) hL0 hK0 (by decide) rfl rfl rfl (Nat.le_of_ble_eq_true rfl) dX2_faceLine_55 (fun H locs w => ?_)
      refine lv_if_eq (tgt := 73) hx hb dX2_faceLine_58 (by decide) (fun k27 => ?_) (fun k27 => ?_)
      · have h := x_t h k27
        exact b_X2_faceLine_73 cx hkn hL0 hK0 M24 H locs ls h w (lv_sub hl [] rfl)
      · have h := x_f h k27
        refine lv_aload_n hx hb dX2_faceLine_61 rfl (lv_at hl 1 rfl) ?_
        refine lv_iconst (v := (0 : Int32)) hx hb dX2_faceLine_62 (by decide) ?_
        obtain ⟨M28, r29, y30, h⟩ := x_cl h
        refine r_callVi (As := [.int ((0 : Int32))]) (rest := []) cx w hkn hl.1 (k_X2_test hG hL0 hK0 y30) (cwV 1 hts gX2_faceLine_X2_test rfl rfl rfl (by decide +kernel) ⟨Nat.le_of_ble_eq_true rfl, Nat.le_of_ble_eq_true rfl⟩) hL0 hK0 (by decide) rfl rfl rfl (Nat.le_of_ble_eq_true rfl) dX2_faceLine_63 (fun H locs w => ?_)
        refine lv_if_eq (tgt := 73) hx hb dX2_faceLine_66 (by decide) (fun k31 => ?_) (fun k31 => ?_)
        · have h := x_t h k31
          exact b_X2_faceLine_73 cx hkn hL0 hK0 M28 H locs ls h w (lv_sub hl [] rfl)
        · have h := x_f h k31
          refine lv_iconst (v := (1 : Int32)) hx hb dX2_faceLine_69 (by decide) ?_
          refine lv_goto (tgt := 74) hx hb dX2_faceLine_70 (by decide) ?_
          obtain ⟨z32, h⟩ := x_ck h
          exact r_zret cx w z32 h dX2_faceLine_74
    · have h := x_t h k16
      refine lv_iconst (v := (0 : Int32)) hx hb dX2_faceLine_37 (by decide) ?_
      obtain ⟨z33, h⟩ := x_ck h
      exact r_zret cx w z33 h dX2_faceLine_38
  · have h := x_f h k7
    refine lv_iconst (v := (0 : Int32)) hx hb dX2_faceLine_12 (by decide) ?_
    obtain ⟨z34, h⟩ := x_ck h
    exact r_zret cx w z34 h dX2_faceLine_13
-- X2_haltLine
theorem wi_X2_haltLine_X2 : ∀ w ∈ wsX20, w ∈ wsX2_haltLine := by decide +kernel
theorem wi_X2_haltLine_X8 : ∀ w ∈ wsX80, w ∈ wsX2_haltLine := by decide +kernel
abbrev rmX2_haltLine : Room := { frames := 133, cells := 0, slots := 0, locals := 7795 }
def m_X2_haltLine_59 (G : gS) (a0 : Nat)  (M : mS)  : Option (mS × Int32) := o_ck ((0 : Int32) = 0 ∨ (0 : Int32) = 1) (some (M, (0 : Int32)))
def m_X2_haltLine (G : gS) (M : mS) (a0 : Nat) : Option (mS × Int32) := o_cl (m_X2_takeOrderWord G M a0) (fun M1 r2 => o_cl (m_X2_kind G M1 a0) (fun M4 r5 => (if r5 = (2 : Int32) then o_rf (gP G a0 1) (fun q8 => o_rf (gP G a0 4) (fun q9 => o_rf (gP G a0 2) (fun q10 => o_cl (m_X2_knownName G M4 a0 q9 (mI M4 q10 4)) (fun M11 r12 => o_cl (m_X3_setOrderNumbers G M11 q8 r12 (0 : Int32)) (fun M14 r15 => o_cl (m_X2_take G M14 a0 (219 : Int32)) (fun M17 r18 => (if r18 = 0 then m_X2_haltLine_59 G a0 M17 else o_cl (m_X2_test G M17 a0 (0 : Int32)) (fun M21 r22 => (if r22 = 0 then m_X2_haltLine_59 G a0 M21 else o_ck ((1 : Int32) = 0 ∨ (1 : Int32) = 1) (some (M21, (1 : Int32)))))))))))) else o_ck ((0 : Int32) = 0 ∨ (0 : Int32) = 1) (some (M4, (0 : Int32))))))
set_option maxHeartbeats 4000000 in
set_option maxRecDepth 100000 in
theorem b_X2_haltLine_59 {p : Program} {e : Env} {s : State} {m : MethodId} {args : Array Value} {below : List Frame} {meth : Method} {c : Code} {A : Nat → Prop} {l : Launch} {D : va_G} {cy : cyS} {G : gS} (cx : cX p s m args meth c cX2_haltLine RX2 1 (some .boolean) wsX2_haltLine D cy G A) {k0 n0 : Nat} (hkn : k0 ≤ (rmX2_haltLine).cells ∧ n0 ≤ (rmX2_haltLine).slots) {M' : mS} {r : Int32} {a0 : Nat} (hL0 : a0 ∈ gL G) (hK0 : gK G a0 = 1)  : ∀ (M : mS) (H : Heap) (locs : List Loc) (ls : Array Slot), m_X2_haltLine_59 G a0 M = some (M', r) → wd D cy G M A s.heap H locs → lv_has ls 1 [] → W p l e rmX2_haltLine s m args below meth c H locs k0 n0 (MQ below (va_Qi (fun (r' : Int32) (_ : Unit) => r' = r) (fun _ t => wOut D cy G M' t) A) args s k0 n0 A) (F0 m 59 ls []) := by
  obtain ⟨hx, hb, hml, hown, hts, hr, hlocks, hK, hA, hG, hsx⟩ := id cx
  intro M H locs ls h w hl
  unfold m_X2_haltLine_59 at h
  refine lv_iconst (v := (0 : Int32)) hx hb dX2_haltLine_59 (by decide) ?_
  obtain ⟨z1, h⟩ := x_ck h
  exact r_zret cx w z1 h dX2_haltLine_60
set_option maxHeartbeats 4000000 in
set_option maxRecDepth 100000 in
theorem k_X2_haltLine {l : Launch} {D : va_G} {cy : cyS} {G : gS} {M M' : mS} {r : Int32} {a0 : Nat} (hG : wt G) (hL0 : a0 ∈ gL G) (hK0 : gK G a0 = 1) (h : m_X2_haltLine G M a0 = some (M', r)) : ctI l yX2_haltLine wsX2_haltLine rmX2_haltLine D cy G M [.ref a0] M' r := by
  unfold m_X2_haltLine at h
  refine ctI_of (cc := cX2_haltLine) (nL := 1) (ret := (some .boolean)) (lv := [(0, .ref a0)]) hG (by decide) rfl ⟨rfl, rfl⟩ (Nat.le_of_ble_eq_true rfl) rfl ?_
  intro p e s m args below meth c A ls cx w hl
  obtain ⟨hx, hb, hml, hown, hts, hr, hlocks, hK, hA, -, hsx⟩ := id cx
  have hkn : 0 ≤ (rmX2_haltLine).cells ∧ 0 ≤ (rmX2_haltLine).slots := ⟨Nat.zero_le _, Nat.zero_le _⟩
  refine lv_aload_n hx hb dX2_haltLine_0 rfl (lv_at hl 0 rfl) ?_
  obtain ⟨M1, r2, y3, h⟩ := x_cl h
  refine r_callVv (As := []) (rest := []) cx w hkn hl.1 (k_X2_takeOrderWord hG hL0 hK0 y3) (cwV 0 hts gX2_haltLine_X2_takeOrderWord rfl rfl rfl (by decide +kernel) ⟨Nat.le_of_ble_eq_true rfl, Nat.le_of_ble_eq_true rfl⟩) hL0 hK0 (by decide) rfl rfl rfl (Nat.le_of_ble_eq_true rfl) dX2_haltLine_1 (fun H locs w => ?_)
  refine lv_aload_n hx hb dX2_haltLine_4 rfl (lv_at hl 0 rfl) ?_
  obtain ⟨M4, r5, y6, h⟩ := x_cl h
  refine r_callVi (As := []) (rest := []) cx w hkn hl.1 (k_X2_kind hG hL0 hK0 y6) (cwV 0 hts gX2_haltLine_X2_kind rfl rfl rfl (by decide +kernel) ⟨Nat.le_of_ble_eq_true rfl, Nat.le_of_ble_eq_true rfl⟩) hL0 hK0 (by decide) rfl rfl rfl (Nat.le_of_ble_eq_true rfl) dX2_haltLine_5 (fun H locs w => ?_)
  refine lv_iconst (v := (2 : Int32)) hx hb dX2_haltLine_8 (by decide) ?_
  refine lv_icmp_eq (tgt := 14) hx hb dX2_haltLine_9 (by decide) (fun k7 => ?_) (fun k7 => ?_)
  · have h := x_t h k7
    refine lv_aload_n hx hb dX2_haltLine_14 rfl (lv_at hl 0 rfl) ?_
    obtain ⟨q8, eq8, h⟩ := x_rf h
    obtain ⟨hLq8, hKq8⟩ := wt_q hG hL0 hK0 eq8
    have hKq8 : gK G q8 = 2 := hKq8
    refine r_getR (k := 1) cx w hL0 hK0 (by decide) rfl wi_X2_haltLine_X2 (by decide) rfl eq8 (List.mem_of_getElem? (i := 1) rfl) dX2_haltLine_15 ?_
    refine lv_aload_n hx hb dX2_haltLine_18 rfl (lv_at hl 0 rfl) ?_
    refine lv_aload_n hx hb dX2_haltLine_19 rfl (lv_at hl 0 rfl) ?_
    obtain ⟨q9, eq9, h⟩ := x_rf h
    obtain ⟨hLq9, hKq9⟩ := wt_q hG hL0 hK0 eq9
    have hKq9 : gK G q9 = 13 := hKq9
    refine r_getR (k := 4) cx w hL0 hK0 (by decide) rfl wi_X2_haltLine_X2 (by decide) rfl eq9 (List.mem_of_getElem? (i := 2) rfl) dX2_haltLine_20 ?_
    refine lv_aload_n hx hb dX2_haltLine_23 rfl (lv_at hl 0 rfl) ?_
    obtain ⟨q10, eq10, h⟩ := x_rf h
    obtain ⟨hLq10, hKq10⟩ := wt_q hG hL0 hK0 eq10
    have hKq10 : gK G q10 = 7 := hKq10
    refine r_getR (k := 2) cx w hL0 hK0 (by decide) rfl wi_X2_haltLine_X2 (by decide) rfl eq10 (List.mem_of_getElem? (i := 3) rfl) dX2_haltLine_24 ?_
    refine r_getI (k := 4) (v := .int (mI M4 q10 4)) cx w hLq10 hKq10 (by decide) rfl wi_X2_haltLine_X8 (by decide) rfl (List.mem_of_getElem? (i := 4) rfl) dX2_haltLine_27 ?_
    obtain ⟨M11, r12, y13, h⟩ := x_cl h
    refine r_callVi (As := [.ref q9, .int ((mI M4 q10 4))]) (rest := [.ref q8]) cx w hkn hl.1 (k_X2_knownName hG hL0 hK0 hLq9 hKq9 y13) (cwV 2 hts gX2_haltLine_X2_knownName rfl rfl rfl (by decide +kernel) ⟨Nat.le_of_ble_eq_true rfl, Nat.le_of_ble_eq_true rfl⟩) hL0 hK0 (by decide) rfl rfl rfl (Nat.le_of_ble_eq_true rfl) dX2_haltLine_30 (fun H locs w => ?_)
    refine lv_iconst (v := (0 : Int32)) hx hb dX2_haltLine_33 (by decide) ?_
    obtain ⟨M14, r15, y16, h⟩ := x_cl h
    refine r_callVv (As := [.int r12, .int ((0 : Int32))]) (rest := []) cx w hkn hl.1 (k_X3_setOrderNumbers hG hLq8 hKq8 y16) (cwV 2 hts gX2_haltLine_X3_setOrderNumbers rfl rfl rfl (by decide +kernel) ⟨Nat.le_of_ble_eq_true rfl, Nat.le_of_ble_eq_true rfl⟩) hLq8 hKq8 (by decide) rfl rfl rfl (Nat.le_of_ble_eq_true rfl) dX2_haltLine_34 (fun H locs w => ?_)
    refine lv_aload_n hx hb dX2_haltLine_37 rfl (lv_at hl 0 rfl) ?_
    refine lv_sipush (v := (219 : Int32)) hx hb dX2_haltLine_38 (by decide) ?_
    obtain ⟨M17, r18, y19, h⟩ := x_cl h
    refine r_callVi (As := [.int ((219 : Int32))]) (rest := []) cx w hkn hl.1 (k_X2_take hG hL0 hK0 y19) (cwV 1 hts gX2_haltLine_X2_take rfl rfl rfl (by decide +kernel) ⟨Nat.le_of_ble_eq_true rfl, Nat.le_of_ble_eq_true rfl⟩) hL0 hK0 (by decide) rfl rfl rfl (Nat.le_of_ble_eq_true rfl) dX2_haltLine_41 (fun H locs w => ?_)
    refine lv_if_eq (tgt := 59) hx hb dX2_haltLine_44 (by decide) (fun k20 => ?_) (fun k20 => ?_)
    · have h := x_t h k20
      exact b_X2_haltLine_59 cx hkn hL0 hK0 M17 H locs ls h w (lv_sub hl [] rfl)
    · have h := x_f h k20
      refine lv_aload_n hx hb dX2_haltLine_47 rfl (lv_at hl 0 rfl) ?_
      refine lv_iconst (v := (0 : Int32)) hx hb dX2_haltLine_48 (by decide) ?_
      obtain ⟨M21, r22, y23, h⟩ := x_cl h
      refine r_callVi (As := [.int ((0 : Int32))]) (rest := []) cx w hkn hl.1 (k_X2_test hG hL0 hK0 y23) (cwV 1 hts gX2_haltLine_X2_test rfl rfl rfl (by decide +kernel) ⟨Nat.le_of_ble_eq_true rfl, Nat.le_of_ble_eq_true rfl⟩) hL0 hK0 (by decide) rfl rfl rfl (Nat.le_of_ble_eq_true rfl) dX2_haltLine_49 (fun H locs w => ?_)
      refine lv_if_eq (tgt := 59) hx hb dX2_haltLine_52 (by decide) (fun k24 => ?_) (fun k24 => ?_)
      · have h := x_t h k24
        exact b_X2_haltLine_59 cx hkn hL0 hK0 M21 H locs ls h w (lv_sub hl [] rfl)
      · have h := x_f h k24
        refine lv_iconst (v := (1 : Int32)) hx hb dX2_haltLine_55 (by decide) ?_
        refine lv_goto (tgt := 60) hx hb dX2_haltLine_56 (by decide) ?_
        obtain ⟨z25, h⟩ := x_ck h
        exact r_zret cx w z25 h dX2_haltLine_60
  · have h := x_f h k7
    refine lv_iconst (v := (0 : Int32)) hx hb dX2_haltLine_12 (by decide) ?_
    obtain ⟨z26, h⟩ := x_ck h
    exact r_zret cx w z26 h dX2_haltLine_13
-- X2_read
theorem wi_X2_read_X2 : ∀ w ∈ wsX20, w ∈ wsX2_read := by decide +kernel
abbrev rmX2_read : Room := { frames := 134, cells := 0, slots := 0, locals := 7816 }
def m_X2_read_237 (G : gS) (a0 : Nat)  (M : mS)  : Option (mS × Int32) := some (M, (mI M a0 6))
def m_X2_read_223 (G : gS) (a0 : Nat)  (M : mS) (v1 : Int32) : Option (mS × Int32) := (if v1 = 0 then o_wI M a0 6 (0 : Int32) (fun M2 => o_cl (m_X2_complain G M2 a0 (1 : Int32)) (fun M3 r4 => m_X2_read_237 G a0 M3)) else m_X2_read_237 G a0 M)
def m_X2_read_216 (G : gS) (a0 : Nat) (kb35 : mS → Int32 → Int32 → Option (mS × Int32)) (M : mS) (v2 : Int32) (s0 : Int32) : Option (mS × Int32) := o_bd (v2 + 1 : Int32) (fun x1 => kb35 M s0 x1)
def m_X2_read_215 (G : gS) (a0 : Nat) (kb35 : mS → Int32 → Int32 → Option (mS × Int32)) (M : mS) (v2 : Int32) : Option (mS × Int32) := m_X2_read_216 G a0 kb35 M v2 ((0 : Int32))
def m_X2_read_198 (G : gS) (a0 : Nat) (kb35 : mS → Int32 → Int32 → Option (mS × Int32)) (M : mS) (v1 : Int32) (v2 : Int32) : Option (mS × Int32) := (if v1 = 0 then m_X2_read_215 G a0 kb35 M v2 else o_cl (m_X2_take G M a0 (59 : Int32)) (fun M2 r3 => (if r3 = 0 then m_X2_read_215 G a0 kb35 M2 v2 else m_X2_read_216 G a0 kb35 M2 v2 ((1 : Int32)))))
def m_X2_read_35 (G : gS) (a0 : Nat)  : Nat → mS → Int32 → Int32 → Option (mS × Int32)
  | 0, _, _, _ => none
  | n + 1, M, v1, v2 => (if (400 : Int32) ≤ v2 then m_X2_read_223 G a0 M v1 else (if v1 = 0 then m_X2_read_223 G a0 M v1 else o_cl (m_X2_kind G M a0) (fun M3 r4 => (if r4 = 0 then m_X2_read_223 G a0 M3 v1 else o_cl (m_X2_kind G M3 a0) (fun M7 r8 => (if r8 = 200 then o_cl (m_X2_ruleLine G M7 a0) (fun M11 r12 => m_X2_read_198 G a0 (fun M v1 v2 => m_X2_read_35 G a0 n M v1 v2) M11 r12 v2) else if r8 = 201 then m_X2_read_198 G a0 (fun M v1 v2 => m_X2_read_35 G a0 n M v1 v2) M7 ((0 : Int32)) v2 else if r8 = 202 then m_X2_read_198 G a0 (fun M v1 v2 => m_X2_read_35 G a0 n M v1 v2) M7 ((0 : Int32)) v2 else if r8 = 203 then m_X2_read_198 G a0 (fun M v1 v2 => m_X2_read_35 G a0 n M v1 v2) M7 ((0 : Int32)) v2 else if r8 = 204 then m_X2_read_198 G a0 (fun M v1 v2 => m_X2_read_35 G a0 n M v1 v2) M7 ((0 : Int32)) v2 else if r8 = 205 then o_cl (m_X2_antLine G M7 a0) (fun M19 r20 => m_X2_read_198 G a0 (fun M v1 v2 => m_X2_read_35 G a0 n M v1 v2) M19 r20 v2) else if r8 = 206 then m_X2_read_198 G a0 (fun M v1 v2 => m_X2_read_35 G a0 n M v1 v2) M7 ((0 : Int32)) v2 else if r8 = 207 then m_X2_read_198 G a0 (fun M v1 v2 => m_X2_read_35 G a0 n M v1 v2) M7 ((0 : Int32)) v2 else if r8 = 208 then m_X2_read_198 G a0 (fun M v1 v2 => m_X2_read_35 G a0 n M v1 v2) M7 ((0 : Int32)) v2 else if r8 = 209 then m_X2_read_198 G a0 (fun M v1 v2 => m_X2_read_35 G a0 n M v1 v2) M7 ((0 : Int32)) v2 else if r8 = 210 then m_X2_read_198 G a0 (fun M v1 v2 => m_X2_read_35 G a0 n M v1 v2) M7 ((0 : Int32)) v2 else if r8 = 211 then m_X2_read_198 G a0 (fun M v1 v2 => m_X2_read_35 G a0 n M v1 v2) M7 ((0 : Int32)) v2 else if r8 = 212 then m_X2_read_198 G a0 (fun M v1 v2 => m_X2_read_35 G a0 n M v1 v2) M7 ((0 : Int32)) v2 else if r8 = 213 then o_cl (m_X2_paintLine G M7 a0) (fun M30 r31 => m_X2_read_198 G a0 (fun M v1 v2 => m_X2_read_35 G a0 n M v1 v2) M30 r31 v2) else if r8 = 214 then o_cl (m_X2_washLine G M7 a0) (fun M34 r35 => m_X2_read_198 G a0 (fun M v1 v2 => m_X2_read_35 G a0 n M v1 v2) M34 r35 v2) else if r8 = 215 then m_X2_read_198 G a0 (fun M v1 v2 => m_X2_read_35 G a0 n M v1 v2) M7 ((0 : Int32)) v2 else if r8 = 216 then o_cl (m_X2_faceLine G M7 a0) (fun M39 r40 => m_X2_read_198 G a0 (fun M v1 v2 => m_X2_read_35 G a0 n M v1 v2) M39 r40 v2) else if r8 = 217 then o_cl (m_X2_haltLine G M7 a0) (fun M43 r44 => m_X2_read_198 G a0 (fun M v1 v2 => m_X2_read_35 G a0 n M v1 v2) M43 r44 v2) else if r8 = 218 then o_cl (m_X2_haltLine G M7 a0) (fun M47 r48 => m_X2_read_198 G a0 (fun M v1 v2 => m_X2_read_35 G a0 n M v1 v2) M47 r48 v2) else m_X2_read_198 G a0 (fun M v1 v2 => m_X2_read_35 G a0 n M v1 v2) M7 ((0 : Int32)) v2))))))
def m_X2_read (G : gS) (M : mS) (a0 : Nat) : Option (mS × Int32) := o_rf (gP G a0 0) (fun q1 => o_cl (m_X7_scan G M q1) (fun M2 r3 => o_rf (gP G a0 1) (fun q5 => o_cl (m_X3_clear G M2 q5) (fun M6 r7 => o_rf (gP G a0 2) (fun q9 => o_cl (m_X8_clear G M6 q9) (fun M10 r11 => o_wI M10 a0 5 (0 : Int32) (fun M13 => o_wI M13 a0 6 (0 : Int32) (fun M14 => m_X2_read_35 G a0 fu M14 ((1 : Int32)) ((0 : Int32))))))))))
set_option maxHeartbeats 4000000 in
set_option maxRecDepth 100000 in
theorem b_X2_read_237 {p : Program} {e : Env} {s : State} {m : MethodId} {args : Array Value} {below : List Frame} {meth : Method} {c : Code} {A : Nat → Prop} {l : Launch} {D : va_G} {cy : cyS} {G : gS} (cx : cX p s m args meth c cX2_read RX2 3 (some .int) wsX2_read D cy G A) {k0 n0 : Nat} (hkn : k0 ≤ (rmX2_read).cells ∧ n0 ≤ (rmX2_read).slots) {M' : mS} {r : Int32} {a0 : Nat} (hL0 : a0 ∈ gL G) (hK0 : gK G a0 = 1)  : ∀ (M : mS) (H : Heap) (locs : List Loc) (ls : Array Slot), m_X2_read_237 G a0 M = some (M', r) → wd D cy G M A s.heap H locs → lv_has ls 3 [(0, .ref a0)] → W p l e rmX2_read s m args below meth c H locs k0 n0 (MQ below (va_Qi (fun (r' : Int32) (_ : Unit) => r' = r) (fun _ t => wOut D cy G M' t) A) args s k0 n0 A) (F0 m 237 ls []) := by
  obtain ⟨hx, hb, hml, hown, hts, hr, hlocks, hK, hA, hG, hsx⟩ := id cx
  intro M H locs ls h w hl
  unfold m_X2_read_237 at h
  refine lv_aload_n hx hb dX2_read_237 rfl (lv_at hl 0 rfl) ?_
  refine r_getI (k := 6) (v := .int (mI M a0 6)) cx w hL0 hK0 (by decide) rfl wi_X2_read_X2 (by decide) rfl (List.mem_of_getElem? (i := 5) rfl) dX2_read_238 ?_
  exact r_iret cx w h dX2_read_241
set_option maxHeartbeats 4000000 in
set_option maxRecDepth 100000 in
theorem b_X2_read_223 {p : Program} {e : Env} {s : State} {m : MethodId} {args : Array Value} {below : List Frame} {meth : Method} {c : Code} {A : Nat → Prop} {l : Launch} {D : va_G} {cy : cyS} {G : gS} (cx : cX p s m args meth c cX2_read RX2 3 (some .int) wsX2_read D cy G A) {k0 n0 : Nat} (hkn : k0 ≤ (rmX2_read).cells ∧ n0 ≤ (rmX2_read).slots) {M' : mS} {r : Int32} {a0 : Nat} (hL0 : a0 ∈ gL G) (hK0 : gK G a0 = 1)  : ∀ (M : mS) (v1 : Int32) (H : Heap) (locs : List Loc) (ls : Array Slot), m_X2_read_223 G a0 M v1 = some (M', r) → wd D cy G M A s.heap H locs → lv_has ls 3 [(0, .ref a0), (1, .int v1)] → W p l e rmX2_read s m args below meth c H locs k0 n0 (MQ below (va_Qi (fun (r' : Int32) (_ : Unit) => r' = r) (fun _ t => wOut D cy G M' t) A) args s k0 n0 A) (F0 m 223 ls []) := by
  obtain ⟨hx, hb, hml, hown, hts, hr, hlocks, hK, hA, hG, hsx⟩ := id cx
  intro M v1 H locs ls h w hl
  unfold m_X2_read_223 at h
  refine lv_iload_n hx hb dX2_read_223 rfl (lv_at hl 1 rfl) ?_
  refine lv_if_ne (tgt := 237) hx hb dX2_read_224 (by decide) (fun k1 => ?_) (fun k1 => ?_)
  · have h := x_f h k1
    exact b_X2_read_237 cx hkn hL0 hK0 M H locs ls h w (lv_sub hl [0] rfl)
  · have h := x_t h k1
    refine lv_aload_n hx hb dX2_read_227 rfl (lv_at hl 0 rfl) ?_
    refine lv_iconst (v := (0 : Int32)) hx hb dX2_read_228 (by decide) ?_
    obtain ⟨M2, eM2, h⟩ := x_wI h
    refine r_putI (k := 6) (ty := .int) cx w tyX2 tyX2_ok nmX2 hL0 hK0 (by decide) rfl wi_X2_read_X2 (by decide) rfl rfl rfl rfl st_1_6 (ln_1 _ _ (by decide)) (List.mem_of_getElem? (i := 5) rfl) dX2_read_229 eM2 (fun H locs w => ?_)
    refine lv_aload_n hx hb dX2_read_232 rfl (lv_at hl 0 rfl) ?_
    refine lv_iconst (v := (1 : Int32)) hx hb dX2_read_233 (by decide) ?_
    obtain ⟨M3, r4, y5, h⟩ := x_cl h
    refine r_callVv (As := [.int ((1 : Int32))]) (rest := []) cx w hkn hl.1 (k_X2_complain hG hL0 hK0 y5) (cwV 1 hts gX2_read_X2_complain rfl rfl rfl (by decide +kernel) ⟨Nat.le_of_ble_eq_true rfl, Nat.le_of_ble_eq_true rfl⟩) hL0 hK0 (by decide) rfl rfl rfl (Nat.le_of_ble_eq_true rfl) dX2_read_234 (fun H locs w => ?_)
    exact b_X2_read_237 cx hkn hL0 hK0 M3 H locs ls h w (lv_sub hl [0] rfl)
set_option maxHeartbeats 4000000 in
set_option maxRecDepth 100000 in
theorem b_X2_read_216 {p : Program} {e : Env} {s : State} {m : MethodId} {args : Array Value} {below : List Frame} {meth : Method} {c : Code} {A : Nat → Prop} {l : Launch} {D : va_G} {cy : cyS} {G : gS} (cx : cX p s m args meth c cX2_read RX2 3 (some .int) wsX2_read D cy G A) {k0 n0 : Nat} (hkn : k0 ≤ (rmX2_read).cells ∧ n0 ≤ (rmX2_read).slots) {M' : mS} {r : Int32} {a0 : Nat} (hL0 : a0 ∈ gL G) (hK0 : gK G a0 = 1) {kb35 : mS → Int32 → Int32 → Option (mS × Int32)} (hkb35 : ∀ (M : mS) (v1 : Int32) (v2 : Int32) (H : Heap) (locs : List Loc) (ls : Array Slot), kb35 M v1 v2 = some (M', r) → wd D cy G M A s.heap H locs → lv_has ls 3 [(0, .ref a0), (1, .int v1), (2, .int v2)] → W p l e rmX2_read s m args below meth c H locs k0 n0 (MQ below (va_Qi (fun (r' : Int32) (_ : Unit) => r' = r) (fun _ t => wOut D cy G M' t) A) args s k0 n0 A) (F0 m 35 ls [])) : ∀ (M : mS) (v2 : Int32) (s0 : Int32) (H : Heap) (locs : List Loc) (ls : Array Slot), m_X2_read_216 G a0 kb35 M v2 s0 = some (M', r) → wd D cy G M A s.heap H locs → lv_has ls 3 [(0, .ref a0), (2, .int v2)] → W p l e rmX2_read s m args below meth c H locs k0 n0 (MQ below (va_Qi (fun (r' : Int32) (_ : Unit) => r' = r) (fun _ t => wOut D cy G M' t) A) args s k0 n0 A) (F0 m 216 ls [.int s0]) := by
  obtain ⟨hx, hb, hml, hown, hts, hr, hlocks, hK, hA, hG, hsx⟩ := id cx
  intro M v2 s0 H locs ls h w hl
  unfold m_X2_read_216 at h
  refine lv_istore_n (lv' := [(1, .int s0), (0, .ref a0), (2, .int v2)]) hx hb dX2_read_216 rfl hl (by decide) rfl (fun ls hl => ?_)
  obtain ⟨x1, ex1, h⟩ := x_bd h
  refine lv_iinc (v := x1) (lv' := [(2, .int x1), (1, .int s0), (0, .ref a0)]) hx hb dX2_read_217 hl (k := 2) rfl (by rw [ex1]; rfl) (by decide) rfl (fun ls hl => ?_)
  refine lv_goto (tgt := 35) hx hb dX2_read_220 (by decide) ?_
  exact hkb35 M s0 x1 H locs ls h w (lv_sub hl [2, 1, 0] rfl)
set_option maxHeartbeats 4000000 in
set_option maxRecDepth 100000 in
theorem b_X2_read_215 {p : Program} {e : Env} {s : State} {m : MethodId} {args : Array Value} {below : List Frame} {meth : Method} {c : Code} {A : Nat → Prop} {l : Launch} {D : va_G} {cy : cyS} {G : gS} (cx : cX p s m args meth c cX2_read RX2 3 (some .int) wsX2_read D cy G A) {k0 n0 : Nat} (hkn : k0 ≤ (rmX2_read).cells ∧ n0 ≤ (rmX2_read).slots) {M' : mS} {r : Int32} {a0 : Nat} (hL0 : a0 ∈ gL G) (hK0 : gK G a0 = 1) {kb35 : mS → Int32 → Int32 → Option (mS × Int32)} (hkb35 : ∀ (M : mS) (v1 : Int32) (v2 : Int32) (H : Heap) (locs : List Loc) (ls : Array Slot), kb35 M v1 v2 = some (M', r) → wd D cy G M A s.heap H locs → lv_has ls 3 [(0, .ref a0), (1, .int v1), (2, .int v2)] → W p l e rmX2_read s m args below meth c H locs k0 n0 (MQ below (va_Qi (fun (r' : Int32) (_ : Unit) => r' = r) (fun _ t => wOut D cy G M' t) A) args s k0 n0 A) (F0 m 35 ls [])) : ∀ (M : mS) (v2 : Int32) (H : Heap) (locs : List Loc) (ls : Array Slot), m_X2_read_215 G a0 kb35 M v2 = some (M', r) → wd D cy G M A s.heap H locs → lv_has ls 3 [(0, .ref a0), (2, .int v2)] → W p l e rmX2_read s m args below meth c H locs k0 n0 (MQ below (va_Qi (fun (r' : Int32) (_ : Unit) => r' = r) (fun _ t => wOut D cy G M' t) A) args s k0 n0 A) (F0 m 215 ls []) := by
  obtain ⟨hx, hb, hml, hown, hts, hr, hlocks, hK, hA, hG, hsx⟩ := id cx
  intro M v2 H locs ls h w hl
  unfold m_X2_read_215 at h
  refine lv_iconst (v := (0 : Int32)) hx hb dX2_read_215 (by decide) ?_
  exact b_X2_read_216 cx hkn hL0 hK0 (hkb35 := hkb35) M v2 ((0 : Int32)) H locs ls h w (lv_sub hl [0, 1] rfl)
set_option maxHeartbeats 4000000 in
set_option maxRecDepth 100000 in
theorem b_X2_read_198 {p : Program} {e : Env} {s : State} {m : MethodId} {args : Array Value} {below : List Frame} {meth : Method} {c : Code} {A : Nat → Prop} {l : Launch} {D : va_G} {cy : cyS} {G : gS} (cx : cX p s m args meth c cX2_read RX2 3 (some .int) wsX2_read D cy G A) {k0 n0 : Nat} (hkn : k0 ≤ (rmX2_read).cells ∧ n0 ≤ (rmX2_read).slots) {M' : mS} {r : Int32} {a0 : Nat} (hL0 : a0 ∈ gL G) (hK0 : gK G a0 = 1) {kb35 : mS → Int32 → Int32 → Option (mS × Int32)} (hkb35 : ∀ (M : mS) (v1 : Int32) (v2 : Int32) (H : Heap) (locs : List Loc) (ls : Array Slot), kb35 M v1 v2 = some (M', r) → wd D cy G M A s.heap H locs → lv_has ls 3 [(0, .ref a0), (1, .int v1), (2, .int v2)] → W p l e rmX2_read s m args below meth c H locs k0 n0 (MQ below (va_Qi (fun (r' : Int32) (_ : Unit) => r' = r) (fun _ t => wOut D cy G M' t) A) args s k0 n0 A) (F0 m 35 ls [])) : ∀ (M : mS) (v1 : Int32) (v2 : Int32) (H : Heap) (locs : List Loc) (ls : Array Slot), m_X2_read_198 G a0 kb35 M v1 v2 = some (M', r) → wd D cy G M A s.heap H locs → lv_has ls 3 [(0, .ref a0), (1, .int v1), (2, .int v2)] → W p l e rmX2_read s m args below meth c H locs k0 n0 (MQ below (va_Qi (fun (r' : Int32) (_ : Unit) => r' = r) (fun _ t => wOut D cy G M' t) A) args s k0 n0 A) (F0 m 198 ls []) := by
  obtain ⟨hx, hb, hml, hown, hts, hr, hlocks, hK, hA, hG, hsx⟩ := id cx
  intro M v1 v2 H locs ls h w hl
  unfold m_X2_read_198 at h
  refine lv_iload_n hx hb dX2_read_198 rfl (lv_at hl 1 rfl) ?_
  refine lv_if_eq (tgt := 215) hx hb dX2_read_199 (by decide) (fun k1 => ?_) (fun k1 => ?_)
  · have h := x_t h k1
    exact b_X2_read_215 cx hkn hL0 hK0 (hkb35 := hkb35) M v2 H locs ls h w (lv_sub hl [0, 2] rfl)
  · have h := x_f h k1
    refine lv_aload_n hx hb dX2_read_202 rfl (lv_at hl 0 rfl) ?_
    refine lv_bipush (v := (59 : Int32)) hx hb dX2_read_203 (by decide) ?_
    obtain ⟨M2, r3, y4, h⟩ := x_cl h
    refine r_callVi (As := [.int ((59 : Int32))]) (rest := []) cx w hkn hl.1 (k_X2_take hG hL0 hK0 y4) (cwV 1 hts gX2_read_X2_take rfl rfl rfl (by decide +kernel) ⟨Nat.le_of_ble_eq_true rfl, Nat.le_of_ble_eq_true rfl⟩) hL0 hK0 (by decide) rfl rfl rfl (Nat.le_of_ble_eq_true rfl) dX2_read_205 (fun H locs w => ?_)
    refine lv_if_eq (tgt := 215) hx hb dX2_read_208 (by decide) (fun k5 => ?_) (fun k5 => ?_)
    · have h := x_t h k5
      exact b_X2_read_215 cx hkn hL0 hK0 (hkb35 := hkb35) M2 v2 H locs ls h w (lv_sub hl [0, 2] rfl)
    · have h := x_f h k5
      refine lv_iconst (v := (1 : Int32)) hx hb dX2_read_211 (by decide) ?_
      refine lv_goto (tgt := 216) hx hb dX2_read_212 (by decide) ?_
      exact b_X2_read_216 cx hkn hL0 hK0 (hkb35 := hkb35) M2 v2 ((1 : Int32)) H locs ls h w (lv_sub hl [0, 2] rfl)
set_option maxHeartbeats 4000000 in
set_option maxRecDepth 100000 in
theorem b_X2_read_35 {p : Program} {e : Env} {s : State} {m : MethodId} {args : Array Value} {below : List Frame} {meth : Method} {c : Code} {A : Nat → Prop} {l : Launch} {D : va_G} {cy : cyS} {G : gS} (cx : cX p s m args meth c cX2_read RX2 3 (some .int) wsX2_read D cy G A) {k0 n0 : Nat} (hkn : k0 ≤ (rmX2_read).cells ∧ n0 ≤ (rmX2_read).slots) {M' : mS} {r : Int32} {a0 : Nat} (hL0 : a0 ∈ gL G) (hK0 : gK G a0 = 1)  : ∀ (n : Nat), ∀ (M : mS) (v1 : Int32) (v2 : Int32) (H : Heap) (locs : List Loc) (ls : Array Slot), m_X2_read_35 G a0 n M v1 v2 = some (M', r) → wd D cy G M A s.heap H locs → lv_has ls 3 [(0, .ref a0), (1, .int v1), (2, .int v2)] → W p l e rmX2_read s m args below meth c H locs k0 n0 (MQ below (va_Qi (fun (r' : Int32) (_ : Unit) => r' = r) (fun _ t => wOut D cy G M' t) A) args s k0 n0 A) (F0 m 35 ls []) := by
  obtain ⟨hx, hb, hml, hown, hts, hr, hlocks, hK, hA, hG, hsx⟩ := id cx
  intro n
  induction n with
  | zero =>
    intro M v1 v2 H locs ls h w hl
    have h : none = some _ := h
    cases h
  | succ n ih =>
    intro M v1 v2 H locs ls h w hl
    rw [m_X2_read_35] at h
    refine lv_iload_n hx hb dX2_read_35 rfl (lv_at hl 2 rfl) ?_
    refine lv_sipush (v := (400 : Int32)) hx hb dX2_read_36 (by decide) ?_
    refine lv_icmp_ge (tgt := 223) hx hb dX2_read_39 (by decide) (fun k1 => ?_) (fun k1 => ?_)
    · have h := x_t h k1
      exact b_X2_read_223 cx hkn hL0 hK0 M v1 H locs ls h w (lv_sub hl [0, 1] rfl)
    · have h := x_f h k1
      refine lv_iload_n hx hb dX2_read_42 rfl (lv_at hl 1 rfl) ?_
      refine lv_if_eq (tgt := 223) hx hb dX2_read_43 (by decide) (fun k2 => ?_) (fun k2 => ?_)
      · have h := x_t h k2
        exact b_X2_read_223 cx hkn hL0 hK0 M v1 H locs ls h w (lv_sub hl [0, 1] rfl)
      · have h := x_f h k2
        refine lv_aload_n hx hb dX2_read_46 rfl (lv_at hl 0 rfl) ?_
        obtain ⟨M3, r4, y5, h⟩ := x_cl h
        refine r_callVi (As := []) (rest := []) cx w hkn hl.1 (k_X2_kind hG hL0 hK0 y5) (cwV 0 hts gX2_read_X2_kind rfl rfl rfl (by decide +kernel) ⟨Nat.le_of_ble_eq_true rfl, Nat.le_of_ble_eq_true rfl⟩) hL0 hK0 (by decide) rfl rfl rfl (Nat.le_of_ble_eq_true rfl) dX2_read_47 (fun H locs w => ?_)
        refine lv_if_eq (tgt := 223) hx hb dX2_read_50 (by decide) (fun k6 => ?_) (fun k6 => ?_)
        · have h := x_t h k6
          exact b_X2_read_223 cx hkn hL0 hK0 M3 v1 H locs ls h w (lv_sub hl [0, 1] rfl)
        · have h := x_f h k6
          refine lv_aload_n hx hb dX2_read_53 rfl (lv_at hl 0 rfl) ?_
          obtain ⟨M7, r8, y9, h⟩ := x_cl h
          refine r_callVi (As := []) (rest := []) cx w hkn hl.1 (k_X2_kind hG hL0 hK0 y9) (cwV 0 hts gX2_read_X2_kind rfl rfl rfl (by decide +kernel) ⟨Nat.le_of_ble_eq_true rfl, Nat.le_of_ble_eq_true rfl⟩) hL0 hK0 (by decide) rfl rfl rfl (Nat.le_of_ble_eq_true rfl) dX2_read_54 (fun H locs w => ?_)
          rcases Decidable.em (r8 = 200) with k10 | k10
          · have h := x_t h k10
            rw [k10]
            refine lv_tableIn (tgt := 148) hx hb dX2_read_57 (by decide) (by decide) rfl (by decide) ?_
            refine lv_aload_n hx hb dX2_read_148 rfl (lv_at hl 0 rfl) ?_
            obtain ⟨M11, r12, y13, h⟩ := x_cl h
            refine r_callVi (As := []) (rest := []) cx w hkn hl.1 (k_X2_ruleLine hG hL0 hK0 y13) (cwV 0 hts gX2_read_X2_ruleLine rfl rfl rfl (by decide +kernel) ⟨Nat.le_of_ble_eq_true rfl, Nat.le_of_ble_eq_true rfl⟩) hL0 hK0 (by decide) rfl rfl rfl (Nat.le_of_ble_eq_true rfl) dX2_read_149 (fun H locs w => ?_)
            refine lv_istore_n (lv' := [(1, .int r12), (0, .ref a0), (2, .int v2)]) hx hb dX2_read_152 rfl hl (by decide) rfl (fun ls hl => ?_)
            refine lv_goto (tgt := 198) hx hb dX2_read_153 (by decide) ?_
            exact b_X2_read_198 cx hkn hL0 hK0 (hkb35 := ih) M11 r12 v2 H locs ls h w (lv_sub hl [1, 0, 2] rfl)
          · have h := x_f h k10
            rcases Decidable.em (r8 = 201) with k14 | k14
            · have h := x_t h k14
              rw [k14]
              refine lv_tableIn (tgt := 196) hx hb dX2_read_57 (by decide) (by decide) rfl (by decide) ?_
              refine lv_iconst (v := (0 : Int32)) hx hb dX2_read_196 (by decide) ?_
              refine lv_istore_n (lv' := [(1, .int ((0 : Int32))), (0, .ref a0), (2, .int v2)]) hx hb dX2_read_197 rfl hl (by decide) rfl (fun ls hl => ?_)
              exact b_X2_read_198 cx hkn hL0 hK0 (hkb35 := ih) M7 ((0 : Int32)) v2 H locs ls h w (lv_sub hl [1, 0, 2] rfl)
            · have h := x_f h k14
              rcases Decidable.em (r8 = 202) with k15 | k15
              · have h := x_t h k15
                rw [k15]
                refine lv_tableIn (tgt := 196) hx hb dX2_read_57 (by decide) (by decide) rfl (by decide) ?_
                refine lv_iconst (v := (0 : Int32)) hx hb dX2_read_196 (by decide) ?_
                refine lv_istore_n (lv' := [(1, .int ((0 : Int32))), (0, .ref a0), (2, .int v2)]) hx hb dX2_read_197 rfl hl (by decide) rfl (fun ls hl => ?_)
                exact b_X2_read_198 cx hkn hL0 hK0 (hkb35 := ih) M7 ((0 : Int32)) v2 H locs ls h w (lv_sub hl [1, 0, 2] rfl)
              · have h := x_f h k15
                rcases Decidable.em (r8 = 203) with k16 | k16
                · have h := x_t h k16
                  rw [k16]
                  refine lv_tableIn (tgt := 196) hx hb dX2_read_57 (by decide) (by decide) rfl (by decide) ?_
                  refine lv_iconst (v := (0 : Int32)) hx hb dX2_read_196 (by decide) ?_
                  refine lv_istore_n (lv' := [(1, .int ((0 : Int32))), (0, .ref a0), (2, .int v2)]) hx hb dX2_read_197 rfl hl (by decide) rfl (fun ls hl => ?_)
                  exact b_X2_read_198 cx hkn hL0 hK0 (hkb35 := ih) M7 ((0 : Int32)) v2 H locs ls h w (lv_sub hl [1, 0, 2] rfl)
                · have h := x_f h k16
                  rcases Decidable.em (r8 = 204) with k17 | k17
                  · have h := x_t h k17
                    rw [k17]
                    refine lv_tableIn (tgt := 196) hx hb dX2_read_57 (by decide) (by decide) rfl (by decide) ?_
                    refine lv_iconst (v := (0 : Int32)) hx hb dX2_read_196 (by decide) ?_
                    refine lv_istore_n (lv' := [(1, .int ((0 : Int32))), (0, .ref a0), (2, .int v2)]) hx hb dX2_read_197 rfl hl (by decide) rfl (fun ls hl => ?_)
                    exact b_X2_read_198 cx hkn hL0 hK0 (hkb35 := ih) M7 ((0 : Int32)) v2 H locs ls h w (lv_sub hl [1, 0, 2] rfl)
                  · have h := x_f h k17
                    rcases Decidable.em (r8 = 205) with k18 | k18
                    · have h := x_t h k18
                      rw [k18]
                      refine lv_tableIn (tgt := 156) hx hb dX2_read_57 (by decide) (by decide) rfl (by decide) ?_
                      refine lv_aload_n hx hb dX2_read_156 rfl (lv_at hl 0 rfl) ?_
                      obtain ⟨M19, r20, y21, h⟩ := x_cl h
                      refine r_callVi (As := []) (rest := []) cx w hkn hl.1 (k_X2_antLine hG hL0 hK0 y21) (cwV 0 hts gX2_read_X2_antLine rfl rfl rfl (by decide +kernel) ⟨Nat.le_of_ble_eq_true rfl, Nat.le_of_ble_eq_true rfl⟩) hL0 hK0 (by decide) rfl rfl rfl (Nat.le_of_ble_eq_true rfl) dX2_read_157 (fun H locs w => ?_)
                      refine lv_istore_n (lv' := [(1, .int r20), (0, .ref a0), (2, .int v2)]) hx hb dX2_read_160 rfl hl (by decide) rfl (fun ls hl => ?_)
                      refine lv_goto (tgt := 198) hx hb dX2_read_161 (by decide) ?_
                      exact b_X2_read_198 cx hkn hL0 hK0 (hkb35 := ih) M19 r20 v2 H locs ls h w (lv_sub hl [1, 0, 2] rfl)
                    · have h := x_f h k18
                      rcases Decidable.em (r8 = 206) with k22 | k22
                      · have h := x_t h k22
                        rw [k22]
                        refine lv_tableIn (tgt := 196) hx hb dX2_read_57 (by decide) (by decide) rfl (by decide) ?_
                        refine lv_iconst (v := (0 : Int32)) hx hb dX2_read_196 (by decide) ?_
                        refine lv_istore_n (lv' := [(1, .int ((0 : Int32))), (0, .ref a0), (2, .int v2)]) hx hb dX2_read_197 rfl hl (by decide) rfl (fun ls hl => ?_)
                        exact b_X2_read_198 cx hkn hL0 hK0 (hkb35 := ih) M7 ((0 : Int32)) v2 H locs ls h w (lv_sub hl [1, 0, 2] rfl)
                      · have h := x_f h k22
                        rcases Decidable.em (r8 = 207) with k23 | k23
                        · have h := x_t h k23
                          rw [k23]
                          refine lv_tableIn (tgt := 196) hx hb dX2_read_57 (by decide) (by decide) rfl (by decide) ?_
                          refine lv_iconst (v := (0 : Int32)) hx hb dX2_read_196 (by decide) ?_
                          refine lv_istore_n (lv' := [(1, .int ((0 : Int32))), (0, .ref a0), (2, .int v2)]) hx hb dX2_read_197 rfl hl (by decide) rfl (fun ls hl => ?_)
                          exact b_X2_read_198 cx hkn hL0 hK0 (hkb35 := ih) M7 ((0 : Int32)) v2 H locs ls h w (lv_sub hl [1, 0, 2] rfl)
                        · have h := x_f h k23
                          rcases Decidable.em (r8 = 208) with k24 | k24
                          · have h := x_t h k24
                            rw [k24]
                            refine lv_tableIn (tgt := 196) hx hb dX2_read_57 (by decide) (by decide) rfl (by decide) ?_
                            refine lv_iconst (v := (0 : Int32)) hx hb dX2_read_196 (by decide) ?_
                            refine lv_istore_n (lv' := [(1, .int ((0 : Int32))), (0, .ref a0), (2, .int v2)]) hx hb dX2_read_197 rfl hl (by decide) rfl (fun ls hl => ?_)
                            exact b_X2_read_198 cx hkn hL0 hK0 (hkb35 := ih) M7 ((0 : Int32)) v2 H locs ls h w (lv_sub hl [1, 0, 2] rfl)
                          · have h := x_f h k24
                            rcases Decidable.em (r8 = 209) with k25 | k25
                            · have h := x_t h k25
                              rw [k25]
                              refine lv_tableIn (tgt := 196) hx hb dX2_read_57 (by decide) (by decide) rfl (by decide) ?_
                              refine lv_iconst (v := (0 : Int32)) hx hb dX2_read_196 (by decide) ?_
                              refine lv_istore_n (lv' := [(1, .int ((0 : Int32))), (0, .ref a0), (2, .int v2)]) hx hb dX2_read_197 rfl hl (by decide) rfl (fun ls hl => ?_)
                              exact b_X2_read_198 cx hkn hL0 hK0 (hkb35 := ih) M7 ((0 : Int32)) v2 H locs ls h w (lv_sub hl [1, 0, 2] rfl)
                            · have h := x_f h k25
                              rcases Decidable.em (r8 = 210) with k26 | k26
                              · have h := x_t h k26
                                rw [k26]
                                refine lv_tableIn (tgt := 196) hx hb dX2_read_57 (by decide) (by decide) rfl (by decide) ?_
                                refine lv_iconst (v := (0 : Int32)) hx hb dX2_read_196 (by decide) ?_
                                refine lv_istore_n (lv' := [(1, .int ((0 : Int32))), (0, .ref a0), (2, .int v2)]) hx hb dX2_read_197 rfl hl (by decide) rfl (fun ls hl => ?_)
                                exact b_X2_read_198 cx hkn hL0 hK0 (hkb35 := ih) M7 ((0 : Int32)) v2 H locs ls h w (lv_sub hl [1, 0, 2] rfl)
                              · have h := x_f h k26
                                rcases Decidable.em (r8 = 211) with k27 | k27
                                · have h := x_t h k27
                                  rw [k27]
                                  refine lv_tableIn (tgt := 196) hx hb dX2_read_57 (by decide) (by decide) rfl (by decide) ?_
                                  refine lv_iconst (v := (0 : Int32)) hx hb dX2_read_196 (by decide) ?_
                                  refine lv_istore_n (lv' := [(1, .int ((0 : Int32))), (0, .ref a0), (2, .int v2)]) hx hb dX2_read_197 rfl hl (by decide) rfl (fun ls hl => ?_)
                                  exact b_X2_read_198 cx hkn hL0 hK0 (hkb35 := ih) M7 ((0 : Int32)) v2 H locs ls h w (lv_sub hl [1, 0, 2] rfl)
                                · have h := x_f h k27
                                  rcases Decidable.em (r8 = 212) with k28 | k28
                                  · have h := x_t h k28
                                    rw [k28]
                                    refine lv_tableIn (tgt := 196) hx hb dX2_read_57 (by decide) (by decide) rfl (by decide) ?_
                                    refine lv_iconst (v := (0 : Int32)) hx hb dX2_read_196 (by decide) ?_
                                    refine lv_istore_n (lv' := [(1, .int ((0 : Int32))), (0, .ref a0), (2, .int v2)]) hx hb dX2_read_197 rfl hl (by decide) rfl (fun ls hl => ?_)
                                    exact b_X2_read_198 cx hkn hL0 hK0 (hkb35 := ih) M7 ((0 : Int32)) v2 H locs ls h w (lv_sub hl [1, 0, 2] rfl)
                                  · have h := x_f h k28
                                    rcases Decidable.em (r8 = 213) with k29 | k29
                                    · have h := x_t h k29
                                      rw [k29]
                                      refine lv_tableIn (tgt := 164) hx hb dX2_read_57 (by decide) (by decide) rfl (by decide) ?_
                                      refine lv_aload_n hx hb dX2_read_164 rfl (lv_at hl 0 rfl) ?_
                                      obtain ⟨M30, r31, y32, h⟩ := x_cl h
                                      refine r_callVi (As := []) (rest := []) cx w hkn hl.1 (k_X2_paintLine hG hL0 hK0 y32) (cwV 0 hts gX2_read_X2_paintLine rfl rfl rfl (by decide +kernel) ⟨Nat.le_of_ble_eq_true rfl, Nat.le_of_ble_eq_true rfl⟩) hL0 hK0 (by decide) rfl rfl rfl (Nat.le_of_ble_eq_true rfl) dX2_read_165 (fun H locs w => ?_)
                                      refine lv_istore_n (lv' := [(1, .int r31), (0, .ref a0), (2, .int v2)]) hx hb dX2_read_168 rfl hl (by decide) rfl (fun ls hl => ?_)
                                      refine lv_goto (tgt := 198) hx hb dX2_read_169 (by decide) ?_
                                      exact b_X2_read_198 cx hkn hL0 hK0 (hkb35 := ih) M30 r31 v2 H locs ls h w (lv_sub hl [1, 0, 2] rfl)
                                    · have h := x_f h k29
                                      rcases Decidable.em (r8 = 214) with k33 | k33
                                      · have h := x_t h k33
                                        rw [k33]
                                        refine lv_tableIn (tgt := 172) hx hb dX2_read_57 (by decide) (by decide) rfl (by decide) ?_
                                        refine lv_aload_n hx hb dX2_read_172 rfl (lv_at hl 0 rfl) ?_
                                        obtain ⟨M34, r35, y36, h⟩ := x_cl h
                                        refine r_callVi (As := []) (rest := []) cx w hkn hl.1 (k_X2_washLine hG hL0 hK0 y36) (cwV 0 hts gX2_read_X2_washLine rfl rfl rfl (by decide +kernel) ⟨Nat.le_of_ble_eq_true rfl, Nat.le_of_ble_eq_true rfl⟩) hL0 hK0 (by decide) rfl rfl rfl (Nat.le_of_ble_eq_true rfl) dX2_read_173 (fun H locs w => ?_)
                                        refine lv_istore_n (lv' := [(1, .int r35), (0, .ref a0), (2, .int v2)]) hx hb dX2_read_176 rfl hl (by decide) rfl (fun ls hl => ?_)
                                        refine lv_goto (tgt := 198) hx hb dX2_read_177 (by decide) ?_
                                        exact b_X2_read_198 cx hkn hL0 hK0 (hkb35 := ih) M34 r35 v2 H locs ls h w (lv_sub hl [1, 0, 2] rfl)
                                      · have h := x_f h k33
                                        rcases Decidable.em (r8 = 215) with k37 | k37
                                        · have h := x_t h k37
                                          rw [k37]
                                          refine lv_tableIn (tgt := 196) hx hb dX2_read_57 (by decide) (by decide) rfl (by decide) ?_
                                          refine lv_iconst (v := (0 : Int32)) hx hb dX2_read_196 (by decide) ?_
                                          refine lv_istore_n (lv' := [(1, .int ((0 : Int32))), (0, .ref a0), (2, .int v2)]) hx hb dX2_read_197 rfl hl (by decide) rfl (fun ls hl => ?_)
                                          exact b_X2_read_198 cx hkn hL0 hK0 (hkb35 := ih) M7 ((0 : Int32)) v2 H locs ls h w (lv_sub hl [1, 0, 2] rfl)
                                        · have h := x_f h k37
                                          rcases Decidable.em (r8 = 216) with k38 | k38
                                          · have h := x_t h k38
                                            rw [k38]
                                            refine lv_tableIn (tgt := 180) hx hb dX2_read_57 (by decide) (by decide) rfl (by decide) ?_
                                            refine lv_aload_n hx hb dX2_read_180 rfl (lv_at hl 0 rfl) ?_
                                            obtain ⟨M39, r40, y41, h⟩ := x_cl h
                                            refine r_callVi (As := []) (rest := []) cx w hkn hl.1 (k_X2_faceLine hG hL0 hK0 y41) (cwV 0 hts gX2_read_X2_faceLine rfl rfl rfl (by decide +kernel) ⟨Nat.le_of_ble_eq_true rfl, Nat.le_of_ble_eq_true rfl⟩) hL0 hK0 (by decide) rfl rfl rfl (Nat.le_of_ble_eq_true rfl) dX2_read_181 (fun H locs w => ?_)
                                            refine lv_istore_n (lv' := [(1, .int r40), (0, .ref a0), (2, .int v2)]) hx hb dX2_read_184 rfl hl (by decide) rfl (fun ls hl => ?_)
                                            refine lv_goto (tgt := 198) hx hb dX2_read_185 (by decide) ?_
                                            exact b_X2_read_198 cx hkn hL0 hK0 (hkb35 := ih) M39 r40 v2 H locs ls h w (lv_sub hl [1, 0, 2] rfl)
                                          · have h := x_f h k38
                                            rcases Decidable.em (r8 = 217) with k42 | k42
                                            · have h := x_t h k42
                                              rw [k42]
                                              refine lv_tableIn (tgt := 188) hx hb dX2_read_57 (by decide) (by decide) rfl (by decide) ?_
                                              refine lv_aload_n hx hb dX2_read_188 rfl (lv_at hl 0 rfl) ?_
                                              obtain ⟨M43, r44, y45, h⟩ := x_cl h
                                              refine r_callVi (As := []) (rest := []) cx w hkn hl.1 (k_X2_haltLine hG hL0 hK0 y45) (cwV 0 hts gX2_read_X2_haltLine rfl rfl rfl (by decide +kernel) ⟨Nat.le_of_ble_eq_true rfl, Nat.le_of_ble_eq_true rfl⟩) hL0 hK0 (by decide) rfl rfl rfl (Nat.le_of_ble_eq_true rfl) dX2_read_189 (fun H locs w => ?_)
                                              refine lv_istore_n (lv' := [(1, .int r44), (0, .ref a0), (2, .int v2)]) hx hb dX2_read_192 rfl hl (by decide) rfl (fun ls hl => ?_)
                                              refine lv_goto (tgt := 198) hx hb dX2_read_193 (by decide) ?_
                                              exact b_X2_read_198 cx hkn hL0 hK0 (hkb35 := ih) M43 r44 v2 H locs ls h w (lv_sub hl [1, 0, 2] rfl)
                                            · have h := x_f h k42
                                              rcases Decidable.em (r8 = 218) with k46 | k46
                                              · have h := x_t h k46
                                                rw [k46]
                                                refine lv_tableIn (tgt := 188) hx hb dX2_read_57 (by decide) (by decide) rfl (by decide) ?_
                                                refine lv_aload_n hx hb dX2_read_188 rfl (lv_at hl 0 rfl) ?_
                                                obtain ⟨M47, r48, y49, h⟩ := x_cl h
                                                refine r_callVi (As := []) (rest := []) cx w hkn hl.1 (k_X2_haltLine hG hL0 hK0 y49) (cwV 0 hts gX2_read_X2_haltLine rfl rfl rfl (by decide +kernel) ⟨Nat.le_of_ble_eq_true rfl, Nat.le_of_ble_eq_true rfl⟩) hL0 hK0 (by decide) rfl rfl rfl (Nat.le_of_ble_eq_true rfl) dX2_read_189 (fun H locs w => ?_)
                                                refine lv_istore_n (lv' := [(1, .int r48), (0, .ref a0), (2, .int v2)]) hx hb dX2_read_192 rfl hl (by decide) rfl (fun ls hl => ?_)
                                                refine lv_goto (tgt := 198) hx hb dX2_read_193 (by decide) ?_
                                                exact b_X2_read_198 cx hkn hL0 hK0 (hkb35 := ih) M47 r48 v2 H locs ls h w (lv_sub hl [1, 0, 2] rfl)
                                              · have h := x_f h k46
                                                refine lv_tableOut (tgt := 196) hx hb dX2_read_57 (by have nk10 : Int32.toInt r8 ≠ 200 := fun hh => k10 (Int32.toInt_inj.mp hh); have nk14 : Int32.toInt r8 ≠ 201 := fun hh => k14 (Int32.toInt_inj.mp hh); have nk15 : Int32.toInt r8 ≠ 202 := fun hh => k15 (Int32.toInt_inj.mp hh); have nk16 : Int32.toInt r8 ≠ 203 := fun hh => k16 (Int32.toInt_inj.mp hh); have nk17 : Int32.toInt r8 ≠ 204 := fun hh => k17 (Int32.toInt_inj.mp hh); have nk18 : Int32.toInt r8 ≠ 205 := fun hh => k18 (Int32.toInt_inj.mp hh); have nk22 : Int32.toInt r8 ≠ 206 := fun hh => k22 (Int32.toInt_inj.mp hh); have nk23 : Int32.toInt r8 ≠ 207 := fun hh => k23 (Int32.toInt_inj.mp hh); have nk24 : Int32.toInt r8 ≠ 208 := fun hh => k24 (Int32.toInt_inj.mp hh); have nk25 : Int32.toInt r8 ≠ 209 := fun hh => k25 (Int32.toInt_inj.mp hh); have nk26 : Int32.toInt r8 ≠ 210 := fun hh => k26 (Int32.toInt_inj.mp hh); have nk27 : Int32.toInt r8 ≠ 211 := fun hh => k27 (Int32.toInt_inj.mp hh); have nk28 : Int32.toInt r8 ≠ 212 := fun hh => k28 (Int32.toInt_inj.mp hh); have nk29 : Int32.toInt r8 ≠ 213 := fun hh => k29 (Int32.toInt_inj.mp hh); have nk33 : Int32.toInt r8 ≠ 214 := fun hh => k33 (Int32.toInt_inj.mp hh); have nk37 : Int32.toInt r8 ≠ 215 := fun hh => k37 (Int32.toInt_inj.mp hh); have nk38 : Int32.toInt r8 ≠ 216 := fun hh => k38 (Int32.toInt_inj.mp hh); have nk42 : Int32.toInt r8 ≠ 217 := fun hh => k42 (Int32.toInt_inj.mp hh); have nk46 : Int32.toInt r8 ≠ 218 := fun hh => k46 (Int32.toInt_inj.mp hh); omega) (by decide) ?_
                                                refine lv_iconst (v := (0 : Int32)) hx hb dX2_read_196 (by decide) ?_
                                                refine lv_istore_n (lv' := [(1, .int ((0 : Int32))), (0, .ref a0), (2, .int v2)]) hx hb dX2_read_197 rfl hl (by decide) rfl (fun ls hl => ?_)
                                                exact b_X2_read_198 cx hkn hL0 hK0 (hkb35 := ih) M7 ((0 : Int32)) v2 H locs ls h w (lv_sub hl [1, 0, 2] rfl)
set_option maxHeartbeats 4000000 in
set_option maxRecDepth 100000 in
theorem k_X2_read {l : Launch} {D : va_G} {cy : cyS} {G : gS} {M M' : mS} {r : Int32} {a0 : Nat} (hG : wt G) (hL0 : a0 ∈ gL G) (hK0 : gK G a0 = 1) (h : m_X2_read G M a0 = some (M', r)) : ctI l yX2_read wsX2_read rmX2_read D cy G M [.ref a0] M' r := by
  unfold m_X2_read at h
  refine ctI_of (cc := cX2_read) (nL := 3) (ret := (some .int)) (lv := [(0, .ref a0)]) hG (by decide) rfl ⟨rfl, rfl⟩ (Nat.le_of_ble_eq_true rfl) rfl ?_
  intro p e s m args below meth c A ls cx w hl
  obtain ⟨hx, hb, hml, hown, hts, hr, hlocks, hK, hA, -, hsx⟩ := id cx
  have hkn : 0 ≤ (rmX2_read).cells ∧ 0 ≤ (rmX2_read).slots := ⟨Nat.zero_le _, Nat.zero_le _⟩
  refine lv_aload_n hx hb dX2_read_0 rfl (lv_at hl 0 rfl) ?_
  obtain ⟨q1, eq1, h⟩ := x_rf h
  obtain ⟨hLq1, hKq1⟩ := wt_q hG hL0 hK0 eq1
  have hKq1 : gK G q1 = 6 := hKq1
  refine r_getR (k := 0) cx w hL0 hK0 (by decide) rfl wi_X2_read_X2 (by decide) rfl eq1 (List.mem_of_getElem? (i := 1) rfl) dX2_read_1 ?_
  obtain ⟨M2, r3, y4, h⟩ := x_cl h
  refine r_callVv (As := []) (rest := []) cx w hkn hl.1 (k_X7_scan hG hLq1 hKq1 y4) (cwV 0 hts gX2_read_X7_scan rfl rfl rfl (by decide +kernel) ⟨Nat.le_of_ble_eq_true rfl, Nat.le_of_ble_eq_true rfl⟩) hLq1 hKq1 (by decide) rfl rfl rfl (Nat.le_of_ble_eq_true rfl) dX2_read_4 (fun H locs w => ?_)
  refine lv_aload_n hx hb dX2_read_7 rfl (lv_at hl 0 rfl) ?_
  obtain ⟨q5, eq5, h⟩ := x_rf h
  obtain ⟨hLq5, hKq5⟩ := wt_q hG hL0 hK0 eq5
  have hKq5 : gK G q5 = 2 := hKq5
  refine r_getR (k := 1) cx w hL0 hK0 (by decide) rfl wi_X2_read_X2 (by decide) rfl eq5 (List.mem_of_getElem? (i := 2) rfl) dX2_read_8 ?_
  obtain ⟨M6, r7, y8, h⟩ := x_cl h
  refine r_callVv (As := []) (rest := []) cx w hkn hl.1 (k_X3_clear hG hLq5 hKq5 y8) (cwV 0 hts gX2_read_X3_clear rfl rfl rfl (by decide +kernel) ⟨Nat.le_of_ble_eq_true rfl, Nat.le_of_ble_eq_true rfl⟩) hLq5 hKq5 (by decide) rfl rfl rfl (Nat.le_of_ble_eq_true rfl) dX2_read_11 (fun H locs w => ?_)
  refine lv_aload_n hx hb dX2_read_14 rfl (lv_at hl 0 rfl) ?_
  obtain ⟨q9, eq9, h⟩ := x_rf h
  obtain ⟨hLq9, hKq9⟩ := wt_q hG hL0 hK0 eq9
  have hKq9 : gK G q9 = 7 := hKq9
  refine r_getR (k := 2) cx w hL0 hK0 (by decide) rfl wi_X2_read_X2 (by decide) rfl eq9 (List.mem_of_getElem? (i := 3) rfl) dX2_read_15 ?_
  obtain ⟨M10, r11, y12, h⟩ := x_cl h
  refine r_callVv (As := []) (rest := []) cx w hkn hl.1 (k_X8_clear hG hLq9 hKq9 y12) (cwV 0 hts gX2_read_X8_clear rfl rfl rfl (by decide +kernel) ⟨Nat.le_of_ble_eq_true rfl, Nat.le_of_ble_eq_true rfl⟩) hLq9 hKq9 (by decide) rfl rfl rfl (Nat.le_of_ble_eq_true rfl) dX2_read_18 (fun H locs w => ?_)
  refine lv_aload_n hx hb dX2_read_21 rfl (lv_at hl 0 rfl) ?_
  refine lv_iconst (v := (0 : Int32)) hx hb dX2_read_22 (by decide) ?_
  obtain ⟨M13, eM13, h⟩ := x_wI h
  refine r_putI (k := 5) (ty := .int) cx w tyX2 tyX2_ok nmX2 hL0 hK0 (by decide) rfl wi_X2_read_X2 (by decide) rfl rfl rfl rfl st_1_5 (ln_1 _ _ (by decide)) (List.mem_of_getElem? (i := 4) rfl) dX2_read_23 eM13 (fun H locs w => ?_)
  refine lv_aload_n hx hb dX2_read_26 rfl (lv_at hl 0 rfl) ?_
  refine lv_iconst (v := (0 : Int32)) hx hb dX2_read_27 (by decide) ?_
  obtain ⟨M14, eM14, h⟩ := x_wI h
  refine r_putI (k := 6) (ty := .int) cx w tyX2 tyX2_ok nmX2 hL0 hK0 (by decide) rfl wi_X2_read_X2 (by decide) rfl rfl rfl rfl st_1_6 (ln_1 _ _ (by decide)) (List.mem_of_getElem? (i := 5) rfl) dX2_read_28 eM14 (fun H locs w => ?_)
  refine lv_iconst (v := (1 : Int32)) hx hb dX2_read_31 (by decide) ?_
  refine lv_istore_n (lv' := [(1, .int ((1 : Int32))), (0, .ref a0)]) hx hb dX2_read_32 rfl hl (by decide) rfl (fun ls hl => ?_)
  refine lv_iconst (v := (0 : Int32)) hx hb dX2_read_33 (by decide) ?_
  refine lv_istore_n (lv' := [(2, .int ((0 : Int32))), (1, .int ((1 : Int32))), (0, .ref a0)]) hx hb dX2_read_34 rfl hl (by decide) rfl (fun ls hl => ?_)
  exact b_X2_read_35 cx hkn hL0 hK0 fu M14 ((1 : Int32)) ((0 : Int32)) H locs ls h w (lv_sub hl [2, 1, 0] rfl)
