-- X7_isDigit
abbrev rmX7_isDigit : Room := { frames := 0, cells := 0, slots := 0, locals := 0 }
def m_X7_isDigit_16 (G : gS) (c0 : Int32)  (M : mS)  : Option (mS × Int32) := o_ck ((0 : Int32) = 0 ∨ (0 : Int32) = 1) (some (M, (0 : Int32)))
def m_X7_isDigit (G : gS) (M : mS) (c0 : Int32) : Option (mS × Int32) := (if c0 < (48 : Int32) then m_X7_isDigit_16 G c0 M else (if (57 : Int32) < c0 then m_X7_isDigit_16 G c0 M else o_ck ((1 : Int32) = 0 ∨ (1 : Int32) = 1) (some (M, (1 : Int32)))))
set_option maxHeartbeats 4000000 in
set_option maxRecDepth 100000 in
theorem b_X7_isDigit_16 {p : Program} {e : Env} {s : State} {m : MethodId} {args : Array Value} {below : List Frame} {meth : Method} {c : Code} {A : Nat → Prop} {l : Launch} {D : va_G} {cy : cyS} {G : gS} (cx : cX p s m args meth c cX7_isDigit RX7 1 (some .boolean) wsX7_isDigit D cy G A) {k0 n0 : Nat} (hkn : k0 ≤ (rmX7_isDigit).cells ∧ n0 ≤ (rmX7_isDigit).slots) {M' : mS} {r : Int32} {c0 : Int32}   : ∀ (M : mS) (H : Heap) (locs : List Loc) (ls : Array Slot), m_X7_isDigit_16 G c0 M = some (M', r) → wd D cy G M A s.heap H locs → lv_has ls 1 [] → W p l e rmX7_isDigit s m args below meth c H locs k0 n0 (MQ below (va_Qi (fun (r' : Int32) (_ : Unit) => r' = r) (fun _ t => wOut D cy G M' t) A) args s k0 n0 A) (F0 m 16 ls []) := by
  obtain ⟨hx, hb, hml, hown, hts, hr, hlocks, hK, hA, hG, hsx⟩ := id cx
  intro M H locs ls h w hl
  unfold m_X7_isDigit_16 at h
  refine lv_iconst (v := (0 : Int32)) hx hb dX7_isDigit_16 (by decide) ?_
  obtain ⟨z1, h⟩ := x_ck h
  exact r_zret cx w z1 h dX7_isDigit_17
set_option maxHeartbeats 4000000 in
set_option maxRecDepth 100000 in
theorem k_X7_isDigit {l : Launch} {D : va_G} {cy : cyS} {G : gS} {M M' : mS} {r : Int32} {c0 : Int32} (hG : wt G)  (h : m_X7_isDigit G M c0 = some (M', r)) : ctI l yX7_isDigit wsX7_isDigit rmX7_isDigit D cy G M [.int c0] M' r := by
  unfold m_X7_isDigit at h
  refine ctI_of (cc := cX7_isDigit) (nL := 1) (ret := (some .boolean)) (lv := [(0, .int c0)]) hG (by decide) rfl ⟨rfl, rfl⟩ (Nat.le_of_ble_eq_true rfl) rfl ?_
  intro p e s m args below meth c A ls cx w hl
  obtain ⟨hx, hb, hml, hown, hts, hr, hlocks, hK, hA, -, hsx⟩ := id cx
  have hkn : 0 ≤ (rmX7_isDigit).cells ∧ 0 ≤ (rmX7_isDigit).slots := ⟨Nat.zero_le _, Nat.zero_le _⟩
  refine lv_iload_n hx hb dX7_isDigit_0 rfl (lv_at hl 0 rfl) ?_
  refine lv_bipush (v := (48 : Int32)) hx hb dX7_isDigit_1 (by decide) ?_
  refine lv_icmp_lt (tgt := 16) hx hb dX7_isDigit_3 (by decide) (fun k1 => ?_) (fun k1 => ?_)
  · have h := x_t h k1
    exact b_X7_isDigit_16 cx hkn M s.heap [] ls h w (lv_sub hl [] rfl)
  · have h := x_f h k1
    refine lv_iload_n hx hb dX7_isDigit_6 rfl (lv_at hl 0 rfl) ?_
    refine lv_bipush (v := (57 : Int32)) hx hb dX7_isDigit_7 (by decide) ?_
    refine lv_icmp_gt (tgt := 16) hx hb dX7_isDigit_9 (by decide) (fun k2 => ?_) (fun k2 => ?_)
    · have h := x_t h k2
      exact b_X7_isDigit_16 cx hkn M s.heap [] ls h w (lv_sub hl [] rfl)
    · have h := x_f h k2
      refine lv_iconst (v := (1 : Int32)) hx hb dX7_isDigit_12 (by decide) ?_
      refine lv_goto (tgt := 17) hx hb dX7_isDigit_13 (by decide) ?_
      obtain ⟨z3, h⟩ := x_ck h
      exact r_zret cx w z3 h dX7_isDigit_17
-- X7_addSign
abbrev rmX7_addSign : Room := { frames := 1, cells := 0, slots := 0, locals := 20 }
def m_X7_addSign_28 (G : gS) (c0 : Int64) (c2 : Int32)  (M : mS) (s0 : Int64) (s1 : Int32) : Option (mS × Int64) := some (M, (s0 + (Int32.toInt64 s1)))
def m_X7_addSign (G : gS) (M : mS) (c0 : Int64) (c2 : Int32) : Option (mS × Int64) := o_cl (m_X7_isDigit G M c2) (fun M1 r2 => (if r2 = 0 then m_X7_addSign_28 G c0 c2 M1 ((c0 * (37 : Int64))) (((c2 - (97 : Int32)) + (1 : Int32))) else m_X7_addSign_28 G c0 c2 M1 ((c0 * (37 : Int64))) (((c2 - (48 : Int32)) + (27 : Int32)))))
set_option maxHeartbeats 4000000 in
set_option maxRecDepth 100000 in
theorem b_X7_addSign_28 {p : Program} {e : Env} {s : State} {m : MethodId} {args : Array Value} {below : List Frame} {meth : Method} {c : Code} {A : Nat → Prop} {l : Launch} {D : va_G} {cy : cyS} {G : gS} (cx : cX p s m args meth c cX7_addSign RX7 3 (some .long) wsX7_addSign D cy G A) {k0 n0 : Nat} (hkn : k0 ≤ (rmX7_addSign).cells ∧ n0 ≤ (rmX7_addSign).slots) {M' : mS} {r : Int64} {c0 : Int64} {c2 : Int32}   : ∀ (M : mS) (s0 : Int64) (s1 : Int32) (H : Heap) (locs : List Loc) (ls : Array Slot), m_X7_addSign_28 G c0 c2 M s0 s1 = some (M', r) → wd D cy G M A s.heap H locs → lv_has ls 3 [] → W p l e rmX7_addSign s m args below meth c H locs k0 n0 (MQ below (va_Ql (fun (r' : Int64) (_ : Unit) => r' = r) (fun _ t => wOut D cy G M' t) A) args s k0 n0 A) (F0 m 28 ls [.int s1, .long s0]) := by
  obtain ⟨hx, hb, hml, hown, hts, hr, hlocks, hK, hA, hG, hsx⟩ := id cx
  intro M s0 s1 H locs ls h w hl
  unfold m_X7_addSign_28 at h
  refine lv_i2l (v := (Int32.toInt64 s1)) hx hb dX7_addSign_28 rfl ?_
  refine lv_ladd hx hb dX7_addSign_29 ?_
  exact r_lret cx w h dX7_addSign_30
set_option maxHeartbeats 4000000 in
set_option maxRecDepth 100000 in
theorem k_X7_addSign {l : Launch} {D : va_G} {cy : cyS} {G : gS} {M M' : mS} {r : Int64} {c0 : Int64} {c2 : Int32} (hG : wt G)  (h : m_X7_addSign G M c0 c2 = some (M', r)) : ctL l yX7_addSign wsX7_addSign rmX7_addSign D cy G M [.long c0, .int c2] M' r := by
  unfold m_X7_addSign at h
  refine ctL_of (cc := cX7_addSign) (nL := 3) (ret := (some .long)) (lv := [(0, .long c0), (2, .int c2)]) hG (by decide) rfl ⟨rfl, rfl⟩ (Nat.le_of_ble_eq_true rfl) rfl ?_
  intro p e s m args below meth c A ls cx w hl
  obtain ⟨hx, hb, hml, hown, hts, hr, hlocks, hK, hA, -, hsx⟩ := id cx
  have hkn : 0 ≤ (rmX7_addSign).cells ∧ 0 ≤ (rmX7_addSign).slots := ⟨Nat.zero_le _, Nat.zero_le _⟩
  refine lv_lload_n hx hb dX7_addSign_0 rfl (lv_at hl 0 rfl) ?_
  refine lv_ldc2 (v := 37) hx hb hown (hts (.constantLong RX7 48 (37)) (List.mem_of_getElem? (i := 1) rfl)) dX7_addSign_1 ?_
  refine lv_lmul hx hb dX7_addSign_4 ?_
  refine lv_iload_n hx hb dX7_addSign_5 rfl (lv_at hl 1 rfl) ?_
  obtain ⟨M1, r2, y3, h⟩ := x_cl h
  refine r_callSi (As := [.int c2]) (rest := [.long ((c0 * (37 : Int64)))]) cx w hkn hl.1 (k_X7_isDigit hG y3) (va_cwS 1 hts gX7_addSign_X7_isDigit rfl rfl rfl (by decide +kernel) ⟨Nat.le_of_ble_eq_true rfl, Nat.le_of_ble_eq_true rfl⟩) rfl rfl (Nat.le_of_ble_eq_true rfl) dX7_addSign_6 (fun H locs w => ?_)
  refine lv_if_eq (tgt := 22) hx hb dX7_addSign_9 (by decide) (fun k4 => ?_) (fun k4 => ?_)
  · have h := x_t h k4
    refine lv_iload_n hx hb dX7_addSign_22 rfl (lv_at hl 1 rfl) ?_
    refine lv_bipush (v := (97 : Int32)) hx hb dX7_addSign_23 (by decide) ?_
    refine lv_isub hx hb dX7_addSign_25 ?_
    refine lv_iconst (v := (1 : Int32)) hx hb dX7_addSign_26 (by decide) ?_
    refine lv_iadd hx hb dX7_addSign_27 ?_
    exact b_X7_addSign_28 cx hkn M1 ((c0 * (37 : Int64))) (((c2 - (97 : Int32)) + (1 : Int32))) H locs ls h w (lv_sub hl [] rfl)
  · have h := x_f h k4
    refine lv_iload_n hx hb dX7_addSign_12 rfl (lv_at hl 1 rfl) ?_
    refine lv_bipush (v := (48 : Int32)) hx hb dX7_addSign_13 (by decide) ?_
    refine lv_isub hx hb dX7_addSign_15 ?_
    refine lv_bipush (v := (27 : Int32)) hx hb dX7_addSign_16 (by decide) ?_
    refine lv_iadd hx hb dX7_addSign_18 ?_
    refine lv_goto (tgt := 28) hx hb dX7_addSign_19 (by decide) ?_
    exact b_X7_addSign_28 cx hkn M1 ((c0 * (37 : Int64))) (((c2 - (48 : Int32)) + (27 : Int32))) H locs ls h w (lv_sub hl [] rfl)
-- X7_packWords
theorem wi_X7_packWords_X7 : ∀ w ∈ wsX70, w ∈ wsX7_packWords := by decide +kernel
abbrev rmX7_packWords : Room := { frames := 4, cells := 0, slots := 0, locals := 85 }
def m_X7_packWords_61 (G : gS) (a0 : Nat) (kb7 : mS → Int32 → Int64 → Int32 → Option (mS × Unit)) (M : mS) (v1 : Int32) (v2 : Int64) (v4 : Int32) : Option (mS × Unit) := o_bd (v4 + 1 : Int32) (fun x1 => kb7 M v1 v2 x1)
def m_X7_packWords_7 (G : gS) (a0 : Nat)  : Nat → mS → Int32 → Int64 → Int32 → Option (mS × Unit)
  | 0, _, _, _, _ => none
  | n + 1, M, v1, v2, v4 => o_cl (m_J0_length_8abf5 G M 34) (fun M1 r2 => (if r2 ≤ v4 then some (M1, ()) else o_cl (m_J0_charAt_5068e G M1 34 v4) (fun M5 r6 => (if r6 = (32 : Int32) then (if (33 : Int32) ≤ v1 then m_X7_packWords_61 G a0 (fun M v1 v2 v4 => m_X7_packWords_7 G a0 n M v1 v2 v4) M5 v1 v2 v4 else o_rf (gP G a0 1) (fun q10 => o_ix v1 (gN G q10) (o_wJ M5 q10 (Int32.toNatClampNeg v1) v2 (fun M12 => o_bd (v1 + 1 : Int32) (fun x13 => m_X7_packWords_61 G a0 (fun M v1 v2 v4 => m_X7_packWords_7 G a0 n M v1 v2 v4) M12 x13 ((0 : Int64)) v4))))) else o_cl (m_X7_addSign G M5 v2 r6) (fun M14 r15 => m_X7_packWords_61 G a0 (fun M v1 v2 v4 => m_X7_packWords_7 G a0 n M v1 v2 v4) M14 v1 r15 v4)))))
def m_X7_packWords (G : gS) (M : mS) (a0 : Nat) : Option (mS × Unit) := m_X7_packWords_7 G a0 fu M ((0 : Int32)) ((0 : Int64)) ((0 : Int32))
set_option maxHeartbeats 4000000 in
set_option maxRecDepth 100000 in
theorem b_X7_packWords_61 {p : Program} {e : Env} {s : State} {m : MethodId} {args : Array Value} {below : List Frame} {meth : Method} {c : Code} {A : Nat → Prop} {l : Launch} {D : va_G} {cy : cyS} {G : gS} (cx : cX p s m args meth c cX7_packWords RX7 6 none wsX7_packWords D cy G A) {k0 n0 : Nat} (hkn : k0 ≤ (rmX7_packWords).cells ∧ n0 ≤ (rmX7_packWords).slots) {M' : mS} {a0 : Nat} (hL0 : a0 ∈ gL G) (hK0 : gK G a0 = 6) {kb7 : mS → Int32 → Int64 → Int32 → Option (mS × Unit)} (hkb7 : ∀ (M : mS) (v1 : Int32) (v2 : Int64) (v4 : Int32) (H : Heap) (locs : List Loc) (ls : Array Slot), kb7 M v1 v2 v4 = some (M', ()) → wd D cy G M A s.heap H locs → lv_has ls 6 [(0, .ref a0), (1, .int v1), (2, .long v2), (4, .int v4)] → W p l e rmX7_packWords s m args below meth c H locs k0 n0 (MQ below (va_Qv (fun (_ : Unit) => True) (fun _ t => wOut D cy G M' t) A) args s k0 n0 A) (F0 m 7 ls [])) : ∀ (M : mS) (v1 : Int32) (v2 : Int64) (v4 : Int32) (H : Heap) (locs : List Loc) (ls : Array Slot), m_X7_packWords_61 G a0 kb7 M v1 v2 v4 = some (M', ()) → wd D cy G M A s.heap H locs → lv_has ls 6 [(0, .ref a0), (1, .int v1), (2, .long v2), (4, .int v4)] → W p l e rmX7_packWords s m args below meth c H locs k0 n0 (MQ below (va_Qv (fun (_ : Unit) => True) (fun _ t => wOut D cy G M' t) A) args s k0 n0 A) (F0 m 61 ls []) := by
  obtain ⟨hx, hb, hml, hown, hts, hr, hlocks, hK, hA, hG, hsx⟩ := id cx
  intro M v1 v2 v4 H locs ls h w hl
  unfold m_X7_packWords_61 at h
  obtain ⟨x1, ex1, h⟩ := x_bd h
  refine lv_iinc (v := x1) (lv' := [(4, .int x1), (0, .ref a0), (1, .int v1), (2, .long v2)]) hx hb dX7_packWords_61 hl (k := 3) rfl (by rw [ex1]; rfl) (by decide) rfl (fun ls hl => ?_)
  refine lv_goto (tgt := 7) hx hb dX7_packWords_64 (by decide) ?_
  exact hkb7 M v1 v2 x1 H locs ls h w (lv_sub hl [1, 2, 3, 0] rfl)
set_option maxHeartbeats 4000000 in
set_option maxRecDepth 100000 in
theorem b_X7_packWords_7 {p : Program} {e : Env} {s : State} {m : MethodId} {args : Array Value} {below : List Frame} {meth : Method} {c : Code} {A : Nat → Prop} {l : Launch} {D : va_G} {cy : cyS} {G : gS} (cx : cX p s m args meth c cX7_packWords RX7 6 none wsX7_packWords D cy G A) {k0 n0 : Nat} (hkn : k0 ≤ (rmX7_packWords).cells ∧ n0 ≤ (rmX7_packWords).slots) {M' : mS} {a0 : Nat} (hL0 : a0 ∈ gL G) (hK0 : gK G a0 = 6)  : ∀ (n : Nat), ∀ (M : mS) (v1 : Int32) (v2 : Int64) (v4 : Int32) (H : Heap) (locs : List Loc) (ls : Array Slot), m_X7_packWords_7 G a0 n M v1 v2 v4 = some (M', ()) → wd D cy G M A s.heap H locs → lv_has ls 6 [(0, .ref a0), (1, .int v1), (2, .long v2), (4, .int v4)] → W p l e rmX7_packWords s m args below meth c H locs k0 n0 (MQ below (va_Qv (fun (_ : Unit) => True) (fun _ t => wOut D cy G M' t) A) args s k0 n0 A) (F0 m 7 ls []) := by
  obtain ⟨hx, hb, hml, hown, hts, hr, hlocks, hK, hA, hG, hsx⟩ := id cx
  intro n
  induction n with
  | zero =>
    intro M v1 v2 v4 H locs ls h w hl
    have h : none = some _ := h
    cases h
  | succ n ih =>
    intro M v1 v2 v4 H locs ls h w hl
    rw [m_X7_packWords_7] at h
    refine lv_iload hx hb dX7_packWords_7 (lv_at hl 3 rfl) ?_
    refine r_ldcS (i := 34) cx w (by decide) rfl rfl dX7_packWords_9 ?_
    obtain ⟨M1, r2, y3, h⟩ := x_cl h
    refine r_callVTi (As := []) (rest := [.int v4]) cx w hkn hl.1 (by decide : 34 < 36) (k_J0_length_8abf5 hG (by decide : 34 < 36) y3) (cwV 0 hts gX7_packWords_J0_length_8abf5 rfl rfl rfl (by decide +kernel) ⟨Nat.le_of_ble_eq_true rfl, Nat.le_of_ble_eq_true rfl⟩) rfl rfl (Nat.le_of_ble_eq_true rfl) dX7_packWords_11 (fun H locs w => ?_)
    refine lv_icmp_ge (tgt := 67) hx hb dX7_packWords_14 (by decide) (fun k4 => ?_) (fun k4 => ?_)
    · have h := x_t h k4
      exact r_vret cx w h dX7_packWords_67
    · have h := x_f h k4
      refine r_ldcS (i := 34) cx w (by decide) rfl rfl dX7_packWords_17 ?_
      refine lv_iload hx hb dX7_packWords_19 (lv_at hl 3 rfl) ?_
      obtain ⟨M5, r6, y7, h⟩ := x_cl h
      refine r_callVTi (As := [.int v4]) (rest := []) cx w hkn hl.1 (by decide : 34 < 36) (k_J0_charAt_5068e hG (by decide : 34 < 36) y7) (cwV 1 hts gX7_packWords_J0_charAt_5068e rfl rfl rfl (by decide +kernel) ⟨Nat.le_of_ble_eq_true rfl, Nat.le_of_ble_eq_true rfl⟩) rfl rfl (Nat.le_of_ble_eq_true rfl) dX7_packWords_21 (fun H locs w => ?_)
      refine lv_istore (lv' := [(5, .int r6), (0, .ref a0), (1, .int v1), (2, .long v2), (4, .int v4)]) hx hb dX7_packWords_24 hl (by decide) rfl (fun ls hl => ?_)
      refine lv_iload hx hb dX7_packWords_26 (lv_at hl 0 rfl) ?_
      refine lv_bipush (v := (32 : Int32)) hx hb dX7_packWords_28 (by decide) ?_
      refine lv_icmp_eq (tgt := 43) hx hb dX7_packWords_30 (by decide) (fun k8 => ?_) (fun k8 => ?_)
      · have h := x_t h k8
        refine lv_iload_n hx hb dX7_packWords_43 rfl (lv_at hl 2 rfl) ?_
        refine lv_bipush (v := (33 : Int32)) hx hb dX7_packWords_44 (by decide) ?_
        refine lv_icmp_ge (tgt := 61) hx hb dX7_packWords_46 (by decide) (fun k9 => ?_) (fun k9 => ?_)
        · have h := x_t h k9
          exact b_X7_packWords_61 cx hkn hL0 hK0 (hkb7 := ih) M5 v1 v2 v4 H locs ls h w (lv_sub hl [1, 2, 3, 4] rfl)
        · have h := x_f h k9
          refine lv_aload_n hx hb dX7_packWords_49 rfl (lv_at hl 1 rfl) ?_
          obtain ⟨q10, eq10, h⟩ := x_rf h
          obtain ⟨hLq10, hKq10⟩ := wt_q hG hL0 hK0 eq10
          have hKq10 : gK G q10 = 13 := hKq10
          refine r_getR (k := 1) cx w hL0 hK0 (by decide) rfl wi_X7_packWords_X7 (by decide) rfl eq10 (List.mem_of_getElem? (i := 1) rfl) dX7_packWords_50 ?_
          refine lv_iload_n hx hb dX7_packWords_53 rfl (lv_at hl 2 rfl) ?_
          refine lv_lload_n hx hb dX7_packWords_54 rfl (lv_at hl 3 rfl) ?_
          obtain ⟨z11, h⟩ := x_ix h
          obtain ⟨M12, eM12, h⟩ := x_wJ h
          refine r_last cx w hLq10 hKq10 z11 dX7_packWords_55 eM12 (fun H locs w => ?_)
          obtain ⟨x13, ex13, h⟩ := x_bd h
          refine lv_iinc (v := x13) (lv' := [(1, .int x13), (5, .int r6), (0, .ref a0), (2, .long v2), (4, .int v4)]) hx hb dX7_packWords_56 hl (k := 2) rfl (by rw [ex13]; rfl) (by decide) rfl (fun ls hl => ?_)
          refine lv_lconst (v := 0) hx hb dX7_packWords_59 (by decide) ?_
          refine lv_lstore_n (lv' := [(2, .long ((0 : Int64))), (1, .int x13), (5, .int r6), (0, .ref a0), (4, .int v4)]) hx hb dX7_packWords_60 rfl hl (by decide) rfl (fun ls hl => ?_)
          exact b_X7_packWords_61 cx hkn hL0 hK0 (hkb7 := ih) M12 x13 ((0 : Int64)) v4 H locs ls h w (lv_sub hl [3, 1, 0, 4] rfl)
      · have h := x_f h k8
        refine lv_lload_n hx hb dX7_packWords_33 rfl (lv_at hl 3 rfl) ?_
        refine lv_iload hx hb dX7_packWords_34 (lv_at hl 0 rfl) ?_
        obtain ⟨M14, r15, y16, h⟩ := x_cl h
        refine r_callSl (As := [.long v2, .int r6]) (rest := []) cx w hkn hl.1 (k_X7_addSign hG y16) (va_cwS 2 hts gX7_packWords_X7_addSign rfl rfl rfl (by decide +kernel) ⟨Nat.le_of_ble_eq_true rfl, Nat.le_of_ble_eq_true rfl⟩) rfl rfl (Nat.le_of_ble_eq_true rfl) dX7_packWords_36 (fun H locs w => ?_)
        refine lv_lstore_n (lv' := [(2, .long r15), (5, .int r6), (0, .ref a0), (1, .int v1), (4, .int v4)]) hx hb dX7_packWords_39 rfl hl (by decide) rfl (fun ls hl => ?_)
        refine lv_goto (tgt := 61) hx hb dX7_packWords_40 (by decide) ?_
        exact b_X7_packWords_61 cx hkn hL0 hK0 (hkb7 := ih) M14 v1 r15 v4 H locs ls h w (lv_sub hl [2, 3, 0, 4] rfl)
set_option maxHeartbeats 4000000 in
set_option maxRecDepth 100000 in
theorem k_X7_packWords {l : Launch} {D : va_G} {cy : cyS} {G : gS} {M M' : mS} {a0 : Nat} (hG : wt G) (hL0 : a0 ∈ gL G) (hK0 : gK G a0 = 6) (h : m_X7_packWords G M a0 = some (M', ())) : ctV l yX7_packWords wsX7_packWords rmX7_packWords D cy G M [.ref a0] M' := by
  unfold m_X7_packWords at h
  refine ctV_of (cc := cX7_packWords) (nL := 6) (ret := none) (lv := [(0, .ref a0)]) hG (by decide) rfl ⟨rfl, rfl⟩ (Nat.le_of_ble_eq_true rfl) rfl ?_
  intro p e s m args below meth c A ls cx w hl
  obtain ⟨hx, hb, hml, hown, hts, hr, hlocks, hK, hA, -, hsx⟩ := id cx
  have hkn : 0 ≤ (rmX7_packWords).cells ∧ 0 ≤ (rmX7_packWords).slots := ⟨Nat.zero_le _, Nat.zero_le _⟩
  refine lv_iconst (v := (0 : Int32)) hx hb dX7_packWords_0 (by decide) ?_
  refine lv_istore_n (lv' := [(1, .int ((0 : Int32))), (0, .ref a0)]) hx hb dX7_packWords_1 rfl hl (by decide) rfl (fun ls hl => ?_)
  refine lv_lconst (v := 0) hx hb dX7_packWords_2 (by decide) ?_
  refine lv_lstore_n (lv' := [(2, .long ((0 : Int64))), (1, .int ((0 : Int32))), (0, .ref a0)]) hx hb dX7_packWords_3 rfl hl (by decide) rfl (fun ls hl => ?_)
  refine lv_iconst (v := (0 : Int32)) hx hb dX7_packWords_4 (by decide) ?_
  refine lv_istore (lv' := [(4, .int ((0 : Int32))), (2, .long ((0 : Int64))), (1, .int ((0 : Int32))), (0, .ref a0)]) hx hb dX7_packWords_5 hl (by decide) rfl (fun ls hl => ?_)
  exact b_X7_packWords_7 cx hkn hL0 hK0 fu M ((0 : Int32)) ((0 : Int64)) ((0 : Int32)) s.heap [] ls h w (lv_sub hl [3, 2, 1, 0] rfl)
-- X7_isLetter
abbrev rmX7_isLetter : Room := { frames := 0, cells := 0, slots := 0, locals := 0 }
def m_X7_isLetter_16 (G : gS) (c0 : Int32)  (M : mS)  : Option (mS × Int32) := o_ck ((0 : Int32) = 0 ∨ (0 : Int32) = 1) (some (M, (0 : Int32)))
def m_X7_isLetter (G : gS) (M : mS) (c0 : Int32) : Option (mS × Int32) := (if c0 < (97 : Int32) then m_X7_isLetter_16 G c0 M else (if (122 : Int32) < c0 then m_X7_isLetter_16 G c0 M else o_ck ((1 : Int32) = 0 ∨ (1 : Int32) = 1) (some (M, (1 : Int32)))))
set_option maxHeartbeats 4000000 in
set_option maxRecDepth 100000 in
theorem b_X7_isLetter_16 {p : Program} {e : Env} {s : State} {m : MethodId} {args : Array Value} {below : List Frame} {meth : Method} {c : Code} {A : Nat → Prop} {l : Launch} {D : va_G} {cy : cyS} {G : gS} (cx : cX p s m args meth c cX7_isLetter RX7 1 (some .boolean) wsX7_isLetter D cy G A) {k0 n0 : Nat} (hkn : k0 ≤ (rmX7_isLetter).cells ∧ n0 ≤ (rmX7_isLetter).slots) {M' : mS} {r : Int32} {c0 : Int32}   : ∀ (M : mS) (H : Heap) (locs : List Loc) (ls : Array Slot), m_X7_isLetter_16 G c0 M = some (M', r) → wd D cy G M A s.heap H locs → lv_has ls 1 [] → W p l e rmX7_isLetter s m args below meth c H locs k0 n0 (MQ below (va_Qi (fun (r' : Int32) (_ : Unit) => r' = r) (fun _ t => wOut D cy G M' t) A) args s k0 n0 A) (F0 m 16 ls []) := by
  obtain ⟨hx, hb, hml, hown, hts, hr, hlocks, hK, hA, hG, hsx⟩ := id cx
  intro M H locs ls h w hl
  unfold m_X7_isLetter_16 at h
  refine lv_iconst (v := (0 : Int32)) hx hb dX7_isLetter_16 (by decide) ?_
  obtain ⟨z1, h⟩ := x_ck h
  exact r_zret cx w z1 h dX7_isLetter_17
set_option maxHeartbeats 4000000 in
set_option maxRecDepth 100000 in
theorem k_X7_isLetter {l : Launch} {D : va_G} {cy : cyS} {G : gS} {M M' : mS} {r : Int32} {c0 : Int32} (hG : wt G)  (h : m_X7_isLetter G M c0 = some (M', r)) : ctI l yX7_isLetter wsX7_isLetter rmX7_isLetter D cy G M [.int c0] M' r := by
  unfold m_X7_isLetter at h
  refine ctI_of (cc := cX7_isLetter) (nL := 1) (ret := (some .boolean)) (lv := [(0, .int c0)]) hG (by decide) rfl ⟨rfl, rfl⟩ (Nat.le_of_ble_eq_true rfl) rfl ?_
  intro p e s m args below meth c A ls cx w hl
  obtain ⟨hx, hb, hml, hown, hts, hr, hlocks, hK, hA, -, hsx⟩ := id cx
  have hkn : 0 ≤ (rmX7_isLetter).cells ∧ 0 ≤ (rmX7_isLetter).slots := ⟨Nat.zero_le _, Nat.zero_le _⟩
  refine lv_iload_n hx hb dX7_isLetter_0 rfl (lv_at hl 0 rfl) ?_
  refine lv_bipush (v := (97 : Int32)) hx hb dX7_isLetter_1 (by decide) ?_
  refine lv_icmp_lt (tgt := 16) hx hb dX7_isLetter_3 (by decide) (fun k1 => ?_) (fun k1 => ?_)
  · have h := x_t h k1
    exact b_X7_isLetter_16 cx hkn M s.heap [] ls h w (lv_sub hl [] rfl)
  · have h := x_f h k1
    refine lv_iload_n hx hb dX7_isLetter_6 rfl (lv_at hl 0 rfl) ?_
    refine lv_bipush (v := (122 : Int32)) hx hb dX7_isLetter_7 (by decide) ?_
    refine lv_icmp_gt (tgt := 16) hx hb dX7_isLetter_9 (by decide) (fun k2 => ?_) (fun k2 => ?_)
    · have h := x_t h k2
      exact b_X7_isLetter_16 cx hkn M s.heap [] ls h w (lv_sub hl [] rfl)
    · have h := x_f h k2
      refine lv_iconst (v := (1 : Int32)) hx hb dX7_isLetter_12 (by decide) ?_
      refine lv_goto (tgt := 17) hx hb dX7_isLetter_13 (by decide) ?_
      obtain ⟨z3, h⟩ := x_ck h
      exact r_zret cx w z3 h dX7_isLetter_17
-- X7_kindOfWord
theorem wi_X7_kindOfWord_X7 : ∀ w ∈ wsX70, w ∈ wsX7_kindOfWord := by decide +kernel
abbrev rmX7_kindOfWord : Room := { frames := 0, cells := 0, slots := 0, locals := 0 }
def m_X7_kindOfWord_2 (G : gS) (a0 : Nat) (c1 : Int64)  : Nat → mS → Int32 → Option (mS × Int32)
  | 0, _, _ => none
  | n + 1, M, v3 => (if (33 : Int32) ≤ v3 then some (M, (2 : Int32)) else o_rf (gP G a0 1) (fun q2 => o_ix v3 (gN G q2) ((if (lg_cmp (mJ M q2 (Int32.toNatClampNeg v3)) c1) = 0 then some (M, ((200 : Int32) + v3)) else o_bd (v3 + 1 : Int32) (fun x5 => m_X7_kindOfWord_2 G a0 c1 n M x5)))))
def m_X7_kindOfWord (G : gS) (M : mS) (a0 : Nat) (c1 : Int64) : Option (mS × Int32) := m_X7_kindOfWord_2 G a0 c1 fu M ((0 : Int32))
set_option maxHeartbeats 4000000 in
set_option maxRecDepth 100000 in
theorem b_X7_kindOfWord_2 {p : Program} {e : Env} {s : State} {m : MethodId} {args : Array Value} {below : List Frame} {meth : Method} {c : Code} {A : Nat → Prop} {l : Launch} {D : va_G} {cy : cyS} {G : gS} (cx : cX p s m args meth c cX7_kindOfWord RX7 4 (some .int) wsX7_kindOfWord D cy G A) {k0 n0 : Nat} (hkn : k0 ≤ (rmX7_kindOfWord).cells ∧ n0 ≤ (rmX7_kindOfWord).slots) {M' : mS} {r : Int32} {a0 : Nat} {c1 : Int64} (hL0 : a0 ∈ gL G) (hK0 : gK G a0 = 6)  : ∀ (n : Nat), ∀ (M : mS) (v3 : Int32) (H : Heap) (locs : List Loc) (ls : Array Slot), m_X7_kindOfWord_2 G a0 c1 n M v3 = some (M', r) → wd D cy G M A s.heap H locs → lv_has ls 4 [(0, .ref a0), (1, .long c1), (3, .int v3)] → W p l e rmX7_kindOfWord s m args below meth c H locs k0 n0 (MQ below (va_Qi (fun (r' : Int32) (_ : Unit) => r' = r) (fun _ t => wOut D cy G M' t) A) args s k0 n0 A) (F0 m 2 ls []) := by
  obtain ⟨hx, hb, hml, hown, hts, hr, hlocks, hK, hA, hG, hsx⟩ := id cx
  intro n
  induction n with
  | zero =>
    intro M v3 H locs ls h w hl
    have h : none = some _ := h
    cases h
  | succ n ih =>
    intro M v3 H locs ls h w hl
    rw [m_X7_kindOfWord_2] at h
    refine lv_iload_n hx hb dX7_kindOfWord_2 rfl (lv_at hl 2 rfl) ?_
    refine lv_bipush (v := (33 : Int32)) hx hb dX7_kindOfWord_3 (by decide) ?_
    refine lv_icmp_ge (tgt := 31) hx hb dX7_kindOfWord_5 (by decide) (fun k1 => ?_) (fun k1 => ?_)
    · have h := x_t h k1
      refine lv_iconst (v := (2 : Int32)) hx hb dX7_kindOfWord_31 (by decide) ?_
      exact r_iret cx w h dX7_kindOfWord_32
    · have h := x_f h k1
      refine lv_aload_n hx hb dX7_kindOfWord_8 rfl (lv_at hl 0 rfl) ?_
      obtain ⟨q2, eq2, h⟩ := x_rf h
      obtain ⟨hLq2, hKq2⟩ := wt_q hG hL0 hK0 eq2
      have hKq2 : gK G q2 = 13 := hKq2
      refine r_getR (k := 1) cx w hL0 hK0 (by decide) rfl wi_X7_kindOfWord_X7 (by decide) rfl eq2 (List.mem_of_getElem? (i := 1) rfl) dX7_kindOfWord_9 ?_
      refine lv_iload_n hx hb dX7_kindOfWord_12 rfl (lv_at hl 2 rfl) ?_
      obtain ⟨z3, h⟩ := x_ix h
      refine r_lald cx w hLq2 hKq2 z3 dX7_kindOfWord_13 ?_
      refine lv_lload_n hx hb dX7_kindOfWord_14 rfl (lv_at hl 1 rfl) ?_
      refine W.lcmp hx hb dX7_kindOfWord_15 ?_
      refine lv_if_ne (tgt := 25) hx hb dX7_kindOfWord_16 (by decide) (fun k4 => ?_) (fun k4 => ?_)
      · have h := x_f h k4
        obtain ⟨x5, ex5, h⟩ := x_bd h
        refine lv_iinc (v := x5) (lv' := [(3, .int x5), (0, .ref a0), (1, .long c1)]) hx hb dX7_kindOfWord_25 hl (k := 2) rfl (by rw [ex5]; rfl) (by decide) rfl (fun ls hl => ?_)
        refine lv_goto (tgt := 2) hx hb dX7_kindOfWord_28 (by decide) ?_
        exact ih M x5 H locs ls h w (lv_sub hl [1, 2, 0] rfl)
      · have h := x_t h k4
        refine lv_sipush (v := (200 : Int32)) hx hb dX7_kindOfWord_19 (by decide) ?_
        refine lv_iload_n hx hb dX7_kindOfWord_22 rfl (lv_at hl 2 rfl) ?_
        refine lv_iadd hx hb dX7_kindOfWord_23 ?_
        exact r_iret cx w h dX7_kindOfWord_24
set_option maxHeartbeats 4000000 in
set_option maxRecDepth 100000 in
theorem k_X7_kindOfWord {l : Launch} {D : va_G} {cy : cyS} {G : gS} {M M' : mS} {r : Int32} {a0 : Nat} {c1 : Int64} (hG : wt G) (hL0 : a0 ∈ gL G) (hK0 : gK G a0 = 6) (h : m_X7_kindOfWord G M a0 c1 = some (M', r)) : ctI l yX7_kindOfWord wsX7_kindOfWord rmX7_kindOfWord D cy G M [.ref a0, .long c1] M' r := by
  unfold m_X7_kindOfWord at h
  refine ctI_of (cc := cX7_kindOfWord) (nL := 4) (ret := (some .int)) (lv := [(0, .ref a0), (1, .long c1)]) hG (by decide) rfl ⟨rfl, rfl⟩ (Nat.le_of_ble_eq_true rfl) rfl ?_
  intro p e s m args below meth c A ls cx w hl
  obtain ⟨hx, hb, hml, hown, hts, hr, hlocks, hK, hA, -, hsx⟩ := id cx
  have hkn : 0 ≤ (rmX7_kindOfWord).cells ∧ 0 ≤ (rmX7_kindOfWord).slots := ⟨Nat.zero_le _, Nat.zero_le _⟩
  refine lv_iconst (v := (0 : Int32)) hx hb dX7_kindOfWord_0 (by decide) ?_
  refine lv_istore_n (lv' := [(3, .int ((0 : Int32))), (0, .ref a0), (1, .long c1)]) hx hb dX7_kindOfWord_1 rfl hl (by decide) rfl (fun ls hl => ?_)
  exact b_X7_kindOfWord_2 cx hkn hL0 hK0 fu M ((0 : Int32)) s.heap [] ls h w (lv_sub hl [1, 2, 0] rfl)
-- X7_add
theorem wi_X7_add_X7 : ∀ w ∈ wsX70, w ∈ wsX7_add := by decide +kernel
abbrev rmX7_add : Room := { frames := 0, cells := 0, slots := 0, locals := 0 }
def m_X7_add (G : gS) (M : mS) (a0 : Nat) (c1 : Int32) (c2 : Int32) (c3 : Int64) : Option (mS × Unit) := (if (400 : Int32) ≤ (mI M a0 5) then some (M, ()) else o_rf (gP G a0 2) (fun q2 => o_ix (mI M a0 5) (gN G q2) (o_wI M q2 (Int32.toNatClampNeg (mI M a0 5)) c1 (fun M4 => o_rf (gP G a0 3) (fun q5 => o_ix (mI M4 a0 5) (gN G q5) (o_wI M4 q5 (Int32.toNatClampNeg (mI M4 a0 5)) c2 (fun M7 => o_rf (gP G a0 4) (fun q8 => o_ix (mI M7 a0 5) (gN G q8) (o_wJ M7 q8 (Int32.toNatClampNeg (mI M7 a0 5)) c3 (fun M10 => o_wI M10 a0 5 ((mI M10 a0 5) + (1 : Int32)) (fun M11 => some (M11, ()))))))))))))
set_option maxHeartbeats 4000000 in
set_option maxRecDepth 100000 in
theorem k_X7_add {l : Launch} {D : va_G} {cy : cyS} {G : gS} {M M' : mS} {a0 : Nat} {c1 : Int32} {c2 : Int32} {c3 : Int64} (hG : wt G) (hL0 : a0 ∈ gL G) (hK0 : gK G a0 = 6) (h : m_X7_add G M a0 c1 c2 c3 = some (M', ())) : ctV l yX7_add wsX7_add rmX7_add D cy G M [.ref a0, .int c1, .int c2, .long c3] M' := by
  unfold m_X7_add at h
  refine ctV_of (cc := cX7_add) (nL := 5) (ret := none) (lv := [(0, .ref a0), (1, .int c1), (2, .int c2), (3, .long c3)]) hG (by decide) rfl ⟨rfl, rfl⟩ (Nat.le_of_ble_eq_true rfl) rfl ?_
  intro p e s m args below meth c A ls cx w hl
  obtain ⟨hx, hb, hml, hown, hts, hr, hlocks, hK, hA, -, hsx⟩ := id cx
  have hkn : 0 ≤ (rmX7_add).cells ∧ 0 ≤ (rmX7_add).slots := ⟨Nat.zero_le _, Nat.zero_le _⟩
  refine lv_aload_n hx hb dX7_add_0 rfl (lv_at hl 0 rfl) ?_
  refine r_getI (k := 5) (v := .int (mI M a0 5)) cx w hL0 hK0 (by decide) rfl wi_X7_add_X7 (by decide) rfl (List.mem_of_getElem? (i := 1) rfl) dX7_add_1 ?_
  refine lv_sipush (v := (400 : Int32)) hx hb dX7_add_4 (by decide) ?_
  refine lv_icmp_ge (tgt := 50) hx hb dX7_add_7 (by decide) (fun k1 => ?_) (fun k1 => ?_)
  · have h := x_t h k1
    exact r_vret cx w h dX7_add_50
  · have h := x_f h k1
    refine lv_aload_n hx hb dX7_add_10 rfl (lv_at hl 0 rfl) ?_
    obtain ⟨q2, eq2, h⟩ := x_rf h
    obtain ⟨hLq2, hKq2⟩ := wt_q hG hL0 hK0 eq2
    have hKq2 : gK G q2 = 12 := hKq2
    refine r_getR (k := 2) cx w hL0 hK0 (by decide) rfl wi_X7_add_X7 (by decide) rfl eq2 (List.mem_of_getElem? (i := 2) rfl) dX7_add_11 ?_
    refine lv_aload_n hx hb dX7_add_14 rfl (lv_at hl 0 rfl) ?_
    refine r_getI (k := 5) (v := .int (mI M a0 5)) cx w hL0 hK0 (by decide) rfl wi_X7_add_X7 (by decide) rfl (List.mem_of_getElem? (i := 1) rfl) dX7_add_15 ?_
    refine lv_iload_n hx hb dX7_add_18 rfl (lv_at hl 1 rfl) ?_
    obtain ⟨z3, h⟩ := x_ix h
    obtain ⟨M4, eM4, h⟩ := x_wI h
    refine r_iast cx w hLq2 hKq2 z3 dX7_add_19 eM4 (fun H locs w => ?_)
    refine lv_aload_n hx hb dX7_add_20 rfl (lv_at hl 0 rfl) ?_
    obtain ⟨q5, eq5, h⟩ := x_rf h
    obtain ⟨hLq5, hKq5⟩ := wt_q hG hL0 hK0 eq5
    have hKq5 : gK G q5 = 12 := hKq5
    refine r_getR (k := 3) cx w hL0 hK0 (by decide) rfl wi_X7_add_X7 (by decide) rfl eq5 (List.mem_of_getElem? (i := 3) rfl) dX7_add_21 ?_
    refine lv_aload_n hx hb dX7_add_24 rfl (lv_at hl 0 rfl) ?_
    refine r_getI (k := 5) (v := .int (mI M4 a0 5)) cx w hL0 hK0 (by decide) rfl wi_X7_add_X7 (by decide) rfl (List.mem_of_getElem? (i := 1) rfl) dX7_add_25 ?_
    refine lv_iload_n hx hb dX7_add_28 rfl (lv_at hl 2 rfl) ?_
    obtain ⟨z6, h⟩ := x_ix h
    obtain ⟨M7, eM7, h⟩ := x_wI h
    refine r_iast cx w hLq5 hKq5 z6 dX7_add_29 eM7 (fun H locs w => ?_)
    refine lv_aload_n hx hb dX7_add_30 rfl (lv_at hl 0 rfl) ?_
    obtain ⟨q8, eq8, h⟩ := x_rf h
    obtain ⟨hLq8, hKq8⟩ := wt_q hG hL0 hK0 eq8
    have hKq8 : gK G q8 = 13 := hKq8
    refine r_getR (k := 4) cx w hL0 hK0 (by decide) rfl wi_X7_add_X7 (by decide) rfl eq8 (List.mem_of_getElem? (i := 4) rfl) dX7_add_31 ?_
    refine lv_aload_n hx hb dX7_add_34 rfl (lv_at hl 0 rfl) ?_
    refine r_getI (k := 5) (v := .int (mI M7 a0 5)) cx w hL0 hK0 (by decide) rfl wi_X7_add_X7 (by decide) rfl (List.mem_of_getElem? (i := 1) rfl) dX7_add_35 ?_
    refine lv_lload_n hx hb dX7_add_38 rfl (lv_at hl 3 rfl) ?_
    obtain ⟨z9, h⟩ := x_ix h
    obtain ⟨M10, eM10, h⟩ := x_wJ h
    refine r_last cx w hLq8 hKq8 z9 dX7_add_39 eM10 (fun H locs w => ?_)
    refine lv_aload_n hx hb dX7_add_40 rfl (lv_at hl 0 rfl) ?_
    refine lv_dup hx hb dX7_add_41 rfl ?_
    refine r_getI (k := 5) (v := .int (mI M10 a0 5)) cx w hL0 hK0 (by decide) rfl wi_X7_add_X7 (by decide) rfl (List.mem_of_getElem? (i := 1) rfl) dX7_add_42 ?_
    refine lv_iconst (v := (1 : Int32)) hx hb dX7_add_45 (by decide) ?_
    refine lv_iadd hx hb dX7_add_46 ?_
    obtain ⟨M11, eM11, h⟩ := x_wI h
    refine r_putI (k := 5) (ty := .int) cx w tyX7 tyX7_ok nmX7 hL0 hK0 (by decide) rfl wi_X7_add_X7 (by decide) rfl rfl rfl rfl st_6_5 (ln_6 _ _ (by decide)) (List.mem_of_getElem? (i := 1) rfl) dX7_add_47 eM11 (fun H locs w => ?_)
    exact r_vret cx w h dX7_add_50
-- X7_readWord
theorem wi_X7_readWord_X6 : ∀ w ∈ wsX60, w ∈ wsX7_readWord := by decide +kernel
theorem wi_X7_readWord_X7 : ∀ w ∈ wsX70, w ∈ wsX7_readWord := by decide +kernel
abbrev rmX7_readWord : Room := { frames := 2, cells := 0, slots := 0, locals := 42 }
def m_X7_readWord_67 (G : gS) (a0 : Nat) (c1 : Int32)  (M : mS) (v2 : Int64) (v4 : Int32) : Option (mS × Int32) := (if (v4 - c1) ≤ (10 : Int32) then o_cl (m_X7_kindOfWord G M a0 v2) (fun M2 r3 => o_cl (m_X7_add G M2 a0 r3 c1 v2) (fun M5 r6 => some (M5, v4))) else some (M, c1))
def m_X7_readWord_47 (G : gS) (a0 : Nat) (c1 : Int32) (kb5 : mS → Int64 → Int32 → Option (mS × Int32)) (M : mS) (v2 : Int64) (v4 : Int32) : Option (mS × Int32) := o_rf (gP G a0 0) (fun q1 => o_cl (m_X6_byteAt G M q1 v4) (fun M2 r3 => o_cl (m_X7_addSign G M2 v2 r3) (fun M5 r6 => o_bd (v4 + 1 : Int32) (fun x8 => kb5 M5 r6 x8))))
def m_X7_readWord_5 (G : gS) (a0 : Nat) (c1 : Int32)  : Nat → mS → Int64 → Int32 → Option (mS × Int32)
  | 0, _, _, _ => none
  | n + 1, M, v2, v4 => o_rf (gP G a0 0) (fun q1 => (if (mI M q1 1) ≤ v4 then m_X7_readWord_67 G a0 c1 M v2 v4 else o_rf (gP G a0 0) (fun q3 => o_cl (m_X6_byteAt G M q3 v4) (fun M4 r5 => o_cl (m_X7_isLetter G M4 r5) (fun M7 r8 => (if r8 = 0 then o_rf (gP G a0 0) (fun q11 => o_cl (m_X6_byteAt G M7 q11 v4) (fun M12 r13 => o_cl (m_X7_isDigit G M12 r13) (fun M15 r16 => (if r16 = 0 then m_X7_readWord_67 G a0 c1 M15 v2 v4 else m_X7_readWord_47 G a0 c1 (fun M v2 v4 => m_X7_readWord_5 G a0 c1 n M v2 v4) M15 v2 v4)))) else m_X7_readWord_47 G a0 c1 (fun M v2 v4 => m_X7_readWord_5 G a0 c1 n M v2 v4) M7 v2 v4))))))
def m_X7_readWord (G : gS) (M : mS) (a0 : Nat) (c1 : Int32) : Option (mS × Int32) := m_X7_readWord_5 G a0 c1 fu M ((0 : Int64)) c1
set_option maxHeartbeats 4000000 in
set_option maxRecDepth 100000 in
theorem b_X7_readWord_67 {p : Program} {e : Env} {s : State} {m : MethodId} {args : Array Value} {below : List Frame} {meth : Method} {c : Code} {A : Nat → Prop} {l : Launch} {D : va_G} {cy : cyS} {G : gS} (cx : cX p s m args meth c cX7_readWord RX7 5 (some .int) wsX7_readWord D cy G A) {k0 n0 : Nat} (hkn : k0 ≤ (rmX7_readWord).cells ∧ n0 ≤ (rmX7_readWord).slots) {M' : mS} {r : Int32} {a0 : Nat} {c1 : Int32} (hL0 : a0 ∈ gL G) (hK0 : gK G a0 = 6)  : ∀ (M : mS) (v2 : Int64) (v4 : Int32) (H : Heap) (locs : List Loc) (ls : Array Slot), m_X7_readWord_67 G a0 c1 M v2 v4 = some (M', r) → wd D cy G M A s.heap H locs → lv_has ls 5 [(0, .ref a0), (1, .int c1), (2, .long v2), (4, .int v4)] → W p l e rmX7_readWord s m args below meth c H locs k0 n0 (MQ below (va_Qi (fun (r' : Int32) (_ : Unit) => r' = r) (fun _ t => wOut D cy G M' t) A) args s k0 n0 A) (F0 m 67 ls []) := by
  obtain ⟨hx, hb, hml, hown, hts, hr, hlocks, hK, hA, hG, hsx⟩ := id cx
  intro M v2 v4 H locs ls h w hl
  unfold m_X7_readWord_67 at h
  refine lv_iload hx hb dX7_readWord_67 (lv_at hl 3 rfl) ?_
  refine lv_iload_n hx hb dX7_readWord_69 rfl (lv_at hl 1 rfl) ?_
  refine lv_isub hx hb dX7_readWord_70 ?_
  refine lv_bipush (v := (10 : Int32)) hx hb dX7_readWord_71 (by decide) ?_
  refine lv_icmp_le (tgt := 78) hx hb dX7_readWord_73 (by decide) (fun k1 => ?_) (fun k1 => ?_)
  · have h := x_t h k1
    refine lv_aload_n hx hb dX7_readWord_78 rfl (lv_at hl 0 rfl) ?_
    refine lv_aload_n hx hb dX7_readWord_79 rfl (lv_at hl 0 rfl) ?_
    refine lv_lload_n hx hb dX7_readWord_80 rfl (lv_at hl 2 rfl) ?_
    obtain ⟨M2, r3, y4, h⟩ := x_cl h
    refine r_callVi (As := [.long v2]) (rest := [.ref a0]) cx w hkn hl.1 (k_X7_kindOfWord hG hL0 hK0 y4) (cwV 1 hts gX7_readWord_X7_kindOfWord rfl rfl rfl (by decide +kernel) ⟨Nat.le_of_ble_eq_true rfl, Nat.le_of_ble_eq_true rfl⟩) hL0 hK0 (by decide) rfl rfl rfl (Nat.le_of_ble_eq_true rfl) dX7_readWord_81 (fun H locs w => ?_)
    refine lv_iload_n hx hb dX7_readWord_84 rfl (lv_at hl 1 rfl) ?_
    refine lv_lload_n hx hb dX7_readWord_85 rfl (lv_at hl 2 rfl) ?_
    obtain ⟨M5, r6, y7, h⟩ := x_cl h
    refine r_callVv (As := [.int r3, .int c1, .long v2]) (rest := []) cx w hkn hl.1 (k_X7_add hG hL0 hK0 y7) (cwV 3 hts gX7_readWord_X7_add rfl rfl rfl (by decide +kernel) ⟨Nat.le_of_ble_eq_true rfl, Nat.le_of_ble_eq_true rfl⟩) hL0 hK0 (by decide) rfl rfl rfl (Nat.le_of_ble_eq_true rfl) dX7_readWord_86 (fun H locs w => ?_)
    refine lv_iload hx hb dX7_readWord_89 (lv_at hl 3 rfl) ?_
    exact r_iret cx w h dX7_readWord_91
  · have h := x_f h k1
    refine lv_iload_n hx hb dX7_readWord_76 rfl (lv_at hl 1 rfl) ?_
    exact r_iret cx w h dX7_readWord_77
set_option maxHeartbeats 4000000 in
set_option maxRecDepth 100000 in
theorem b_X7_readWord_47 {p : Program} {e : Env} {s : State} {m : MethodId} {args : Array Value} {below : List Frame} {meth : Method} {c : Code} {A : Nat → Prop} {l : Launch} {D : va_G} {cy : cyS} {G : gS} (cx : cX p s m args meth c cX7_readWord RX7 5 (some .int) wsX7_readWord D cy G A) {k0 n0 : Nat} (hkn : k0 ≤ (rmX7_readWord).cells ∧ n0 ≤ (rmX7_readWord).slots) {M' : mS} {r : Int32} {a0 : Nat} {c1 : Int32} (hL0 : a0 ∈ gL G) (hK0 : gK G a0 = 6) {kb5 : mS → Int64 → Int32 → Option (mS × Int32)} (hkb5 : ∀ (M : mS) (v2 : Int64) (v4 : Int32) (H : Heap) (locs : List Loc) (ls : Array Slot), kb5 M v2 v4 = some (M', r) → wd D cy G M A s.heap H locs → lv_has ls 5 [(0, .ref a0), (1, .int c1), (2, .long v2), (4, .int v4)] → W p l e rmX7_readWord s m args below meth c H locs k0 n0 (MQ below (va_Qi (fun (r' : Int32) (_ : Unit) => r' = r) (fun _ t => wOut D cy G M' t) A) args s k0 n0 A) (F0 m 5 ls [])) : ∀ (M : mS) (v2 : Int64) (v4 : Int32) (H : Heap) (locs : List Loc) (ls : Array Slot), m_X7_readWord_47 G a0 c1 kb5 M v2 v4 = some (M', r) → wd D cy G M A s.heap H locs → lv_has ls 5 [(0, .ref a0), (1, .int c1), (2, .long v2), (4, .int v4)] → W p l e rmX7_readWord s m args below meth c H locs k0 n0 (MQ below (va_Qi (fun (r' : Int32) (_ : Unit) => r' = r) (fun _ t => wOut D cy G M' t) A) args s k0 n0 A) (F0 m 47 ls []) := by
  obtain ⟨hx, hb, hml, hown, hts, hr, hlocks, hK, hA, hG, hsx⟩ := id cx
  intro M v2 v4 H locs ls h w hl
  unfold m_X7_readWord_47 at h
  refine lv_lload_n hx hb dX7_readWord_47 rfl (lv_at hl 2 rfl) ?_
  refine lv_aload_n hx hb dX7_readWord_48 rfl (lv_at hl 0 rfl) ?_
  obtain ⟨q1, eq1, h⟩ := x_rf h
  obtain ⟨hLq1, hKq1⟩ := wt_q hG hL0 hK0 eq1
  have hKq1 : gK G q1 = 5 := hKq1
  refine r_getR (k := 0) cx w hL0 hK0 (by decide) rfl wi_X7_readWord_X7 (by decide) rfl eq1 (List.mem_of_getElem? (i := 1) rfl) dX7_readWord_49 ?_
  refine lv_iload hx hb dX7_readWord_52 (lv_at hl 3 rfl) ?_
  obtain ⟨M2, r3, y4, h⟩ := x_cl h
  refine r_callVi (As := [.int v4]) (rest := [.long v2]) cx w hkn hl.1 (k_X6_byteAt hG hLq1 hKq1 y4) (cwV 1 hts gX7_readWord_X6_byteAt rfl rfl rfl (by decide +kernel) ⟨Nat.le_of_ble_eq_true rfl, Nat.le_of_ble_eq_true rfl⟩) hLq1 hKq1 (by decide) rfl rfl rfl (Nat.le_of_ble_eq_true rfl) dX7_readWord_54 (fun H locs w => ?_)
  obtain ⟨M5, r6, y7, h⟩ := x_cl h
  refine r_callSl (As := [.long v2, .int r3]) (rest := []) cx w hkn hl.1 (k_X7_addSign hG y7) (va_cwS 2 hts gX7_readWord_X7_addSign rfl rfl rfl (by decide +kernel) ⟨Nat.le_of_ble_eq_true rfl, Nat.le_of_ble_eq_true rfl⟩) rfl rfl (Nat.le_of_ble_eq_true rfl) dX7_readWord_57 (fun H locs w => ?_)
  refine lv_lstore_n (lv' := [(2, .long r6), (0, .ref a0), (1, .int c1), (4, .int v4)]) hx hb dX7_readWord_60 rfl hl (by decide) rfl (fun ls hl => ?_)
  obtain ⟨x8, ex8, h⟩ := x_bd h
  refine lv_iinc (v := x8) (lv' := [(4, .int x8), (2, .long r6), (0, .ref a0), (1, .int c1)]) hx hb dX7_readWord_61 hl (k := 3) rfl (by rw [ex8]; rfl) (by decide) rfl (fun ls hl => ?_)
  refine lv_goto (tgt := 5) hx hb dX7_readWord_64 (by decide) ?_
  exact hkb5 M5 r6 x8 H locs ls h w (lv_sub hl [2, 3, 1, 0] rfl)
set_option maxHeartbeats 4000000 in
set_option maxRecDepth 100000 in
theorem b_X7_readWord_5 {p : Program} {e : Env} {s : State} {m : MethodId} {args : Array Value} {below : List Frame} {meth : Method} {c : Code} {A : Nat → Prop} {l : Launch} {D : va_G} {cy : cyS} {G : gS} (cx : cX p s m args meth c cX7_readWord RX7 5 (some .int) wsX7_readWord D cy G A) {k0 n0 : Nat} (hkn : k0 ≤ (rmX7_readWord).cells ∧ n0 ≤ (rmX7_readWord).slots) {M' : mS} {r : Int32} {a0 : Nat} {c1 : Int32} (hL0 : a0 ∈ gL G) (hK0 : gK G a0 = 6)  : ∀ (n : Nat), ∀ (M : mS) (v2 : Int64) (v4 : Int32) (H : Heap) (locs : List Loc) (ls : Array Slot), m_X7_readWord_5 G a0 c1 n M v2 v4 = some (M', r) → wd D cy G M A s.heap H locs → lv_has ls 5 [(0, .ref a0), (1, .int c1), (2, .long v2), (4, .int v4)] → W p l e rmX7_readWord s m args below meth c H locs k0 n0 (MQ below (va_Qi (fun (r' : Int32) (_ : Unit) => r' = r) (fun _ t => wOut D cy G M' t) A) args s k0 n0 A) (F0 m 5 ls []) := by
  obtain ⟨hx, hb, hml, hown, hts, hr, hlocks, hK, hA, hG, hsx⟩ := id cx
  intro n
  induction n with
  | zero =>
    intro M v2 v4 H locs ls h w hl
    have h : none = some _ := h
    cases h
  | succ n ih =>
    intro M v2 v4 H locs ls h w hl
    rw [m_X7_readWord_5] at h
    refine lv_iload hx hb dX7_readWord_5 (lv_at hl 3 rfl) ?_
    refine lv_aload_n hx hb dX7_readWord_7 rfl (lv_at hl 0 rfl) ?_
    obtain ⟨q1, eq1, h⟩ := x_rf h
    obtain ⟨hLq1, hKq1⟩ := wt_q hG hL0 hK0 eq1
    have hKq1 : gK G q1 = 5 := hKq1
    refine r_getR (k := 0) cx w hL0 hK0 (by decide) rfl wi_X7_readWord_X7 (by decide) rfl eq1 (List.mem_of_getElem? (i := 1) rfl) dX7_readWord_8 ?_
    refine r_getI (k := 1) (v := .int (mI M q1 1)) cx w hLq1 hKq1 (by decide) rfl wi_X7_readWord_X6 (by decide) rfl (List.mem_of_getElem? (i := 2) rfl) dX7_readWord_11 ?_
    refine lv_icmp_ge (tgt := 67) hx hb dX7_readWord_14 (by decide) (fun k2 => ?_) (fun k2 => ?_)
    · have h := x_t h k2
      exact b_X7_readWord_67 cx hkn hL0 hK0 M v2 v4 H locs ls h w (lv_sub hl [0, 1, 2, 3] rfl)
    · have h := x_f h k2
      refine lv_aload_n hx hb dX7_readWord_17 rfl (lv_at hl 0 rfl) ?_
      obtain ⟨q3, eq3, h⟩ := x_rf h
      obtain ⟨hLq3, hKq3⟩ := wt_q hG hL0 hK0 eq3
      have hKq3 : gK G q3 = 5 := hKq3
      refine r_getR (k := 0) cx w hL0 hK0 (by decide) rfl wi_X7_readWord_X7 (by decide) rfl eq3 (List.mem_of_getElem? (i := 1) rfl) dX7_readWord_18 ?_
      refine lv_iload hx hb dX7_readWord_21 (lv_at hl 3 rfl) ?_
      obtain ⟨M4, r5, y6, h⟩ := x_cl h
      refine r_callVi (As := [.int v4]) (rest := []) cx w hkn hl.1 (k_X6_byteAt hG hLq3 hKq3 y6) (cwV 1 hts gX7_readWord_X6_byteAt rfl rfl rfl (by decide +kernel) ⟨Nat.le_of_ble_eq_true rfl, Nat.le_of_ble_eq_true rfl⟩) hLq3 hKq3 (by decide) rfl rfl rfl (Nat.le_of_ble_eq_true rfl) dX7_readWord_23 (fun H locs w => ?_)
      obtain ⟨M7, r8, y9, h⟩ := x_cl h
      refine r_callSi (As := [.int r5]) (rest := []) cx w hkn hl.1 (k_X7_isLetter hG y9) (va_cwS 1 hts gX7_readWord_X7_isLetter rfl rfl rfl (by decide +kernel) ⟨Nat.le_of_ble_eq_true rfl, Nat.le_of_ble_eq_true rfl⟩) rfl rfl (Nat.le_of_ble_eq_true rfl) dX7_readWord_26 (fun H locs w => ?_)
      refine lv_if_ne (tgt := 47) hx hb dX7_readWord_29 (by decide) (fun k10 => ?_) (fun k10 => ?_)
      · have h := x_f h k10
        exact b_X7_readWord_47 cx hkn hL0 hK0 (hkb5 := ih) M7 v2 v4 H locs ls h w (lv_sub hl [0, 1, 2, 3] rfl)
      · have h := x_t h k10
        refine lv_aload_n hx hb dX7_readWord_32 rfl (lv_at hl 0 rfl) ?_
        obtain ⟨q11, eq11, h⟩ := x_rf h
        obtain ⟨hLq11, hKq11⟩ := wt_q hG hL0 hK0 eq11
        have hKq11 : gK G q11 = 5 := hKq11
        refine r_getR (k := 0) cx w hL0 hK0 (by decide) rfl wi_X7_readWord_X7 (by decide) rfl eq11 (List.mem_of_getElem? (i := 1) rfl) dX7_readWord_33 ?_
        refine lv_iload hx hb dX7_readWord_36 (lv_at hl 3 rfl) ?_
        obtain ⟨M12, r13, y14, h⟩ := x_cl h
        refine r_callVi (As := [.int v4]) (rest := []) cx w hkn hl.1 (k_X6_byteAt hG hLq11 hKq11 y14) (cwV 1 hts gX7_readWord_X6_byteAt rfl rfl rfl (by decide +kernel) ⟨Nat.le_of_ble_eq_true rfl, Nat.le_of_ble_eq_true rfl⟩) hLq11 hKq11 (by decide) rfl rfl rfl (Nat.le_of_ble_eq_true rfl) dX7_readWord_38 (fun H locs w => ?_)
        obtain ⟨M15, r16, y17, h⟩ := x_cl h
        refine r_callSi (As := [.int r13]) (rest := []) cx w hkn hl.1 (k_X7_isDigit hG y17) (va_cwS 1 hts gX7_readWord_X7_isDigit rfl rfl rfl (by decide +kernel) ⟨Nat.le_of_ble_eq_true rfl, Nat.le_of_ble_eq_true rfl⟩) rfl rfl (Nat.le_of_ble_eq_true rfl) dX7_readWord_41 (fun H locs w => ?_)
        refine lv_if_eq (tgt := 67) hx hb dX7_readWord_44 (by decide) (fun k18 => ?_) (fun k18 => ?_)
        · have h := x_t h k18
          exact b_X7_readWord_67 cx hkn hL0 hK0 M15 v2 v4 H locs ls h w (lv_sub hl [0, 1, 2, 3] rfl)
        · have h := x_f h k18
          exact b_X7_readWord_47 cx hkn hL0 hK0 (hkb5 := ih) M15 v2 v4 H locs ls h w (lv_sub hl [0, 1, 2, 3] rfl)
set_option maxHeartbeats 4000000 in
set_option maxRecDepth 100000 in
theorem k_X7_readWord {l : Launch} {D : va_G} {cy : cyS} {G : gS} {M M' : mS} {r : Int32} {a0 : Nat} {c1 : Int32} (hG : wt G) (hL0 : a0 ∈ gL G) (hK0 : gK G a0 = 6) (h : m_X7_readWord G M a0 c1 = some (M', r)) : ctI l yX7_readWord wsX7_readWord rmX7_readWord D cy G M [.ref a0, .int c1] M' r := by
  unfold m_X7_readWord at h
  refine ctI_of (cc := cX7_readWord) (nL := 5) (ret := (some .int)) (lv := [(0, .ref a0), (1, .int c1)]) hG (by decide) rfl ⟨rfl, rfl⟩ (Nat.le_of_ble_eq_true rfl) rfl ?_
  intro p e s m args below meth c A ls cx w hl
  obtain ⟨hx, hb, hml, hown, hts, hr, hlocks, hK, hA, -, hsx⟩ := id cx
  have hkn : 0 ≤ (rmX7_readWord).cells ∧ 0 ≤ (rmX7_readWord).slots := ⟨Nat.zero_le _, Nat.zero_le _⟩
  refine lv_lconst (v := 0) hx hb dX7_readWord_0 (by decide) ?_
  refine lv_lstore_n (lv' := [(2, .long ((0 : Int64))), (0, .ref a0), (1, .int c1)]) hx hb dX7_readWord_1 rfl hl (by decide) rfl (fun ls hl => ?_)
  refine lv_iload_n hx hb dX7_readWord_2 rfl (lv_at hl 2 rfl) ?_
  refine lv_istore (lv' := [(4, .int c1), (2, .long ((0 : Int64))), (0, .ref a0), (1, .int c1)]) hx hb dX7_readWord_3 hl (by decide) rfl (fun ls hl => ?_)
  exact b_X7_readWord_5 cx hkn hL0 hK0 fu M ((0 : Int64)) c1 s.heap [] ls h w (lv_sub hl [2, 3, 1, 0] rfl)
-- X7_readNumber
theorem wi_X7_readNumber_X6 : ∀ w ∈ wsX60, w ∈ wsX7_readNumber := by decide +kernel
theorem wi_X7_readNumber_X7 : ∀ w ∈ wsX70, w ∈ wsX7_readNumber := by decide +kernel
abbrev rmX7_readNumber : Room := { frames := 1, cells := 0, slots := 0, locals := 24 }
def m_X7_readNumber_59 (G : gS) (a0 : Nat) (c1 : Int32)  (M : mS) (v2 : Int64) (v4 : Int32) : Option (mS × Int32) := (if (v4 - c1) ≤ (6 : Int32) then o_cl (m_X7_add G M a0 (3 : Int32) c1 v2) (fun M2 r3 => some (M2, v4)) else some (M, c1))
def m_X7_readNumber_5 (G : gS) (a0 : Nat) (c1 : Int32)  : Nat → mS → Int64 → Int32 → Option (mS × Int32)
  | 0, _, _, _ => none
  | n + 1, M, v2, v4 => o_rf (gP G a0 0) (fun q1 => (if (mI M q1 1) ≤ v4 then m_X7_readNumber_59 G a0 c1 M v2 v4 else o_rf (gP G a0 0) (fun q3 => o_cl (m_X6_byteAt G M q3 v4) (fun M4 r5 => o_cl (m_X7_isDigit G M4 r5) (fun M7 r8 => (if r8 = 0 then m_X7_readNumber_59 G a0 c1 M7 v2 v4 else o_rf (gP G a0 0) (fun q11 => o_cl (m_X6_byteAt G M7 q11 v4) (fun M12 r13 => o_bd ((((v2 * (10 : Int64)) + (Int32.toInt64 r13)) - (48 : Int64))) (fun x15 => o_bd (v4 + 1 : Int32) (fun x16 => m_X7_readNumber_5 G a0 c1 n M12 x15 x16))))))))))
def m_X7_readNumber (G : gS) (M : mS) (a0 : Nat) (c1 : Int32) : Option (mS × Int32) := m_X7_readNumber_5 G a0 c1 fu M ((0 : Int64)) c1
set_option maxHeartbeats 4000000 in
set_option maxRecDepth 100000 in
theorem b_X7_readNumber_59 {p : Program} {e : Env} {s : State} {m : MethodId} {args : Array Value} {below : List Frame} {meth : Method} {c : Code} {A : Nat → Prop} {l : Launch} {D : va_G} {cy : cyS} {G : gS} (cx : cX p s m args meth c cX7_readNumber RX7 5 (some .int) wsX7_readNumber D cy G A) {k0 n0 : Nat} (hkn : k0 ≤ (rmX7_readNumber).cells ∧ n0 ≤ (rmX7_readNumber).slots) {M' : mS} {r : Int32} {a0 : Nat} {c1 : Int32} (hL0 : a0 ∈ gL G) (hK0 : gK G a0 = 6)  : ∀ (M : mS) (v2 : Int64) (v4 : Int32) (H : Heap) (locs : List Loc) (ls : Array Slot), m_X7_readNumber_59 G a0 c1 M v2 v4 = some (M', r) → wd D cy G M A s.heap H locs → lv_has ls 5 [(0, .ref a0), (1, .int c1), (2, .long v2), (4, .int v4)] → W p l e rmX7_readNumber s m args below meth c H locs k0 n0 (MQ below (va_Qi (fun (r' : Int32) (_ : Unit) => r' = r) (fun _ t => wOut D cy G M' t) A) args s k0 n0 A) (F0 m 59 ls []) := by
  obtain ⟨hx, hb, hml, hown, hts, hr, hlocks, hK, hA, hG, hsx⟩ := id cx
  intro M v2 v4 H locs ls h w hl
  unfold m_X7_readNumber_59 at h
  refine lv_iload hx hb dX7_readNumber_59 (lv_at hl 3 rfl) ?_
  refine lv_iload_n hx hb dX7_readNumber_61 rfl (lv_at hl 1 rfl) ?_
  refine lv_isub hx hb dX7_readNumber_62 ?_
  refine lv_bipush (v := (6 : Int32)) hx hb dX7_readNumber_63 (by decide) ?_
  refine lv_icmp_le (tgt := 70) hx hb dX7_readNumber_65 (by decide) (fun k1 => ?_) (fun k1 => ?_)
  · have h := x_t h k1
    refine lv_aload_n hx hb dX7_readNumber_70 rfl (lv_at hl 0 rfl) ?_
    refine lv_iconst (v := (3 : Int32)) hx hb dX7_readNumber_71 (by decide) ?_
    refine lv_iload_n hx hb dX7_readNumber_72 rfl (lv_at hl 1 rfl) ?_
    refine lv_lload_n hx hb dX7_readNumber_73 rfl (lv_at hl 2 rfl) ?_
    obtain ⟨M2, r3, y4, h⟩ := x_cl h
    refine r_callVv (As := [.int ((3 : Int32)), .int c1, .long v2]) (rest := []) cx w hkn hl.1 (k_X7_add hG hL0 hK0 y4) (cwV 3 hts gX7_readNumber_X7_add rfl rfl rfl (by decide +kernel) ⟨Nat.le_of_ble_eq_true rfl, Nat.le_of_ble_eq_true rfl⟩) hL0 hK0 (by decide) rfl rfl rfl (Nat.le_of_ble_eq_true rfl) dX7_readNumber_74 (fun H locs w => ?_)
    refine lv_iload hx hb dX7_readNumber_77 (lv_at hl 3 rfl) ?_
    exact r_iret cx w h dX7_readNumber_79
  · have h := x_f h k1
    refine lv_iload_n hx hb dX7_readNumber_68 rfl (lv_at hl 1 rfl) ?_
    exact r_iret cx w h dX7_readNumber_69
set_option maxHeartbeats 4000000 in
set_option maxRecDepth 100000 in
theorem b_X7_readNumber_5 {p : Program} {e : Env} {s : State} {m : MethodId} {args : Array Value} {below : List Frame} {meth : Method} {c : Code} {A : Nat → Prop} {l : Launch} {D : va_G} {cy : cyS} {G : gS} (cx : cX p s m args meth c cX7_readNumber RX7 5 (some .int) wsX7_readNumber D cy G A) {k0 n0 : Nat} (hkn : k0 ≤ (rmX7_readNumber).cells ∧ n0 ≤ (rmX7_readNumber).slots) {M' : mS} {r : Int32} {a0 : Nat} {c1 : Int32} (hL0 : a0 ∈ gL G) (hK0 : gK G a0 = 6)  : ∀ (n : Nat), ∀ (M : mS) (v2 : Int64) (v4 : Int32) (H : Heap) (locs : List Loc) (ls : Array Slot), m_X7_readNumber_5 G a0 c1 n M v2 v4 = some (M', r) → wd D cy G M A s.heap H locs → lv_has ls 5 [(0, .ref a0), (1, .int c1), (2, .long v2), (4, .int v4)] → W p l e rmX7_readNumber s m args below meth c H locs k0 n0 (MQ below (va_Qi (fun (r' : Int32) (_ : Unit) => r' = r) (fun _ t => wOut D cy G M' t) A) args s k0 n0 A) (F0 m 5 ls []) := by
  obtain ⟨hx, hb, hml, hown, hts, hr, hlocks, hK, hA, hG, hsx⟩ := id cx
  intro n
  induction n with
  | zero =>
    intro M v2 v4 H locs ls h w hl
    have h : none = some _ := h
    cases h
  | succ n ih =>
    intro M v2 v4 H locs ls h w hl
    rw [m_X7_readNumber_5] at h
    refine lv_iload hx hb dX7_readNumber_5 (lv_at hl 3 rfl) ?_
    refine lv_aload_n hx hb dX7_readNumber_7 rfl (lv_at hl 0 rfl) ?_
    obtain ⟨q1, eq1, h⟩ := x_rf h
    obtain ⟨hLq1, hKq1⟩ := wt_q hG hL0 hK0 eq1
    have hKq1 : gK G q1 = 5 := hKq1
    refine r_getR (k := 0) cx w hL0 hK0 (by decide) rfl wi_X7_readNumber_X7 (by decide) rfl eq1 (List.mem_of_getElem? (i := 1) rfl) dX7_readNumber_8 ?_
    refine r_getI (k := 1) (v := .int (mI M q1 1)) cx w hLq1 hKq1 (by decide) rfl wi_X7_readNumber_X6 (by decide) rfl (List.mem_of_getElem? (i := 2) rfl) dX7_readNumber_11 ?_
    refine lv_icmp_ge (tgt := 59) hx hb dX7_readNumber_14 (by decide) (fun k2 => ?_) (fun k2 => ?_)
    · have h := x_t h k2
      exact b_X7_readNumber_59 cx hkn hL0 hK0 M v2 v4 H locs ls h w (lv_sub hl [0, 1, 2, 3] rfl)
    · have h := x_f h k2
      refine lv_aload_n hx hb dX7_readNumber_17 rfl (lv_at hl 0 rfl) ?_
      obtain ⟨q3, eq3, h⟩ := x_rf h
      obtain ⟨hLq3, hKq3⟩ := wt_q hG hL0 hK0 eq3
      have hKq3 : gK G q3 = 5 := hKq3
      refine r_getR (k := 0) cx w hL0 hK0 (by decide) rfl wi_X7_readNumber_X7 (by decide) rfl eq3 (List.mem_of_getElem? (i := 1) rfl) dX7_readNumber_18 ?_
      refine lv_iload hx hb dX7_readNumber_21 (lv_at hl 3 rfl) ?_
      obtain ⟨M4, r5, y6, h⟩ := x_cl h
      refine r_callVi (As := [.int v4]) (rest := []) cx w hkn hl.1 (k_X6_byteAt hG hLq3 hKq3 y6) (cwV 1 hts gX7_readNumber_X6_byteAt rfl rfl rfl (by decide +kernel) ⟨Nat.le_of_ble_eq_true rfl, Nat.le_of_ble_eq_true rfl⟩) hLq3 hKq3 (by decide) rfl rfl rfl (Nat.le_of_ble_eq_true rfl) dX7_readNumber_23 (fun H locs w => ?_)
      obtain ⟨M7, r8, y9, h⟩ := x_cl h
      refine r_callSi (As := [.int r5]) (rest := []) cx w hkn hl.1 (k_X7_isDigit hG y9) (va_cwS 1 hts gX7_readNumber_X7_isDigit rfl rfl rfl (by decide +kernel) ⟨Nat.le_of_ble_eq_true rfl, Nat.le_of_ble_eq_true rfl⟩) rfl rfl (Nat.le_of_ble_eq_true rfl) dX7_readNumber_26 (fun H locs w => ?_)
      refine lv_if_eq (tgt := 59) hx hb dX7_readNumber_29 (by decide) (fun k10 => ?_) (fun k10 => ?_)
      · have h := x_t h k10
        exact b_X7_readNumber_59 cx hkn hL0 hK0 M7 v2 v4 H locs ls h w (lv_sub hl [0, 1, 2, 3] rfl)
      · have h := x_f h k10
        refine lv_lload_n hx hb dX7_readNumber_32 rfl (lv_at hl 2 rfl) ?_
        refine lv_ldc2 (v := 10) hx hb hown (hts (.constantLong RX7 97 (10)) (List.mem_of_getElem? (i := 3) rfl)) dX7_readNumber_33 ?_
        refine lv_lmul hx hb dX7_readNumber_36 ?_
        refine lv_aload_n hx hb dX7_readNumber_37 rfl (lv_at hl 0 rfl) ?_
        obtain ⟨q11, eq11, h⟩ := x_rf h
        obtain ⟨hLq11, hKq11⟩ := wt_q hG hL0 hK0 eq11
        have hKq11 : gK G q11 = 5 := hKq11
        refine r_getR (k := 0) cx w hL0 hK0 (by decide) rfl wi_X7_readNumber_X7 (by decide) rfl eq11 (List.mem_of_getElem? (i := 1) rfl) dX7_readNumber_38 ?_
        refine lv_iload hx hb dX7_readNumber_41 (lv_at hl 3 rfl) ?_
        obtain ⟨M12, r13, y14, h⟩ := x_cl h
        refine r_callVi (As := [.int v4]) (rest := [.long ((v2 * (10 : Int64)))]) cx w hkn hl.1 (k_X6_byteAt hG hLq11 hKq11 y14) (cwV 1 hts gX7_readNumber_X6_byteAt rfl rfl rfl (by decide +kernel) ⟨Nat.le_of_ble_eq_true rfl, Nat.le_of_ble_eq_true rfl⟩) hLq11 hKq11 (by decide) rfl rfl rfl (Nat.le_of_ble_eq_true rfl) dX7_readNumber_43 (fun H locs w => ?_)
        refine lv_i2l (v := (Int32.toInt64 r13)) hx hb dX7_readNumber_46 rfl ?_
        refine lv_ladd hx hb dX7_readNumber_47 ?_
        refine lv_ldc2 (v := 48) hx hb hown (hts (.constantLong RX7 99 (48)) (List.mem_of_getElem? (i := 4) rfl)) dX7_readNumber_48 ?_
        refine lv_lsub hx hb dX7_readNumber_51 ?_
        obtain ⟨x15, ex15, h⟩ := x_bd h
        refine r_topJ ex15 ?_
        refine lv_lstore_n (lv' := [(2, .long x15), (0, .ref a0), (1, .int c1), (4, .int v4)]) hx hb dX7_readNumber_52 rfl hl (by decide) rfl (fun ls hl => ?_)
        obtain ⟨x16, ex16, h⟩ := x_bd h
        refine lv_iinc (v := x16) (lv' := [(4, .int x16), (2, .long x15), (0, .ref a0), (1, .int c1)]) hx hb dX7_readNumber_53 hl (k := 3) rfl (by rw [ex16]; rfl) (by decide) rfl (fun ls hl => ?_)
        refine lv_goto (tgt := 5) hx hb dX7_readNumber_56 (by decide) ?_
        exact ih M12 x15 x16 H locs ls h w (lv_sub hl [2, 3, 1, 0] rfl)
set_option maxHeartbeats 4000000 in
set_option maxRecDepth 100000 in
theorem k_X7_readNumber {l : Launch} {D : va_G} {cy : cyS} {G : gS} {M M' : mS} {r : Int32} {a0 : Nat} {c1 : Int32} (hG : wt G) (hL0 : a0 ∈ gL G) (hK0 : gK G a0 = 6) (h : m_X7_readNumber G M a0 c1 = some (M', r)) : ctI l yX7_readNumber wsX7_readNumber rmX7_readNumber D cy G M [.ref a0, .int c1] M' r := by
  unfold m_X7_readNumber at h
  refine ctI_of (cc := cX7_readNumber) (nL := 5) (ret := (some .int)) (lv := [(0, .ref a0), (1, .int c1)]) hG (by decide) rfl ⟨rfl, rfl⟩ (Nat.le_of_ble_eq_true rfl) rfl ?_
  intro p e s m args below meth c A ls cx w hl
  obtain ⟨hx, hb, hml, hown, hts, hr, hlocks, hK, hA, -, hsx⟩ := id cx
  have hkn : 0 ≤ (rmX7_readNumber).cells ∧ 0 ≤ (rmX7_readNumber).slots := ⟨Nat.zero_le _, Nat.zero_le _⟩
  refine lv_lconst (v := 0) hx hb dX7_readNumber_0 (by decide) ?_
  refine lv_lstore_n (lv' := [(2, .long ((0 : Int64))), (0, .ref a0), (1, .int c1)]) hx hb dX7_readNumber_1 rfl hl (by decide) rfl (fun ls hl => ?_)
  refine lv_iload_n hx hb dX7_readNumber_2 rfl (lv_at hl 2 rfl) ?_
  refine lv_istore (lv' := [(4, .int c1), (2, .long ((0 : Int64))), (0, .ref a0), (1, .int c1)]) hx hb dX7_readNumber_3 hl (by decide) rfl (fun ls hl => ?_)
  exact b_X7_readNumber_5 cx hkn hL0 hK0 fu M ((0 : Int64)) c1 s.heap [] ls h w (lv_sub hl [2, 3, 1, 0] rfl)
-- X7_readSymbol
theorem wi_X7_readSymbol_X7 : ∀ w ∈ wsX70, w ∈ wsX7_readSymbol := by decide +kernel
abbrev rmX7_readSymbol : Room := { frames := 1, cells := 0, slots := 0, locals := 24 }
def m_X7_readSymbol_263 (G : gS) (a0 : Nat) (c1 : Int32) (c2 : Int32)  (M : mS) (s1 : Int32) : Option (mS × Int32) := o_cl (m_X7_add G M a0 s1 c1 (0 : Int64)) (fun M1 r2 => some (M1, (c1 + (2 : Int32))))
def m_X7_readSymbol (G : gS) (M : mS) (a0 : Nat) (c1 : Int32) (c2 : Int32) : Option (mS × Int32) := (if c2 = 40 then o_cl (m_X7_add G M a0 c2 c1 (0 : Int64)) (fun M2 r3 => some (M2, (c1 + (1 : Int32)))) else if c2 = 41 then o_cl (m_X7_add G M a0 c2 c1 (0 : Int64)) (fun M6 r7 => some (M6, (c1 + (1 : Int32)))) else if c2 = 42 then o_cl (m_X7_add G M a0 c2 c1 (0 : Int64)) (fun M10 r11 => some (M10, (c1 + (1 : Int32)))) else if c2 = 43 then o_cl (m_X7_add G M a0 c2 c1 (0 : Int64)) (fun M14 r15 => some (M14, (c1 + (1 : Int32)))) else if c2 = 44 then o_cl (m_X7_add G M a0 c2 c1 (0 : Int64)) (fun M18 r19 => some (M18, (c1 + (1 : Int32)))) else if c2 = 45 then o_cl (m_X7_add G M a0 c2 c1 (0 : Int64)) (fun M22 r23 => some (M22, (c1 + (1 : Int32)))) else if c2 = 46 then some (M, c1) else if c2 = 47 then o_cl (m_X7_add G M a0 c2 c1 (0 : Int64)) (fun M27 r28 => some (M27, (c1 + (1 : Int32)))) else if c2 = 48 then some (M, c1) else if c2 = 49 then some (M, c1) else if c2 = 50 then some (M, c1) else if c2 = 51 then some (M, c1) else if c2 = 52 then some (M, c1) else if c2 = 53 then some (M, c1) else if c2 = 54 then some (M, c1) else if c2 = 55 then some (M, c1) else if c2 = 56 then some (M, c1) else if c2 = 57 then some (M, c1) else if c2 = 58 then some (M, c1) else if c2 = 59 then o_cl (m_X7_add G M a0 c2 c1 (0 : Int64)) (fun M42 r43 => some (M42, (c1 + (1 : Int32)))) else if c2 = 60 then o_rf (gP G a0 0) (fun q46 => o_cl (m_X6_byteAt G M q46 (c1 + (1 : Int32))) (fun M47 r48 => (if r48 = (61 : Int32) then (if c2 = (60 : Int32) then m_X7_readSymbol_263 G a0 c1 c2 M47 ((128 : Int32)) else m_X7_readSymbol_263 G a0 c1 c2 M47 ((129 : Int32))) else o_cl (m_X7_add G M47 a0 c2 c1 (0 : Int64)) (fun M51 r52 => some (M51, (c1 + (1 : Int32))))))) else if c2 = 61 then o_cl (m_X7_add G M a0 c2 c1 (0 : Int64)) (fun M56 r57 => some (M56, (c1 + (1 : Int32)))) else if c2 = 62 then o_rf (gP G a0 0) (fun q60 => o_cl (m_X6_byteAt G M q60 (c1 + (1 : Int32))) (fun M61 r62 => (if r62 = (61 : Int32) then (if c2 = (60 : Int32) then m_X7_readSymbol_263 G a0 c1 c2 M61 ((128 : Int32)) else m_X7_readSymbol_263 G a0 c1 c2 M61 ((129 : Int32))) else o_cl (m_X7_add G M61 a0 c2 c1 (0 : Int64)) (fun M65 r66 => some (M65, (c1 + (1 : Int32))))))) else if c2 = 63 then some (M, c1) else if c2 = 64 then some (M, c1) else if c2 = 65 then some (M, c1) else if c2 = 66 then some (M, c1) else if c2 = 67 then some (M, c1) else if c2 = 68 then some (M, c1) else if c2 = 69 then some (M, c1) else if c2 = 70 then some (M, c1) else if c2 = 71 then some (M, c1) else if c2 = 72 then some (M, c1) else if c2 = 73 then some (M, c1) else if c2 = 74 then some (M, c1) else if c2 = 75 then some (M, c1) else if c2 = 76 then some (M, c1) else if c2 = 77 then some (M, c1) else if c2 = 78 then some (M, c1) else if c2 = 79 then some (M, c1) else if c2 = 80 then some (M, c1) else if c2 = 81 then some (M, c1) else if c2 = 82 then some (M, c1) else if c2 = 83 then some (M, c1) else if c2 = 84 then some (M, c1) else if c2 = 85 then some (M, c1) else if c2 = 86 then some (M, c1) else if c2 = 87 then some (M, c1) else if c2 = 88 then some (M, c1) else if c2 = 89 then some (M, c1) else if c2 = 90 then some (M, c1) else if c2 = 91 then o_cl (m_X7_add G M a0 c2 c1 (0 : Int64)) (fun M98 r99 => some (M98, (c1 + (1 : Int32)))) else if c2 = 92 then some (M, c1) else if c2 = 93 then o_cl (m_X7_add G M a0 c2 c1 (0 : Int64)) (fun M103 r104 => some (M103, (c1 + (1 : Int32)))) else some (M, c1))
set_option maxHeartbeats 4000000 in
set_option maxRecDepth 100000 in
theorem b_X7_readSymbol_263 {p : Program} {e : Env} {s : State} {m : MethodId} {args : Array Value} {below : List Frame} {meth : Method} {c : Code} {A : Nat → Prop} {l : Launch} {D : va_G} {cy : cyS} {G : gS} (cx : cX p s m args meth c cX7_readSymbol RX7 3 (some .int) wsX7_readSymbol D cy G A) {k0 n0 : Nat} (hkn : k0 ≤ (rmX7_readSymbol).cells ∧ n0 ≤ (rmX7_readSymbol).slots) {M' : mS} {r : Int32} {a0 : Nat} {c1 : Int32} {c2 : Int32} (hL0 : a0 ∈ gL G) (hK0 : gK G a0 = 6)  : ∀ (M : mS) (s1 : Int32) (H : Heap) (locs : List Loc) (ls : Array Slot), m_X7_readSymbol_263 G a0 c1 c2 M s1 = some (M', r) → wd D cy G M A s.heap H locs → lv_has ls 3 [(1, .int c1)] → W p l e rmX7_readSymbol s m args below meth c H locs k0 n0 (MQ below (va_Qi (fun (r' : Int32) (_ : Unit) => r' = r) (fun _ t => wOut D cy G M' t) A) args s k0 n0 A) (F0 m 263 ls [.int s1, .ref a0]) := by
  obtain ⟨hx, hb, hml, hown, hts, hr, hlocks, hK, hA, hG, hsx⟩ := id cx
  intro M s1 H locs ls h w hl
  unfold m_X7_readSymbol_263 at h
  refine lv_iload_n hx hb dX7_readSymbol_263 rfl (lv_at hl 0 rfl) ?_
  refine lv_lconst (v := 0) hx hb dX7_readSymbol_264 (by decide) ?_
  obtain ⟨M1, r2, y3, h⟩ := x_cl h
  refine r_callVv (As := [.int s1, .int c1, .long ((0 : Int64))]) (rest := []) cx w hkn hl.1 (k_X7_add hG hL0 hK0 y3) (cwV 3 hts gX7_readSymbol_X7_add rfl rfl rfl (by decide +kernel) ⟨Nat.le_of_ble_eq_true rfl, Nat.le_of_ble_eq_true rfl⟩) hL0 hK0 (by decide) rfl rfl rfl (Nat.le_of_ble_eq_true rfl) dX7_readSymbol_265 (fun H locs w => ?_)
  refine lv_iload_n hx hb dX7_readSymbol_268 rfl (lv_at hl 0 rfl) ?_
  refine lv_iconst (v := (2 : Int32)) hx hb dX7_readSymbol_269 (by decide) ?_
  refine lv_iadd hx hb dX7_readSymbol_270 ?_
  exact r_iret cx w h dX7_readSymbol_271
set_option maxHeartbeats 4000000 in
set_option maxRecDepth 100000 in
theorem k_X7_readSymbol {l : Launch} {D : va_G} {cy : cyS} {G : gS} {M M' : mS} {r : Int32} {a0 : Nat} {c1 : Int32} {c2 : Int32} (hG : wt G) (hL0 : a0 ∈ gL G) (hK0 : gK G a0 = 6) (h : m_X7_readSymbol G M a0 c1 c2 = some (M', r)) : ctI l yX7_readSymbol wsX7_readSymbol rmX7_readSymbol D cy G M [.ref a0, .int c1, .int c2] M' r := by
  unfold m_X7_readSymbol at h
  refine ctI_of (cc := cX7_readSymbol) (nL := 3) (ret := (some .int)) (lv := [(0, .ref a0), (1, .int c1), (2, .int c2)]) hG (by decide) rfl ⟨rfl, rfl⟩ (Nat.le_of_ble_eq_true rfl) rfl ?_
  intro p e s m args below meth c A ls cx w hl
  obtain ⟨hx, hb, hml, hown, hts, hr, hlocks, hK, hA, -, hsx⟩ := id cx
  have hkn : 0 ≤ (rmX7_readSymbol).cells ∧ 0 ≤ (rmX7_readSymbol).slots := ⟨Nat.zero_le _, Nat.zero_le _⟩
  refine lv_iload_n hx hb dX7_readSymbol_0 rfl (lv_at hl 2 rfl) ?_
  rcases Decidable.em (c2 = 40) with k1 | k1
  · have h := x_t h k1
    rw [k1]
    refine lv_tableIn (tgt := 283) hx hb dX7_readSymbol_1 (by decide) (by decide) rfl (by decide) ?_
    refine lv_aload_n hx hb dX7_readSymbol_283 rfl (lv_at hl 0 rfl) ?_
    refine lv_iload_n hx hb dX7_readSymbol_284 rfl (lv_at hl 2 rfl) ?_
    refine lv_iload_n hx hb dX7_readSymbol_285 rfl (lv_at hl 1 rfl) ?_
    refine lv_lconst (v := 0) hx hb dX7_readSymbol_286 (by decide) ?_
    obtain ⟨M2, r3, y4, h⟩ := x_cl h
    refine r_callVv (As := [.int c2, .int c1, .long ((0 : Int64))]) (rest := []) cx w hkn hl.1 (k_X7_add hG hL0 hK0 y4) (cwV 3 hts gX7_readSymbol_X7_add rfl rfl rfl (by decide +kernel) ⟨Nat.le_of_ble_eq_true rfl, Nat.le_of_ble_eq_true rfl⟩) hL0 hK0 (by decide) rfl rfl rfl (Nat.le_of_ble_eq_true rfl) dX7_readSymbol_287 (fun H locs w => ?_)
    refine lv_iload_n hx hb dX7_readSymbol_290 rfl (lv_at hl 1 rfl) ?_
    refine lv_iconst (v := (1 : Int32)) hx hb dX7_readSymbol_291 (by decide) ?_
    refine lv_iadd hx hb dX7_readSymbol_292 ?_
    exact r_iret cx w h dX7_readSymbol_293
  · have h := x_f h k1
    rcases Decidable.em (c2 = 41) with k5 | k5
    · have h := x_t h k5
      rw [k5]
      refine lv_tableIn (tgt := 283) hx hb dX7_readSymbol_1 (by decide) (by decide) rfl (by decide) ?_
      refine lv_aload_n hx hb dX7_readSymbol_283 rfl (lv_at hl 0 rfl) ?_
      refine lv_iload_n hx hb dX7_readSymbol_284 rfl (lv_at hl 2 rfl) ?_
      refine lv_iload_n hx hb dX7_readSymbol_285 rfl (lv_at hl 1 rfl) ?_
      refine lv_lconst (v := 0) hx hb dX7_readSymbol_286 (by decide) ?_
      obtain ⟨M6, r7, y8, h⟩ := x_cl h
      refine r_callVv (As := [.int c2, .int c1, .long ((0 : Int64))]) (rest := []) cx w hkn hl.1 (k_X7_add hG hL0 hK0 y8) (cwV 3 hts gX7_readSymbol_X7_add rfl rfl rfl (by decide +kernel) ⟨Nat.le_of_ble_eq_true rfl, Nat.le_of_ble_eq_true rfl⟩) hL0 hK0 (by decide) rfl rfl rfl (Nat.le_of_ble_eq_true rfl) dX7_readSymbol_287 (fun H locs w => ?_)
      refine lv_iload_n hx hb dX7_readSymbol_290 rfl (lv_at hl 1 rfl) ?_
      refine lv_iconst (v := (1 : Int32)) hx hb dX7_readSymbol_291 (by decide) ?_
      refine lv_iadd hx hb dX7_readSymbol_292 ?_
      exact r_iret cx w h dX7_readSymbol_293
    · have h := x_f h k5
      rcases Decidable.em (c2 = 42) with k9 | k9
      · have h := x_t h k9
        rw [k9]
        refine lv_tableIn (tgt := 283) hx hb dX7_readSymbol_1 (by decide) (by decide) rfl (by decide) ?_
        refine lv_aload_n hx hb dX7_readSymbol_283 rfl (lv_at hl 0 rfl) ?_
        refine lv_iload_n hx hb dX7_readSymbol_284 rfl (lv_at hl 2 rfl) ?_
        refine lv_iload_n hx hb dX7_readSymbol_285 rfl (lv_at hl 1 rfl) ?_
        refine lv_lconst (v := 0) hx hb dX7_readSymbol_286 (by decide) ?_
        obtain ⟨M10, r11, y12, h⟩ := x_cl h
        refine r_callVv (As := [.int c2, .int c1, .long ((0 : Int64))]) (rest := []) cx w hkn hl.1 (k_X7_add hG hL0 hK0 y12) (cwV 3 hts gX7_readSymbol_X7_add rfl rfl rfl (by decide +kernel) ⟨Nat.le_of_ble_eq_true rfl, Nat.le_of_ble_eq_true rfl⟩) hL0 hK0 (by decide) rfl rfl rfl (Nat.le_of_ble_eq_true rfl) dX7_readSymbol_287 (fun H locs w => ?_)
        refine lv_iload_n hx hb dX7_readSymbol_290 rfl (lv_at hl 1 rfl) ?_
        refine lv_iconst (v := (1 : Int32)) hx hb dX7_readSymbol_291 (by decide) ?_
        refine lv_iadd hx hb dX7_readSymbol_292 ?_
        exact r_iret cx w h dX7_readSymbol_293
      · have h := x_f h k9
        rcases Decidable.em (c2 = 43) with k13 | k13
        · have h := x_t h k13
          rw [k13]
          refine lv_tableIn (tgt := 283) hx hb dX7_readSymbol_1 (by decide) (by decide) rfl (by decide) ?_
          refine lv_aload_n hx hb dX7_readSymbol_283 rfl (lv_at hl 0 rfl) ?_
          refine lv_iload_n hx hb dX7_readSymbol_284 rfl (lv_at hl 2 rfl) ?_
          refine lv_iload_n hx hb dX7_readSymbol_285 rfl (lv_at hl 1 rfl) ?_
          refine lv_lconst (v := 0) hx hb dX7_readSymbol_286 (by decide) ?_
          obtain ⟨M14, r15, y16, h⟩ := x_cl h
          refine r_callVv (As := [.int c2, .int c1, .long ((0 : Int64))]) (rest := []) cx w hkn hl.1 (k_X7_add hG hL0 hK0 y16) (cwV 3 hts gX7_readSymbol_X7_add rfl rfl rfl (by decide +kernel) ⟨Nat.le_of_ble_eq_true rfl, Nat.le_of_ble_eq_true rfl⟩) hL0 hK0 (by decide) rfl rfl rfl (Nat.le_of_ble_eq_true rfl) dX7_readSymbol_287 (fun H locs w => ?_)
          refine lv_iload_n hx hb dX7_readSymbol_290 rfl (lv_at hl 1 rfl) ?_
          refine lv_iconst (v := (1 : Int32)) hx hb dX7_readSymbol_291 (by decide) ?_
          refine lv_iadd hx hb dX7_readSymbol_292 ?_
          exact r_iret cx w h dX7_readSymbol_293
        · have h := x_f h k13
          rcases Decidable.em (c2 = 44) with k17 | k17
          · have h := x_t h k17
            rw [k17]
            refine lv_tableIn (tgt := 283) hx hb dX7_readSymbol_1 (by decide) (by decide) rfl (by decide) ?_
            refine lv_aload_n hx hb dX7_readSymbol_283 rfl (lv_at hl 0 rfl) ?_
            refine lv_iload_n hx hb dX7_readSymbol_284 rfl (lv_at hl 2 rfl) ?_
            refine lv_iload_n hx hb dX7_readSymbol_285 rfl (lv_at hl 1 rfl) ?_
            refine lv_lconst (v := 0) hx hb dX7_readSymbol_286 (by decide) ?_
            obtain ⟨M18, r19, y20, h⟩ := x_cl h
            refine r_callVv (As := [.int c2, .int c1, .long ((0 : Int64))]) (rest := []) cx w hkn hl.1 (k_X7_add hG hL0 hK0 y20) (cwV 3 hts gX7_readSymbol_X7_add rfl rfl rfl (by decide +kernel) ⟨Nat.le_of_ble_eq_true rfl, Nat.le_of_ble_eq_true rfl⟩) hL0 hK0 (by decide) rfl rfl rfl (Nat.le_of_ble_eq_true rfl) dX7_readSymbol_287 (fun H locs w => ?_)
            refine lv_iload_n hx hb dX7_readSymbol_290 rfl (lv_at hl 1 rfl) ?_
            refine lv_iconst (v := (1 : Int32)) hx hb dX7_readSymbol_291 (by decide) ?_
            refine lv_iadd hx hb dX7_readSymbol_292 ?_
            exact r_iret cx w h dX7_readSymbol_293
          · have h := x_f h k17
            rcases Decidable.em (c2 = 45) with k21 | k21
            · have h := x_t h k21
              rw [k21]
              refine lv_tableIn (tgt := 283) hx hb dX7_readSymbol_1 (by decide) (by decide) rfl (by decide) ?_
              refine lv_aload_n hx hb dX7_readSymbol_283 rfl (lv_at hl 0 rfl) ?_
              refine lv_iload_n hx hb dX7_readSymbol_284 rfl (lv_at hl 2 rfl) ?_
              refine lv_iload_n hx hb dX7_readSymbol_285 rfl (lv_at hl 1 rfl) ?_
              refine lv_lconst (v := 0) hx hb dX7_readSymbol_286 (by decide) ?_
              obtain ⟨M22, r23, y24, h⟩ := x_cl h
              refine r_callVv (As := [.int c2, .int c1, .long ((0 : Int64))]) (rest := []) cx w hkn hl.1 (k_X7_add hG hL0 hK0 y24) (cwV 3 hts gX7_readSymbol_X7_add rfl rfl rfl (by decide +kernel) ⟨Nat.le_of_ble_eq_true rfl, Nat.le_of_ble_eq_true rfl⟩) hL0 hK0 (by decide) rfl rfl rfl (Nat.le_of_ble_eq_true rfl) dX7_readSymbol_287 (fun H locs w => ?_)
              refine lv_iload_n hx hb dX7_readSymbol_290 rfl (lv_at hl 1 rfl) ?_
              refine lv_iconst (v := (1 : Int32)) hx hb dX7_readSymbol_291 (by decide) ?_
              refine lv_iadd hx hb dX7_readSymbol_292 ?_
              exact r_iret cx w h dX7_readSymbol_293
            · have h := x_f h k21
              rcases Decidable.em (c2 = 46) with k25 | k25
              · have h := x_t h k25
                rw [k25]
                refine lv_tableIn (tgt := 294) hx hb dX7_readSymbol_1 (by decide) (by decide) rfl (by decide) ?_
                refine lv_iload_n hx hb dX7_readSymbol_294 rfl (lv_at hl 1 rfl) ?_
                exact r_iret cx w h dX7_readSymbol_295
              · have h := x_f h k25
                rcases Decidable.em (c2 = 47) with k26 | k26
                · have h := x_t h k26
                  rw [k26]
                  refine lv_tableIn (tgt := 283) hx hb dX7_readSymbol_1 (by decide) (by decide) rfl (by decide) ?_
                  refine lv_aload_n hx hb dX7_readSymbol_283 rfl (lv_at hl 0 rfl) ?_
                  refine lv_iload_n hx hb dX7_readSymbol_284 rfl (lv_at hl 2 rfl) ?_
                  refine lv_iload_n hx hb dX7_readSymbol_285 rfl (lv_at hl 1 rfl) ?_
                  refine lv_lconst (v := 0) hx hb dX7_readSymbol_286 (by decide) ?_
                  obtain ⟨M27, r28, y29, h⟩ := x_cl h
                  refine r_callVv (As := [.int c2, .int c1, .long ((0 : Int64))]) (rest := []) cx w hkn hl.1 (k_X7_add hG hL0 hK0 y29) (cwV 3 hts gX7_readSymbol_X7_add rfl rfl rfl (by decide +kernel) ⟨Nat.le_of_ble_eq_true rfl, Nat.le_of_ble_eq_true rfl⟩) hL0 hK0 (by decide) rfl rfl rfl (Nat.le_of_ble_eq_true rfl) dX7_readSymbol_287 (fun H locs w => ?_)
                  refine lv_iload_n hx hb dX7_readSymbol_290 rfl (lv_at hl 1 rfl) ?_
                  refine lv_iconst (v := (1 : Int32)) hx hb dX7_readSymbol_291 (by decide) ?_
                  refine lv_iadd hx hb dX7_readSymbol_292 ?_
                  exact r_iret cx w h dX7_readSymbol_293
                · have h := x_f h k26
                  rcases Decidable.em (c2 = 48) with k30 | k30
                  · have h := x_t h k30
                    rw [k30]
                    refine lv_tableIn (tgt := 294) hx hb dX7_readSymbol_1 (by decide) (by decide) rfl (by decide) ?_
                    refine lv_iload_n hx hb dX7_readSymbol_294 rfl (lv_at hl 1 rfl) ?_
                    exact r_iret cx w h dX7_readSymbol_295
                  · have h := x_f h k30
                    rcases Decidable.em (c2 = 49) with k31 | k31
                    · have h := x_t h k31
                      rw [k31]
                      refine lv_tableIn (tgt := 294) hx hb dX7_readSymbol_1 (by decide) (by decide) rfl (by decide) ?_
                      refine lv_iload_n hx hb dX7_readSymbol_294 rfl (lv_at hl 1 rfl) ?_
                      exact r_iret cx w h dX7_readSymbol_295
                    · have h := x_f h k31
                      rcases Decidable.em (c2 = 50) with k32 | k32
                      · have h := x_t h k32
                        rw [k32]
                        refine lv_tableIn (tgt := 294) hx hb dX7_readSymbol_1 (by decide) (by decide) rfl (by decide) ?_
                        refine lv_iload_n hx hb dX7_readSymbol_294 rfl (lv_at hl 1 rfl) ?_
                        exact r_iret cx w h dX7_readSymbol_295
                      · have h := x_f h k32
                        rcases Decidable.em (c2 = 51) with k33 | k33
                        · have h := x_t h k33
                          rw [k33]
                          refine lv_tableIn (tgt := 294) hx hb dX7_readSymbol_1 (by decide) (by decide) rfl (by decide) ?_
                          refine lv_iload_n hx hb dX7_readSymbol_294 rfl (lv_at hl 1 rfl) ?_
                          exact r_iret cx w h dX7_readSymbol_295
                        · have h := x_f h k33
                          rcases Decidable.em (c2 = 52) with k34 | k34
                          · have h := x_t h k34
                            rw [k34]
                            refine lv_tableIn (tgt := 294) hx hb dX7_readSymbol_1 (by decide) (by decide) rfl (by decide) ?_
                            refine lv_iload_n hx hb dX7_readSymbol_294 rfl (lv_at hl 1 rfl) ?_
                            exact r_iret cx w h dX7_readSymbol_295
                          · have h := x_f h k34
                            rcases Decidable.em (c2 = 53) with k35 | k35
                            · have h := x_t h k35
                              rw [k35]
                              refine lv_tableIn (tgt := 294) hx hb dX7_readSymbol_1 (by decide) (by decide) rfl (by decide) ?_
                              refine lv_iload_n hx hb dX7_readSymbol_294 rfl (lv_at hl 1 rfl) ?_
                              exact r_iret cx w h dX7_readSymbol_295
                            · have h := x_f h k35
                              rcases Decidable.em (c2 = 54) with k36 | k36
                              · have h := x_t h k36
                                rw [k36]
                                refine lv_tableIn (tgt := 294) hx hb dX7_readSymbol_1 (by decide) (by decide) rfl (by decide) ?_
                                refine lv_iload_n hx hb dX7_readSymbol_294 rfl (lv_at hl 1 rfl) ?_
                                exact r_iret cx w h dX7_readSymbol_295
                              · have h := x_f h k36
                                rcases Decidable.em (c2 = 55) with k37 | k37
                                · have h := x_t h k37
                                  rw [k37]
                                  refine lv_tableIn (tgt := 294) hx hb dX7_readSymbol_1 (by decide) (by decide) rfl (by decide) ?_
                                  refine lv_iload_n hx hb dX7_readSymbol_294 rfl (lv_at hl 1 rfl) ?_
                                  exact r_iret cx w h dX7_readSymbol_295
                                · have h := x_f h k37
                                  rcases Decidable.em (c2 = 56) with k38 | k38
                                  · have h := x_t h k38
                                    rw [k38]
                                    refine lv_tableIn (tgt := 294) hx hb dX7_readSymbol_1 (by decide) (by decide) rfl (by decide) ?_
                                    refine lv_iload_n hx hb dX7_readSymbol_294 rfl (lv_at hl 1 rfl) ?_
                                    exact r_iret cx w h dX7_readSymbol_295
                                  · have h := x_f h k38
                                    rcases Decidable.em (c2 = 57) with k39 | k39
                                    · have h := x_t h k39
                                      rw [k39]
                                      refine lv_tableIn (tgt := 294) hx hb dX7_readSymbol_1 (by decide) (by decide) rfl (by decide) ?_
                                      refine lv_iload_n hx hb dX7_readSymbol_294 rfl (lv_at hl 1 rfl) ?_
                                      exact r_iret cx w h dX7_readSymbol_295
                                    · have h := x_f h k39
                                      rcases Decidable.em (c2 = 58) with k40 | k40
                                      · have h := x_t h k40
                                        rw [k40]
                                        refine lv_tableIn (tgt := 294) hx hb dX7_readSymbol_1 (by decide) (by decide) rfl (by decide) ?_
                                        refine lv_iload_n hx hb dX7_readSymbol_294 rfl (lv_at hl 1 rfl) ?_
                                        exact r_iret cx w h dX7_readSymbol_295
                                      · have h := x_f h k40
                                        rcases Decidable.em (c2 = 59) with k41 | k41
                                        · have h := x_t h k41
                                          rw [k41]
                                          refine lv_tableIn (tgt := 283) hx hb dX7_readSymbol_1 (by decide) (by decide) rfl (by decide) ?_
                                          refine lv_aload_n hx hb dX7_readSymbol_283 rfl (lv_at hl 0 rfl) ?_
                                          refine lv_iload_n hx hb dX7_readSymbol_284 rfl (lv_at hl 2 rfl) ?_
                                          refine lv_iload_n hx hb dX7_readSymbol_285 rfl (lv_at hl 1 rfl) ?_
                                          refine lv_lconst (v := 0) hx hb dX7_readSymbol_286 (by decide) ?_
                                          obtain ⟨M42, r43, y44, h⟩ := x_cl h
                                          refine r_callVv (As := [.int c2, .int c1, .long ((0 : Int64))]) (rest := []) cx w hkn hl.1 (k_X7_add hG hL0 hK0 y44) (cwV 3 hts gX7_readSymbol_X7_add rfl rfl rfl (by decide +kernel) ⟨Nat.le_of_ble_eq_true rfl, Nat.le_of_ble_eq_true rfl⟩) hL0 hK0 (by decide) rfl rfl rfl (Nat.le_of_ble_eq_true rfl) dX7_readSymbol_287 (fun H locs w => ?_)
                                          refine lv_iload_n hx hb dX7_readSymbol_290 rfl (lv_at hl 1 rfl) ?_
                                          refine lv_iconst (v := (1 : Int32)) hx hb dX7_readSymbol_291 (by decide) ?_
                                          refine lv_iadd hx hb dX7_readSymbol_292 ?_
                                          exact r_iret cx w h dX7_readSymbol_293
                                        · have h := x_f h k41
                                          rcases Decidable.em (c2 = 60) with k45 | k45
                                          · have h := x_t h k45
                                            rw [k45]
                                            refine lv_tableIn (tgt := 232) hx hb dX7_readSymbol_1 (by decide) (by decide) rfl (by decide) ?_
                                            refine lv_aload_n hx hb dX7_readSymbol_232 rfl (lv_at hl 0 rfl) ?_
                                            obtain ⟨q46, eq46, h⟩ := x_rf h
                                            obtain ⟨hLq46, hKq46⟩ := wt_q hG hL0 hK0 eq46
                                            have hKq46 : gK G q46 = 5 := hKq46
                                            refine r_getR (k := 0) cx w hL0 hK0 (by decide) rfl wi_X7_readSymbol_X7 (by decide) rfl eq46 (List.mem_of_getElem? (i := 1) rfl) dX7_readSymbol_233 ?_
                                            refine lv_iload_n hx hb dX7_readSymbol_236 rfl (lv_at hl 1 rfl) ?_
                                            refine lv_iconst (v := (1 : Int32)) hx hb dX7_readSymbol_237 (by decide) ?_
                                            refine lv_iadd hx hb dX7_readSymbol_238 ?_
                                            obtain ⟨M47, r48, y49, h⟩ := x_cl h
                                            refine r_callVi (As := [.int ((c1 + (1 : Int32)))]) (rest := []) cx w hkn hl.1 (k_X6_byteAt hG hLq46 hKq46 y49) (cwV 1 hts gX7_readSymbol_X6_byteAt rfl rfl rfl (by decide +kernel) ⟨Nat.le_of_ble_eq_true rfl, Nat.le_of_ble_eq_true rfl⟩) hLq46 hKq46 (by decide) rfl rfl rfl (Nat.le_of_ble_eq_true rfl) dX7_readSymbol_239 (fun H locs w => ?_)
                                            refine lv_bipush (v := (61 : Int32)) hx hb dX7_readSymbol_242 (by decide) ?_
                                            refine lv_icmp_ne (tgt := 272) hx hb dX7_readSymbol_244 (by decide) (fun k50 => ?_) (fun k50 => ?_)
                                            · have h := x_f h k50
                                              refine lv_aload_n hx hb dX7_readSymbol_272 rfl (lv_at hl 0 rfl) ?_
                                              refine lv_iload_n hx hb dX7_readSymbol_273 rfl (lv_at hl 2 rfl) ?_
                                              refine lv_iload_n hx hb dX7_readSymbol_274 rfl (lv_at hl 1 rfl) ?_
                                              refine lv_lconst (v := 0) hx hb dX7_readSymbol_275 (by decide) ?_
                                              obtain ⟨M51, r52, y53, h⟩ := x_cl h
                                              refine r_callVv (As := [.int c2, .int c1, .long ((0 : Int64))]) (rest := []) cx w hkn hl.1 (k_X7_add hG hL0 hK0 y53) (cwV 3 hts gX7_readSymbol_X7_add rfl rfl rfl (by decide +kernel) ⟨Nat.le_of_ble_eq_true rfl, Nat.le_of_ble_eq_true rfl⟩) hL0 hK0 (by decide) rfl rfl rfl (Nat.le_of_ble_eq_true rfl) dX7_readSymbol_276 (fun H locs w => ?_)
                                              refine lv_iload_n hx hb dX7_readSymbol_279 rfl (lv_at hl 1 rfl) ?_
                                              refine lv_iconst (v := (1 : Int32)) hx hb dX7_readSymbol_280 (by decide) ?_
                                              refine lv_iadd hx hb dX7_readSymbol_281 ?_
                                              exact r_iret cx w h dX7_readSymbol_282
                                            · have h := x_t h k50
                                              refine lv_aload_n hx hb dX7_readSymbol_247 rfl (lv_at hl 0 rfl) ?_
                                              refine lv_iload_n hx hb dX7_readSymbol_248 rfl (lv_at hl 2 rfl) ?_
                                              refine lv_bipush (v := (60 : Int32)) hx hb dX7_readSymbol_249 (by decide) ?_
                                              refine lv_icmp_ne (tgt := 260) hx hb dX7_readSymbol_251 (by decide) (fun k54 => ?_) (fun k54 => ?_)
                                              · have h := x_f h k54
                                                refine lv_sipush (v := (129 : Int32)) hx hb dX7_readSymbol_260 (by decide) ?_
                                                exact b_X7_readSymbol_263 cx hkn hL0 hK0 M47 ((129 : Int32)) H locs ls h w (lv_sub hl [1] rfl)
                                              · have h := x_t h k54
                                                refine lv_sipush (v := (128 : Int32)) hx hb dX7_readSymbol_254 (by decide) ?_
                                                refine lv_goto (tgt := 263) hx hb dX7_readSymbol_257 (by decide) ?_
                                                exact b_X7_readSymbol_263 cx hkn hL0 hK0 M47 ((128 : Int32)) H locs ls h w (lv_sub hl [1] rfl)
                                          · have h := x_f h k45
                                            rcases Decidable.em (c2 = 61) with k55 | k55
                                            · have h := x_t h k55
                                              rw [k55]
                                              refine lv_tableIn (tgt := 283) hx hb dX7_readSymbol_1 (by decide) (by decide) rfl (by decide) ?_
                                              refine lv_aload_n hx hb dX7_readSymbol_283 rfl (lv_at hl 0 rfl) ?_
                                              refine lv_iload_n hx hb dX7_readSymbol_284 rfl (lv_at hl 2 rfl) ?_
                                              refine lv_iload_n hx hb dX7_readSymbol_285 rfl (lv_at hl 1 rfl) ?_
                                              refine lv_lconst (v := 0) hx hb dX7_readSymbol_286 (by decide) ?_
                                              obtain ⟨M56, r57, y58, h⟩ := x_cl h
                                              refine r_callVv (As := [.int c2, .int c1, .long ((0 : Int64))]) (rest := []) cx w hkn hl.1 (k_X7_add hG hL0 hK0 y58) (cwV 3 hts gX7_readSymbol_X7_add rfl rfl rfl (by decide +kernel) ⟨Nat.le_of_ble_eq_true rfl, Nat.le_of_ble_eq_true rfl⟩) hL0 hK0 (by decide) rfl rfl rfl (Nat.le_of_ble_eq_true rfl) dX7_readSymbol_287 (fun H locs w => ?_)
                                              refine lv_iload_n hx hb dX7_readSymbol_290 rfl (lv_at hl 1 rfl) ?_
                                              refine lv_iconst (v := (1 : Int32)) hx hb dX7_readSymbol_291 (by decide) ?_
                                              refine lv_iadd hx hb dX7_readSymbol_292 ?_
                                              exact r_iret cx w h dX7_readSymbol_293
                                            · have h := x_f h k55
                                              rcases Decidable.em (c2 = 62) with k59 | k59
                                              · have h := x_t h k59
                                                rw [k59]
                                                refine lv_tableIn (tgt := 232) hx hb dX7_readSymbol_1 (by decide) (by decide) rfl (by decide) ?_
                                                refine lv_aload_n hx hb dX7_readSymbol_232 rfl (lv_at hl 0 rfl) ?_
                                                obtain ⟨q60, eq60, h⟩ := x_rf h
                                                obtain ⟨hLq60, hKq60⟩ := wt_q hG hL0 hK0 eq60
                                                have hKq60 : gK G q60 = 5 := hKq60
                                                refine r_getR (k := 0) cx w hL0 hK0 (by decide) rfl wi_X7_readSymbol_X7 (by decide) rfl eq60 (List.mem_of_getElem? (i := 1) rfl) dX7_readSymbol_233 ?_
                                                refine lv_iload_n hx hb dX7_readSymbol_236 rfl (lv_at hl 1 rfl) ?_
                                                refine lv_iconst (v := (1 : Int32)) hx hb dX7_readSymbol_237 (by decide) ?_
                                                refine lv_iadd hx hb dX7_readSymbol_238 ?_
                                                obtain ⟨M61, r62, y63, h⟩ := x_cl h
                                                refine r_callVi (As := [.int ((c1 + (1 : Int32)))]) (rest := []) cx w hkn hl.1 (k_X6_byteAt hG hLq60 hKq60 y63) (cwV 1 hts gX7_readSymbol_X6_byteAt rfl rfl rfl (by decide +kernel) ⟨Nat.le_of_ble_eq_true rfl, Nat.le_of_ble_eq_true rfl⟩) hLq60 hKq60 (by decide) rfl rfl rfl (Nat.le_of_ble_eq_true rfl) dX7_readSymbol_239 (fun H locs w => ?_)
                                                refine lv_bipush (v := (61 : Int32)) hx hb dX7_readSymbol_242 (by decide) ?_
                                                refine lv_icmp_ne (tgt := 272) hx hb dX7_readSymbol_244 (by decide) (fun k64 => ?_) (fun k64 => ?_)
                                                · have h := x_f h k64
                                                  refine lv_aload_n hx hb dX7_readSymbol_272 rfl (lv_at hl 0 rfl) ?_
                                                  refine lv_iload_n hx hb dX7_readSymbol_273 rfl (lv_at hl 2 rfl) ?_
                                                  refine lv_iload_n hx hb dX7_readSymbol_274 rfl (lv_at hl 1 rfl) ?_
                                                  refine lv_lconst (v := 0) hx hb dX7_readSymbol_275 (by decide) ?_
                                                  obtain ⟨M65, r66, y67, h⟩ := x_cl h
                                                  refine r_callVv (As := [.int c2, .int c1, .long ((0 : Int64))]) (rest := []) cx w hkn hl.1 (k_X7_add hG hL0 hK0 y67) (cwV 3 hts gX7_readSymbol_X7_add rfl rfl rfl (by decide +kernel) ⟨Nat.le_of_ble_eq_true rfl, Nat.le_of_ble_eq_true rfl⟩) hL0 hK0 (by decide) rfl rfl rfl (Nat.le_of_ble_eq_true rfl) dX7_readSymbol_276 (fun H locs w => ?_)
                                                  refine lv_iload_n hx hb dX7_readSymbol_279 rfl (lv_at hl 1 rfl) ?_
                                                  refine lv_iconst (v := (1 : Int32)) hx hb dX7_readSymbol_280 (by decide) ?_
                                                  refine lv_iadd hx hb dX7_readSymbol_281 ?_
                                                  exact r_iret cx w h dX7_readSymbol_282
                                                · have h := x_t h k64
                                                  refine lv_aload_n hx hb dX7_readSymbol_247 rfl (lv_at hl 0 rfl) ?_
                                                  refine lv_iload_n hx hb dX7_readSymbol_248 rfl (lv_at hl 2 rfl) ?_
                                                  refine lv_bipush (v := (60 : Int32)) hx hb dX7_readSymbol_249 (by decide) ?_
                                                  refine lv_icmp_ne (tgt := 260) hx hb dX7_readSymbol_251 (by decide) (fun k68 => ?_) (fun k68 => ?_)
                                                  · have h := x_f h k68
                                                    refine lv_sipush (v := (129 : Int32)) hx hb dX7_readSymbol_260 (by decide) ?_
                                                    exact b_X7_readSymbol_263 cx hkn hL0 hK0 M61 ((129 : Int32)) H locs ls h w (lv_sub hl [1] rfl)
                                                  · have h := x_t h k68
                                                    refine lv_sipush (v := (128 : Int32)) hx hb dX7_readSymbol_254 (by decide) ?_
                                                    refine lv_goto (tgt := 263) hx hb dX7_readSymbol_257 (by decide) ?_
                                                    exact b_X7_readSymbol_263 cx hkn hL0 hK0 M61 ((128 : Int32)) H locs ls h w (lv_sub hl [1] rfl)
                                              · have h := x_f h k59
                                                rcases Decidable.em (c2 = 63) with k69 | k69
                                                · have h := x_t h k69
                                                  rw [k69]
                                                  refine lv_tableIn (tgt := 294) hx hb dX7_readSymbol_1 (by decide) (by decide) rfl (by decide) ?_
                                                  refine lv_iload_n hx hb dX7_readSymbol_294 rfl (lv_at hl 1 rfl) ?_
                                                  exact r_iret cx w h dX7_readSymbol_295
                                                · have h := x_f h k69
                                                  rcases Decidable.em (c2 = 64) with k70 | k70
                                                  · have h := x_t h k70
                                                    rw [k70]
                                                    refine lv_tableIn (tgt := 294) hx hb dX7_readSymbol_1 (by decide) (by decide) rfl (by decide) ?_
                                                    refine lv_iload_n hx hb dX7_readSymbol_294 rfl (lv_at hl 1 rfl) ?_
                                                    exact r_iret cx w h dX7_readSymbol_295
                                                  · have h := x_f h k70
                                                    rcases Decidable.em (c2 = 65) with k71 | k71
                                                    · have h := x_t h k71
                                                      rw [k71]
                                                      refine lv_tableIn (tgt := 294) hx hb dX7_readSymbol_1 (by decide) (by decide) rfl (by decide) ?_
                                                      refine lv_iload_n hx hb dX7_readSymbol_294 rfl (lv_at hl 1 rfl) ?_
                                                      exact r_iret cx w h dX7_readSymbol_295
                                                    · have h := x_f h k71
                                                      rcases Decidable.em (c2 = 66) with k72 | k72
                                                      · have h := x_t h k72
                                                        rw [k72]
                                                        refine lv_tableIn (tgt := 294) hx hb dX7_readSymbol_1 (by decide) (by decide) rfl (by decide) ?_
                                                        refine lv_iload_n hx hb dX7_readSymbol_294 rfl (lv_at hl 1 rfl) ?_
                                                        exact r_iret cx w h dX7_readSymbol_295
                                                      · have h := x_f h k72
                                                        rcases Decidable.em (c2 = 67) with k73 | k73
                                                        · have h := x_t h k73
                                                          rw [k73]
                                                          refine lv_tableIn (tgt := 294) hx hb dX7_readSymbol_1 (by decide) (by decide) rfl (by decide) ?_
                                                          refine lv_iload_n hx hb dX7_readSymbol_294 rfl (lv_at hl 1 rfl) ?_
                                                          exact r_iret cx w h dX7_readSymbol_295
                                                        · have h := x_f h k73
                                                          rcases Decidable.em (c2 = 68) with k74 | k74
                                                          · have h := x_t h k74
                                                            rw [k74]
                                                            refine lv_tableIn (tgt := 294) hx hb dX7_readSymbol_1 (by decide) (by decide) rfl (by decide) ?_
                                                            refine lv_iload_n hx hb dX7_readSymbol_294 rfl (lv_at hl 1 rfl) ?_
                                                            exact r_iret cx w h dX7_readSymbol_295
                                                          · have h := x_f h k74
                                                            rcases Decidable.em (c2 = 69) with k75 | k75
                                                            · have h := x_t h k75
                                                              rw [k75]
                                                              refine lv_tableIn (tgt := 294) hx hb dX7_readSymbol_1 (by decide) (by decide) rfl (by decide) ?_
                                                              refine lv_iload_n hx hb dX7_readSymbol_294 rfl (lv_at hl 1 rfl) ?_
                                                              exact r_iret cx w h dX7_readSymbol_295
                                                            · have h := x_f h k75
                                                              rcases Decidable.em (c2 = 70) with k76 | k76
                                                              · have h := x_t h k76
                                                                rw [k76]
                                                                refine lv_tableIn (tgt := 294) hx hb dX7_readSymbol_1 (by decide) (by decide) rfl (by decide) ?_
                                                                refine lv_iload_n hx hb dX7_readSymbol_294 rfl (lv_at hl 1 rfl) ?_
                                                                exact r_iret cx w h dX7_readSymbol_295
                                                              · have h := x_f h k76
                                                                rcases Decidable.em (c2 = 71) with k77 | k77
                                                                · have h := x_t h k77
                                                                  rw [k77]
                                                                  refine lv_tableIn (tgt := 294) hx hb dX7_readSymbol_1 (by decide) (by decide) rfl (by decide) ?_
                                                                  refine lv_iload_n hx hb dX7_readSymbol_294 rfl (lv_at hl 1 rfl) ?_
                                                                  exact r_iret cx w h dX7_readSymbol_295
                                                                · have h := x_f h k77
                                                                  rcases Decidable.em (c2 = 72) with k78 | k78
                                                                  · have h := x_t h k78
                                                                    rw [k78]
                                                                    refine lv_tableIn (tgt := 294) hx hb dX7_readSymbol_1 (by decide) (by decide) rfl (by decide) ?_
                                                                    refine lv_iload_n hx hb dX7_readSymbol_294 rfl (lv_at hl 1 rfl) ?_
                                                                    exact r_iret cx w h dX7_readSymbol_295
                                                                  · have h := x_f h k78
                                                                    rcases Decidable.em (c2 = 73) with k79 | k79
                                                                    · have h := x_t h k79
                                                                      rw [k79]
                                                                      refine lv_tableIn (tgt := 294) hx hb dX7_readSymbol_1 (by decide) (by decide) rfl (by decide) ?_
                                                                      refine lv_iload_n hx hb dX7_readSymbol_294 rfl (lv_at hl 1 rfl) ?_
                                                                      exact r_iret cx w h dX7_readSymbol_295
                                                                    · have h := x_f h k79
                                                                      rcases Decidable.em (c2 = 74) with k80 | k80
                                                                      · have h := x_t h k80
                                                                        rw [k80]
                                                                        refine lv_tableIn (tgt := 294) hx hb dX7_readSymbol_1 (by decide) (by decide) rfl (by decide) ?_
                                                                        refine lv_iload_n hx hb dX7_readSymbol_294 rfl (lv_at hl 1 rfl) ?_
                                                                        exact r_iret cx w h dX7_readSymbol_295
                                                                      · have h := x_f h k80
                                                                        rcases Decidable.em (c2 = 75) with k81 | k81
                                                                        · have h := x_t h k81
                                                                          rw [k81]
                                                                          refine lv_tableIn (tgt := 294) hx hb dX7_readSymbol_1 (by decide) (by decide) rfl (by decide) ?_
                                                                          refine lv_iload_n hx hb dX7_readSymbol_294 rfl (lv_at hl 1 rfl) ?_
                                                                          exact r_iret cx w h dX7_readSymbol_295
                                                                        · have h := x_f h k81
                                                                          rcases Decidable.em (c2 = 76) with k82 | k82
                                                                          · have h := x_t h k82
                                                                            rw [k82]
                                                                            refine lv_tableIn (tgt := 294) hx hb dX7_readSymbol_1 (by decide) (by decide) rfl (by decide) ?_
                                                                            refine lv_iload_n hx hb dX7_readSymbol_294 rfl (lv_at hl 1 rfl) ?_
                                                                            exact r_iret cx w h dX7_readSymbol_295
                                                                          · have h := x_f h k82
                                                                            rcases Decidable.em (c2 = 77) with k83 | k83
                                                                            · have h := x_t h k83
                                                                              rw [k83]
                                                                              refine lv_tableIn (tgt := 294) hx hb dX7_readSymbol_1 (by decide) (by decide) rfl (by decide) ?_
                                                                              refine lv_iload_n hx hb dX7_readSymbol_294 rfl (lv_at hl 1 rfl) ?_
                                                                              exact r_iret cx w h dX7_readSymbol_295
                                                                            · have h := x_f h k83
                                                                              rcases Decidable.em (c2 = 78) with k84 | k84
                                                                              · have h := x_t h k84
                                                                                rw [k84]
                                                                                refine lv_tableIn (tgt := 294) hx hb dX7_readSymbol_1 (by decide) (by decide) rfl (by decide) ?_
                                                                                refine lv_iload_n hx hb dX7_readSymbol_294 rfl (lv_at hl 1 rfl) ?_
                                                                                exact r_iret cx w h dX7_readSymbol_295
                                                                              · have h := x_f h k84
                                                                                rcases Decidable.em (c2 = 79) with k85 | k85
                                                                                · have h := x_t h k85
                                                                                  rw [k85]
                                                                                  refine lv_tableIn (tgt := 294) hx hb dX7_readSymbol_1 (by decide) (by decide) rfl (by decide) ?_
                                                                                  refine lv_iload_n hx hb dX7_readSymbol_294 rfl (lv_at hl 1 rfl) ?_
                                                                                  exact r_iret cx w h dX7_readSymbol_295
                                                                                · have h := x_f h k85
                                                                                  rcases Decidable.em (c2 = 80) with k86 | k86
                                                                                  · have h := x_t h k86
                                                                                    rw [k86]
                                                                                    refine lv_tableIn (tgt := 294) hx hb dX7_readSymbol_1 (by decide) (by decide) rfl (by decide) ?_
                                                                                    refine lv_iload_n hx hb dX7_readSymbol_294 rfl (lv_at hl 1 rfl) ?_
                                                                                    exact r_iret cx w h dX7_readSymbol_295
                                                                                  · have h := x_f h k86
                                                                                    rcases Decidable.em (c2 = 81) with k87 | k87
                                                                                    · have h := x_t h k87
                                                                                      rw [k87]
                                                                                      refine lv_tableIn (tgt := 294) hx hb dX7_readSymbol_1 (by decide) (by decide) rfl (by decide) ?_
                                                                                      refine lv_iload_n hx hb dX7_readSymbol_294 rfl (lv_at hl 1 rfl) ?_
                                                                                      exact r_iret cx w h dX7_readSymbol_295
                                                                                    · have h := x_f h k87
                                                                                      rcases Decidable.em (c2 = 82) with k88 | k88
                                                                                      · have h := x_t h k88
                                                                                        rw [k88]
                                                                                        refine lv_tableIn (tgt := 294) hx hb dX7_readSymbol_1 (by decide) (by decide) rfl (by decide) ?_
                                                                                        refine lv_iload_n hx hb dX7_readSymbol_294 rfl (lv_at hl 1 rfl) ?_
                                                                                        exact r_iret cx w h dX7_readSymbol_295
                                                                                      · have h := x_f h k88
                                                                                        rcases Decidable.em (c2 = 83) with k89 | k89
                                                                                        · have h := x_t h k89
                                                                                          rw [k89]
                                                                                          refine lv_tableIn (tgt := 294) hx hb dX7_readSymbol_1 (by decide) (by decide) rfl (by decide) ?_
                                                                                          refine lv_iload_n hx hb dX7_readSymbol_294 rfl (lv_at hl 1 rfl) ?_
                                                                                          exact r_iret cx w h dX7_readSymbol_295
                                                                                        · have h := x_f h k89
                                                                                          rcases Decidable.em (c2 = 84) with k90 | k90
                                                                                          · have h := x_t h k90
                                                                                            rw [k90]
                                                                                            refine lv_tableIn (tgt := 294) hx hb dX7_readSymbol_1 (by decide) (by decide) rfl (by decide) ?_
                                                                                            refine lv_iload_n hx hb dX7_readSymbol_294 rfl (lv_at hl 1 rfl) ?_
                                                                                            exact r_iret cx w h dX7_readSymbol_295
                                                                                          · have h := x_f h k90
                                                                                            rcases Decidable.em (c2 = 85) with k91 | k91
                                                                                            · have h := x_t h k91
                                                                                              rw [k91]
                                                                                              refine lv_tableIn (tgt := 294) hx hb dX7_readSymbol_1 (by decide) (by decide) rfl (by decide) ?_
                                                                                              refine lv_iload_n hx hb dX7_readSymbol_294 rfl (lv_at hl 1 rfl) ?_
                                                                                              exact r_iret cx w h dX7_readSymbol_295
                                                                                            · have h := x_f h k91
                                                                                              rcases Decidable.em (c2 = 86) with k92 | k92
                                                                                              · have h := x_t h k92
                                                                                                rw [k92]
                                                                                                refine lv_tableIn (tgt := 294) hx hb dX7_readSymbol_1 (by decide) (by decide) rfl (by decide) ?_
                                                                                                refine lv_iload_n hx hb dX7_readSymbol_294 rfl (lv_at hl 1 rfl) ?_
                                                                                                exact r_iret cx w h dX7_readSymbol_295
                                                                                              · have h := x_f h k92
                                                                                                rcases Decidable.em (c2 = 87) with k93 | k93
                                                                                                · have h := x_t h k93
                                                                                                  rw [k93]
                                                                                                  refine lv_tableIn (tgt := 294) hx hb dX7_readSymbol_1 (by decide) (by decide) rfl (by decide) ?_
                                                                                                  refine lv_iload_n hx hb dX7_readSymbol_294 rfl (lv_at hl 1 rfl) ?_
                                                                                                  exact r_iret cx w h dX7_readSymbol_295
                                                                                                · have h := x_f h k93
                                                                                                  rcases Decidable.em (c2 = 88) with k94 | k94
                                                                                                  · have h := x_t h k94
                                                                                                    rw [k94]
                                                                                                    refine lv_tableIn (tgt := 294) hx hb dX7_readSymbol_1 (by decide) (by decide) rfl (by decide) ?_
                                                                                                    refine lv_iload_n hx hb dX7_readSymbol_294 rfl (lv_at hl 1 rfl) ?_
                                                                                                    exact r_iret cx w h dX7_readSymbol_295
                                                                                                  · have h := x_f h k94
                                                                                                    rcases Decidable.em (c2 = 89) with k95 | k95
                                                                                                    · have h := x_t h k95
                                                                                                      rw [k95]
                                                                                                      refine lv_tableIn (tgt := 294) hx hb dX7_readSymbol_1 (by decide) (by decide) rfl (by decide) ?_
                                                                                                      refine lv_iload_n hx hb dX7_readSymbol_294 rfl (lv_at hl 1 rfl) ?_
                                                                                                      exact r_iret cx w h dX7_readSymbol_295
                                                                                                    · have h := x_f h k95
                                                                                                      rcases Decidable.em (c2 = 90) with k96 | k96
                                                                                                      · have h := x_t h k96
                                                                                                        rw [k96]
                                                                                                        refine lv_tableIn (tgt := 294) hx hb dX7_readSymbol_1 (by decide) (by decide) rfl (by decide) ?_
                                                                                                        refine lv_iload_n hx hb dX7_readSymbol_294 rfl (lv_at hl 1 rfl) ?_
                                                                                                        exact r_iret cx w h dX7_readSymbol_295
                                                                                                      · have h := x_f h k96
                                                                                                        rcases Decidable.em (c2 = 91) with k97 | k97
                                                                                                        · have h := x_t h k97
                                                                                                          rw [k97]
                                                                                                          refine lv_tableIn (tgt := 283) hx hb dX7_readSymbol_1 (by decide) (by decide) rfl (by decide) ?_
                                                                                                          refine lv_aload_n hx hb dX7_readSymbol_283 rfl (lv_at hl 0 rfl) ?_
                                                                                                          refine lv_iload_n hx hb dX7_readSymbol_284 rfl (lv_at hl 2 rfl) ?_
                                                                                                          refine lv_iload_n hx hb dX7_readSymbol_285 rfl (lv_at hl 1 rfl) ?_
                                                                                                          refine lv_lconst (v := 0) hx hb dX7_readSymbol_286 (by decide) ?_
                                                                                                          obtain ⟨M98, r99, y100, h⟩ := x_cl h
                                                                                                          refine r_callVv (As := [.int c2, .int c1, .long ((0 : Int64))]) (rest := []) cx w hkn hl.1 (k_X7_add hG hL0 hK0 y100) (cwV 3 hts gX7_readSymbol_X7_add rfl rfl rfl (by decide +kernel) ⟨Nat.le_of_ble_eq_true rfl, Nat.le_of_ble_eq_true rfl⟩) hL0 hK0 (by decide) rfl rfl rfl (Nat.le_of_ble_eq_true rfl) dX7_readSymbol_287 (fun H locs w => ?_)
                                                                                                          refine lv_iload_n hx hb dX7_readSymbol_290 rfl (lv_at hl 1 rfl) ?_
                                                                                                          refine lv_iconst (v := (1 : Int32)) hx hb dX7_readSymbol_291 (by decide) ?_
                                                                                                          refine lv_iadd hx hb dX7_readSymbol_292 ?_
                                                                                                          exact r_iret cx w h dX7_readSymbol_293
                                                                                                        · have h := x_f h k97
                                                                                                          rcases Decidable.em (c2 = 92) with k101 | k101
                                                                                                          · have h := x_t h k101
                                                                                                            rw [k101]
                                                                                                            refine lv_tableIn (tgt := 294) hx hb dX7_readSymbol_1 (by decide) (by decide) rfl (by decide) ?_
                                                                                                            refine lv_iload_n hx hb dX7_readSymbol_294 rfl (lv_at hl 1 rfl) ?_
                                                                                                            exact r_iret cx w h dX7_readSymbol_295
                                                                                                          · have h := x_f h k101
                                                                                                            rcases Decidable.em (c2 = 93) with k102 | k102
                                                                                                            · have h := x_t h k102
                                                                                                              rw [k102]
                                                                                                              refine lv_tableIn (tgt := 283) hx hb dX7_readSymbol_1 (by decide) (by decide) rfl (by decide) ?_
                                                                                                              refine lv_aload_n hx hb dX7_readSymbol_283 rfl (lv_at hl 0 rfl) ?_
                                                                                                              refine lv_iload_n hx hb dX7_readSymbol_284 rfl (lv_at hl 2 rfl) ?_
                                                                                                              refine lv_iload_n hx hb dX7_readSymbol_285 rfl (lv_at hl 1 rfl) ?_
                                                                                                              refine lv_lconst (v := 0) hx hb dX7_readSymbol_286 (by decide) ?_
                                                                                                              obtain ⟨M103, r104, y105, h⟩ := x_cl h
                                                                                                              refine r_callVv (As := [.int c2, .int c1, .long ((0 : Int64))]) (rest := []) cx w hkn hl.1 (k_X7_add hG hL0 hK0 y105) (cwV 3 hts gX7_readSymbol_X7_add rfl rfl rfl (by decide +kernel) ⟨Nat.le_of_ble_eq_true rfl, Nat.le_of_ble_eq_true rfl⟩) hL0 hK0 (by decide) rfl rfl rfl (Nat.le_of_ble_eq_true rfl) dX7_readSymbol_287 (fun H locs w => ?_)
                                                                                                              refine lv_iload_n hx hb dX7_readSymbol_290 rfl (lv_at hl 1 rfl) ?_
                                                                                                              refine lv_iconst (v := (1 : Int32)) hx hb dX7_readSymbol_291 (by decide) ?_
                                                                                                              refine lv_iadd hx hb dX7_readSymbol_292 ?_
                                                                                                              exact r_iret cx w h dX7_readSymbol_293
                                                                                                            · have h := x_f h k102
                                                                                                              refine lv_tableOut (tgt := 294) hx hb dX7_readSymbol_1 (by have nk1 : Int32.toInt c2 ≠ 40 := fun hh => k1 (Int32.toInt_inj.mp hh); have nk5 : Int32.toInt c2 ≠ 41 := fun hh => k5 (Int32.toInt_inj.mp hh); have nk9 : Int32.toInt c2 ≠ 42 := fun hh => k9 (Int32.toInt_inj.mp hh); have nk13 : Int32.toInt c2 ≠ 43 := fun hh => k13 (Int32.toInt_inj.mp hh); have nk17 : Int32.toInt c2 ≠ 44 := fun hh => k17 (Int32.toInt_inj.mp hh); have nk21 : Int32.toInt c2 ≠ 45 := fun hh => k21 (Int32.toInt_inj.mp hh); have nk25 : Int32.toInt c2 ≠ 46 := fun hh => k25 (Int32.toInt_inj.mp hh); have nk26 : Int32.toInt c2 ≠ 47 := fun hh => k26 (Int32.toInt_inj.mp hh); have nk30 : Int32.toInt c2 ≠ 48 := fun hh => k30 (Int32.toInt_inj.mp hh); have nk31 : Int32.toInt c2 ≠ 49 := fun hh => k31 (Int32.toInt_inj.mp hh); have nk32 : Int32.toInt c2 ≠ 50 := fun hh => k32 (Int32.toInt_inj.mp hh); have nk33 : Int32.toInt c2 ≠ 51 := fun hh => k33 (Int32.toInt_inj.mp hh); have nk34 : Int32.toInt c2 ≠ 52 := fun hh => k34 (Int32.toInt_inj.mp hh); have nk35 : Int32.toInt c2 ≠ 53 := fun hh => k35 (Int32.toInt_inj.mp hh); have nk36 : Int32.toInt c2 ≠ 54 := fun hh => k36 (Int32.toInt_inj.mp hh); have nk37 : Int32.toInt c2 ≠ 55 := fun hh => k37 (Int32.toInt_inj.mp hh); have nk38 : Int32.toInt c2 ≠ 56 := fun hh => k38 (Int32.toInt_inj.mp hh); have nk39 : Int32.toInt c2 ≠ 57 := fun hh => k39 (Int32.toInt_inj.mp hh); have nk40 : Int32.toInt c2 ≠ 58 := fun hh => k40 (Int32.toInt_inj.mp hh); have nk41 : Int32.toInt c2 ≠ 59 := fun hh => k41 (Int32.toInt_inj.mp hh); have nk45 : Int32.toInt c2 ≠ 60 := fun hh => k45 (Int32.toInt_inj.mp hh); have nk55 : Int32.toInt c2 ≠ 61 := fun hh => k55 (Int32.toInt_inj.mp hh); have nk59 : Int32.toInt c2 ≠ 62 := fun hh => k59 (Int32.toInt_inj.mp hh); have nk69 : Int32.toInt c2 ≠ 63 := fun hh => k69 (Int32.toInt_inj.mp hh); have nk70 : Int32.toInt c2 ≠ 64 := fun hh => k70 (Int32.toInt_inj.mp hh); have nk71 : Int32.toInt c2 ≠ 65 := fun hh => k71 (Int32.toInt_inj.mp hh); have nk72 : Int32.toInt c2 ≠ 66 := fun hh => k72 (Int32.toInt_inj.mp hh); have nk73 : Int32.toInt c2 ≠ 67 := fun hh => k73 (Int32.toInt_inj.mp hh); have nk74 : Int32.toInt c2 ≠ 68 := fun hh => k74 (Int32.toInt_inj.mp hh); have nk75 : Int32.toInt c2 ≠ 69 := fun hh => k75 (Int32.toInt_inj.mp hh); have nk76 : Int32.toInt c2 ≠ 70 := fun hh => k76 (Int32.toInt_inj.mp hh); have nk77 : Int32.toInt c2 ≠ 71 := fun hh => k77 (Int32.toInt_inj.mp hh); have nk78 : Int32.toInt c2 ≠ 72 := fun hh => k78 (Int32.toInt_inj.mp hh); have nk79 : Int32.toInt c2 ≠ 73 := fun hh => k79 (Int32.toInt_inj.mp hh); have nk80 : Int32.toInt c2 ≠ 74 := fun hh => k80 (Int32.toInt_inj.mp hh); have nk81 : Int32.toInt c2 ≠ 75 := fun hh => k81 (Int32.toInt_inj.mp hh); have nk82 : Int32.toInt c2 ≠ 76 := fun hh => k82 (Int32.toInt_inj.mp hh); have nk83 : Int32.toInt c2 ≠ 77 := fun hh => k83 (Int32.toInt_inj.mp hh); have nk84 : Int32.toInt c2 ≠ 78 := fun hh => k84 (Int32.toInt_inj.mp hh); have nk85 : Int32.toInt c2 ≠ 79 := fun hh => k85 (Int32.toInt_inj.mp hh); have nk86 : Int32.toInt c2 ≠ 80 := fun hh => k86 (Int32.toInt_inj.mp hh); have nk87 : Int32.toInt c2 ≠ 81 := fun hh => k87 (Int32.toInt_inj.mp hh); have nk88 : Int32.toInt c2 ≠ 82 := fun hh => k88 (Int32.toInt_inj.mp hh); have nk89 : Int32.toInt c2 ≠ 83 := fun hh => k89 (Int32.toInt_inj.mp hh); have nk90 : Int32.toInt c2 ≠ 84 := fun hh => k90 (Int32.toInt_inj.mp hh); have nk91 : Int32.toInt c2 ≠ 85 := fun hh => k91 (Int32.toInt_inj.mp hh); have nk92 : Int32.toInt c2 ≠ 86 := fun hh => k92 (Int32.toInt_inj.mp hh); have nk93 : Int32.toInt c2 ≠ 87 := fun hh => k93 (Int32.toInt_inj.mp hh); have nk94 : Int32.toInt c2 ≠ 88 := fun hh => k94 (Int32.toInt_inj.mp hh); have nk95 : Int32.toInt c2 ≠ 89 := fun hh => k95 (Int32.toInt_inj.mp hh); have nk96 : Int32.toInt c2 ≠ 90 := fun hh => k96 (Int32.toInt_inj.mp hh); have nk97 : Int32.toInt c2 ≠ 91 := fun hh => k97 (Int32.toInt_inj.mp hh); have nk101 : Int32.toInt c2 ≠ 92 := fun hh => k101 (Int32.toInt_inj.mp hh); have nk102 : Int32.toInt c2 ≠ 93 := fun hh => k102 (Int32.toInt_inj.mp hh); omega) (by decide) ?_
                                                                                                              refine lv_iload_n hx hb dX7_readSymbol_294 rfl (lv_at hl 1 rfl) ?_
                                                                                                              exact r_iret cx w h dX7_readSymbol_295
-- X7_readToken
theorem wi_X7_readToken_X7 : ∀ w ∈ wsX70, w ∈ wsX7_readToken := by decide +kernel
abbrev rmX7_readToken : Room := { frames := 3, cells := 0, slots := 0, locals := 66 }
def m_X7_readToken (G : gS) (M : mS) (a0 : Nat) (c1 : Int32) : Option (mS × Int32) := o_rf (gP G a0 0) (fun q1 => o_cl (m_X6_byteAt G M q1 c1) (fun M2 r3 => o_cl (m_X7_isLetter G M2 r3) (fun M5 r6 => (if r6 = 0 then o_cl (m_X7_isDigit G M5 r3) (fun M9 r10 => (if r10 = 0 then o_cl (m_X7_readSymbol G M9 a0 c1 r3) (fun M13 r14 => some (M13, r14)) else o_cl (m_X7_readNumber G M9 a0 c1) (fun M16 r17 => some (M16, r17)))) else o_cl (m_X7_readWord G M5 a0 c1) (fun M19 r20 => some (M19, r20))))))
set_option maxHeartbeats 4000000 in
set_option maxRecDepth 100000 in
theorem k_X7_readToken {l : Launch} {D : va_G} {cy : cyS} {G : gS} {M M' : mS} {r : Int32} {a0 : Nat} {c1 : Int32} (hG : wt G) (hL0 : a0 ∈ gL G) (hK0 : gK G a0 = 6) (h : m_X7_readToken G M a0 c1 = some (M', r)) : ctI l yX7_readToken wsX7_readToken rmX7_readToken D cy G M [.ref a0, .int c1] M' r := by
  unfold m_X7_readToken at h
  refine ctI_of (cc := cX7_readToken) (nL := 3) (ret := (some .int)) (lv := [(0, .ref a0), (1, .int c1)]) hG (by decide) rfl ⟨rfl, rfl⟩ (Nat.le_of_ble_eq_true rfl) rfl ?_
  intro p e s m args below meth c A ls cx w hl
  obtain ⟨hx, hb, hml, hown, hts, hr, hlocks, hK, hA, -, hsx⟩ := id cx
  have hkn : 0 ≤ (rmX7_readToken).cells ∧ 0 ≤ (rmX7_readToken).slots := ⟨Nat.zero_le _, Nat.zero_le _⟩
  refine lv_aload_n hx hb dX7_readToken_0 rfl (lv_at hl 0 rfl) ?_
  obtain ⟨q1, eq1, h⟩ := x_rf h
  obtain ⟨hLq1, hKq1⟩ := wt_q hG hL0 hK0 eq1
  have hKq1 : gK G q1 = 5 := hKq1
  refine r_getR (k := 0) cx w hL0 hK0 (by decide) rfl wi_X7_readToken_X7 (by decide) rfl eq1 (List.mem_of_getElem? (i := 1) rfl) dX7_readToken_1 ?_
  refine lv_iload_n hx hb dX7_readToken_4 rfl (lv_at hl 1 rfl) ?_
  obtain ⟨M2, r3, y4, h⟩ := x_cl h
  refine r_callVi (As := [.int c1]) (rest := []) cx w hkn hl.1 (k_X6_byteAt hG hLq1 hKq1 y4) (cwV 1 hts gX7_readToken_X6_byteAt rfl rfl rfl (by decide +kernel) ⟨Nat.le_of_ble_eq_true rfl, Nat.le_of_ble_eq_true rfl⟩) hLq1 hKq1 (by decide) rfl rfl rfl (Nat.le_of_ble_eq_true rfl) dX7_readToken_5 (fun H locs w => ?_)
  refine lv_istore_n (lv' := [(2, .int r3), (0, .ref a0), (1, .int c1)]) hx hb dX7_readToken_8 rfl hl (by decide) rfl (fun ls hl => ?_)
  refine lv_iload_n hx hb dX7_readToken_9 rfl (lv_at hl 0 rfl) ?_
  obtain ⟨M5, r6, y7, h⟩ := x_cl h
  refine r_callSi (As := [.int r3]) (rest := []) cx w hkn hl.1 (k_X7_isLetter hG y7) (va_cwS 1 hts gX7_readToken_X7_isLetter rfl rfl rfl (by decide +kernel) ⟨Nat.le_of_ble_eq_true rfl, Nat.le_of_ble_eq_true rfl⟩) rfl rfl (Nat.le_of_ble_eq_true rfl) dX7_readToken_10 (fun H locs w => ?_)
  refine lv_if_eq (tgt := 22) hx hb dX7_readToken_13 (by decide) (fun k8 => ?_) (fun k8 => ?_)
  · have h := x_t h k8
    refine lv_iload_n hx hb dX7_readToken_22 rfl (lv_at hl 0 rfl) ?_
    obtain ⟨M9, r10, y11, h⟩ := x_cl h
    refine r_callSi (As := [.int r3]) (rest := []) cx w hkn hl.1 (k_X7_isDigit hG y11) (va_cwS 1 hts gX7_readToken_X7_isDigit rfl rfl rfl (by decide +kernel) ⟨Nat.le_of_ble_eq_true rfl, Nat.le_of_ble_eq_true rfl⟩) rfl rfl (Nat.le_of_ble_eq_true rfl) dX7_readToken_23 (fun H locs w => ?_)
    refine lv_if_eq (tgt := 35) hx hb dX7_readToken_26 (by decide) (fun k12 => ?_) (fun k12 => ?_)
    · have h := x_t h k12
      refine lv_aload_n hx hb dX7_readToken_35 rfl (lv_at hl 1 rfl) ?_
      refine lv_iload_n hx hb dX7_readToken_36 rfl (lv_at hl 2 rfl) ?_
      refine lv_iload_n hx hb dX7_readToken_37 rfl (lv_at hl 0 rfl) ?_
      obtain ⟨M13, r14, y15, h⟩ := x_cl h
      refine r_callVi (As := [.int c1, .int r3]) (rest := []) cx w hkn hl.1 (k_X7_readSymbol hG hL0 hK0 y15) (cwV 2 hts gX7_readToken_X7_readSymbol rfl rfl rfl (by decide +kernel) ⟨Nat.le_of_ble_eq_true rfl, Nat.le_of_ble_eq_true rfl⟩) hL0 hK0 (by decide) rfl rfl rfl (Nat.le_of_ble_eq_true rfl) dX7_readToken_38 (fun H locs w => ?_)
      exact r_iret cx w h dX7_readToken_41
    · have h := x_f h k12
      refine lv_aload_n hx hb dX7_readToken_29 rfl (lv_at hl 1 rfl) ?_
      refine lv_iload_n hx hb dX7_readToken_30 rfl (lv_at hl 2 rfl) ?_
      obtain ⟨M16, r17, y18, h⟩ := x_cl h
      refine r_callVi (As := [.int c1]) (rest := []) cx w hkn hl.1 (k_X7_readNumber hG hL0 hK0 y18) (cwV 1 hts gX7_readToken_X7_readNumber rfl rfl rfl (by decide +kernel) ⟨Nat.le_of_ble_eq_true rfl, Nat.le_of_ble_eq_true rfl⟩) hL0 hK0 (by decide) rfl rfl rfl (Nat.le_of_ble_eq_true rfl) dX7_readToken_31 (fun H locs w => ?_)
      exact r_iret cx w h dX7_readToken_34
  · have h := x_f h k8
    refine lv_aload_n hx hb dX7_readToken_16 rfl (lv_at hl 1 rfl) ?_
    refine lv_iload_n hx hb dX7_readToken_17 rfl (lv_at hl 2 rfl) ?_
    obtain ⟨M19, r20, y21, h⟩ := x_cl h
    refine r_callVi (As := [.int c1]) (rest := []) cx w hkn hl.1 (k_X7_readWord hG hL0 hK0 y21) (cwV 1 hts gX7_readToken_X7_readWord rfl rfl rfl (by decide +kernel) ⟨Nat.le_of_ble_eq_true rfl, Nat.le_of_ble_eq_true rfl⟩) hL0 hK0 (by decide) rfl rfl rfl (Nat.le_of_ble_eq_true rfl) dX7_readToken_18 (fun H locs w => ?_)
    exact r_iret cx w h dX7_readToken_21
-- X7_close
theorem wi_X7_close_X6 : ∀ w ∈ wsX60, w ∈ wsX7_close := by decide +kernel
theorem wi_X7_close_X7 : ∀ w ∈ wsX70, w ∈ wsX7_close := by decide +kernel
abbrev rmX7_close : Room := { frames := 0, cells := 0, slots := 0, locals := 0 }
def m_X7_close_36 (G : gS) (a0 : Nat) (c1 : Int32)  (M : mS) (s0 : Nat) (s1 : Int32) (s2 : Int32) : Option (mS × Unit) := o_ix s1 (gN G s0) (o_wI M s0 (Int32.toNatClampNeg s1) s2 (fun M2 => o_rf (gP G a0 3) (fun q3 => o_ix (mI M2 a0 5) (gN G q3) (o_wI M2 q3 (Int32.toNatClampNeg (mI M2 a0 5)) c1 (fun M5 => o_rf (gP G a0 4) (fun q6 => o_ix (mI M5 a0 5) (gN G q6) (o_wJ M5 q6 (Int32.toNatClampNeg (mI M5 a0 5)) (0 : Int64) (fun M8 => some (M8, ())))))))))
def m_X7_close (G : gS) (M : mS) (a0 : Nat) (c1 : Int32) : Option (mS × Unit) := o_rf (gP G a0 2) (fun q1 => (if (Int32.ofNat (gN G q1)) ≤ (mI M a0 5) then some (M, ()) else o_rf (gP G a0 2) (fun q3 => o_rf (gP G a0 0) (fun q4 => (if (mI M q4 1) ≤ c1 then m_X7_close_36 G a0 c1 M q3 ((mI M a0 5)) ((0 : Int32)) else m_X7_close_36 G a0 c1 M q3 ((mI M a0 5)) ((1 : Int32)))))))
set_option maxHeartbeats 4000000 in
set_option maxRecDepth 100000 in
theorem b_X7_close_36 {p : Program} {e : Env} {s : State} {m : MethodId} {args : Array Value} {below : List Frame} {meth : Method} {c : Code} {A : Nat → Prop} {l : Launch} {D : va_G} {cy : cyS} {G : gS} (cx : cX p s m args meth c cX7_close RX7 2 none wsX7_close D cy G A) {k0 n0 : Nat} (hkn : k0 ≤ (rmX7_close).cells ∧ n0 ≤ (rmX7_close).slots) {M' : mS} {a0 : Nat} {c1 : Int32} (hL0 : a0 ∈ gL G) (hK0 : gK G a0 = 6)  : ∀ (M : mS) (s0 : Nat) (s1 : Int32) (s2 : Int32) (H : Heap) (locs : List Loc) (ls : Array Slot), s0 ∈ gL G → gK G s0 = 12 → m_X7_close_36 G a0 c1 M s0 s1 s2 = some (M', ()) → wd D cy G M A s.heap H locs → lv_has ls 2 [(0, .ref a0), (1, .int c1)] → W p l e rmX7_close s m args below meth c H locs k0 n0 (MQ below (va_Qv (fun (_ : Unit) => True) (fun _ t => wOut D cy G M' t) A) args s k0 n0 A) (F0 m 36 ls [.int s2, .int s1, .ref s0]) := by
  obtain ⟨hx, hb, hml, hown, hts, hr, hlocks, hK, hA, hG, hsx⟩ := id cx
  intro M s0 s1 s2 H locs ls sL0 sK0 h w hl
  unfold m_X7_close_36 at h
  obtain ⟨z1, h⟩ := x_ix h
  obtain ⟨M2, eM2, h⟩ := x_wI h
  refine r_iast cx w sL0 sK0 z1 dX7_close_36 eM2 (fun H locs w => ?_)
  refine lv_aload_n hx hb dX7_close_37 rfl (lv_at hl 0 rfl) ?_
  obtain ⟨q3, eq3, h⟩ := x_rf h
  obtain ⟨hLq3, hKq3⟩ := wt_q hG hL0 hK0 eq3
  have hKq3 : gK G q3 = 12 := hKq3
  refine r_getR (k := 3) cx w hL0 hK0 (by decide) rfl wi_X7_close_X7 (by decide) rfl eq3 (List.mem_of_getElem? (i := 5) rfl) dX7_close_38 ?_
  refine lv_aload_n hx hb dX7_close_41 rfl (lv_at hl 0 rfl) ?_
  refine r_getI (k := 5) (v := .int (mI M2 a0 5)) cx w hL0 hK0 (by decide) rfl wi_X7_close_X7 (by decide) rfl (List.mem_of_getElem? (i := 1) rfl) dX7_close_42 ?_
  refine lv_iload_n hx hb dX7_close_45 rfl (lv_at hl 1 rfl) ?_
  obtain ⟨z4, h⟩ := x_ix h
  obtain ⟨M5, eM5, h⟩ := x_wI h
  refine r_iast cx w hLq3 hKq3 z4 dX7_close_46 eM5 (fun H locs w => ?_)
  refine lv_aload_n hx hb dX7_close_47 rfl (lv_at hl 0 rfl) ?_
  obtain ⟨q6, eq6, h⟩ := x_rf h
  obtain ⟨hLq6, hKq6⟩ := wt_q hG hL0 hK0 eq6
  have hKq6 : gK G q6 = 13 := hKq6
  refine r_getR (k := 4) cx w hL0 hK0 (by decide) rfl wi_X7_close_X7 (by decide) rfl eq6 (List.mem_of_getElem? (i := 6) rfl) dX7_close_48 ?_
  refine lv_aload_n hx hb dX7_close_51 rfl (lv_at hl 0 rfl) ?_
  refine r_getI (k := 5) (v := .int (mI M5 a0 5)) cx w hL0 hK0 (by decide) rfl wi_X7_close_X7 (by decide) rfl (List.mem_of_getElem? (i := 1) rfl) dX7_close_52 ?_
  refine lv_lconst (v := 0) hx hb dX7_close_55 (by decide) ?_
  obtain ⟨z7, h⟩ := x_ix h
  obtain ⟨M8, eM8, h⟩ := x_wJ h
  refine r_last cx w hLq6 hKq6 z7 dX7_close_56 eM8 (fun H locs w => ?_)
  exact r_vret cx w h dX7_close_57
set_option maxHeartbeats 4000000 in
set_option maxRecDepth 100000 in
theorem k_X7_close {l : Launch} {D : va_G} {cy : cyS} {G : gS} {M M' : mS} {a0 : Nat} {c1 : Int32} (hG : wt G) (hL0 : a0 ∈ gL G) (hK0 : gK G a0 = 6) (h : m_X7_close G M a0 c1 = some (M', ())) : ctV l yX7_close wsX7_close rmX7_close D cy G M [.ref a0, .int c1] M' := by
  unfold m_X7_close at h
  refine ctV_of (cc := cX7_close) (nL := 2) (ret := none) (lv := [(0, .ref a0), (1, .int c1)]) hG (by decide) rfl ⟨rfl, rfl⟩ (Nat.le_of_ble_eq_true rfl) rfl ?_
  intro p e s m args below meth c A ls cx w hl
  obtain ⟨hx, hb, hml, hown, hts, hr, hlocks, hK, hA, -, hsx⟩ := id cx
  have hkn : 0 ≤ (rmX7_close).cells ∧ 0 ≤ (rmX7_close).slots := ⟨Nat.zero_le _, Nat.zero_le _⟩
  refine lv_aload_n hx hb dX7_close_0 rfl (lv_at hl 0 rfl) ?_
  refine r_getI (k := 5) (v := .int (mI M a0 5)) cx w hL0 hK0 (by decide) rfl wi_X7_close_X7 (by decide) rfl (List.mem_of_getElem? (i := 1) rfl) dX7_close_1 ?_
  refine lv_aload_n hx hb dX7_close_4 rfl (lv_at hl 0 rfl) ?_
  obtain ⟨q1, eq1, h⟩ := x_rf h
  obtain ⟨hLq1, hKq1⟩ := wt_q hG hL0 hK0 eq1
  have hKq1 : gK G q1 = 12 := hKq1
  refine r_getR (k := 2) cx w hL0 hK0 (by decide) rfl wi_X7_close_X7 (by decide) rfl eq1 (List.mem_of_getElem? (i := 2) rfl) dX7_close_5 ?_
  refine r_alen cx w hLq1 hKq1 (by decide) dX7_close_8 ?_
  refine lv_icmp_ge (tgt := 57) hx hb dX7_close_9 (by decide) (fun k2 => ?_) (fun k2 => ?_)
  · have h := x_t h k2
    exact r_vret cx w h dX7_close_57
  · have h := x_f h k2
    refine lv_aload_n hx hb dX7_close_12 rfl (lv_at hl 0 rfl) ?_
    obtain ⟨q3, eq3, h⟩ := x_rf h
    obtain ⟨hLq3, hKq3⟩ := wt_q hG hL0 hK0 eq3
    have hKq3 : gK G q3 = 12 := hKq3
    refine r_getR (k := 2) cx w hL0 hK0 (by decide) rfl wi_X7_close_X7 (by decide) rfl eq3 (List.mem_of_getElem? (i := 2) rfl) dX7_close_13 ?_
    refine lv_aload_n hx hb dX7_close_16 rfl (lv_at hl 0 rfl) ?_
    refine r_getI (k := 5) (v := .int (mI M a0 5)) cx w hL0 hK0 (by decide) rfl wi_X7_close_X7 (by decide) rfl (List.mem_of_getElem? (i := 1) rfl) dX7_close_17 ?_
    refine lv_iload_n hx hb dX7_close_20 rfl (lv_at hl 1 rfl) ?_
    refine lv_aload_n hx hb dX7_close_21 rfl (lv_at hl 0 rfl) ?_
    obtain ⟨q4, eq4, h⟩ := x_rf h
    obtain ⟨hLq4, hKq4⟩ := wt_q hG hL0 hK0 eq4
    have hKq4 : gK G q4 = 5 := hKq4
    refine r_getR (k := 0) cx w hL0 hK0 (by decide) rfl wi_X7_close_X7 (by decide) rfl eq4 (List.mem_of_getElem? (i := 3) rfl) dX7_close_22 ?_
    refine r_getI (k := 1) (v := .int (mI M q4 1)) cx w hLq4 hKq4 (by decide) rfl wi_X7_close_X6 (by decide) rfl (List.mem_of_getElem? (i := 4) rfl) dX7_close_25 ?_
    refine lv_icmp_ge (tgt := 35) hx hb dX7_close_28 (by decide) (fun k5 => ?_) (fun k5 => ?_)
    · have h := x_t h k5
      refine lv_iconst (v := (0 : Int32)) hx hb dX7_close_35 (by decide) ?_
      exact b_X7_close_36 cx hkn hL0 hK0 M q3 ((mI M a0 5)) ((0 : Int32)) s.heap [] ls hLq3 hKq3 h w (lv_sub hl [0, 1] rfl)
    · have h := x_f h k5
      refine lv_iconst (v := (1 : Int32)) hx hb dX7_close_31 (by decide) ?_
      refine lv_goto (tgt := 36) hx hb dX7_close_32 (by decide) ?_
      exact b_X7_close_36 cx hkn hL0 hK0 M q3 ((mI M a0 5)) ((1 : Int32)) s.heap [] ls hLq3 hKq3 h w (lv_sub hl [0, 1] rfl)
-- X7_scan
theorem wi_X7_scan_X7 : ∀ w ∈ wsX70, w ∈ wsX7_scan := by decide +kernel
abbrev rmX7_scan : Room := { frames := 4, cells := 0, slots := 0, locals := 88 }
def m_X7_scan_52 (G : gS) (a0 : Nat)  (M : mS) (v1 : Int32) : Option (mS × Unit) := o_cl (m_X7_close G M a0 v1) (fun M1 r2 => some (M1, ()))
def m_X7_scan_16 (G : gS) (a0 : Nat)  : Nat → mS → Int32 → Int32 → Option (mS × Unit)
  | 0, _, _, _ => none
  | n + 1, M, v1, v2 => (if (400 : Int32) ≤ v2 then m_X7_scan_52 G a0 M v1 else o_cl (m_X7_readToken G M a0 v1) (fun M2 r3 => (if r3 = v1 then m_X7_scan_52 G a0 M2 v1 else o_rf (gP G a0 0) (fun q6 => o_cl (m_X6_skipBlanks G M2 q6 r3) (fun M7 r8 => o_bd (v2 + 1 : Int32) (fun x10 => m_X7_scan_16 G a0 n M7 r8 x10))))))
def m_X7_scan (G : gS) (M : mS) (a0 : Nat) : Option (mS × Unit) := o_wI M a0 5 (0 : Int32) (fun M1 => o_rf (gP G a0 0) (fun q2 => o_cl (m_X6_skipBlanks G M1 q2 (0 : Int32)) (fun M3 r4 => m_X7_scan_16 G a0 fu M3 r4 ((0 : Int32)))))
set_option maxHeartbeats 4000000 in
set_option maxRecDepth 100000 in
theorem b_X7_scan_52 {p : Program} {e : Env} {s : State} {m : MethodId} {args : Array Value} {below : List Frame} {meth : Method} {c : Code} {A : Nat → Prop} {l : Launch} {D : va_G} {cy : cyS} {G : gS} (cx : cX p s m args meth c cX7_scan RX7 4 none wsX7_scan D cy G A) {k0 n0 : Nat} (hkn : k0 ≤ (rmX7_scan).cells ∧ n0 ≤ (rmX7_scan).slots) {M' : mS} {a0 : Nat} (hL0 : a0 ∈ gL G) (hK0 : gK G a0 = 6)  : ∀ (M : mS) (v1 : Int32) (H : Heap) (locs : List Loc) (ls : Array Slot), m_X7_scan_52 G a0 M v1 = some (M', ()) → wd D cy G M A s.heap H locs → lv_has ls 4 [(0, .ref a0), (1, .int v1)] → W p l e rmX7_scan s m args below meth c H locs k0 n0 (MQ below (va_Qv (fun (_ : Unit) => True) (fun _ t => wOut D cy G M' t) A) args s k0 n0 A) (F0 m 52 ls []) := by
  obtain ⟨hx, hb, hml, hown, hts, hr, hlocks, hK, hA, hG, hsx⟩ := id cx
  intro M v1 H locs ls h w hl
  unfold m_X7_scan_52 at h
  refine lv_aload_n hx hb dX7_scan_52 rfl (lv_at hl 0 rfl) ?_
  refine lv_iload_n hx hb dX7_scan_53 rfl (lv_at hl 1 rfl) ?_
  obtain ⟨M1, r2, y3, h⟩ := x_cl h
  refine r_callVv (As := [.int v1]) (rest := []) cx w hkn hl.1 (k_X7_close hG hL0 hK0 y3) (cwV 1 hts gX7_scan_X7_close rfl rfl rfl (by decide +kernel) ⟨Nat.le_of_ble_eq_true rfl, Nat.le_of_ble_eq_true rfl⟩) hL0 hK0 (by decide) rfl rfl rfl (Nat.le_of_ble_eq_true rfl) dX7_scan_54 (fun H locs w => ?_)
  exact r_vret cx w h dX7_scan_57
set_option maxHeartbeats 4000000 in
set_option maxRecDepth 100000 in
theorem b_X7_scan_16 {p : Program} {e : Env} {s : State} {m : MethodId} {args : Array Value} {below : List Frame} {meth : Method} {c : Code} {A : Nat → Prop} {l : Launch} {D : va_G} {cy : cyS} {G : gS} (cx : cX p s m args meth c cX7_scan RX7 4 none wsX7_scan D cy G A) {k0 n0 : Nat} (hkn : k0 ≤ (rmX7_scan).cells ∧ n0 ≤ (rmX7_scan).slots) {M' : mS} {a0 : Nat} (hL0 : a0 ∈ gL G) (hK0 : gK G a0 = 6)  : ∀ (n : Nat), ∀ (M : mS) (v1 : Int32) (v2 : Int32) (H : Heap) (locs : List Loc) (ls : Array Slot), m_X7_scan_16 G a0 n M v1 v2 = some (M', ()) → wd D cy G M A s.heap H locs → lv_has ls 4 [(0, .ref a0), (1, .int v1), (2, .int v2)] → W p l e rmX7_scan s m args below meth c H locs k0 n0 (MQ below (va_Qv (fun (_ : Unit) => True) (fun _ t => wOut D cy G M' t) A) args s k0 n0 A) (F0 m 16 ls []) := by
  obtain ⟨hx, hb, hml, hown, hts, hr, hlocks, hK, hA, hG, hsx⟩ := id cx
  intro n
  induction n with
  | zero =>
    intro M v1 v2 H locs ls h w hl
    have h : none = some _ := h
    cases h
  | succ n ih =>
    intro M v1 v2 H locs ls h w hl
    rw [m_X7_scan_16] at h
    refine lv_iload_n hx hb dX7_scan_16 rfl (lv_at hl 2 rfl) ?_
    refine lv_sipush (v := (400 : Int32)) hx hb dX7_scan_17 (by decide) ?_
    refine lv_icmp_ge (tgt := 52) hx hb dX7_scan_20 (by decide) (fun k1 => ?_) (fun k1 => ?_)
    · have h := x_t h k1
      exact b_X7_scan_52 cx hkn hL0 hK0 M v1 H locs ls h w (lv_sub hl [0, 1] rfl)
    · have h := x_f h k1
      refine lv_aload_n hx hb dX7_scan_23 rfl (lv_at hl 0 rfl) ?_
      refine lv_iload_n hx hb dX7_scan_24 rfl (lv_at hl 1 rfl) ?_
      obtain ⟨M2, r3, y4, h⟩ := x_cl h
      refine r_callVi (As := [.int v1]) (rest := []) cx w hkn hl.1 (k_X7_readToken hG hL0 hK0 y4) (cwV 1 hts gX7_scan_X7_readToken rfl rfl rfl (by decide +kernel) ⟨Nat.le_of_ble_eq_true rfl, Nat.le_of_ble_eq_true rfl⟩) hL0 hK0 (by decide) rfl rfl rfl (Nat.le_of_ble_eq_true rfl) dX7_scan_25 (fun H locs w => ?_)
      refine lv_istore_n (lv' := [(3, .int r3), (0, .ref a0), (1, .int v1), (2, .int v2)]) hx hb dX7_scan_28 rfl hl (by decide) rfl (fun ls hl => ?_)
      refine lv_iload_n hx hb dX7_scan_29 rfl (lv_at hl 0 rfl) ?_
      refine lv_iload_n hx hb dX7_scan_30 rfl (lv_at hl 2 rfl) ?_
      refine lv_icmp_ne (tgt := 37) hx hb dX7_scan_31 (by decide) (fun k5 => ?_) (fun k5 => ?_)
      · have h := x_f h k5
        refine lv_aload_n hx hb dX7_scan_37 rfl (lv_at hl 1 rfl) ?_
        obtain ⟨q6, eq6, h⟩ := x_rf h
        obtain ⟨hLq6, hKq6⟩ := wt_q hG hL0 hK0 eq6
        have hKq6 : gK G q6 = 5 := hKq6
        refine r_getR (k := 0) cx w hL0 hK0 (by decide) rfl wi_X7_scan_X7 (by decide) rfl eq6 (List.mem_of_getElem? (i := 2) rfl) dX7_scan_38 ?_
        refine lv_iload_n hx hb dX7_scan_41 rfl (lv_at hl 0 rfl) ?_
        obtain ⟨M7, r8, y9, h⟩ := x_cl h
        refine r_callVi (As := [.int r3]) (rest := []) cx w hkn hl.1 (k_X6_skipBlanks hG hLq6 hKq6 y9) (cwV 1 hts gX7_scan_X6_skipBlanks rfl rfl rfl (by decide +kernel) ⟨Nat.le_of_ble_eq_true rfl, Nat.le_of_ble_eq_true rfl⟩) hLq6 hKq6 (by decide) rfl rfl rfl (Nat.le_of_ble_eq_true rfl) dX7_scan_42 (fun H locs w => ?_)
        refine lv_istore_n (lv' := [(1, .int r8), (3, .int r3), (0, .ref a0), (2, .int v2)]) hx hb dX7_scan_45 rfl hl (by decide) rfl (fun ls hl => ?_)
        obtain ⟨x10, ex10, h⟩ := x_bd h
        refine lv_iinc (v := x10) (lv' := [(2, .int x10), (1, .int r8), (3, .int r3), (0, .ref a0)]) hx hb dX7_scan_46 hl (k := 3) rfl (by rw [ex10]; rfl) (by decide) rfl (fun ls hl => ?_)
        refine lv_goto (tgt := 16) hx hb dX7_scan_49 (by decide) ?_
        exact ih M7 r8 x10 H locs ls h w (lv_sub hl [3, 1, 0] rfl)
      · have h := x_t h k5
        refine lv_goto (tgt := 52) hx hb dX7_scan_34 (by decide) ?_
        exact b_X7_scan_52 cx hkn hL0 hK0 M2 v1 H locs ls h w (lv_sub hl [1, 2] rfl)
set_option maxHeartbeats 4000000 in
set_option maxRecDepth 100000 in
theorem k_X7_scan {l : Launch} {D : va_G} {cy : cyS} {G : gS} {M M' : mS} {a0 : Nat} (hG : wt G) (hL0 : a0 ∈ gL G) (hK0 : gK G a0 = 6) (h : m_X7_scan G M a0 = some (M', ())) : ctV l yX7_scan wsX7_scan rmX7_scan D cy G M [.ref a0] M' := by
  unfold m_X7_scan at h
  refine ctV_of (cc := cX7_scan) (nL := 4) (ret := none) (lv := [(0, .ref a0)]) hG (by decide) rfl ⟨rfl, rfl⟩ (Nat.le_of_ble_eq_true rfl) rfl ?_
  intro p e s m args below meth c A ls cx w hl
  obtain ⟨hx, hb, hml, hown, hts, hr, hlocks, hK, hA, -, hsx⟩ := id cx
  have hkn : 0 ≤ (rmX7_scan).cells ∧ 0 ≤ (rmX7_scan).slots := ⟨Nat.zero_le _, Nat.zero_le _⟩
  refine lv_aload_n hx hb dX7_scan_0 rfl (lv_at hl 0 rfl) ?_
  refine lv_iconst (v := (0 : Int32)) hx hb dX7_scan_1 (by decide) ?_
  obtain ⟨M1, eM1, h⟩ := x_wI h
  refine r_putI (k := 5) (ty := .int) cx w tyX7 tyX7_ok nmX7 hL0 hK0 (by decide) rfl wi_X7_scan_X7 (by decide) rfl rfl rfl rfl st_6_5 (ln_6 _ _ (by decide)) (List.mem_of_getElem? (i := 1) rfl) dX7_scan_2 eM1 (fun H locs w => ?_)
  refine lv_aload_n hx hb dX7_scan_5 rfl (lv_at hl 0 rfl) ?_
  obtain ⟨q2, eq2, h⟩ := x_rf h
  obtain ⟨hLq2, hKq2⟩ := wt_q hG hL0 hK0 eq2
  have hKq2 : gK G q2 = 5 := hKq2
  refine r_getR (k := 0) cx w hL0 hK0 (by decide) rfl wi_X7_scan_X7 (by decide) rfl eq2 (List.mem_of_getElem? (i := 2) rfl) dX7_scan_6 ?_
  refine lv_iconst (v := (0 : Int32)) hx hb dX7_scan_9 (by decide) ?_
  obtain ⟨M3, r4, y5, h⟩ := x_cl h
  refine r_callVi (As := [.int ((0 : Int32))]) (rest := []) cx w hkn hl.1 (k_X6_skipBlanks hG hLq2 hKq2 y5) (cwV 1 hts gX7_scan_X6_skipBlanks rfl rfl rfl (by decide +kernel) ⟨Nat.le_of_ble_eq_true rfl, Nat.le_of_ble_eq_true rfl⟩) hLq2 hKq2 (by decide) rfl rfl rfl (Nat.le_of_ble_eq_true rfl) dX7_scan_10 (fun H locs w => ?_)
  refine lv_istore_n (lv' := [(1, .int r4), (0, .ref a0)]) hx hb dX7_scan_13 rfl hl (by decide) rfl (fun ls hl => ?_)
  refine lv_iconst (v := (0 : Int32)) hx hb dX7_scan_14 (by decide) ?_
  refine lv_istore_n (lv' := [(2, .int ((0 : Int32))), (1, .int r4), (0, .ref a0)]) hx hb dX7_scan_15 rfl hl (by decide) rfl (fun ls hl => ?_)
  exact b_X7_scan_16 cx hkn hL0 hK0 fu M3 r4 ((0 : Int32)) H locs ls h w (lv_sub hl [2, 1, 0] rfl)
