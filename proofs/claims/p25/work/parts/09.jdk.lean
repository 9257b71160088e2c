-- J0_isLatin1_aae02
abbrev rmJ0_isLatin1_aae02 : Room := { frames := 0, cells := 0, slots := 0, locals := 0 }
def m_J0_isLatin1_aae02_17 (G : gS) (a0 : Nat)  (M : mS)  : Option (mS × Int32) := o_ck ((0 : Int32) = 0 ∨ (0 : Int32) = 1) (some (M, (0 : Int32)))
def m_J0_isLatin1_aae02 (G : gS) (M : mS) (a0 : Nat) : Option (mS × Int32) := (if (1 : Int32) = 0 then m_J0_isLatin1_aae02_17 G a0 M else (if (0 : Int32) = 0 then o_ck ((1 : Int32) = 0 ∨ (1 : Int32) = 1) (some (M, (1 : Int32))) else m_J0_isLatin1_aae02_17 G a0 M))
set_option maxHeartbeats 4000000 in
set_option maxRecDepth 100000 in
theorem b_J0_isLatin1_aae02_17 {p : Program} {e : Env} {s : State} {m : MethodId} {args : Array Value} {below : List Frame} {meth : Method} {c : Code} {A : Nat → Prop} {l : Launch} {D : va_G} {cy : cyS} {G : gS} (cx : cX p s m args meth c cJ0_isLatin1_aae02 RJ0 1 (some .boolean) wsJ0_isLatin1_aae02 D cy G A) {k0 n0 : Nat} (hkn : k0 ≤ (rmJ0_isLatin1_aae02).cells ∧ n0 ≤ (rmJ0_isLatin1_aae02).slots) {M' : mS} {r : Int32} {a0 : Nat} (hi0 : a0 < 36)  : ∀ (M : mS) (H : Heap) (locs : List Loc) (ls : Array Slot), m_J0_isLatin1_aae02_17 G a0 M = some (M', r) → wd D cy G M A s.heap H locs → lv_has ls 1 [] → W p l e rmJ0_isLatin1_aae02 s m args below meth c H locs k0 n0 (MQ below (va_Qi (fun (r' : Int32) (_ : Unit) => r' = r) (fun _ t => wOut D cy G M' t) A) args s k0 n0 A) (F0 m 17 ls []) := by
  obtain ⟨hx, hb, hml, hown, hts, hr, hlocks, hK, hA, hG, hsx⟩ := id cx
  intro M H locs ls h w hl
  unfold m_J0_isLatin1_aae02_17 at h
  refine lv_iconst (v := (0 : Int32)) hx hb dJ0_isLatin1_aae02_17 (by decide) ?_
  obtain ⟨z1, h⟩ := x_ck h
  exact r_zret cx w z1 h dJ0_isLatin1_aae02_18
set_option maxHeartbeats 4000000 in
set_option maxRecDepth 100000 in
theorem k_J0_isLatin1_aae02 {l : Launch} {D : va_G} {cy : cyS} {G : gS} {M M' : mS} {r : Int32} {a0 : Nat} (hG : wt G) (hi0 : a0 < 36) (h : m_J0_isLatin1_aae02 G M a0 = some (M', r)) : ctI l yJ0_isLatin1_aae02 wsJ0_isLatin1_aae02 rmJ0_isLatin1_aae02 D cy G M [.ref (stK D a0)] M' r := by
  unfold m_J0_isLatin1_aae02 at h
  refine ctI_of (cc := cJ0_isLatin1_aae02) (nL := 1) (ret := (some .boolean)) (lv := [(0, .ref (stK D a0))]) hG (by decide) rfl ⟨rfl, rfl⟩ (Nat.le_of_ble_eq_true rfl) rfl ?_
  intro p e s m args below meth c A ls cx w hl
  obtain ⟨hx, hb, hml, hown, hts, hr, hlocks, hK, hA, -, hsx⟩ := id cx
  have hkn : 0 ≤ (rmJ0_isLatin1_aae02).cells ∧ 0 ≤ (rmJ0_isLatin1_aae02).slots := ⟨Nat.zero_le _, Nat.zero_le _⟩
  refine r_getC cx w (List.mem_of_getElem? (i := 1) rfl) dJ0_isLatin1_aae02_0 ?_
  refine lv_if_eq (tgt := 17) hx hb dJ0_isLatin1_aae02_3 (by decide) (fun k1 => ?_) (fun k1 => ?_)
  · have h := x_t h k1
    exact b_J0_isLatin1_aae02_17 cx hkn hi0 M s.heap [] ls h w (lv_sub hl [] rfl)
  · have h := x_f h k1
    refine lv_aload_n hx hb dJ0_isLatin1_aae02_6 rfl (lv_at hl 0 rfl) ?_
    refine r_scod cx w hi0 (List.mem_of_getElem? (i := 2) rfl) dJ0_isLatin1_aae02_7 ?_
    refine lv_if_ne (tgt := 17) hx hb dJ0_isLatin1_aae02_10 (by decide) (fun k2 => ?_) (fun k2 => ?_)
    · have h := x_f h k2
      exact b_J0_isLatin1_aae02_17 cx hkn hi0 M s.heap [] ls h w (lv_sub hl [] rfl)
    · have h := x_t h k2
      refine lv_iconst (v := (1 : Int32)) hx hb dJ0_isLatin1_aae02_13 (by decide) ?_
      refine lv_goto (tgt := 18) hx hb dJ0_isLatin1_aae02_14 (by decide) ?_
      obtain ⟨z3, h⟩ := x_ck h
      exact r_zret cx w z3 h dJ0_isLatin1_aae02_18
-- J3_checkIndex_8e157
abbrev rmJ3_checkIndex_8e157 : Room := { frames := 0, cells := 0, slots := 0, locals := 0 }
def m_J3_checkIndex_8e157_9 (G : gS) (c0 : Int32) (c1 : Int32) (a2 : Option Nat)  (M : mS)  : Option (mS × Int32) := none
def m_J3_checkIndex_8e157 (G : gS) (M : mS) (c0 : Int32) (c1 : Int32) (a2 : Option Nat) : Option (mS × Int32) := (if c0 < 0 then m_J3_checkIndex_8e157_9 G c0 c1 a2 M else (if c0 < c1 then some (M, c0) else m_J3_checkIndex_8e157_9 G c0 c1 a2 M))
set_option maxHeartbeats 4000000 in
set_option maxRecDepth 100000 in
theorem b_J3_checkIndex_8e157_9 {p : Program} {e : Env} {s : State} {m : MethodId} {args : Array Value} {below : List Frame} {meth : Method} {c : Code} {A : Nat → Prop} {l : Launch} {D : va_G} {cy : cyS} {G : gS} (cx : cX p s m args meth c cJ3_checkIndex_8e157 RJ3 3 (some .int) wsJ3_checkIndex_8e157 D cy G A) {k0 n0 : Nat} (hkn : k0 ≤ (rmJ3_checkIndex_8e157).cells ∧ n0 ≤ (rmJ3_checkIndex_8e157).slots) {M' : mS} {r : Int32} {c0 : Int32} {c1 : Int32} {a2 : Option Nat}   : ∀ (M : mS) (H : Heap) (locs : List Loc) (ls : Array Slot), m_J3_checkIndex_8e157_9 G c0 c1 a2 M = some (M', r) → wd D cy G M A s.heap H locs → lv_has ls 3 [(0, .int c0), (1, .int c1), (2, va_rf a2)] → W p l e rmJ3_checkIndex_8e157 s m args below meth c H locs k0 n0 (MQ below (va_Qi (fun (r' : Int32) (_ : Unit) => r' = r) (fun _ t => wOut D cy G M' t) A) args s k0 n0 A) (F0 m 9 ls []) := by
  obtain ⟨hx, hb, hml, hown, hts, hr, hlocks, hK, hA, hG, hsx⟩ := id cx
  intro M H locs ls h w hl
  unfold m_J3_checkIndex_8e157_9 at h
  exact nn h
set_option maxHeartbeats 4000000 in
set_option maxRecDepth 100000 in
theorem k_J3_checkIndex_8e157 {l : Launch} {D : va_G} {cy : cyS} {G : gS} {M M' : mS} {r : Int32} {c0 : Int32} {c1 : Int32} {a2 : Option Nat} (hG : wt G)  (h : m_J3_checkIndex_8e157 G M c0 c1 a2 = some (M', r)) : ctI l yJ3_checkIndex_8e157 wsJ3_checkIndex_8e157 rmJ3_checkIndex_8e157 D cy G M [.int c0, .int c1, va_rf a2] M' r := by
  unfold m_J3_checkIndex_8e157 at h
  refine ctI_of (cc := cJ3_checkIndex_8e157) (nL := 3) (ret := (some .int)) (lv := [(0, .int c0), (1, .int c1), (2, va_rf a2)]) hG (by decide) rfl ⟨rfl, rfl⟩ (by cases a2 <;> exact Nat.le_of_ble_eq_true rfl) rfl ?_
  intro p e s m args below meth c A ls cx w hl
  obtain ⟨hx, hb, hml, hown, hts, hr, hlocks, hK, hA, -, hsx⟩ := id cx
  have hkn : 0 ≤ (rmJ3_checkIndex_8e157).cells ∧ 0 ≤ (rmJ3_checkIndex_8e157).slots := ⟨Nat.zero_le _, Nat.zero_le _⟩
  refine lv_iload_n hx hb dJ3_checkIndex_8e157_0 rfl (lv_at hl 0 rfl) ?_
  refine lv_if_lt (tgt := 9) hx hb dJ3_checkIndex_8e157_1 (by decide) (fun k1 => ?_) (fun k1 => ?_)
  · have h := x_t h k1
    exact b_J3_checkIndex_8e157_9 cx hkn M s.heap [] ls h w (lv_sub hl [0, 1, 2] rfl)
  · have h := x_f h k1
    refine lv_iload_n hx hb dJ3_checkIndex_8e157_4 rfl (lv_at hl 0 rfl) ?_
    refine lv_iload_n hx hb dJ3_checkIndex_8e157_5 rfl (lv_at hl 1 rfl) ?_
    refine lv_icmp_lt (tgt := 16) hx hb dJ3_checkIndex_8e157_6 (by decide) (fun k2 => ?_) (fun k2 => ?_)
    · have h := x_t h k2
      refine lv_iload_n hx hb dJ3_checkIndex_8e157_16 rfl (lv_at hl 0 rfl) ?_
      exact r_iret cx w h dJ3_checkIndex_8e157_17
    · have h := x_f h k2
      exact b_J3_checkIndex_8e157_9 cx hkn M s.heap [] ls h w (lv_sub hl [0, 1, 2] rfl)
-- J0_checkIndex_df160
abbrev rmJ0_checkIndex_df160 : Room := { frames := 1, cells := 0, slots := 0, locals := 22 }
def m_J0_checkIndex_df160 (G : gS) (M : mS) (c0 : Int32) (c1 : Int32) : Option (mS × Unit) := o_cl (m_J3_checkIndex_8e157 G M c0 c1 none) (fun M2 r3 => some (M2, ()))
set_option maxHeartbeats 4000000 in
set_option maxRecDepth 100000 in
theorem k_J0_checkIndex_df160 {l : Launch} {D : va_G} {cy : cyS} {G : gS} {M M' : mS} {c0 : Int32} {c1 : Int32} (hG : wt G)  (h : m_J0_checkIndex_df160 G M c0 c1 = some (M', ())) : ctV l yJ0_checkIndex_df160 wsJ0_checkIndex_df160 rmJ0_checkIndex_df160 D cy G M [.int c0, .int c1] M' := by
  unfold m_J0_checkIndex_df160 at h
  refine ctV_of (cc := cJ0_checkIndex_df160) (nL := 2) (ret := none) (lv := [(0, .int c0), (1, .int c1)]) hG (by decide) rfl ⟨rfl, rfl⟩ (Nat.le_of_ble_eq_true rfl) rfl ?_
  intro p e s m args below meth c A ls cx w hl
  obtain ⟨hx, hb, hml, hown, hts, hr, hlocks, hK, hA, -, hsx⟩ := id cx
  have hkn : 0 ≤ (rmJ0_checkIndex_df160).cells ∧ 0 ≤ (rmJ0_checkIndex_df160).slots := ⟨Nat.zero_le _, Nat.zero_le _⟩
  refine lv_iload_n hx hb dJ0_checkIndex_df160_0 rfl (lv_at hl 0 rfl) ?_
  refine lv_iload_n hx hb dJ0_checkIndex_df160_1 rfl (lv_at hl 1 rfl) ?_
  refine r_getF cx w (List.mem_of_getElem? (i := 1) rfl) dJ0_checkIndex_df160_2 (fun f1 => ?_)
  obtain ⟨M2, r3, y4, h⟩ := x_cl h
  refine r_callSi (As := [.int c0, .int c1, va_rf f1]) (rest := []) cx w hkn hl.1 (k_J3_checkIndex_8e157 hG y4) (va_cwS 3 hts gJ0_checkIndex_df160_J3_checkIndex_8e157 rfl rfl rfl (by decide +kernel) ⟨Nat.le_of_ble_eq_true rfl, Nat.le_of_ble_eq_true rfl⟩) rfl rfl (Nat.le_of_ble_eq_true rfl) dJ0_checkIndex_df160_5 (fun H locs w => ?_)
  refine lv_pop hx hb dJ0_checkIndex_df160_8 rfl ?_
  exact r_vret cx w h dJ0_checkIndex_df160_9
-- J1_charAt_3b067
abbrev rmJ1_charAt_3b067 : Room := { frames := 2, cells := 0, slots := 0, locals := 43 }
def m_J1_charAt_3b067 (G : gS) (M : mS) (a0 : Nat) (c1 : Int32) : Option (mS × Int32) := o_cl (m_J0_checkIndex_df160 G M c1 (Int32.ofNat (sN a0))) (fun M1 r2 => o_ix c1 (sN a0) (o_ck ((Int32.toUInt32 ((Int32.toUInt32 ((sB a0 (Int32.toNatClampNeg c1)) &&& (255 : Int32)) % 65536).toInt32) % 65536).toInt32 = ((Int32.toUInt32 ((sB a0 (Int32.toNatClampNeg c1)) &&& (255 : Int32)) % 65536).toInt32)) (some (M1, ((Int32.toUInt32 ((sB a0 (Int32.toNatClampNeg c1)) &&& (255 : Int32)) % 65536).toInt32)))))
set_option maxHeartbeats 4000000 in
set_option maxRecDepth 100000 in
theorem k_J1_charAt_3b067 {l : Launch} {D : va_G} {cy : cyS} {G : gS} {M M' : mS} {r : Int32} {a0 : Nat} {c1 : Int32} (hG : wt G) (hi0 : a0 < 36) (h : m_J1_charAt_3b067 G M a0 c1 = some (M', r)) : ctI l yJ1_charAt_3b067 wsJ1_charAt_3b067 rmJ1_charAt_3b067 D cy G M [.ref (stV D a0), .int c1] M' r := by
  unfold m_J1_charAt_3b067 at h
  refine ctI_of (cc := cJ1_charAt_3b067) (nL := 2) (ret := (some .char)) (lv := [(0, .ref (stV D a0)), (1, .int c1)]) hG (by decide) rfl ⟨rfl, rfl⟩ (Nat.le_of_ble_eq_true rfl) rfl ?_
  intro p e s m args below meth c A ls cx w hl
  obtain ⟨hx, hb, hml, hown, hts, hr, hlocks, hK, hA, -, hsx⟩ := id cx
  have hkn : 0 ≤ (rmJ1_charAt_3b067).cells ∧ 0 ≤ (rmJ1_charAt_3b067).slots := ⟨Nat.zero_le _, Nat.zero_le _⟩
  refine lv_iload_n hx hb dJ1_charAt_3b067_0 rfl (lv_at hl 1 rfl) ?_
  refine lv_aload_n hx hb dJ1_charAt_3b067_1 rfl (lv_at hl 0 rfl) ?_
  refine r_blen cx w hi0 dJ1_charAt_3b067_2 ?_
  obtain ⟨M1, r2, y3, h⟩ := x_cl h
  refine r_callSv (As := [.int c1, .int ((Int32.ofNat (sN a0)))]) (rest := []) cx w hkn hl.1 (k_J0_checkIndex_df160 hG y3) (va_cwS 2 hts gJ1_charAt_3b067_J0_checkIndex_df160 rfl rfl rfl (by decide +kernel) ⟨Nat.le_of_ble_eq_true rfl, Nat.le_of_ble_eq_true rfl⟩) rfl rfl (Nat.le_of_ble_eq_true rfl) dJ1_charAt_3b067_3 (fun H locs w => ?_)
  refine lv_aload_n hx hb dJ1_charAt_3b067_6 rfl (lv_at hl 0 rfl) ?_
  refine lv_iload_n hx hb dJ1_charAt_3b067_7 rfl (lv_at hl 1 rfl) ?_
  obtain ⟨z4, h⟩ := x_ix h
  refine r_bald cx w hi0 z4 dJ1_charAt_3b067_8 ?_
  refine lv_sipush (v := (255 : Int32)) hx hb dJ1_charAt_3b067_9 (by decide) ?_
  refine lv_iand hx hb dJ1_charAt_3b067_12 ?_
  refine lv_i2c (v := ((Int32.toUInt32 ((sB a0 (Int32.toNatClampNeg c1)) &&& (255 : Int32)) % 65536).toInt32)) hx hb dJ1_charAt_3b067_13 rfl ?_
  obtain ⟨z5, h⟩ := x_ck h
  exact r_nret cx w (z_char z5) h dJ1_charAt_3b067_14
-- J0_charAt_5068e
abbrev rmJ0_charAt_5068e : Room := { frames := 3, cells := 0, slots := 0, locals := 64 }
def m_J0_charAt_5068e (G : gS) (M : mS) (a0 : Nat) (c1 : Int32) : Option (mS × Int32) := o_cl (m_J0_isLatin1_aae02 G M a0) (fun M1 r2 => (if r2 = 0 then none else o_cl (m_J1_charAt_3b067 G M1 a0 c1) (fun M5 r6 => o_ck ((Int32.toUInt32 r6 % 65536).toInt32 = r6) (some (M5, r6)))))
set_option maxHeartbeats 4000000 in
set_option maxRecDepth 100000 in
theorem k_J0_charAt_5068e {l : Launch} {D : va_G} {cy : cyS} {G : gS} {M M' : mS} {r : Int32} {a0 : Nat} {c1 : Int32} (hG : wt G) (hi0 : a0 < 36) (h : m_J0_charAt_5068e G M a0 c1 = some (M', r)) : ctI l yJ0_charAt_5068e wsJ0_charAt_5068e rmJ0_charAt_5068e D cy G M [.ref (stK D a0), .int c1] M' r := by
  unfold m_J0_charAt_5068e at h
  refine ctI_of (cc := cJ0_charAt_5068e) (nL := 2) (ret := (some .char)) (lv := [(0, .ref (stK D a0)), (1, .int c1)]) hG (by decide) rfl ⟨rfl, rfl⟩ (Nat.le_of_ble_eq_true rfl) rfl ?_
  intro p e s m args below meth c A ls cx w hl
  obtain ⟨hx, hb, hml, hown, hts, hr, hlocks, hK, hA, -, hsx⟩ := id cx
  have hkn : 0 ≤ (rmJ0_charAt_5068e).cells ∧ 0 ≤ (rmJ0_charAt_5068e).slots := ⟨Nat.zero_le _, Nat.zero_le _⟩
  refine lv_aload_n hx hb dJ0_charAt_5068e_0 rfl (lv_at hl 0 rfl) ?_
  obtain ⟨M1, r2, y3, h⟩ := x_cl h
  refine r_callVTi (As := []) (rest := []) cx w hkn hl.1 hi0 (k_J0_isLatin1_aae02 hG hi0 y3) (cwV 0 hts gJ0_charAt_5068e_J0_isLatin1_aae02 rfl rfl rfl (by decide +kernel) ⟨Nat.le_of_ble_eq_true rfl, Nat.le_of_ble_eq_true rfl⟩) rfl rfl (Nat.le_of_ble_eq_true rfl) dJ0_charAt_5068e_1 (fun H locs w => ?_)
  refine lv_if_eq (tgt := 16) hx hb dJ0_charAt_5068e_4 (by decide) (fun k4 => ?_) (fun k4 => ?_)
  · have h := x_t h k4
    exact nn h
  · have h := x_f h k4
    refine lv_aload_n hx hb dJ0_charAt_5068e_7 rfl (lv_at hl 0 rfl) ?_
    refine r_sval cx w hi0 (List.mem_of_getElem? (i := 1) rfl) dJ0_charAt_5068e_8 ?_
    refine lv_iload_n hx hb dJ0_charAt_5068e_11 rfl (lv_at hl 1 rfl) ?_
    obtain ⟨M5, r6, y7, h⟩ := x_cl h
    refine r_callSi (As := [.ref (stV D a0), .int c1]) (rest := []) cx w hkn hl.1 (k_J1_charAt_3b067 hG hi0 y7) (va_cwS 2 hts gJ0_charAt_5068e_J1_charAt_3b067 rfl rfl rfl (by decide +kernel) ⟨Nat.le_of_ble_eq_true rfl, Nat.le_of_ble_eq_true rfl⟩) rfl rfl (Nat.le_of_ble_eq_true rfl) dJ0_charAt_5068e_12 (fun H locs w => ?_)
    obtain ⟨z8, h⟩ := x_ck h
    exact r_nret cx w (z_char z8) h dJ0_charAt_5068e_15
-- J0_coder_7d493
abbrev rmJ0_coder_7d493 : Room := { frames := 0, cells := 0, slots := 0, locals := 0 }
def m_J0_coder_7d493 (G : gS) (M : mS) (a0 : Nat) : Option (mS × Int32) := (if (1 : Int32) = 0 then o_ck ((Int32.toInt8 (1 : Int32)).toInt32 = (1 : Int32)) (some (M, (1 : Int32))) else o_ck ((Int32.toInt8 (0 : Int32)).toInt32 = (0 : Int32)) (some (M, (0 : Int32))))
set_option maxHeartbeats 4000000 in
set_option maxRecDepth 100000 in
theorem k_J0_coder_7d493 {l : Launch} {D : va_G} {cy : cyS} {G : gS} {M M' : mS} {r : Int32} {a0 : Nat} (hG : wt G) (hi0 : a0 < 36) (h : m_J0_coder_7d493 G M a0 = some (M', r)) : ctI l yJ0_coder_7d493 wsJ0_coder_7d493 rmJ0_coder_7d493 D cy G M [.ref (stK D a0)] M' r := by
  unfold m_J0_coder_7d493 at h
  refine ctI_of (cc := cJ0_coder_7d493) (nL := 1) (ret := (some .byte)) (lv := [(0, .ref (stK D a0))]) hG (by decide) rfl ⟨rfl, rfl⟩ (Nat.le_of_ble_eq_true rfl) rfl ?_
  intro p e s m args below meth c A ls cx w hl
  obtain ⟨hx, hb, hml, hown, hts, hr, hlocks, hK, hA, -, hsx⟩ := id cx
  have hkn : 0 ≤ (rmJ0_coder_7d493).cells ∧ 0 ≤ (rmJ0_coder_7d493).slots := ⟨Nat.zero_le _, Nat.zero_le _⟩
  refine r_getC cx w (List.mem_of_getElem? (i := 1) rfl) dJ0_coder_7d493_0 ?_
  refine lv_if_eq (tgt := 13) hx hb dJ0_coder_7d493_3 (by decide) (fun k1 => ?_) (fun k1 => ?_)
  · have h := x_t h k1
    refine lv_iconst (v := (1 : Int32)) hx hb dJ0_coder_7d493_13 (by decide) ?_
    obtain ⟨z2, h⟩ := x_ck h
    exact r_nret cx w (z_byte z2) h dJ0_coder_7d493_14
  · have h := x_f h k1
    refine lv_aload_n hx hb dJ0_coder_7d493_6 rfl (lv_at hl 0 rfl) ?_
    refine r_scod cx w hi0 (List.mem_of_getElem? (i := 2) rfl) dJ0_coder_7d493_7 ?_
    refine lv_goto (tgt := 14) hx hb dJ0_coder_7d493_10 (by decide) ?_
    obtain ⟨z3, h⟩ := x_ck h
    exact r_nret cx w (z_byte z3) h dJ0_coder_7d493_14
-- J1_inflate_0e8fd
abbrev rmJ1_inflate_0e8fd : Room := { frames := 0, cells := 0, slots := 0, locals := 0 }
def m_J1_inflate_0e8fd (G : gS) (M : mS) (a0 : Nat) (c1 : Int32) (a2 : Nat) (c3 : Int32) (c4 : Int32) : Option (mS × Unit) := none
set_option maxHeartbeats 4000000 in
set_option maxRecDepth 100000 in
theorem k_J1_inflate_0e8fd {l : Launch} {D : va_G} {cy : cyS} {G : gS} {M M' : mS} {a0 : Nat} {c1 : Int32} {a2 : Nat} {c3 : Int32} {c4 : Int32} (hG : wt G) (hL0 : a0 ∈ gL G) (hK0 : gK G a0 = 16) (hL2 : a2 ∈ gL G) (hK2 : gK G a2 = 16) (h : m_J1_inflate_0e8fd G M a0 c1 a2 c3 c4 = some (M', ())) : ctV l yJ1_inflate_0e8fd wsJ1_inflate_0e8fd rmJ1_inflate_0e8fd D cy G M [.ref a0, .int c1, .ref a2, .int c3, .int c4] M' := by
  unfold m_J1_inflate_0e8fd at h
  refine ctV_of (cc := cJ1_inflate_0e8fd) (nL := 5) (ret := none) (lv := [(0, .ref a0), (1, .int c1), (2, .ref a2), (3, .int c3), (4, .int c4)]) hG (by decide) rfl ⟨rfl, rfl⟩ (Nat.le_of_ble_eq_true rfl) rfl ?_
  intro p e s m args below meth c A ls cx w hl
  obtain ⟨hx, hb, hml, hown, hts, hr, hlocks, hK, hA, -, hsx⟩ := id cx
  have hkn : 0 ≤ (rmJ1_inflate_0e8fd).cells ∧ 0 ≤ (rmJ1_inflate_0e8fd).slots := ⟨Nat.zero_le _, Nat.zero_le _⟩
  exact nn h
-- J0_length_8abf5
abbrev rmJ0_length_8abf5 : Room := { frames := 1, cells := 0, slots := 0, locals := 20 }
def m_J0_length_8abf5 (G : gS) (M : mS) (a0 : Nat) : Option (mS × Int32) := o_cl (m_J0_coder_7d493 G M a0) (fun M1 r2 => some (M1, ((Int32.ofNat (sN a0)) >>> (r2 &&& 31))))
set_option maxHeartbeats 4000000 in
set_option maxRecDepth 100000 in
theorem k_J0_length_8abf5 {l : Launch} {D : va_G} {cy : cyS} {G : gS} {M M' : mS} {r : Int32} {a0 : Nat} (hG : wt G) (hi0 : a0 < 36) (h : m_J0_length_8abf5 G M a0 = some (M', r)) : ctI l yJ0_length_8abf5 wsJ0_length_8abf5 rmJ0_length_8abf5 D cy G M [.ref (stK D a0)] M' r := by
  unfold m_J0_length_8abf5 at h
  refine ctI_of (cc := cJ0_length_8abf5) (nL := 1) (ret := (some .int)) (lv := [(0, .ref (stK D a0))]) hG (by decide) rfl ⟨rfl, rfl⟩ (Nat.le_of_ble_eq_true rfl) rfl ?_
  intro p e s m args below meth c A ls cx w hl
  obtain ⟨hx, hb, hml, hown, hts, hr, hlocks, hK, hA, -, hsx⟩ := id cx
  have hkn : 0 ≤ (rmJ0_length_8abf5).cells ∧ 0 ≤ (rmJ0_length_8abf5).slots := ⟨Nat.zero_le _, Nat.zero_le _⟩
  refine lv_aload_n hx hb dJ0_length_8abf5_0 rfl (lv_at hl 0 rfl) ?_
  refine r_sval cx w hi0 (List.mem_of_getElem? (i := 1) rfl) dJ0_length_8abf5_1 ?_
  refine r_blen cx w hi0 dJ0_length_8abf5_4 ?_
  refine lv_aload_n hx hb dJ0_length_8abf5_5 rfl (lv_at hl 0 rfl) ?_
  obtain ⟨M1, r2, y3, h⟩ := x_cl h
  refine r_callVTi (As := []) (rest := [.int ((Int32.ofNat (sN a0)))]) cx w hkn hl.1 hi0 (k_J0_coder_7d493 hG hi0 y3) (cwV 0 hts gJ0_length_8abf5_J0_coder_7d493 rfl rfl rfl (by decide +kernel) ⟨Nat.le_of_ble_eq_true rfl, Nat.le_of_ble_eq_true rfl⟩) rfl rfl (Nat.le_of_ble_eq_true rfl) dJ0_length_8abf5_6 (fun H locs w => ?_)
  refine lv_ishr hx hb dJ0_length_8abf5_9 ?_
  exact r_iret cx w h dJ0_length_8abf5_10
-- J0_init_81219
abbrev rmJ0_init_81219 : Room := { frames := 0, cells := 0, slots := 0, locals := 0 }
def m_J0_init_81219 (G : gS) (M : mS) (a0 : Nat) (a1 : Nat) : Option (mS × Unit) := none
set_option maxHeartbeats 4000000 in
set_option maxRecDepth 100000 in
theorem k_J0_init_81219 {l : Launch} {D : va_G} {cy : cyS} {G : gS} {M M' : mS} {a0 : Nat} {a1 : Nat} (hG : wt G) (hL0 : a0 ∈ gL G) (hK0 : gK G a0 = 10) (hL1 : a1 ∈ gL G) (hK1 : gK G a1 = 11) (h : m_J0_init_81219 G M a0 a1 = some (M', ())) : ctV l yJ0_init_81219 wsJ0_init_81219 rmJ0_init_81219 D cy G M [.ref a0, .ref a1] M' := by
  unfold m_J0_init_81219 at h
  refine ctV_of (cc := cJ0_init_81219) (nL := 2) (ret := none) (lv := [(0, .ref a0), (1, .ref a1)]) hG (by decide) rfl ⟨rfl, rfl⟩ (Nat.le_of_ble_eq_true rfl) rfl ?_
  intro p e s m args below meth c A ls cx w hl
  obtain ⟨hx, hb, hml, hown, hts, hr, hlocks, hK, hA, -, hsx⟩ := id cx
  have hkn : 0 ≤ (rmJ0_init_81219).cells ∧ 0 ≤ (rmJ0_init_81219).slots := ⟨Nat.zero_le _, Nat.zero_le _⟩
  exact nn h
