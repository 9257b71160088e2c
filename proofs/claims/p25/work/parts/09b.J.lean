-- J3_checkIndex_8e157
abbrev rnJ3_checkIndex_8e157 (b : uS) : Room := { frames := 0, cells := b.1, slots := b.2, locals := 0 }
def n_J3_checkIndex_8e157 (b : uS) (G : gS) (M : mS) (c0 : Int32) (c1 : Int32) (post : gS → mS → Int32 → Prop) : Prop := p_if (c0 < 0) (False) (p_if (c0 < c1) (post G M c0) (False))
set_option maxHeartbeats 4000000 in
set_option maxRecDepth 100000 in
theorem kn_J3_checkIndex_8e157 {l : Launch} {D : va_G} {cy : cyS} {G : gS} {M : mS} {b : uS} {c0 : Int32} {c1 : Int32} {a2 : Option Nat} {post : gS → mS → Int32 → Prop} (hG : wt G) (h : n_J3_checkIndex_8e157 b G M c0 c1 post) : cbI l yJ3_checkIndex_8e157 wsJ3_checkIndex_8e157 (rnJ3_checkIndex_8e157 b) D cy G M [.int c0, .int c1, va_rf a2] b post := by
  unfold n_J3_checkIndex_8e157 at h
  refine cbI_of (cc := cJ3_checkIndex_8e157) (nL := 3) (ret := (some .int)) (lv := [(0, .int c0), (1, .int c1), (2, va_rf a2)]) hG (by decide) rfl (by cases a2 <;> exact (Nat.le_of_ble_eq_true rfl)) rfl ?_
  intro p e s m args below meth c sz ls hnm cx w hl
  obtain ⟨hx, hb, hml, hown, hts, hr, hlocks, hK, hA, -, hsx⟩ := id cx
  have hext := ext_rf (G := G)
  have hu : uL (0, 0) b := ⟨Nat.zero_le _, Nat.zero_le _⟩
  have hR : (rnJ3_checkIndex_8e157 b).cells = b.1 ∧ (rnJ3_checkIndex_8e157 b).slots = b.2 := ⟨rfl, rfl⟩
  refine lv_iload_n hx hb dJ3_checkIndex_8e157_0 rfl (lv_at hl 0 rfl) ?_
  refine lv_if_lt (tgt := 9) hx hb dJ3_checkIndex_8e157_1 (by decide) (fun k1 => ?_) (fun k1 => ?_)
  · have h := w_t h k1
    exact h.elim
  · have h := w_f h k1
    refine lv_iload_n hx hb dJ3_checkIndex_8e157_4 rfl (lv_at hl 0 rfl) ?_
    refine lv_iload_n hx hb dJ3_checkIndex_8e157_5 rfl (lv_at hl 1 rfl) ?_
    refine lv_icmp_lt (tgt := 16) hx hb dJ3_checkIndex_8e157_6 (by decide) (fun k2 => ?_) (fun k2 => ?_)
    · have h := w_t h k2
      refine lv_iload_n hx hb dJ3_checkIndex_8e157_16 rfl (lv_at hl 0 rfl) ?_
      exact rb_iret h cx w hext hu dJ3_checkIndex_8e157_17
    · have h := w_f h k2
      exact h.elim
-- J0_checkIndex_df160
abbrev rnJ0_checkIndex_df160 (b : uS) : Room := { frames := 1, cells := b.1, slots := b.2, locals := 22 }
def n_J0_checkIndex_df160 (b : uS) (G : gS) (M : mS) (c0 : Int32) (c1 : Int32) (post : gS → mS → Unit → Prop) : Prop := q_ca b (0, 0) (fun v => n_J3_checkIndex_8e157 v G M c0 c1) (fun u4 G2 M3 r5 => post G2 M3 ())
set_option maxHeartbeats 4000000 in
set_option maxRecDepth 100000 in
theorem kn_J0_checkIndex_df160 {l : Launch} {D : va_G} {cy : cyS} {G : gS} {M : mS} {b : uS} {c0 : Int32} {c1 : Int32} {post : gS → mS → Unit → Prop} (hG : wt G) (h : n_J0_checkIndex_df160 b G M c0 c1 post) : cbV l yJ0_checkIndex_df160 wsJ0_checkIndex_df160 (rnJ0_checkIndex_df160 b) D cy G M [.int c0, .int c1] b post := by
  unfold n_J0_checkIndex_df160 at h
  refine cbV_of (cc := cJ0_checkIndex_df160) (nL := 2) (lv := [(0, .int c0), (1, .int c1)]) hG (by decide) rfl (Nat.le_of_ble_eq_true rfl) rfl ?_
  intro p e s m args below meth c sz ls hnm cx w hl
  obtain ⟨hx, hb, hml, hown, hts, hr, hlocks, hK, hA, -, hsx⟩ := id cx
  have hext := ext_rf (G := G)
  have hu : uL (0, 0) b := ⟨Nat.zero_le _, Nat.zero_le _⟩
  have hR : (rnJ0_checkIndex_df160 b).cells = b.1 ∧ (rnJ0_checkIndex_df160 b).slots = b.2 := ⟨rfl, rfl⟩
  refine lv_iload_n hx hb dJ0_checkIndex_df160_0 rfl (lv_at hl 0 rfl) ?_
  refine lv_iload_n hx hb dJ0_checkIndex_df160_1 rfl (lv_at hl 1 rfl) ?_
  refine r_getF cx w (List.mem_of_getElem? (i := 1) rfl) dJ0_checkIndex_df160_2 (fun f1 => ?_)
  refine rb_SI (b := b) (u := (0, 0)) (rf := 0) (rl := 0) (As := [.int c0, .int c1, va_rf f1]) (rest := []) cx w hR hl.1 h (fun h => kn_J3_checkIndex_8e157 hG h) (fun v => va_cwS 3 hts gJ0_checkIndex_df160_J3_checkIndex_8e157 rfl rfl rfl (by decide +kernel) ⟨(Nat.le_of_ble_eq_true rfl), (Nat.le_of_ble_eq_true rfl)⟩) rfl rfl (Nat.le_of_ble_eq_true rfl) dJ0_checkIndex_df160_5 (fun u4 G2 M3 r5 H locs h hu xe cx w => ?_)
  have hext := ext_tr hext xe
  clear xe
  have hG := cX_wt cx
  refine lv_pop hx hb dJ0_checkIndex_df160_8 rfl ?_
  exact rb_vret h cx w hext hu dJ0_checkIndex_df160_9
-- J1_charAt_3b067p
abbrev rnJ1_charAt_3b067p (b : uS) : Room := { frames := 2, cells := b.1, slots := b.2, locals := 43 }
def n_J1_charAt_3b067p (b : uS) (G : gS) (M : mS) (a0 : Nat) (c1 : Int32) (post : gS → mS → Int32 → Prop) : Prop := q_ca b (0, 0) (fun v => n_J0_checkIndex_df160 v G M c1 (Int32.ofNat (gN G a0))) (fun u3 G1 M2 r4 => p_ix c1 (gN G1 a0) (p_ck (((Int32.toUInt32 ((Int32.toUInt32 ((mI M2 a0 (Int32.toNatClampNeg c1)) &&& (255 : Int32)) % 65536).toInt32)) % 65536).toInt32 = ((Int32.toUInt32 ((mI M2 a0 (Int32.toNatClampNeg c1)) &&& (255 : Int32)) % 65536).toInt32)) (post G1 M2 ((Int32.toUInt32 ((mI M2 a0 (Int32.toNatClampNeg c1)) &&& (255 : Int32)) % 65536).toInt32))))
set_option maxHeartbeats 4000000 in
set_option maxRecDepth 100000 in
theorem kn_J1_charAt_3b067p {l : Launch} {D : va_G} {cy : cyS} {G : gS} {M : mS} {b : uS} {a0 : Nat} {c1 : Int32} {post : gS → mS → Int32 → Prop} (hG : wt G) (hL0 : a0 ∈ gL G) (hK0 : gK G a0 = 16) (h : n_J1_charAt_3b067p b G M a0 c1 post) : cbI l yJ1_charAt_3b067 wsJ1_charAt_3b067 (rnJ1_charAt_3b067p b) D cy G M [.ref a0, .int c1] b post := by
  unfold n_J1_charAt_3b067p at h
  refine cbI_of (cc := cJ1_charAt_3b067) (nL := 2) (ret := (some .char)) (lv := [(0, .ref a0), (1, .int c1)]) hG (by decide) rfl (Nat.le_of_ble_eq_true rfl) rfl ?_
  intro p e s m args below meth c sz ls hnm cx w hl
  obtain ⟨hx, hb, hml, hown, hts, hr, hlocks, hK, hA, -, hsx⟩ := id cx
  have hext := ext_rf (G := G)
  have hu : uL (0, 0) b := ⟨Nat.zero_le _, Nat.zero_le _⟩
  have hR : (rnJ1_charAt_3b067p b).cells = b.1 ∧ (rnJ1_charAt_3b067p b).slots = b.2 := ⟨rfl, rfl⟩
  refine lv_iload_n hx hb dJ1_charAt_3b067_0 rfl (lv_at hl 1 rfl) ?_
  refine lv_aload_n hx hb dJ1_charAt_3b067_1 rfl (lv_at hl 0 rfl) ?_
  refine r_alen cx w hL0 hK0 (by decide) dJ1_charAt_3b067_2 ?_
  refine rb_SV (b := b) (u := (0, 0)) (rf := 1) (rl := 22) (As := [.int c1, .int ((Int32.ofNat (gN G a0)))]) (rest := []) cx w hR hl.1 h (fun h => kn_J0_checkIndex_df160 hG h) (fun v => va_cwS 2 hts gJ1_charAt_3b067_J0_checkIndex_df160 rfl rfl rfl (by decide +kernel) ⟨(Nat.le_of_ble_eq_true rfl), (Nat.le_of_ble_eq_true rfl)⟩) rfl rfl (Nat.le_of_ble_eq_true rfl) dJ1_charAt_3b067_3 (fun u3 G1 M2 r4 H locs h hu xe cx w => ?_)
  obtain ⟨hL0, hK0⟩ := ext_wt xe hL0 hK0
  have hext := ext_tr hext xe
  clear xe
  have hG := cX_wt cx
  refine lv_aload_n hx hb dJ1_charAt_3b067_6 rfl (lv_at hl 0 rfl) ?_
  refine lv_iload_n hx hb dJ1_charAt_3b067_7 rfl (lv_at hl 1 rfl) ?_
  obtain ⟨z5, h⟩ := w_ix h
  refine r_pbald cx w hL0 hK0 z5 dJ1_charAt_3b067_8 ?_
  refine lv_sipush (v := (255 : Int32)) hx hb dJ1_charAt_3b067_9 (by decide) ?_
  refine lv_iand hx hb dJ1_charAt_3b067_12 ?_
  refine lv_i2c (v := ((Int32.toUInt32 ((mI M2 a0 (Int32.toNatClampNeg c1)) &&& (255 : Int32)) % 65536).toInt32)) hx hb dJ1_charAt_3b067_13 rfl ?_
  obtain ⟨z6, h⟩ := w_ck h
  exact rb_nret (z_char z6) h cx w hext hu dJ1_charAt_3b067_14
-- J0_isLatin1_aae02p
theorem wb_J0_isLatin1_aae02p_J0 : ∀ w ∈ wsJ00, w ∈ wsJ0_isLatin1_aae02 := by decide +kernel
abbrev rnJ0_isLatin1_aae02p (b : uS) : Room := { frames := 0, cells := b.1, slots := b.2, locals := 0 }
def nb_J0_isLatin1_aae02p_18 (b : uS) (a0 : Nat) (post : gS → mS → Int32 → Prop) (u : uS) (G : gS) (M : mS) (s0 : Int32) : Prop := p_ck (s0 = 0 ∨ s0 = 1) (post G M s0)
def nb_J0_isLatin1_aae02p_17 (b : uS) (a0 : Nat) (post : gS → mS → Int32 → Prop) (u : uS) (G : gS) (M : mS) : Prop := nb_J0_isLatin1_aae02p_18 b a0 post u G M ((0 : Int32))
def n_J0_isLatin1_aae02p (b : uS) (G : gS) (M : mS) (a0 : Nat) (post : gS → mS → Int32 → Prop) : Prop := p_if ((1 : Int32) = 0) (nb_J0_isLatin1_aae02p_17 b a0 post (0, 0) G M) (p_if ((mI M a0 1) = 0) (nb_J0_isLatin1_aae02p_18 b a0 post (0, 0) G M ((1 : Int32))) (nb_J0_isLatin1_aae02p_17 b a0 post (0, 0) G M))
set_option maxHeartbeats 4000000 in
set_option maxRecDepth 100000 in
theorem bn_J0_isLatin1_aae02p_18 {p : Program} {l : Launch} {e : Env} {s : State} {m : MethodId} {args : Array Value} {below : List Frame} {meth : Method} {c : Code} {D : va_G} {cy : cyS} {b : uS} {G0 : gS} {sz : Nat} (hnm : meth.name = yJ0_isLatin1_aae02.name)  {a0 : Nat} {post : gS → mS → Int32 → Prop} : ∀ (u : uS) (G : gS) (M : mS) (s0 : Int32) (H : Heap) (locs : List Loc) (ls : Array Slot), a0 ∈ gL G → gK G a0 = 10 → ext G0 G → uL u b → nb_J0_isLatin1_aae02p_18 b a0 post u G M s0 → cX p s m args meth c cJ0_isLatin1_aae02 RJ0 1 (some .boolean) wsJ0_isLatin1_aae02 D cy G (pA G0 sz) → wd D cy G M (pA G0 sz) s.heap H locs → lv_has ls 1 [] → W p l e (rnJ0_isLatin1_aae02p b) s m args below meth c H locs u.1 u.2 (MQ below (va_Qi (fun (r : Int32) (u : gS × mS) => post u.1 u.2 r) (fun u t => va_P D vwCl (pl cy u.1 u.2) t.heap ∧ va_D (pA G0 sz) (pl cy u.1 u.2) ∧ wt u.1 ∧ ext G0 u.1) (pA G0 sz)) args s b.1 b.2 (pA G0 sz)) (F0 m 18 ls [.int s0]) := by
  intro u G M s0 H locs ls hL0 hK0 hext hu h cx w hl
  unfold nb_J0_isLatin1_aae02p_18 at h
  obtain ⟨hx, hb, hml, hown, hts, hr, hlocks, hK, hA, hG, hsx⟩ := id cx
  have hR : (rnJ0_isLatin1_aae02p b).cells = b.1 ∧ (rnJ0_isLatin1_aae02p b).slots = b.2 := ⟨rfl, rfl⟩
  obtain ⟨z1, h⟩ := w_ck h
  exact rb_nret (z_nar z1) h cx w hext hu dJ0_isLatin1_aae02_18
set_option maxHeartbeats 4000000 in
set_option maxRecDepth 100000 in
theorem bn_J0_isLatin1_aae02p_17 {p : Program} {l : Launch} {e : Env} {s : State} {m : MethodId} {args : Array Value} {below : List Frame} {meth : Method} {c : Code} {D : va_G} {cy : cyS} {b : uS} {G0 : gS} {sz : Nat} (hnm : meth.name = yJ0_isLatin1_aae02.name)  {a0 : Nat} {post : gS → mS → Int32 → Prop} : ∀ (u : uS) (G : gS) (M : mS) (H : Heap) (locs : List Loc) (ls : Array Slot), a0 ∈ gL G → gK G a0 = 10 → ext G0 G → uL u b → nb_J0_isLatin1_aae02p_17 b a0 post u G M → cX p s m args meth c cJ0_isLatin1_aae02 RJ0 1 (some .boolean) wsJ0_isLatin1_aae02 D cy G (pA G0 sz) → wd D cy G M (pA G0 sz) s.heap H locs → lv_has ls 1 [] → W p l e (rnJ0_isLatin1_aae02p b) s m args below meth c H locs u.1 u.2 (MQ below (va_Qi (fun (r : Int32) (u : gS × mS) => post u.1 u.2 r) (fun u t => va_P D vwCl (pl cy u.1 u.2) t.heap ∧ va_D (pA G0 sz) (pl cy u.1 u.2) ∧ wt u.1 ∧ ext G0 u.1) (pA G0 sz)) args s b.1 b.2 (pA G0 sz)) (F0 m 17 ls []) := by
  intro u G M H locs ls hL0 hK0 hext hu h cx w hl
  unfold nb_J0_isLatin1_aae02p_17 at h
  obtain ⟨hx, hb, hml, hown, hts, hr, hlocks, hK, hA, hG, hsx⟩ := id cx
  have hR : (rnJ0_isLatin1_aae02p b).cells = b.1 ∧ (rnJ0_isLatin1_aae02p b).slots = b.2 := ⟨rfl, rfl⟩
  refine lv_iconst (v := (0 : Int32)) hx hb dJ0_isLatin1_aae02_17 (by decide) ?_
  exact bn_J0_isLatin1_aae02p_18 hnm u G M ((0 : Int32)) H locs ls hL0 hK0 hext hu h cx w (lv_sub hl [] rfl)
set_option maxHeartbeats 4000000 in
set_option maxRecDepth 100000 in
theorem kn_J0_isLatin1_aae02p {l : Launch} {D : va_G} {cy : cyS} {G : gS} {M : mS} {b : uS} {a0 : Nat} {post : gS → mS → Int32 → Prop} (hG : wt G) (hL0 : a0 ∈ gL G) (hK0 : gK G a0 = 10) (h : n_J0_isLatin1_aae02p b G M a0 post) : cbI l yJ0_isLatin1_aae02 wsJ0_isLatin1_aae02 (rnJ0_isLatin1_aae02p b) D cy G M [.ref a0] b post := by
  unfold n_J0_isLatin1_aae02p at h
  refine cbI_of (cc := cJ0_isLatin1_aae02) (nL := 1) (ret := (some .boolean)) (lv := [(0, .ref a0)]) hG (by decide) rfl (Nat.le_of_ble_eq_true rfl) rfl ?_
  intro p e s m args below meth c sz ls hnm cx w hl
  obtain ⟨hx, hb, hml, hown, hts, hr, hlocks, hK, hA, -, hsx⟩ := id cx
  have hext := ext_rf (G := G)
  have hu : uL (0, 0) b := ⟨Nat.zero_le _, Nat.zero_le _⟩
  have hR : (rnJ0_isLatin1_aae02p b).cells = b.1 ∧ (rnJ0_isLatin1_aae02p b).slots = b.2 := ⟨rfl, rfl⟩
  refine r_getC cx w (List.mem_of_getElem? (i := 1) rfl) dJ0_isLatin1_aae02_0 ?_
  refine lv_if_eq (tgt := 17) hx hb dJ0_isLatin1_aae02_3 (by decide) (fun k1 => ?_) (fun k1 => ?_)
  · have h := w_t h k1
    exact bn_J0_isLatin1_aae02p_17 hnm (0, 0) G M s.heap [] ls hL0 hK0 hext hu h cx w (lv_sub hl [] rfl)
  · have h := w_f h k1
    refine lv_aload_n hx hb dJ0_isLatin1_aae02_6 rfl (lv_at hl 0 rfl) ?_
    refine r_getI (k := 1) (v := .int (mI M a0 1)) cx w hL0 hK0 (by decide) rfl wb_J0_isLatin1_aae02p_J0 (by decide) rfl (List.mem_of_getElem? (i := 2) rfl) dJ0_isLatin1_aae02_7 ?_
    refine lv_if_ne (tgt := 17) hx hb dJ0_isLatin1_aae02_10 (by decide) (fun k2 => ?_) (fun k2 => ?_)
    · have h := w_f h k2
      exact bn_J0_isLatin1_aae02p_17 hnm (0, 0) G M s.heap [] ls hL0 hK0 hext hu h cx w (lv_sub hl [] rfl)
    · have h := w_t h k2
      refine lv_iconst (v := (1 : Int32)) hx hb dJ0_isLatin1_aae02_13 (by decide) ?_
      refine lv_goto (tgt := 18) hx hb dJ0_isLatin1_aae02_14 (by decide) ?_
      exact bn_J0_isLatin1_aae02p_18 hnm (0, 0) G M ((1 : Int32)) s.heap [] ls hL0 hK0 hext hu h cx w (lv_sub hl [] rfl)
-- J0_charAt_5068ep
theorem wb_J0_charAt_5068ep_J0 : ∀ w ∈ wsJ00, w ∈ wsJ0_charAt_5068e := by decide +kernel
abbrev rnJ0_charAt_5068ep (b : uS) : Room := { frames := 3, cells := b.1, slots := b.2, locals := 64 }
def n_J0_charAt_5068ep (b : uS) (G : gS) (M : mS) (a0 : Nat) (c1 : Int32) (post : gS → mS → Int32 → Prop) : Prop := q_ca b (0, 0) (fun v => n_J0_isLatin1_aae02p v G M a0) (fun u3 G1 M2 r4 => p_if (r4 = 0) (False) (p_rf (gP G1 a0 0) (fun q6 => q_ca b u3 (fun v => n_J1_charAt_3b067p v G1 M2 q6 c1) (fun u9 G7 M8 r10 => p_ck (((Int32.toUInt32 r10) % 65536).toInt32 = r10) (post G7 M8 r10)))))
set_option maxHeartbeats 4000000 in
set_option maxRecDepth 100000 in
theorem kn_J0_charAt_5068ep {l : Launch} {D : va_G} {cy : cyS} {G : gS} {M : mS} {b : uS} {a0 : Nat} {c1 : Int32} {post : gS → mS → Int32 → Prop} (hG : wt G) (hL0 : a0 ∈ gL G) (hK0 : gK G a0 = 10) (h : n_J0_charAt_5068ep b G M a0 c1 post) : cbI l yJ0_charAt_5068e wsJ0_charAt_5068e (rnJ0_charAt_5068ep b) D cy G M [.ref a0, .int c1] b post := by
  unfold n_J0_charAt_5068ep at h
  refine cbI_of (cc := cJ0_charAt_5068e) (nL := 2) (ret := (some .char)) (lv := [(0, .ref a0), (1, .int c1)]) hG (by decide) rfl (Nat.le_of_ble_eq_true rfl) rfl ?_
  intro p e s m args below meth c sz ls hnm cx w hl
  obtain ⟨hx, hb, hml, hown, hts, hr, hlocks, hK, hA, -, hsx⟩ := id cx
  have hext := ext_rf (G := G)
  have hu : uL (0, 0) b := ⟨Nat.zero_le _, Nat.zero_le _⟩
  have hR : (rnJ0_charAt_5068ep b).cells = b.1 ∧ (rnJ0_charAt_5068ep b).slots = b.2 := ⟨rfl, rfl⟩
  refine lv_aload_n hx hb dJ0_charAt_5068e_0 rfl (lv_at hl 0 rfl) ?_
  refine rb_VI (b := b) (u := (0, 0)) (rf := 0) (rl := 0) (As := []) (rest := []) cx w hR hl.1 h (fun h => kn_J0_isLatin1_aae02p hG hL0 hK0 h) (fun v => cwV 0 hts gJ0_charAt_5068e_J0_isLatin1_aae02 rfl rfl rfl (by decide +kernel) ⟨(Nat.le_of_ble_eq_true rfl), (Nat.le_of_ble_eq_true rfl)⟩) hL0 hK0 (by decide) rfl rfl rfl (Nat.le_of_ble_eq_true rfl) dJ0_charAt_5068e_1 (fun u3 G1 M2 r4 H locs h hu xe cx w => ?_)
  obtain ⟨hL0, hK0⟩ := ext_wt xe hL0 hK0
  have hext := ext_tr hext xe
  clear xe
  have hG := cX_wt cx
  refine lv_if_eq (tgt := 16) hx hb dJ0_charAt_5068e_4 (by decide) (fun k5 => ?_) (fun k5 => ?_)
  · have h := w_t h k5
    exact h.elim
  · have h := w_f h k5
    refine lv_aload_n hx hb dJ0_charAt_5068e_7 rfl (lv_at hl 0 rfl) ?_
    obtain ⟨q6, eq6, h⟩ := w_rf h
    obtain ⟨hLq6, hKq6⟩ := wt_q hG hL0 hK0 eq6
    have hKq6 : gK G1 q6 = 16 := hKq6
    refine r_getR (k := 0) cx w hL0 hK0 (by decide) rfl wb_J0_charAt_5068ep_J0 (by decide) rfl eq6 (List.mem_of_getElem? (i := 1) rfl) dJ0_charAt_5068e_8 ?_
    refine lv_iload_n hx hb dJ0_charAt_5068e_11 rfl (lv_at hl 1 rfl) ?_
    refine rb_SI (b := b) (u := u3) (rf := 2) (rl := 43) (As := [.ref q6, .int c1]) (rest := []) cx w hR hl.1 h (fun h => kn_J1_charAt_3b067p hG hLq6 hKq6 h) (fun v => va_cwS 2 hts gJ0_charAt_5068e_J1_charAt_3b067 rfl rfl rfl (by decide +kernel) ⟨(Nat.le_of_ble_eq_true rfl), (Nat.le_of_ble_eq_true rfl)⟩) rfl rfl (Nat.le_of_ble_eq_true rfl) dJ0_charAt_5068e_12 (fun u9 G7 M8 r10 H locs h hu xe cx w => ?_)
    obtain ⟨hL0, hK0⟩ := ext_wt xe hL0 hK0
    have hext := ext_tr hext xe
    clear xe
    have hG := cX_wt cx
    obtain ⟨z11, h⟩ := w_ck h
    exact rb_nret (z_char z11) h cx w hext hu dJ0_charAt_5068e_15
-- J0_coder_7d493
abbrev rnJ0_coder_7d493 (b : uS) : Room := { frames := 0, cells := b.1, slots := b.2, locals := 0 }
def nb_J0_coder_7d493_14 (b : uS) (a0 : Nat) (post : gS → mS → Int32 → Prop) (u : uS) (G : gS) (M : mS) (s0 : Int32) : Prop := p_ck ((Int32.toInt8 s0).toInt32 = s0) (post G M s0)
def n_J0_coder_7d493 (b : uS) (G : gS) (M : mS) (a0 : Nat) (post : gS → mS → Int32 → Prop) : Prop := p_if ((1 : Int32) = 0) (nb_J0_coder_7d493_14 b a0 post (0, 0) G M ((1 : Int32))) (nb_J0_coder_7d493_14 b a0 post (0, 0) G M ((0 : Int32)))
set_option maxHeartbeats 4000000 in
set_option maxRecDepth 100000 in
theorem bn_J0_coder_7d493_14 {p : Program} {l : Launch} {e : Env} {s : State} {m : MethodId} {args : Array Value} {below : List Frame} {meth : Method} {c : Code} {D : va_G} {cy : cyS} {b : uS} {G0 : gS} {sz : Nat} (hnm : meth.name = yJ0_coder_7d493.name)  {a0 : Nat} {post : gS → mS → Int32 → Prop} : ∀ (u : uS) (G : gS) (M : mS) (s0 : Int32) (H : Heap) (locs : List Loc) (ls : Array Slot), a0 < 36 → ext G0 G → uL u b → nb_J0_coder_7d493_14 b a0 post u G M s0 → cX p s m args meth c cJ0_coder_7d493 RJ0 1 (some .byte) wsJ0_coder_7d493 D cy G (pA G0 sz) → wd D cy G M (pA G0 sz) s.heap H locs → lv_has ls 1 [] → W p l e (rnJ0_coder_7d493 b) s m args below meth c H locs u.1 u.2 (MQ below (va_Qi (fun (r : Int32) (u : gS × mS) => post u.1 u.2 r) (fun u t => va_P D vwCl (pl cy u.1 u.2) t.heap ∧ va_D (pA G0 sz) (pl cy u.1 u.2) ∧ wt u.1 ∧ ext G0 u.1) (pA G0 sz)) args s b.1 b.2 (pA G0 sz)) (F0 m 14 ls [.int s0]) := by
  intro u G M s0 H locs ls hi0 hext hu h cx w hl
  unfold nb_J0_coder_7d493_14 at h
  obtain ⟨hx, hb, hml, hown, hts, hr, hlocks, hK, hA, hG, hsx⟩ := id cx
  have hR : (rnJ0_coder_7d493 b).cells = b.1 ∧ (rnJ0_coder_7d493 b).slots = b.2 := ⟨rfl, rfl⟩
  obtain ⟨z1, h⟩ := w_ck h
  exact rb_nret (z_byte z1) h cx w hext hu dJ0_coder_7d493_14
set_option maxHeartbeats 4000000 in
set_option maxRecDepth 100000 in
theorem kn_J0_coder_7d493 {l : Launch} {D : va_G} {cy : cyS} {G : gS} {M : mS} {b : uS} {a0 : Nat} {post : gS → mS → Int32 → Prop} (hG : wt G) (hi0 : a0 < 36) (h : n_J0_coder_7d493 b G M a0 post) : cbI l yJ0_coder_7d493 wsJ0_coder_7d493 (rnJ0_coder_7d493 b) D cy G M [.ref (stK D a0)] b post := by
  unfold n_J0_coder_7d493 at h
  refine cbI_of (cc := cJ0_coder_7d493) (nL := 1) (ret := (some .byte)) (lv := [(0, .ref (stK D a0))]) hG (by decide) rfl (Nat.le_of_ble_eq_true rfl) rfl ?_
  intro p e s m args below meth c sz ls hnm cx w hl
  obtain ⟨hx, hb, hml, hown, hts, hr, hlocks, hK, hA, -, hsx⟩ := id cx
  have hext := ext_rf (G := G)
  have hu : uL (0, 0) b := ⟨Nat.zero_le _, Nat.zero_le _⟩
  have hR : (rnJ0_coder_7d493 b).cells = b.1 ∧ (rnJ0_coder_7d493 b).slots = b.2 := ⟨rfl, rfl⟩
  refine r_getC cx w (List.mem_of_getElem? (i := 1) rfl) dJ0_coder_7d493_0 ?_
  refine lv_if_eq (tgt := 13) hx hb dJ0_coder_7d493_3 (by decide) (fun k1 => ?_) (fun k1 => ?_)
  · have h := w_t h k1
    refine lv_iconst (v := (1 : Int32)) hx hb dJ0_coder_7d493_13 (by decide) ?_
    exact bn_J0_coder_7d493_14 hnm (0, 0) G M ((1 : Int32)) s.heap [] ls hi0 hext hu h cx w (lv_sub hl [] rfl)
  · have h := w_f h k1
    refine lv_aload_n hx hb dJ0_coder_7d493_6 rfl (lv_at hl 0 rfl) ?_
    refine r_scod cx w hi0 (List.mem_of_getElem? (i := 2) rfl) dJ0_coder_7d493_7 ?_
    refine lv_goto (tgt := 14) hx hb dJ0_coder_7d493_10 (by decide) ?_
    exact bn_J0_coder_7d493_14 hnm (0, 0) G M ((0 : Int32)) s.heap [] ls hi0 hext hu h cx w (lv_sub hl [] rfl)
-- J0_coder_7d493p
theorem wb_J0_coder_7d493p_J0 : ∀ w ∈ wsJ00, w ∈ wsJ0_coder_7d493 := by decide +kernel
abbrev rnJ0_coder_7d493p (b : uS) : Room := { frames := 0, cells := b.1, slots := b.2, locals := 0 }
def nb_J0_coder_7d493p_14 (b : uS) (a0 : Nat) (post : gS → mS → Int32 → Prop) (u : uS) (G : gS) (M : mS) (s0 : Int32) : Prop := p_ck ((Int32.toInt8 s0).toInt32 = s0) (post G M s0)
def n_J0_coder_7d493p (b : uS) (G : gS) (M : mS) (a0 : Nat) (post : gS → mS → Int32 → Prop) : Prop := p_if ((1 : Int32) = 0) (nb_J0_coder_7d493p_14 b a0 post (0, 0) G M ((1 : Int32))) (nb_J0_coder_7d493p_14 b a0 post (0, 0) G M ((mI M a0 1)))
set_option maxHeartbeats 4000000 in
set_option maxRecDepth 100000 in
theorem bn_J0_coder_7d493p_14 {p : Program} {l : Launch} {e : Env} {s : State} {m : MethodId} {args : Array Value} {below : List Frame} {meth : Method} {c : Code} {D : va_G} {cy : cyS} {b : uS} {G0 : gS} {sz : Nat} (hnm : meth.name = yJ0_coder_7d493.name)  {a0 : Nat} {post : gS → mS → Int32 → Prop} : ∀ (u : uS) (G : gS) (M : mS) (s0 : Int32) (H : Heap) (locs : List Loc) (ls : Array Slot), a0 ∈ gL G → gK G a0 = 10 → ext G0 G → uL u b → nb_J0_coder_7d493p_14 b a0 post u G M s0 → cX p s m args meth c cJ0_coder_7d493 RJ0 1 (some .byte) wsJ0_coder_7d493 D cy G (pA G0 sz) → wd D cy G M (pA G0 sz) s.heap H locs → lv_has ls 1 [] → W p l e (rnJ0_coder_7d493p b) s m args below meth c H locs u.1 u.2 (MQ below (va_Qi (fun (r : Int32) (u : gS × mS) => post u.1 u.2 r) (fun u t => va_P D vwCl (pl cy u.1 u.2) t.heap ∧ va_D (pA G0 sz) (pl cy u.1 u.2) ∧ wt u.1 ∧ ext G0 u.1) (pA G0 sz)) args s b.1 b.2 (pA G0 sz)) (F0 m 14 ls [.int s0]) := by
  intro u G M s0 H locs ls hL0 hK0 hext hu h cx w hl
  unfold nb_J0_coder_7d493p_14 at h
  obtain ⟨hx, hb, hml, hown, hts, hr, hlocks, hK, hA, hG, hsx⟩ := id cx
  have hR : (rnJ0_coder_7d493p b).cells = b.1 ∧ (rnJ0_coder_7d493p b).slots = b.2 := ⟨rfl, rfl⟩
  obtain ⟨z1, h⟩ := w_ck h
  exact rb_nret (z_byte z1) h cx w hext hu dJ0_coder_7d493_14
set_option maxHeartbeats 4000000 in
set_option maxRecDepth 100000 in
theorem kn_J0_coder_7d493p {l : Launch} {D : va_G} {cy : cyS} {G : gS} {M : mS} {b : uS} {a0 : Nat} {post : gS → mS → Int32 → Prop} (hG : wt G) (hL0 : a0 ∈ gL G) (hK0 : gK G a0 = 10) (h : n_J0_coder_7d493p b G M a0 post) : cbI l yJ0_coder_7d493 wsJ0_coder_7d493 (rnJ0_coder_7d493p b) D cy G M [.ref a0] b post := by
  unfold n_J0_coder_7d493p at h
  refine cbI_of (cc := cJ0_coder_7d493) (nL := 1) (ret := (some .byte)) (lv := [(0, .ref a0)]) hG (by decide) rfl (Nat.le_of_ble_eq_true rfl) rfl ?_
  intro p e s m args below meth c sz ls hnm cx w hl
  obtain ⟨hx, hb, hml, hown, hts, hr, hlocks, hK, hA, -, hsx⟩ := id cx
  have hext := ext_rf (G := G)
  have hu : uL (0, 0) b := ⟨Nat.zero_le _, Nat.zero_le _⟩
  have hR : (rnJ0_coder_7d493p b).cells = b.1 ∧ (rnJ0_coder_7d493p b).slots = b.2 := ⟨rfl, rfl⟩
  refine r_getC cx w (List.mem_of_getElem? (i := 1) rfl) dJ0_coder_7d493_0 ?_
  refine lv_if_eq (tgt := 13) hx hb dJ0_coder_7d493_3 (by decide) (fun k1 => ?_) (fun k1 => ?_)
  · have h := w_t h k1
    refine lv_iconst (v := (1 : Int32)) hx hb dJ0_coder_7d493_13 (by decide) ?_
    exact bn_J0_coder_7d493p_14 hnm (0, 0) G M ((1 : Int32)) s.heap [] ls hL0 hK0 hext hu h cx w (lv_sub hl [] rfl)
  · have h := w_f h k1
    refine lv_aload_n hx hb dJ0_coder_7d493_6 rfl (lv_at hl 0 rfl) ?_
    refine r_getI (k := 1) (v := .int (mI M a0 1)) cx w hL0 hK0 (by decide) rfl wb_J0_coder_7d493p_J0 (by decide) rfl (List.mem_of_getElem? (i := 2) rfl) dJ0_coder_7d493_7 ?_
    refine lv_goto (tgt := 14) hx hb dJ0_coder_7d493_10 (by decide) ?_
    exact bn_J0_coder_7d493p_14 hnm (0, 0) G M ((mI M a0 1)) s.heap [] ls hL0 hK0 hext hu h cx w (lv_sub hl [] rfl)
-- J0_length_8abf5
abbrev rnJ0_length_8abf5 (b : uS) : Room := { frames := 1, cells := b.1, slots := b.2, locals := 20 }
def n_J0_length_8abf5 (b : uS) (G : gS) (M : mS) (a0 : Nat) (post : gS → mS → Int32 → Prop) : Prop := q_ca b (0, 0) (fun v => n_J0_coder_7d493 v G M a0) (fun u3 G1 M2 r4 => post G1 M2 ((Int32.ofNat (sN a0)) >>> (r4 &&& 31)))
set_option maxHeartbeats 4000000 in
set_option maxRecDepth 100000 in
theorem kn_J0_length_8abf5 {l : Launch} {D : va_G} {cy : cyS} {G : gS} {M : mS} {b : uS} {a0 : Nat} {post : gS → mS → Int32 → Prop} (hG : wt G) (hi0 : a0 < 36) (h : n_J0_length_8abf5 b G M a0 post) : cbI l yJ0_length_8abf5 wsJ0_length_8abf5 (rnJ0_length_8abf5 b) D cy G M [.ref (stK D a0)] b post := by
  unfold n_J0_length_8abf5 at h
  refine cbI_of (cc := cJ0_length_8abf5) (nL := 1) (ret := (some .int)) (lv := [(0, .ref (stK D a0))]) hG (by decide) rfl (Nat.le_of_ble_eq_true rfl) rfl ?_
  intro p e s m args below meth c sz ls hnm cx w hl
  obtain ⟨hx, hb, hml, hown, hts, hr, hlocks, hK, hA, -, hsx⟩ := id cx
  have hext := ext_rf (G := G)
  have hu : uL (0, 0) b := ⟨Nat.zero_le _, Nat.zero_le _⟩
  have hR : (rnJ0_length_8abf5 b).cells = b.1 ∧ (rnJ0_length_8abf5 b).slots = b.2 := ⟨rfl, rfl⟩
  refine lv_aload_n hx hb dJ0_length_8abf5_0 rfl (lv_at hl 0 rfl) ?_
  refine r_sval cx w hi0 (List.mem_of_getElem? (i := 1) rfl) dJ0_length_8abf5_1 ?_
  refine r_blen cx w hi0 dJ0_length_8abf5_4 ?_
  refine lv_aload_n hx hb dJ0_length_8abf5_5 rfl (lv_at hl 0 rfl) ?_
  refine rb_TI (b := b) (u := (0, 0)) (rf := 0) (rl := 0) (As := []) (rest := [.int ((Int32.ofNat (sN a0)))]) cx w hR hl.1 h (fun h => kn_J0_coder_7d493 hG hi0 h) hi0 (fun v => cwV 0 hts gJ0_length_8abf5_J0_coder_7d493 rfl rfl rfl (by decide +kernel) ⟨(Nat.le_of_ble_eq_true rfl), (Nat.le_of_ble_eq_true rfl)⟩) rfl rfl (Nat.le_of_ble_eq_true rfl) dJ0_length_8abf5_6 (fun u3 G1 M2 r4 H locs h hu xe cx w => ?_)
  have hext := ext_tr hext xe
  clear xe
  have hG := cX_wt cx
  refine lv_ishr hx hb dJ0_length_8abf5_9 ?_
  exact rb_iret h cx w hext hu dJ0_length_8abf5_10
-- J0_length_8abf5p
theorem wb_J0_length_8abf5p_J0 : ∀ w ∈ wsJ00, w ∈ wsJ0_length_8abf5 := by decide +kernel
abbrev rnJ0_length_8abf5p (b : uS) : Room := { frames := 1, cells := b.1, slots := b.2, locals := 20 }
def n_J0_length_8abf5p (b : uS) (G : gS) (M : mS) (a0 : Nat) (post : gS → mS → Int32 → Prop) : Prop := p_rf (gP G a0 0) (fun q1 => q_ca b (0, 0) (fun v => n_J0_coder_7d493p v G M a0) (fun u4 G2 M3 r5 => post G2 M3 ((Int32.ofNat (gN G q1)) >>> (r5 &&& 31))))
set_option maxHeartbeats 4000000 in
set_option maxRecDepth 100000 in
theorem kn_J0_length_8abf5p {l : Launch} {D : va_G} {cy : cyS} {G : gS} {M : mS} {b : uS} {a0 : Nat} {post : gS → mS → Int32 → Prop} (hG : wt G) (hL0 : a0 ∈ gL G) (hK0 : gK G a0 = 10) (h : n_J0_length_8abf5p b G M a0 post) : cbI l yJ0_length_8abf5 wsJ0_length_8abf5 (rnJ0_length_8abf5p b) D cy G M [.ref a0] b post := by
  unfold n_J0_length_8abf5p at h
  refine cbI_of (cc := cJ0_length_8abf5) (nL := 1) (ret := (some .int)) (lv := [(0, .ref a0)]) hG (by decide) rfl (Nat.le_of_ble_eq_true rfl) rfl ?_
  intro p e s m args below meth c sz ls hnm cx w hl
  obtain ⟨hx, hb, hml, hown, hts, hr, hlocks, hK, hA, -, hsx⟩ := id cx
  have hext := ext_rf (G := G)
  have hu : uL (0, 0) b := ⟨Nat.zero_le _, Nat.zero_le _⟩
  have hR : (rnJ0_length_8abf5p b).cells = b.1 ∧ (rnJ0_length_8abf5p b).slots = b.2 := ⟨rfl, rfl⟩
  refine lv_aload_n hx hb dJ0_length_8abf5_0 rfl (lv_at hl 0 rfl) ?_
  obtain ⟨q1, eq1, h⟩ := w_rf h
  obtain ⟨hLq1, hKq1⟩ := wt_q hG hL0 hK0 eq1
  have hKq1 : gK G q1 = 16 := hKq1
  refine r_getR (k := 0) cx w hL0 hK0 (by decide) rfl wb_J0_length_8abf5p_J0 (by decide) rfl eq1 (List.mem_of_getElem? (i := 1) rfl) dJ0_length_8abf5_1 ?_
  refine r_alen cx w hLq1 hKq1 (by decide) dJ0_length_8abf5_4 ?_
  refine lv_aload_n hx hb dJ0_length_8abf5_5 rfl (lv_at hl 0 rfl) ?_
  refine rb_VI (b := b) (u := (0, 0)) (rf := 0) (rl := 0) (As := []) (rest := [.int ((Int32.ofNat (gN G q1)))]) cx w hR hl.1 h (fun h => kn_J0_coder_7d493p hG hL0 hK0 h) (fun v => cwV 0 hts gJ0_length_8abf5_J0_coder_7d493 rfl rfl rfl (by decide +kernel) ⟨(Nat.le_of_ble_eq_true rfl), (Nat.le_of_ble_eq_true rfl)⟩) hL0 hK0 (by decide) rfl rfl rfl (Nat.le_of_ble_eq_true rfl) dJ0_length_8abf5_6 (fun u4 G2 M3 r5 H locs h hu xe cx w => ?_)
  obtain ⟨hL0, hK0⟩ := ext_wt xe hL0 hK0
  have hext := ext_tr hext xe
  clear xe
  have hG := cX_wt cx
  refine lv_ishr hx hb dJ0_length_8abf5_9 ?_
  exact rb_iret h cx w hext hu dJ0_length_8abf5_10
-- J0_getBytes_840e7
abbrev rnJ0_getBytes_840e7 (b : uS) : Room := { frames := 1, cells := b.1, slots := b.2, locals := 60 }
def nb_J0_getBytes_840e7_43 (b : uS) (a0 : Nat) (a1 : Nat) (c2 : Int32) (c3 : Int32) (post : gS → mS → Unit → Prop) (u : uS) (G : gS) (M : mS) : Prop := post G M ()
def n_J0_getBytes_840e7 (b : uS) (G : gS) (M : mS) (a0 : Nat) (a1 : Nat) (c2 : Int32) (c3 : Int32) (post : gS → mS → Unit → Prop) : Prop := q_ca b (0, 0) (fun v => n_J0_coder_7d493 v G M a0) (fun u3 G1 M2 r4 => p_if (r4 = c3) (q_bc (0 : Int32) (c2 <<< (c3 &&& 31)) (Int32.ofNat (sN a0)) (sN a0) (gN G1 a1) (sB a0) (p_wC M2 a1 (va_cpy (sB a0) (mI M2 a1) (Int32.toNatClampNeg (0 : Int32)) (Int32.toNatClampNeg (c2 <<< (c3 &&& 31))) (Int32.toNatClampNeg (Int32.ofNat (sN a0)))) (fun M6 => nb_J0_getBytes_840e7_43 b a0 a1 c2 c3 post u3 G1 M6))) (False))
set_option maxHeartbeats 4000000 in
set_option maxRecDepth 100000 in
theorem bn_J0_getBytes_840e7_43 {p : Program} {l : Launch} {e : Env} {s : State} {m : MethodId} {args : Array Value} {below : List Frame} {meth : Method} {c : Code} {D : va_G} {cy : cyS} {b : uS} {G0 : gS} {sz : Nat} (hnm : meth.name = yJ0_getBytes_840e7.name)  {a0 : Nat} {a1 : Nat} {c2 : Int32} {c3 : Int32} {post : gS → mS → Unit → Prop} : ∀ (u : uS) (G : gS) (M : mS) (H : Heap) (locs : List Loc) (ls : Array Slot), a0 < 36 → a1 ∈ gL G → gK G a1 = 16 → ext G0 G → uL u b → nb_J0_getBytes_840e7_43 b a0 a1 c2 c3 post u G M → cX p s m args meth c cJ0_getBytes_840e7 RJ0 4 none wsJ0_getBytes_840e7 D cy G (pA G0 sz) → wd D cy G M (pA G0 sz) s.heap H locs → lv_has ls 4 [] → W p l e (rnJ0_getBytes_840e7 b) s m args below meth c H locs u.1 u.2 (MQ below (va_Qv (fun (u : gS × mS) => post u.1 u.2 ()) (fun u t => va_P D vwCl (pl cy u.1 u.2) t.heap ∧ va_D (pA G0 sz) (pl cy u.1 u.2) ∧ wt u.1 ∧ ext G0 u.1) (pA G0 sz)) args s b.1 b.2 (pA G0 sz)) (F0 m 43 ls []) := by
  intro u G M H locs ls hi0 hL1 hK1 hext hu h cx w hl
  unfold nb_J0_getBytes_840e7_43 at h
  obtain ⟨hx, hb, hml, hown, hts, hr, hlocks, hK, hA, hG, hsx⟩ := id cx
  have hR : (rnJ0_getBytes_840e7 b).cells = b.1 ∧ (rnJ0_getBytes_840e7 b).slots = b.2 := ⟨rfl, rfl⟩
  exact rb_vret h cx w hext hu dJ0_getBytes_840e7_43
set_option maxHeartbeats 4000000 in
set_option maxRecDepth 100000 in
theorem kn_J0_getBytes_840e7 {l : Launch} {D : va_G} {cy : cyS} {G : gS} {M : mS} {b : uS} {a0 : Nat} {a1 : Nat} {c2 : Int32} {c3 : Int32} {post : gS → mS → Unit → Prop} (hG : wt G) (hi0 : a0 < 36) (hL1 : a1 ∈ gL G) (hK1 : gK G a1 = 16) (h : n_J0_getBytes_840e7 b G M a0 a1 c2 c3 post) : cbV l yJ0_getBytes_840e7 wsJ0_getBytes_840e7 (rnJ0_getBytes_840e7 b) D cy G M [.ref (stK D a0), .ref a1, .int c2, .int c3] b post := by
  unfold n_J0_getBytes_840e7 at h
  refine cbV_of (cc := cJ0_getBytes_840e7) (nL := 4) (lv := [(0, .ref (stK D a0)), (1, .ref a1), (2, .int c2), (3, .int c3)]) hG (by decide) rfl (Nat.le_of_ble_eq_true rfl) rfl ?_
  intro p e s m args below meth c sz ls hnm cx w hl
  obtain ⟨hx, hb, hml, hown, hts, hr, hlocks, hK, hA, -, hsx⟩ := id cx
  have hext := ext_rf (G := G)
  have hu : uL (0, 0) b := ⟨Nat.zero_le _, Nat.zero_le _⟩
  have hR : (rnJ0_getBytes_840e7 b).cells = b.1 ∧ (rnJ0_getBytes_840e7 b).slots = b.2 := ⟨rfl, rfl⟩
  refine lv_aload_n hx hb dJ0_getBytes_840e7_0 rfl (lv_at hl 0 rfl) ?_
  refine rb_TI (b := b) (u := (0, 0)) (rf := 0) (rl := 0) (As := []) (rest := []) cx w hR hl.1 h (fun h => kn_J0_coder_7d493 hG hi0 h) hi0 (fun v => cwV 0 hts gJ0_getBytes_840e7_J0_coder_7d493 rfl rfl rfl (by decide +kernel) ⟨(Nat.le_of_ble_eq_true rfl), (Nat.le_of_ble_eq_true rfl)⟩) rfl rfl (Nat.le_of_ble_eq_true rfl) dJ0_getBytes_840e7_1 (fun u3 G1 M2 r4 H locs h hu xe cx w => ?_)
  obtain ⟨hL1, hK1⟩ := ext_wt xe hL1 hK1
  have hext := ext_tr hext xe
  clear xe
  have hG := cX_wt cx
  refine lv_iload_n hx hb dJ0_getBytes_840e7_4 rfl (lv_at hl 3 rfl) ?_
  refine lv_icmp_ne (tgt := 28) hx hb dJ0_getBytes_840e7_5 (by decide) (fun k5 => ?_) (fun k5 => ?_)
  · have h := w_f h k5
    exact h.elim
  · have h := w_t h k5
    refine lv_aload_n hx hb dJ0_getBytes_840e7_8 rfl (lv_at hl 0 rfl) ?_
    refine r_sval cx w hi0 (List.mem_of_getElem? (i := 1) rfl) dJ0_getBytes_840e7_9 ?_
    refine lv_iconst (v := (0 : Int32)) hx hb dJ0_getBytes_840e7_12 (by decide) ?_
    refine lv_aload_n hx hb dJ0_getBytes_840e7_13 rfl (lv_at hl 1 rfl) ?_
    refine lv_iload_n hx hb dJ0_getBytes_840e7_14 rfl (lv_at hl 2 rfl) ?_
    refine lv_iload_n hx hb dJ0_getBytes_840e7_15 rfl (lv_at hl 3 rfl) ?_
    refine lv_ishl hx hb dJ0_getBytes_840e7_16 ?_
    refine lv_aload_n hx hb dJ0_getBytes_840e7_17 rfl (lv_at hl 0 rfl) ?_
    refine r_sval cx w hi0 (List.mem_of_getElem? (i := 1) rfl) dJ0_getBytes_840e7_18 ?_
    refine r_blen cx w hi0 dJ0_getBytes_840e7_21 ?_
    refine rb_copyT cx w (hml.trans hl.1.symm) (hts _ (List.mem_of_getElem? (i := 2) rfl)) (hts _ (List.mem_of_getElem? (i := 3) rfl)) (hts _ (List.mem_of_getElem? (i := 4) rfl)) (hts _ (List.mem_of_getElem? (i := 5) rfl)) hi0 hL1 hK1 h (Nat.le_of_ble_eq_true rfl) (Nat.le_of_ble_eq_true rfl) dJ0_getBytes_840e7_22 (fun M6 H locs h w => ?_)
    refine lv_goto (tgt := 43) hx hb dJ0_getBytes_840e7_25 (by decide) ?_
    exact bn_J0_getBytes_840e7_43 hnm u3 G1 M6 H locs ls hi0 hL1 hK1 hext hu h cx w (lv_sub hl [] rfl)
-- J0_getBytes_840e7p
theorem wb_J0_getBytes_840e7p_J0 : ∀ w ∈ wsJ00, w ∈ wsJ0_getBytes_840e7 := by decide +kernel
abbrev rnJ0_getBytes_840e7p (b : uS) : Room := { frames := 1, cells := b.1, slots := b.2, locals := 60 }
def nb_J0_getBytes_840e7p_43 (b : uS) (a0 : Nat) (a1 : Nat) (c2 : Int32) (c3 : Int32) (post : gS → mS → Unit → Prop) (u : uS) (G : gS) (M : mS) : Prop := post G M ()
def n_J0_getBytes_840e7p (b : uS) (G : gS) (M : mS) (a0 : Nat) (a1 : Nat) (c2 : Int32) (c3 : Int32) (post : gS → mS → Unit → Prop) : Prop := q_ca b (0, 0) (fun v => n_J0_coder_7d493p v G M a0) (fun u3 G1 M2 r4 => p_if (r4 = c3) (p_rf (gP G1 a0 0) (fun q6 => p_rf (gP G1 a0 0) (fun q7 => q_bc (0 : Int32) (c2 <<< (c3 &&& 31)) (Int32.ofNat (gN G1 q7)) (gN G1 q6) (gN G1 a1) (mI M2 q6) (p_wC M2 a1 (va_cpy (mI M2 q6) (mI M2 a1) (Int32.toNatClampNeg (0 : Int32)) (Int32.toNatClampNeg (c2 <<< (c3 &&& 31))) (Int32.toNatClampNeg (Int32.ofNat (gN G1 q7)))) (fun M8 => nb_J0_getBytes_840e7p_43 b a0 a1 c2 c3 post u3 G1 M8))))) (False))
set_option maxHeartbeats 4000000 in
set_option maxRecDepth 100000 in
theorem bn_J0_getBytes_840e7p_43 {p : Program} {l : Launch} {e : Env} {s : State} {m : MethodId} {args : Array Value} {below : List Frame} {meth : Method} {c : Code} {D : va_G} {cy : cyS} {b : uS} {G0 : gS} {sz : Nat} (hnm : meth.name = yJ0_getBytes_840e7.name)  {a0 : Nat} {a1 : Nat} {c2 : Int32} {c3 : Int32} {post : gS → mS → Unit → Prop} : ∀ (u : uS) (G : gS) (M : mS) (H : Heap) (locs : List Loc) (ls : Array Slot), a0 ∈ gL G → gK G a0 = 10 → a1 ∈ gL G → gK G a1 = 16 → ext G0 G → uL u b → nb_J0_getBytes_840e7p_43 b a0 a1 c2 c3 post u G M → cX p s m args meth c cJ0_getBytes_840e7 RJ0 4 none wsJ0_getBytes_840e7 D cy G (pA G0 sz) → wd D cy G M (pA G0 sz) s.heap H locs → lv_has ls 4 [] → W p l e (rnJ0_getBytes_840e7p b) s m args below meth c H locs u.1 u.2 (MQ below (va_Qv (fun (u : gS × mS) => post u.1 u.2 ()) (fun u t => va_P D vwCl (pl cy u.1 u.2) t.heap ∧ va_D (pA G0 sz) (pl cy u.1 u.2) ∧ wt u.1 ∧ ext G0 u.1) (pA G0 sz)) args s b.1 b.2 (pA G0 sz)) (F0 m 43 ls []) := by
  intro u G M H locs ls hL0 hK0 hL1 hK1 hext hu h cx w hl
  unfold nb_J0_getBytes_840e7p_43 at h
  obtain ⟨hx, hb, hml, hown, hts, hr, hlocks, hK, hA, hG, hsx⟩ := id cx
  have hR : (rnJ0_getBytes_840e7p b).cells = b.1 ∧ (rnJ0_getBytes_840e7p b).slots = b.2 := ⟨rfl, rfl⟩
  exact rb_vret h cx w hext hu dJ0_getBytes_840e7_43
set_option maxHeartbeats 4000000 in
set_option maxRecDepth 100000 in
theorem kn_J0_getBytes_840e7p {l : Launch} {D : va_G} {cy : cyS} {G : gS} {M : mS} {b : uS} {a0 : Nat} {a1 : Nat} {c2 : Int32} {c3 : Int32} {post : gS → mS → Unit → Prop} (hG : wt G) (hL0 : a0 ∈ gL G) (hK0 : gK G a0 = 10) (hL1 : a1 ∈ gL G) (hK1 : gK G a1 = 16) (h : n_J0_getBytes_840e7p b G M a0 a1 c2 c3 post) : cbV l yJ0_getBytes_840e7 wsJ0_getBytes_840e7 (rnJ0_getBytes_840e7p b) D cy G M [.ref a0, .ref a1, .int c2, .int c3] b post := by
  unfold n_J0_getBytes_840e7p at h
  refine cbV_of (cc := cJ0_getBytes_840e7) (nL := 4) (lv := [(0, .ref a0), (1, .ref a1), (2, .int c2), (3, .int c3)]) hG (by decide) rfl (Nat.le_of_ble_eq_true rfl) rfl ?_
  intro p e s m args below meth c sz ls hnm cx w hl
  obtain ⟨hx, hb, hml, hown, hts, hr, hlocks, hK, hA, -, hsx⟩ := id cx
  have hext := ext_rf (G := G)
  have hu : uL (0, 0) b := ⟨Nat.zero_le _, Nat.zero_le _⟩
  have hR : (rnJ0_getBytes_840e7p b).cells = b.1 ∧ (rnJ0_getBytes_840e7p b).slots = b.2 := ⟨rfl, rfl⟩
  refine lv_aload_n hx hb dJ0_getBytes_840e7_0 rfl (lv_at hl 0 rfl) ?_
  refine rb_VI (b := b) (u := (0, 0)) (rf := 0) (rl := 0) (As := []) (rest := []) cx w hR hl.1 h (fun h => kn_J0_coder_7d493p hG hL0 hK0 h) (fun v => cwV 0 hts gJ0_getBytes_840e7_J0_coder_7d493 rfl rfl rfl (by decide +kernel) ⟨(Nat.le_of_ble_eq_true rfl), (Nat.le_of_ble_eq_true rfl)⟩) hL0 hK0 (by decide) rfl rfl rfl (Nat.le_of_ble_eq_true rfl) dJ0_getBytes_840e7_1 (fun u3 G1 M2 r4 H locs h hu xe cx w => ?_)
  obtain ⟨hL0, hK0⟩ := ext_wt xe hL0 hK0
  obtain ⟨hL1, hK1⟩ := ext_wt xe hL1 hK1
  have hext := ext_tr hext xe
  clear xe
  have hG := cX_wt cx
  refine lv_iload_n hx hb dJ0_getBytes_840e7_4 rfl (lv_at hl 3 rfl) ?_
  refine lv_icmp_ne (tgt := 28) hx hb dJ0_getBytes_840e7_5 (by decide) (fun k5 => ?_) (fun k5 => ?_)
  · have h := w_f h k5
    exact h.elim
  · have h := w_t h k5
    refine lv_aload_n hx hb dJ0_getBytes_840e7_8 rfl (lv_at hl 0 rfl) ?_
    obtain ⟨q6, eq6, h⟩ := w_rf h
    obtain ⟨hLq6, hKq6⟩ := wt_q hG hL0 hK0 eq6
    have hKq6 : gK G1 q6 = 16 := hKq6
    refine r_getR (k := 0) cx w hL0 hK0 (by decide) rfl wb_J0_getBytes_840e7p_J0 (by decide) rfl eq6 (List.mem_of_getElem? (i := 1) rfl) dJ0_getBytes_840e7_9 ?_
    refine lv_iconst (v := (0 : Int32)) hx hb dJ0_getBytes_840e7_12 (by decide) ?_
    refine lv_aload_n hx hb dJ0_getBytes_840e7_13 rfl (lv_at hl 1 rfl) ?_
    refine lv_iload_n hx hb dJ0_getBytes_840e7_14 rfl (lv_at hl 2 rfl) ?_
    refine lv_iload_n hx hb dJ0_getBytes_840e7_15 rfl (lv_at hl 3 rfl) ?_
    refine lv_ishl hx hb dJ0_getBytes_840e7_16 ?_
    refine lv_aload_n hx hb dJ0_getBytes_840e7_17 rfl (lv_at hl 0 rfl) ?_
    obtain ⟨q7, eq7, h⟩ := w_rf h
    obtain ⟨hLq7, hKq7⟩ := wt_q hG hL0 hK0 eq7
    have hKq7 : gK G1 q7 = 16 := hKq7
    refine r_getR (k := 0) cx w hL0 hK0 (by decide) rfl wb_J0_getBytes_840e7p_J0 (by decide) rfl eq7 (List.mem_of_getElem? (i := 1) rfl) dJ0_getBytes_840e7_18 ?_
    refine r_alen cx w hLq7 hKq7 (by decide) dJ0_getBytes_840e7_21 ?_
    refine rb_copyB cx w (hml.trans hl.1.symm) (hts _ (List.mem_of_getElem? (i := 2) rfl)) (hts _ (List.mem_of_getElem? (i := 3) rfl)) (hts _ (List.mem_of_getElem? (i := 4) rfl)) (hts _ (List.mem_of_getElem? (i := 5) rfl)) hLq6 hKq6 hL1 hK1 h (Nat.le_of_ble_eq_true rfl) (Nat.le_of_ble_eq_true rfl) dJ0_getBytes_840e7_22 (fun M8 H locs h w => ?_)
    refine lv_goto (tgt := 43) hx hb dJ0_getBytes_840e7_25 (by decide) ?_
    exact bn_J0_getBytes_840e7p_43 hnm u3 G1 M8 H locs ls hL0 hK0 hL1 hK1 hext hu h cx w (lv_sub hl [] rfl)
-- J7_copyOf_9075b
abbrev rnJ7_copyOf_9075b (b : uS) : Room := { frames := 1, cells := b.1, slots := b.2, locals := 60 }
def n_J7_copyOf_9075b (b : uS) (G : gS) (M : mS) (a0 : Nat) (c1 : Int32) (post : gS → mS → Nat → Prop) : Prop := p_if (c1 = (Int32.ofNat (gN G a0))) (q_cn b (0, 0) G M a0 (fun q7 u10 G8 M9 => post G8 M9 q7)) (q_na b (0, 0) G M 16 c1 (fun q2 u5 G3 M4 => q_bc (0 : Int32) (0 : Int32) (if c1 < (Int32.ofNat (gN G3 a0)) then c1 else (Int32.ofNat (gN G3 a0))) (gN G3 a0) (gN G3 q2) (mI M4 a0) (p_wC M4 q2 (va_cpy (mI M4 a0) (mI M4 q2) (Int32.toNatClampNeg (0 : Int32)) (Int32.toNatClampNeg (0 : Int32)) (Int32.toNatClampNeg (if c1 < (Int32.ofNat (gN G3 a0)) then c1 else (Int32.ofNat (gN G3 a0))))) (fun M6 => post G3 M6 q2))))
set_option maxHeartbeats 4000000 in
set_option maxRecDepth 100000 in
theorem kn_J7_copyOf_9075b {l : Launch} {D : va_G} {cy : cyS} {G : gS} {M : mS} {b : uS} {a0 : Nat} {c1 : Int32} {post : gS → mS → Nat → Prop} (hG : wt G) (hL0 : a0 ∈ gL G) (hK0 : gK G a0 = 16) (h : n_J7_copyOf_9075b b G M a0 c1 post) : cbR 16 l yJ7_copyOf_9075b wsJ7_copyOf_9075b (rnJ7_copyOf_9075b b) D cy G M [.ref a0, .int c1] b post := by
  unfold n_J7_copyOf_9075b at h
  refine cbR_of (cc := cJ7_copyOf_9075b) (nL := 3) (ret := (some (.array .byte))) (lv := [(0, .ref a0), (1, .int c1)]) hG (by decide) rfl (Nat.le_of_ble_eq_true rfl) rfl ?_
  intro p e s m args below meth c sz ls hnm cx w hl
  obtain ⟨hx, hb, hml, hown, hts, hr, hlocks, hK, hA, -, hsx⟩ := id cx
  have hext := ext_rf (G := G)
  have hu : uL (0, 0) b := ⟨Nat.zero_le _, Nat.zero_le _⟩
  have hR : (rnJ7_copyOf_9075b b).cells = b.1 ∧ (rnJ7_copyOf_9075b b).slots = b.2 := ⟨rfl, rfl⟩
  refine lv_iload_n hx hb dJ7_copyOf_9075b_0 rfl (lv_at hl 1 rfl) ?_
  refine lv_aload_n hx hb dJ7_copyOf_9075b_1 rfl (lv_at hl 0 rfl) ?_
  refine r_alen cx w hL0 hK0 (by decide) dJ7_copyOf_9075b_2 ?_
  refine lv_icmp_ne (tgt := 14) hx hb dJ7_copyOf_9075b_3 (by decide) (fun k1 => ?_) (fun k1 => ?_)
  · have h := w_f h k1
    refine lv_iload_n hx hb dJ7_copyOf_9075b_14 rfl (lv_at hl 1 rfl) ?_
    refine rb_newB (b := b) (u := (0, 0)) cx w hR (List.mem_of_getElem? (i := 7) rfl) h dJ7_copyOf_9075b_15 (fun q2 u5 G3 M4 H h hu xe hLq2 hKq2 cx w => ?_)
    obtain ⟨hL0, hK0⟩ := ext_wt xe hL0 hK0
    have hext := ext_tr hext xe
    clear xe
    have hG := cX_wt cx
    refine lv_astore_n (lv' := [(2, .ref q2), (0, .ref a0), (1, .int c1)]) hx hb dJ7_copyOf_9075b_17 rfl hl (by decide) rfl (fun ls hl => ?_)
    refine lv_aload_n hx hb dJ7_copyOf_9075b_18 rfl (lv_at hl 1 rfl) ?_
    refine lv_iconst (v := (0 : Int32)) hx hb dJ7_copyOf_9075b_19 (by decide) ?_
    refine lv_aload_n hx hb dJ7_copyOf_9075b_20 rfl (lv_at hl 0 rfl) ?_
    refine lv_iconst (v := (0 : Int32)) hx hb dJ7_copyOf_9075b_21 (by decide) ?_
    refine lv_aload_n hx hb dJ7_copyOf_9075b_22 rfl (lv_at hl 1 rfl) ?_
    refine r_alen cx w hL0 hK0 (by decide) dJ7_copyOf_9075b_23 ?_
    refine lv_iload_n hx hb dJ7_copyOf_9075b_24 rfl (lv_at hl 2 rfl) ?_
    refine va_mmin hx hb (hml.trans hl.1.symm) hown (hts _ (List.mem_of_getElem? (i := 8) rfl)) (hts _ (List.mem_of_getElem? (i := 9) rfl)) (hts _ (List.mem_of_getElem? (i := 10) rfl)) (hts _ (List.mem_of_getElem? (i := 11) rfl)) (Nat.le_of_ble_eq_true rfl) (Nat.le_of_ble_eq_true rfl) hu.1 hu.2 dJ7_copyOf_9075b_25 ?_
    refine rb_copyB cx w (hml.trans hl.1.symm) (hts _ (List.mem_of_getElem? (i := 12) rfl)) (hts _ (List.mem_of_getElem? (i := 13) rfl)) (hts _ (List.mem_of_getElem? (i := 14) rfl)) (hts _ (List.mem_of_getElem? (i := 15) rfl)) hL0 hK0 hLq2 hKq2 h (Nat.le_of_ble_eq_true rfl) (Nat.le_of_ble_eq_true rfl) dJ7_copyOf_9075b_28 (fun M6 H locs h w => ?_)
    refine lv_aload_n hx hb dJ7_copyOf_9075b_31 rfl (lv_at hl 0 rfl) ?_
    exact rb_aret (Or.inr ⟨_, rfl⟩) hLq2 hKq2 h cx w hext hu dJ7_copyOf_9075b_32
  · have h := w_t h k1
    refine lv_aload_n hx hb dJ7_copyOf_9075b_6 rfl (lv_at hl 0 rfl) ?_
    refine rb_clone (b := b) (u := (0, 0)) cx w hR (hml.trans hl.1.symm) (List.mem_of_getElem? (i := 1) rfl) (List.mem_of_getElem? (i := 2) rfl) (List.mem_of_getElem? (i := 3) rfl) (List.mem_of_getElem? (i := 4) rfl) (List.mem_of_getElem? (i := 5) rfl) hL0 hK0 (Nat.le_of_ble_eq_true rfl) (Nat.le_of_ble_eq_true rfl) h dJ7_copyOf_9075b_7 (fun q7 u10 G8 M9 H h hu xe hLq7 hKq7 cx w => ?_)
    obtain ⟨hL0, hK0⟩ := ext_wt xe hL0 hK0
    have hext := ext_tr hext xe
    clear xe
    have hG := cX_wt cx
    refine rb_castB cx w (List.mem_of_getElem? (i := 6) rfl) hLq7 hKq7 dJ7_copyOf_9075b_10 ?_
    exact rb_aret (Or.inr ⟨_, rfl⟩) hLq7 hKq7 h cx w hext hu dJ7_copyOf_9075b_13
-- J7_checkLength_df160
abbrev rnJ7_checkLength_df160 (b : uS) : Room := { frames := 0, cells := b.1, slots := b.2, locals := 0 }
def n_J7_checkLength_df160 (b : uS) (G : gS) (M : mS) (c0 : Int32) (c1 : Int32) (post : gS → mS → Unit → Prop) : Prop := p_if (c0 ≤ c1) (post G M ()) (False)
set_option maxHeartbeats 4000000 in
set_option maxRecDepth 100000 in
theorem kn_J7_checkLength_df160 {l : Launch} {D : va_G} {cy : cyS} {G : gS} {M : mS} {b : uS} {c0 : Int32} {c1 : Int32} {post : gS → mS → Unit → Prop} (hG : wt G) (h : n_J7_checkLength_df160 b G M c0 c1 post) : cbV l yJ7_checkLength_df160 wsJ7_checkLength_df160 (rnJ7_checkLength_df160 b) D cy G M [.int c0, .int c1] b post := by
  unfold n_J7_checkLength_df160 at h
  refine cbV_of (cc := cJ7_checkLength_df160) (nL := 2) (lv := [(0, .int c0), (1, .int c1)]) hG (by decide) rfl (Nat.le_of_ble_eq_true rfl) rfl ?_
  intro p e s m args below meth c sz ls hnm cx w hl
  obtain ⟨hx, hb, hml, hown, hts, hr, hlocks, hK, hA, -, hsx⟩ := id cx
  have hext := ext_rf (G := G)
  have hu : uL (0, 0) b := ⟨Nat.zero_le _, Nat.zero_le _⟩
  have hR : (rnJ7_checkLength_df160 b).cells = b.1 ∧ (rnJ7_checkLength_df160 b).slots = b.2 := ⟨rfl, rfl⟩
  refine lv_iload_n hx hb dJ7_checkLength_df160_0 rfl (lv_at hl 1 rfl) ?_
  refine lv_iload_n hx hb dJ7_checkLength_df160_1 rfl (lv_at hl 0 rfl) ?_
  refine lv_icmp_ge (tgt := 37) hx hb dJ7_checkLength_df160_2 (by decide) (fun k1 => ?_) (fun k1 => ?_)
  · have h := w_t h k1
    exact rb_vret h cx w hext hu dJ7_checkLength_df160_37
  · have h := w_f h k1
    exact h.elim
-- J7_copyOfRangeByte_39247
abbrev rnJ7_copyOfRangeByte_39247 (b : uS) : Room := { frames := 1, cells := b.1, slots := b.2, locals := 60 }
def n_J7_copyOfRangeByte_39247 (b : uS) (G : gS) (M : mS) (a0 : Nat) (c1 : Int32) (c2 : Int32) (post : gS → mS → Nat → Prop) : Prop := q_ca b (0, 0) (fun v => n_J7_checkLength_df160 v G M c1 c2) (fun u3 G1 M2 r4 => p_bd ((c2 - c1)) (fun x5 => q_na b u3 G1 M2 16 x5 (fun q6 u9 G7 M8 => q_bc c1 (0 : Int32) (if x5 < ((Int32.ofNat (gN G7 a0)) - c1) then x5 else ((Int32.ofNat (gN G7 a0)) - c1)) (gN G7 a0) (gN G7 q6) (mI M8 a0) (p_wC M8 q6 (va_cpy (mI M8 a0) (mI M8 q6) (Int32.toNatClampNeg c1) (Int32.toNatClampNeg (0 : Int32)) (Int32.toNatClampNeg (if x5 < ((Int32.ofNat (gN G7 a0)) - c1) then x5 else ((Int32.ofNat (gN G7 a0)) - c1)))) (fun M10 => post G7 M10 q6)))))
set_option maxHeartbeats 4000000 in
set_option maxRecDepth 100000 in
theorem kn_J7_copyOfRangeByte_39247 {l : Launch} {D : va_G} {cy : cyS} {G : gS} {M : mS} {b : uS} {a0 : Nat} {c1 : Int32} {c2 : Int32} {post : gS → mS → Nat → Prop} (hG : wt G) (hL0 : a0 ∈ gL G) (hK0 : gK G a0 = 16) (h : n_J7_copyOfRangeByte_39247 b G M a0 c1 c2 post) : cbR 16 l yJ7_copyOfRangeByte_39247 wsJ7_copyOfRangeByte_39247 (rnJ7_copyOfRangeByte_39247 b) D cy G M [.ref a0, .int c1, .int c2] b post := by
  unfold n_J7_copyOfRangeByte_39247 at h
  refine cbR_of (cc := cJ7_copyOfRangeByte_39247) (nL := 5) (ret := (some (.array .byte))) (lv := [(0, .ref a0), (1, .int c1), (2, .int c2)]) hG (by decide) rfl (Nat.le_of_ble_eq_true rfl) rfl ?_
  intro p e s m args below meth c sz ls hnm cx w hl
  obtain ⟨hx, hb, hml, hown, hts, hr, hlocks, hK, hA, -, hsx⟩ := id cx
  have hext := ext_rf (G := G)
  have hu : uL (0, 0) b := ⟨Nat.zero_le _, Nat.zero_le _⟩
  have hR : (rnJ7_copyOfRangeByte_39247 b).cells = b.1 ∧ (rnJ7_copyOfRangeByte_39247 b).slots = b.2 := ⟨rfl, rfl⟩
  refine lv_iload_n hx hb dJ7_copyOfRangeByte_39247_0 rfl (lv_at hl 1 rfl) ?_
  refine lv_iload_n hx hb dJ7_copyOfRangeByte_39247_1 rfl (lv_at hl 2 rfl) ?_
  refine rb_SV (b := b) (u := (0, 0)) (rf := 0) (rl := 0) (As := [.int c1, .int c2]) (rest := []) cx w hR hl.1 h (fun h => kn_J7_checkLength_df160 hG h) (fun v => va_cwS 2 hts gJ7_copyOfRangeByte_39247_J7_checkLength_df160 rfl rfl rfl (by decide +kernel) ⟨(Nat.le_of_ble_eq_true rfl), (Nat.le_of_ble_eq_true rfl)⟩) rfl rfl (Nat.le_of_ble_eq_true rfl) dJ7_copyOfRangeByte_39247_2 (fun u3 G1 M2 r4 H locs h hu xe cx w => ?_)
  obtain ⟨hL0, hK0⟩ := ext_wt xe hL0 hK0
  have hext := ext_tr hext xe
  clear xe
  have hG := cX_wt cx
  refine lv_iload_n hx hb dJ7_copyOfRangeByte_39247_5 rfl (lv_at hl 2 rfl) ?_
  refine lv_iload_n hx hb dJ7_copyOfRangeByte_39247_6 rfl (lv_at hl 1 rfl) ?_
  refine lv_isub hx hb dJ7_copyOfRangeByte_39247_7 ?_
  obtain ⟨x5, ex5, h⟩ := w_bd h
  refine r_topI ex5 ?_
  refine lv_istore_n (lv' := [(3, .int x5), (0, .ref a0), (1, .int c1), (2, .int c2)]) hx hb dJ7_copyOfRangeByte_39247_8 rfl hl (by decide) rfl (fun ls hl => ?_)
  refine lv_iload_n hx hb dJ7_copyOfRangeByte_39247_9 rfl (lv_at hl 0 rfl) ?_
  refine rb_newB (b := b) (u := u3) cx w hR (List.mem_of_getElem? (i := 1) rfl) h dJ7_copyOfRangeByte_39247_10 (fun q6 u9 G7 M8 H h hu xe hLq6 hKq6 cx w => ?_)
  obtain ⟨hL0, hK0⟩ := ext_wt xe hL0 hK0
  have hext := ext_tr hext xe
  clear xe
  have hG := cX_wt cx
  refine lv_astore (lv' := [(4, .ref q6), (3, .int x5), (0, .ref a0), (1, .int c1), (2, .int c2)]) hx hb dJ7_copyOfRangeByte_39247_12 hl (by decide) rfl (fun ls hl => ?_)
  refine lv_aload_n hx hb dJ7_copyOfRangeByte_39247_14 rfl (lv_at hl 2 rfl) ?_
  refine lv_iload_n hx hb dJ7_copyOfRangeByte_39247_15 rfl (lv_at hl 3 rfl) ?_
  refine lv_aload hx hb dJ7_copyOfRangeByte_39247_16 (lv_at hl 0 rfl) ?_
  refine lv_iconst (v := (0 : Int32)) hx hb dJ7_copyOfRangeByte_39247_18 (by decide) ?_
  refine lv_aload_n hx hb dJ7_copyOfRangeByte_39247_19 rfl (lv_at hl 2 rfl) ?_
  refine r_alen cx w hL0 hK0 (by decide) dJ7_copyOfRangeByte_39247_20 ?_
  refine lv_iload_n hx hb dJ7_copyOfRangeByte_39247_21 rfl (lv_at hl 3 rfl) ?_
  refine lv_isub hx hb dJ7_copyOfRangeByte_39247_22 ?_
  refine lv_iload_n hx hb dJ7_copyOfRangeByte_39247_23 rfl (lv_at hl 1 rfl) ?_
  refine va_mmin hx hb (hml.trans hl.1.symm) hown (hts _ (List.mem_of_getElem? (i := 2) rfl)) (hts _ (List.mem_of_getElem? (i := 3) rfl)) (hts _ (List.mem_of_getElem? (i := 4) rfl)) (hts _ (List.mem_of_getElem? (i := 5) rfl)) (Nat.le_of_ble_eq_true rfl) (Nat.le_of_ble_eq_true rfl) hu.1 hu.2 dJ7_copyOfRangeByte_39247_24 ?_
  refine rb_copyB cx w (hml.trans hl.1.symm) (hts _ (List.mem_of_getElem? (i := 6) rfl)) (hts _ (List.mem_of_getElem? (i := 7) rfl)) (hts _ (List.mem_of_getElem? (i := 8) rfl)) (hts _ (List.mem_of_getElem? (i := 9) rfl)) hL0 hK0 hLq6 hKq6 h (Nat.le_of_ble_eq_true rfl) (Nat.le_of_ble_eq_true rfl) dJ7_copyOfRangeByte_39247_27 (fun M10 H locs h w => ?_)
  refine lv_aload hx hb dJ7_copyOfRangeByte_39247_30 (lv_at hl 0 rfl) ?_
  exact rb_aret (Or.inr ⟨_, rfl⟩) hLq6 hKq6 h cx w hext hu dJ7_copyOfRangeByte_39247_32
-- J7_copyOfRange_39247
abbrev rnJ7_copyOfRange_39247 (b : uS) : Room := { frames := 2, cells := b.1, slots := b.2, locals := 84 }
def nb_J7_copyOfRange_39247_10 (b : uS) (a0 : Nat) (c1 : Int32) (c2 : Int32) (post : gS → mS → Nat → Prop) (u : uS) (G : gS) (M : mS) : Prop := q_ca b u (fun v => n_J7_copyOfRangeByte_39247 v G M a0 c1 c2) (fun u3 G1 M2 r4 => post G1 M2 r4)
def n_J7_copyOfRange_39247 (b : uS) (G : gS) (M : mS) (a0 : Nat) (c1 : Int32) (c2 : Int32) (post : gS → mS → Nat → Prop) : Prop := p_if (c1 = 0) (p_if (c2 = (Int32.ofNat (gN G a0))) (q_cn b (0, 0) G M a0 (fun q3 u6 G4 M5 => post G4 M5 q3)) (nb_J7_copyOfRange_39247_10 b a0 c1 c2 post (0, 0) G M)) (nb_J7_copyOfRange_39247_10 b a0 c1 c2 post (0, 0) G M)
set_option maxHeartbeats 4000000 in
set_option maxRecDepth 100000 in
theorem bn_J7_copyOfRange_39247_10 {p : Program} {l : Launch} {e : Env} {s : State} {m : MethodId} {args : Array Value} {below : List Frame} {meth : Method} {c : Code} {D : va_G} {cy : cyS} {b : uS} {G0 : gS} {sz : Nat} (hnm : meth.name = yJ7_copyOfRange_39247.name)  {a0 : Nat} {c1 : Int32} {c2 : Int32} {post : gS → mS → Nat → Prop} : ∀ (u : uS) (G : gS) (M : mS) (H : Heap) (locs : List Loc) (ls : Array Slot), a0 ∈ gL G → gK G a0 = 16 → ext G0 G → uL u b → nb_J7_copyOfRange_39247_10 b a0 c1 c2 post u G M → cX p s m args meth c cJ7_copyOfRange_39247 RJ7 3 (some (.array .byte)) wsJ7_copyOfRange_39247 D cy G (pA G0 sz) → wd D cy G M (pA G0 sz) s.heap H locs → lv_has ls 3 [(0, .ref a0), (1, .int c1), (2, .int c2)] → W p l e (rnJ7_copyOfRange_39247 b) s m args below meth c H locs u.1 u.2 (MQ below (va_Qr (fun (u : gS × mS × Nat) => post u.1 u.2.1 u.2.2) (fun u x t => x = u.2.2 ∧ (x ∈ gL u.1 ∧ gK u.1 x = 16) ∧ va_P D vwCl (pl cy u.1 u.2.1) t.heap ∧ va_D (pA G0 sz) (pl cy u.1 u.2.1) ∧ wt u.1 ∧ ext G0 u.1) (pA G0 sz)) args s b.1 b.2 (pA G0 sz)) (F0 m 10 ls []) := by
  intro u G M H locs ls hL0 hK0 hext hu h cx w hl
  unfold nb_J7_copyOfRange_39247_10 at h
  obtain ⟨hx, hb, hml, hown, hts, hr, hlocks, hK, hA, hG, hsx⟩ := id cx
  have hR : (rnJ7_copyOfRange_39247 b).cells = b.1 ∧ (rnJ7_copyOfRange_39247 b).slots = b.2 := ⟨rfl, rfl⟩
  refine lv_aload_n hx hb dJ7_copyOfRange_39247_10 rfl (lv_at hl 0 rfl) ?_
  refine lv_iload_n hx hb dJ7_copyOfRange_39247_11 rfl (lv_at hl 1 rfl) ?_
  refine lv_iload_n hx hb dJ7_copyOfRange_39247_12 rfl (lv_at hl 2 rfl) ?_
  refine rb_SR (kr := 16) (b := b) (u := u) (rf := 1) (rl := 60) (As := [.ref a0, .int c1, .int c2]) (rest := []) cx w hR hl.1 h (fun h => kn_J7_copyOfRangeByte_39247 hG hL0 hK0 h) (fun v => va_cwS 3 hts gJ7_copyOfRange_39247_J7_copyOfRangeByte_39247 rfl rfl rfl (by decide +kernel) ⟨(Nat.le_of_ble_eq_true rfl), (Nat.le_of_ble_eq_true rfl)⟩) rfl rfl (Nat.le_of_ble_eq_true rfl) dJ7_copyOfRange_39247_13 (fun u3 G1 M2 r4 H locs h hu xe hLr4 hKr4 cx w => ?_)
  obtain ⟨hL0, hK0⟩ := ext_wt xe hL0 hK0
  have hext := ext_tr hext xe
  clear xe
  have hG := cX_wt cx
  exact rb_aret (Or.inr ⟨_, rfl⟩) hLr4 hKr4 h cx w hext hu dJ7_copyOfRange_39247_16
set_option maxHeartbeats 4000000 in
set_option maxRecDepth 100000 in
theorem kn_J7_copyOfRange_39247 {l : Launch} {D : va_G} {cy : cyS} {G : gS} {M : mS} {b : uS} {a0 : Nat} {c1 : Int32} {c2 : Int32} {post : gS → mS → Nat → Prop} (hG : wt G) (hL0 : a0 ∈ gL G) (hK0 : gK G a0 = 16) (h : n_J7_copyOfRange_39247 b G M a0 c1 c2 post) : cbR 16 l yJ7_copyOfRange_39247 wsJ7_copyOfRange_39247 (rnJ7_copyOfRange_39247 b) D cy G M [.ref a0, .int c1, .int c2] b post := by
  unfold n_J7_copyOfRange_39247 at h
  refine cbR_of (cc := cJ7_copyOfRange_39247) (nL := 3) (ret := (some (.array .byte))) (lv := [(0, .ref a0), (1, .int c1), (2, .int c2)]) hG (by decide) rfl (Nat.le_of_ble_eq_true rfl) rfl ?_
  intro p e s m args below meth c sz ls hnm cx w hl
  obtain ⟨hx, hb, hml, hown, hts, hr, hlocks, hK, hA, -, hsx⟩ := id cx
  have hext := ext_rf (G := G)
  have hu : uL (0, 0) b := ⟨Nat.zero_le _, Nat.zero_le _⟩
  have hR : (rnJ7_copyOfRange_39247 b).cells = b.1 ∧ (rnJ7_copyOfRange_39247 b).slots = b.2 := ⟨rfl, rfl⟩
  refine lv_iload_n hx hb dJ7_copyOfRange_39247_0 rfl (lv_at hl 1 rfl) ?_
  refine lv_if_ne (tgt := 10) hx hb dJ7_copyOfRange_39247_1 (by decide) (fun k1 => ?_) (fun k1 => ?_)
  · have h := w_f h k1
    exact bn_J7_copyOfRange_39247_10 hnm (0, 0) G M s.heap [] ls hL0 hK0 hext hu h cx w (lv_sub hl [0, 1, 2] rfl)
  · have h := w_t h k1
    refine lv_iload_n hx hb dJ7_copyOfRange_39247_4 rfl (lv_at hl 2 rfl) ?_
    refine lv_aload_n hx hb dJ7_copyOfRange_39247_5 rfl (lv_at hl 0 rfl) ?_
    refine r_alen cx w hL0 hK0 (by decide) dJ7_copyOfRange_39247_6 ?_
    refine lv_icmp_eq (tgt := 17) hx hb dJ7_copyOfRange_39247_7 (by decide) (fun k2 => ?_) (fun k2 => ?_)
    · have h := w_t h k2
      refine lv_aload_n hx hb dJ7_copyOfRange_39247_17 rfl (lv_at hl 0 rfl) ?_
      refine rb_clone (b := b) (u := (0, 0)) cx w hR (hml.trans hl.1.symm) (List.mem_of_getElem? (i := 1) rfl) (List.mem_of_getElem? (i := 2) rfl) (List.mem_of_getElem? (i := 3) rfl) (List.mem_of_getElem? (i := 4) rfl) (List.mem_of_getElem? (i := 5) rfl) hL0 hK0 (Nat.le_of_ble_eq_true rfl) (Nat.le_of_ble_eq_true rfl) h dJ7_copyOfRange_39247_18 (fun q3 u6 G4 M5 H h hu xe hLq3 hKq3 cx w => ?_)
      obtain ⟨hL0, hK0⟩ := ext_wt xe hL0 hK0
      have hext := ext_tr hext xe
      clear xe
      have hG := cX_wt cx
      refine rb_castB cx w (List.mem_of_getElem? (i := 6) rfl) hLq3 hKq3 dJ7_copyOfRange_39247_21 ?_
      exact rb_aret (Or.inr ⟨_, rfl⟩) hLq3 hKq3 h cx w hext hu dJ7_copyOfRange_39247_24
    · have h := w_f h k2
      exact bn_J7_copyOfRange_39247_10 hnm (0, 0) G M s.heap [] ls hL0 hK0 hext hu h cx w (lv_sub hl [0, 1, 2] rfl)
-- J8_newLength_cabcc
abbrev rnJ8_newLength_cabcc (b : uS) : Room := { frames := 1, cells := b.1, slots := b.2, locals := 60 }
def n_J8_newLength_cabcc (b : uS) (G : gS) (M : mS) (c0 : Int32) (c1 : Int32) (c2 : Int32) (post : gS → mS → Int32 → Prop) : Prop := p_bd ((c0 + (if c1 < c2 then c2 else c1))) (fun x1 => p_if (x1 ≤ (0 : Int32)) (False) (p_if ((2147483639 : Int32) < x1) (False) (post G M x1)))
set_option maxHeartbeats 4000000 in
set_option maxRecDepth 100000 in
theorem kn_J8_newLength_cabcc {l : Launch} {D : va_G} {cy : cyS} {G : gS} {M : mS} {b : uS} {c0 : Int32} {c1 : Int32} {c2 : Int32} {post : gS → mS → Int32 → Prop} (hG : wt G) (h : n_J8_newLength_cabcc b G M c0 c1 c2 post) : cbI l yJ8_newLength_cabcc wsJ8_newLength_cabcc (rnJ8_newLength_cabcc b) D cy G M [.int c0, .int c1, .int c2] b post := by
  unfold n_J8_newLength_cabcc at h
  refine cbI_of (cc := cJ8_newLength_cabcc) (nL := 4) (ret := (some .int)) (lv := [(0, .int c0), (1, .int c1), (2, .int c2)]) hG (by decide) rfl (Nat.le_of_ble_eq_true rfl) rfl ?_
  intro p e s m args below meth c sz ls hnm cx w hl
  obtain ⟨hx, hb, hml, hown, hts, hr, hlocks, hK, hA, -, hsx⟩ := id cx
  have hext := ext_rf (G := G)
  have hu : uL (0, 0) b := ⟨Nat.zero_le _, Nat.zero_le _⟩
  have hR : (rnJ8_newLength_cabcc b).cells = b.1 ∧ (rnJ8_newLength_cabcc b).slots = b.2 := ⟨rfl, rfl⟩
  refine lv_iload_n hx hb dJ8_newLength_cabcc_0 rfl (lv_at hl 0 rfl) ?_
  refine lv_iload_n hx hb dJ8_newLength_cabcc_1 rfl (lv_at hl 1 rfl) ?_
  refine lv_iload_n hx hb dJ8_newLength_cabcc_2 rfl (lv_at hl 2 rfl) ?_
  refine va_mmax hx hb (hml.trans hl.1.symm) hown (hts _ (List.mem_of_getElem? (i := 1) rfl)) (hts _ (List.mem_of_getElem? (i := 2) rfl)) (hts _ (List.mem_of_getElem? (i := 3) rfl)) (hts _ (List.mem_of_getElem? (i := 4) rfl)) (Nat.le_of_ble_eq_true rfl) (Nat.le_of_ble_eq_true rfl) hu.1 hu.2 dJ8_newLength_cabcc_3 ?_
  refine lv_iadd hx hb dJ8_newLength_cabcc_6 ?_
  obtain ⟨x1, ex1, h⟩ := w_bd h
  refine r_topI ex1 ?_
  refine lv_istore_n (lv' := [(3, .int x1), (0, .int c0), (1, .int c1), (2, .int c2)]) hx hb dJ8_newLength_cabcc_7 rfl hl (by decide) rfl (fun ls hl => ?_)
  refine lv_iconst (v := (0 : Int32)) hx hb dJ8_newLength_cabcc_8 (by decide) ?_
  refine lv_iload_n hx hb dJ8_newLength_cabcc_9 rfl (lv_at hl 0 rfl) ?_
  refine lv_icmp_ge (tgt := 21) hx hb dJ8_newLength_cabcc_10 (by decide) (fun k2 => ?_) (fun k2 => ?_)
  · have h := w_t h k2
    exact h.elim
  · have h := w_f h k2
    refine lv_iload_n hx hb dJ8_newLength_cabcc_13 rfl (lv_at hl 0 rfl) ?_
    refine lv_ldc (v := 2147483639) hx hb hown (hts (.constant RJ8 200 (2147483639)) (List.mem_of_getElem? (i := 5) rfl)) dJ8_newLength_cabcc_14 ?_
    refine lv_icmp_gt (tgt := 21) hx hb dJ8_newLength_cabcc_16 (by decide) (fun k3 => ?_) (fun k3 => ?_)
    · have h := w_t h k3
      exact h.elim
    · have h := w_f h k3
      refine lv_iload_n hx hb dJ8_newLength_cabcc_19 rfl (lv_at hl 0 rfl) ?_
      exact rb_iret h cx w hext hu dJ8_newLength_cabcc_20
-- J5_newCapacity_0f7a4
theorem wb_J5_newCapacity_0f7a4_J4 : ∀ w ∈ wsJ40, w ∈ wsJ5_newCapacity_0f7a4 := by decide +kernel
abbrev rnJ5_newCapacity_0f7a4 (b : uS) : Room := { frames := 2, cells := b.1, slots := b.2, locals := 83 }
def n_J5_newCapacity_0f7a4 (b : uS) (G : gS) (M : mS) (a0 : Nat) (c1 : Int32) (post : gS → mS → Int32 → Prop) : Prop := p_rf (gP G a0 0) (fun q1 => p_bd ((Int32.ofNat (gN G q1))) (fun x2 => p_bd ((c1 <<< ((mI M a0 1) &&& 31))) (fun x3 => p_bd ((x3 - x2)) (fun x4 => q_ca b (0, 0) (fun v => n_J8_newLength_cabcc v G M x2 x4 (x2 + ((2 : Int32) <<< ((mI M a0 1) &&& 31)))) (fun u7 G5 M6 r8 => p_if (r8 = (2147483647 : Int32)) (False) (post G5 M6 (r8 >>> ((mI M6 a0 1) &&& 31))))))))
set_option maxHeartbeats 4000000 in
set_option maxRecDepth 100000 in
theorem kn_J5_newCapacity_0f7a4 {l : Launch} {D : va_G} {cy : cyS} {G : gS} {M : mS} {b : uS} {a0 : Nat} {c1 : Int32} {post : gS → mS → Int32 → Prop} (hG : wt G) (hL0 : a0 ∈ gL G) (hK0 : gK G a0 = 11) (h : n_J5_newCapacity_0f7a4 b G M a0 c1 post) : cbI l yJ5_newCapacity_0f7a4 wsJ5_newCapacity_0f7a4 (rnJ5_newCapacity_0f7a4 b) D cy G M [.ref a0, .int c1] b post := by
  unfold n_J5_newCapacity_0f7a4 at h
  refine cbI_of (cc := cJ5_newCapacity_0f7a4) (nL := 6) (ret := (some .int)) (lv := [(0, .ref a0), (1, .int c1)]) hG (by decide) rfl (Nat.le_of_ble_eq_true rfl) rfl ?_
  intro p e s m args below meth c sz ls hnm cx w hl
  obtain ⟨hx, hb, hml, hown, hts, hr, hlocks, hK, hA, -, hsx⟩ := id cx
  have hext := ext_rf (G := G)
  have hu : uL (0, 0) b := ⟨Nat.zero_le _, Nat.zero_le _⟩
  have hR : (rnJ5_newCapacity_0f7a4 b).cells = b.1 ∧ (rnJ5_newCapacity_0f7a4 b).slots = b.2 := ⟨rfl, rfl⟩
  refine lv_aload_n hx hb dJ5_newCapacity_0f7a4_0 rfl (lv_at hl 0 rfl) ?_
  obtain ⟨q1, eq1, h⟩ := w_rf h
  obtain ⟨hLq1, hKq1⟩ := wt_q hG hL0 hK0 eq1
  have hKq1 : gK G q1 = 16 := hKq1
  refine r_getR (k := 0) cx w hL0 hK0 (by decide) rfl wb_J5_newCapacity_0f7a4_J4 (by decide) rfl eq1 (List.mem_of_getElem? (i := 1) rfl) dJ5_newCapacity_0f7a4_1 ?_
  refine r_alen cx w hLq1 hKq1 (by decide) dJ5_newCapacity_0f7a4_4 ?_
  obtain ⟨x2, ex2, h⟩ := w_bd h
  refine r_topI ex2 ?_
  refine lv_istore_n (lv' := [(2, .int x2), (0, .ref a0), (1, .int c1)]) hx hb dJ5_newCapacity_0f7a4_5 rfl hl (by decide) rfl (fun ls hl => ?_)
  refine lv_iload_n hx hb dJ5_newCapacity_0f7a4_6 rfl (lv_at hl 2 rfl) ?_
  refine lv_aload_n hx hb dJ5_newCapacity_0f7a4_7 rfl (lv_at hl 1 rfl) ?_
  refine r_getI (k := 1) (v := .int (mI M a0 1)) cx w hL0 hK0 (by decide) rfl wb_J5_newCapacity_0f7a4_J4 (by decide) rfl (List.mem_of_getElem? (i := 2) rfl) dJ5_newCapacity_0f7a4_8 ?_
  refine lv_ishl hx hb dJ5_newCapacity_0f7a4_11 ?_
  obtain ⟨x3, ex3, h⟩ := w_bd h
  refine r_topI ex3 ?_
  refine lv_istore_n (lv' := [(3, .int x3), (2, .int x2), (0, .ref a0), (1, .int c1)]) hx hb dJ5_newCapacity_0f7a4_12 rfl hl (by decide) rfl (fun ls hl => ?_)
  refine lv_iload_n hx hb dJ5_newCapacity_0f7a4_13 rfl (lv_at hl 0 rfl) ?_
  refine lv_iload_n hx hb dJ5_newCapacity_0f7a4_14 rfl (lv_at hl 1 rfl) ?_
  refine lv_isub hx hb dJ5_newCapacity_0f7a4_15 ?_
  obtain ⟨x4, ex4, h⟩ := w_bd h
  refine r_topI ex4 ?_
  refine lv_istore (lv' := [(4, .int x4), (3, .int x3), (2, .int x2), (0, .ref a0), (1, .int c1)]) hx hb dJ5_newCapacity_0f7a4_16 hl (by decide) rfl (fun ls hl => ?_)
  refine lv_iload_n hx hb dJ5_newCapacity_0f7a4_18 rfl (lv_at hl 2 rfl) ?_
  refine lv_iload hx hb dJ5_newCapacity_0f7a4_19 (lv_at hl 0 rfl) ?_
  refine lv_iload_n hx hb dJ5_newCapacity_0f7a4_21 rfl (lv_at hl 2 rfl) ?_
  refine lv_iconst (v := (2 : Int32)) hx hb dJ5_newCapacity_0f7a4_22 (by decide) ?_
  refine lv_aload_n hx hb dJ5_newCapacity_0f7a4_23 rfl (lv_at hl 3 rfl) ?_
  refine r_getI (k := 1) (v := .int (mI M a0 1)) cx w hL0 hK0 (by decide) rfl wb_J5_newCapacity_0f7a4_J4 (by decide) rfl (List.mem_of_getElem? (i := 2) rfl) dJ5_newCapacity_0f7a4_24 ?_
  refine lv_ishl hx hb dJ5_newCapacity_0f7a4_27 ?_
  refine lv_iadd hx hb dJ5_newCapacity_0f7a4_28 ?_
  refine rb_SI (b := b) (u := (0, 0)) (rf := 1) (rl := 60) (As := [.int x2, .int x4, .int ((x2 + ((2 : Int32) <<< ((mI M a0 1) &&& 31))))]) (rest := []) cx w hR hl.1 h (fun h => kn_J8_newLength_cabcc hG h) (fun v => va_cwS 3 hts gJ5_newCapacity_0f7a4_J8_newLength_cabcc rfl rfl rfl (by decide +kernel) ⟨(Nat.le_of_ble_eq_true rfl), (Nat.le_of_ble_eq_true rfl)⟩) rfl rfl (Nat.le_of_ble_eq_true rfl) dJ5_newCapacity_0f7a4_29 (fun u7 G5 M6 r8 H locs h hu xe cx w => ?_)
  obtain ⟨hL0, hK0⟩ := ext_wt xe hL0 hK0
  have hext := ext_tr hext xe
  clear xe
  have hG := cX_wt cx
  refine lv_istore (lv' := [(5, .int r8), (4, .int x4), (3, .int x3), (2, .int x2), (0, .ref a0), (1, .int c1)]) hx hb dJ5_newCapacity_0f7a4_32 hl (by decide) rfl (fun ls hl => ?_)
  refine lv_iload hx hb dJ5_newCapacity_0f7a4_34 (lv_at hl 0 rfl) ?_
  refine lv_ldc (v := 2147483647) hx hb hown (hts (.constant RJ5 39 (2147483647)) (List.mem_of_getElem? (i := 3) rfl)) dJ5_newCapacity_0f7a4_36 ?_
  refine lv_icmp_ne (tgt := 51) hx hb dJ5_newCapacity_0f7a4_38 (by decide) (fun k9 => ?_) (fun k9 => ?_)
  · have h := w_f h k9
    refine lv_iload hx hb dJ5_newCapacity_0f7a4_51 (lv_at hl 0 rfl) ?_
    refine lv_aload_n hx hb dJ5_newCapacity_0f7a4_53 rfl (lv_at hl 4 rfl) ?_
    refine r_getI (k := 1) (v := .int (mI M6 a0 1)) cx w hL0 hK0 (by decide) rfl wb_J5_newCapacity_0f7a4_J4 (by decide) rfl (List.mem_of_getElem? (i := 2) rfl) dJ5_newCapacity_0f7a4_54 ?_
    refine lv_ishr hx hb dJ5_newCapacity_0f7a4_57 ?_
    exact rb_iret h cx w hext hu dJ5_newCapacity_0f7a4_58
  · have h := w_t h k9
    exact h.elim
-- J5_ensureCapacityInternal_d00df
theorem wb_J5_ensureCapacityInternal_d00df_J4 : ∀ w ∈ wsJ40, w ∈ wsJ5_ensureCapacityInternal_d00df := by decide +kernel
abbrev rnJ5_ensureCapacityInternal_d00df (b : uS) : Room := { frames := 3, cells := b.1, slots := b.2, locals := 108 }
def nb_J5_ensureCapacityInternal_d00df_38 (b : uS) (a0 : Nat) (c1 : Int32) (post : gS → mS → Unit → Prop) (u : uS) (G : gS) (M : mS) : Prop := post G M ()
def n_J5_ensureCapacityInternal_d00df (b : uS) (G : gS) (M : mS) (a0 : Nat) (c1 : Int32) (post : gS → mS → Unit → Prop) : Prop := p_rf (gP G a0 0) (fun q1 => p_bd (((Int32.ofNat (gN G q1)) >>> ((mI M a0 1) &&& 31))) (fun x2 => p_if ((c1 - x2) ≤ 0) (nb_J5_ensureCapacityInternal_d00df_38 b a0 c1 post (0, 0) G M) (p_rf (gP G a0 0) (fun q4 => q_ca b (0, 0) (fun v => n_J5_newCapacity_0f7a4 v G M a0 c1) (fun u7 G5 M6 r8 => q_ca b u7 (fun v => n_J7_copyOf_9075b v G5 M6 q4 (r8 <<< ((mI M6 a0 1) &&& 31))) (fun u11 G9 M10 r12 => p_sR G9 a0 0 r12 (fun G13 => nb_J5_ensureCapacityInternal_d00df_38 b a0 c1 post u11 G13 M10)))))))
set_option maxHeartbeats 4000000 in
set_option maxRecDepth 100000 in
theorem bn_J5_ensureCapacityInternal_d00df_38 {p : Program} {l : Launch} {e : Env} {s : State} {m : MethodId} {args : Array Value} {below : List Frame} {meth : Method} {c : Code} {D : va_G} {cy : cyS} {b : uS} {G0 : gS} {sz : Nat} (hnm : meth.name = yJ5_ensureCapacityInternal_d00df.name)  {a0 : Nat} {c1 : Int32} {post : gS → mS → Unit → Prop} : ∀ (u : uS) (G : gS) (M : mS) (H : Heap) (locs : List Loc) (ls : Array Slot), a0 ∈ gL G → gK G a0 = 11 → ext G0 G → uL u b → nb_J5_ensureCapacityInternal_d00df_38 b a0 c1 post u G M → cX p s m args meth c cJ5_ensureCapacityInternal_d00df RJ5 3 none wsJ5_ensureCapacityInternal_d00df D cy G (pA G0 sz) → wd D cy G M (pA G0 sz) s.heap H locs → lv_has ls 3 [] → W p l e (rnJ5_ensureCapacityInternal_d00df b) s m args below meth c H locs u.1 u.2 (MQ below (va_Qv (fun (u : gS × mS) => post u.1 u.2 ()) (fun u t => va_P D vwCl (pl cy u.1 u.2) t.heap ∧ va_D (pA G0 sz) (pl cy u.1 u.2) ∧ wt u.1 ∧ ext G0 u.1) (pA G0 sz)) args s b.1 b.2 (pA G0 sz)) (F0 m 38 ls []) := by
  intro u G M H locs ls hL0 hK0 hext hu h cx w hl
  unfold nb_J5_ensureCapacityInternal_d00df_38 at h
  obtain ⟨hx, hb, hml, hown, hts, hr, hlocks, hK, hA, hG, hsx⟩ := id cx
  have hR : (rnJ5_ensureCapacityInternal_d00df b).cells = b.1 ∧ (rnJ5_ensureCapacityInternal_d00df b).slots = b.2 := ⟨rfl, rfl⟩
  exact rb_vret h cx w hext hu dJ5_ensureCapacityInternal_d00df_38
set_option maxHeartbeats 4000000 in
set_option maxRecDepth 100000 in
theorem kn_J5_ensureCapacityInternal_d00df {l : Launch} {D : va_G} {cy : cyS} {G : gS} {M : mS} {b : uS} {a0 : Nat} {c1 : Int32} {post : gS → mS → Unit → Prop} (hG : wt G) (hL0 : a0 ∈ gL G) (hK0 : gK G a0 = 11) (h : n_J5_ensureCapacityInternal_d00df b G M a0 c1 post) : cbV l yJ5_ensureCapacityInternal_d00df wsJ5_ensureCapacityInternal_d00df (rnJ5_ensureCapacityInternal_d00df b) D cy G M [.ref a0, .int c1] b post := by
  unfold n_J5_ensureCapacityInternal_d00df at h
  refine cbV_of (cc := cJ5_ensureCapacityInternal_d00df) (nL := 3) (lv := [(0, .ref a0), (1, .int c1)]) hG (by decide) rfl (Nat.le_of_ble_eq_true rfl) rfl ?_
  intro p e s m args below meth c sz ls hnm cx w hl
  obtain ⟨hx, hb, hml, hown, hts, hr, hlocks, hK, hA, -, hsx⟩ := id cx
  have hext := ext_rf (G := G)
  have hu : uL (0, 0) b := ⟨Nat.zero_le _, Nat.zero_le _⟩
  have hR : (rnJ5_ensureCapacityInternal_d00df b).cells = b.1 ∧ (rnJ5_ensureCapacityInternal_d00df b).slots = b.2 := ⟨rfl, rfl⟩
  refine lv_aload_n hx hb dJ5_ensureCapacityInternal_d00df_0 rfl (lv_at hl 0 rfl) ?_
  obtain ⟨q1, eq1, h⟩ := w_rf h
  obtain ⟨hLq1, hKq1⟩ := wt_q hG hL0 hK0 eq1
  have hKq1 : gK G q1 = 16 := hKq1
  refine r_getR (k := 0) cx w hL0 hK0 (by decide) rfl wb_J5_ensureCapacityInternal_d00df_J4 (by decide) rfl eq1 (List.mem_of_getElem? (i := 1) rfl) dJ5_ensureCapacityInternal_d00df_1 ?_
  refine r_alen cx w hLq1 hKq1 (by decide) dJ5_ensureCapacityInternal_d00df_4 ?_
  refine lv_aload_n hx hb dJ5_ensureCapacityInternal_d00df_5 rfl (lv_at hl 0 rfl) ?_
  refine r_getI (k := 1) (v := .int (mI M a0 1)) cx w hL0 hK0 (by decide) rfl wb_J5_ensureCapacityInternal_d00df_J4 (by decide) rfl (List.mem_of_getElem? (i := 2) rfl) dJ5_ensureCapacityInternal_d00df_6 ?_
  refine lv_ishr hx hb dJ5_ensureCapacityInternal_d00df_9 ?_
  obtain ⟨x2, ex2, h⟩ := w_bd h
  refine r_topI ex2 ?_
  refine lv_istore_n (lv' := [(2, .int x2), (0, .ref a0), (1, .int c1)]) hx hb dJ5_ensureCapacityInternal_d00df_10 rfl hl (by decide) rfl (fun ls hl => ?_)
  refine lv_iload_n hx hb dJ5_ensureCapacityInternal_d00df_11 rfl (lv_at hl 2 rfl) ?_
  refine lv_iload_n hx hb dJ5_ensureCapacityInternal_d00df_12 rfl (lv_at hl 0 rfl) ?_
  refine lv_isub hx hb dJ5_ensureCapacityInternal_d00df_13 ?_
  refine lv_if_le (tgt := 38) hx hb dJ5_ensureCapacityInternal_d00df_14 (by decide) (fun k3 => ?_) (fun k3 => ?_)
  · have h := w_t h k3
    exact bn_J5_ensureCapacityInternal_d00df_38 hnm (0, 0) G M s.heap [] ls hL0 hK0 hext hu h cx w (lv_sub hl [] rfl)
  · have h := w_f h k3
    refine lv_aload_n hx hb dJ5_ensureCapacityInternal_d00df_17 rfl (lv_at hl 1 rfl) ?_
    refine lv_aload_n hx hb dJ5_ensureCapacityInternal_d00df_18 rfl (lv_at hl 1 rfl) ?_
    obtain ⟨q4, eq4, h⟩ := w_rf h
    obtain ⟨hLq4, hKq4⟩ := wt_q hG hL0 hK0 eq4
    have hKq4 : gK G q4 = 16 := hKq4
    refine r_getR (k := 0) cx w hL0 hK0 (by decide) rfl wb_J5_ensureCapacityInternal_d00df_J4 (by decide) rfl eq4 (List.mem_of_getElem? (i := 1) rfl) dJ5_ensureCapacityInternal_d00df_19 ?_
    refine lv_aload_n hx hb dJ5_ensureCapacityInternal_d00df_22 rfl (lv_at hl 1 rfl) ?_
    refine lv_iload_n hx hb dJ5_ensureCapacityInternal_d00df_23 rfl (lv_at hl 2 rfl) ?_
    refine rb_UI (b := b) (u := (0, 0)) (rf := 2) (rl := 83) (As := [.int c1]) (rest := [.ref q4, .ref a0]) cx w hR hl.1 h (fun h => kn_J5_newCapacity_0f7a4 hG hL0 hK0 h) (fun v => va_cwU (x := ⟨"java/lang/AbstractStringBuilder", "newCapacity", "(I)I"⟩) 1 hts gJ5_ensureCapacityInternal_d00df_J5_newCapacity_0f7a4_u104J4 rfl rfl rfl rfl (by decide +kernel) ⟨(Nat.le_of_ble_eq_true rfl), (Nat.le_of_ble_eq_true rfl)⟩) hL0 hK0 (by decide) rfl rfl rfl (Nat.le_of_ble_eq_true rfl) dJ5_ensureCapacityInternal_d00df_24 (fun u7 G5 M6 r8 H locs h hu xe cx w => ?_)
    obtain ⟨hL0, hK0⟩ := ext_wt xe hL0 hK0
    obtain ⟨hLq4, hKq4⟩ := ext_wt xe hLq4 hKq4
    have hext := ext_tr hext xe
    clear xe
    have hG := cX_wt cx
    refine lv_aload_n hx hb dJ5_ensureCapacityInternal_d00df_27 rfl (lv_at hl 1 rfl) ?_
    refine r_getI (k := 1) (v := .int (mI M6 a0 1)) cx w hL0 hK0 (by decide) rfl wb_J5_ensureCapacityInternal_d00df_J4 (by decide) rfl (List.mem_of_getElem? (i := 2) rfl) dJ5_ensureCapacityInternal_d00df_28 ?_
    refine lv_ishl hx hb dJ5_ensureCapacityInternal_d00df_31 ?_
    refine rb_SR (kr := 16) (b := b) (u := u7) (rf := 1) (rl := 60) (As := [.ref q4, .int ((r8 <<< ((mI M6 a0 1) &&& 31)))]) (rest := [.ref a0]) cx w hR hl.1 h (fun h => kn_J7_copyOf_9075b hG hLq4 hKq4 h) (fun v => va_cwS 2 hts gJ5_ensureCapacityInternal_d00df_J7_copyOf_9075b rfl rfl rfl (by decide +kernel) ⟨(Nat.le_of_ble_eq_true rfl), (Nat.le_of_ble_eq_true rfl)⟩) rfl rfl (Nat.le_of_ble_eq_true rfl) dJ5_ensureCapacityInternal_d00df_32 (fun u11 G9 M10 r12 H locs h hu xe hLr12 hKr12 cx w => ?_)
    obtain ⟨hL0, hK0⟩ := ext_wt xe hL0 hK0
    have hext := ext_tr hext xe
    clear xe
    have hG := cX_wt cx
    refine rb_putR (k0 := 0) cx w tyJ4 tyJ4_ok nmJ4 hL0 hK0 (by decide) rfl wb_J5_ensureCapacityInternal_d00df_J4 (by decide) rfl (tyJ4_ok 0 (by decide)) rfl rfl sr_11_0 (ln_11 _ _ (by decide)) hLr12 hKr12 (List.mem_of_getElem? (i := 1) rfl) h dJ5_ensureCapacityInternal_d00df_35 (fun G13 H locs h xe cx w => ?_)
    obtain ⟨hL0, hK0⟩ := ext_wt xe hL0 hK0
    have hext := ext_tr hext xe
    clear xe
    have hG := cX_wt cx
    exact bn_J5_ensureCapacityInternal_d00df_38 hnm u11 G13 M10 H locs ls hL0 hK0 hext hu h cx w (lv_sub hl [] rfl)
-- J5_isLatin1_aae02
theorem wb_J5_isLatin1_aae02_J4 : ∀ w ∈ wsJ40, w ∈ wsJ5_isLatin1_aae02 := by decide +kernel
abbrev rnJ5_isLatin1_aae02 (b : uS) : Room := { frames := 0, cells := b.1, slots := b.2, locals := 0 }
def nb_J5_isLatin1_aae02_18 (b : uS) (a0 : Nat) (post : gS → mS → Int32 → Prop) (u : uS) (G : gS) (M : mS) (s0 : Int32) : Prop := p_ck (s0 = 0 ∨ s0 = 1) (post G M s0)
def nb_J5_isLatin1_aae02_17 (b : uS) (a0 : Nat) (post : gS → mS → Int32 → Prop) (u : uS) (G : gS) (M : mS) : Prop := nb_J5_isLatin1_aae02_18 b a0 post u G M ((0 : Int32))
def n_J5_isLatin1_aae02 (b : uS) (G : gS) (M : mS) (a0 : Nat) (post : gS → mS → Int32 → Prop) : Prop := p_if ((1 : Int32) = 0) (nb_J5_isLatin1_aae02_17 b a0 post (0, 0) G M) (p_if ((mI M a0 1) = 0) (nb_J5_isLatin1_aae02_18 b a0 post (0, 0) G M ((1 : Int32))) (nb_J5_isLatin1_aae02_17 b a0 post (0, 0) G M))
set_option maxHeartbeats 4000000 in
set_option maxRecDepth 100000 in
theorem bn_J5_isLatin1_aae02_18 {p : Program} {l : Launch} {e : Env} {s : State} {m : MethodId} {args : Array Value} {below : List Frame} {meth : Method} {c : Code} {D : va_G} {cy : cyS} {b : uS} {G0 : gS} {sz : Nat} (hnm : meth.name = yJ5_isLatin1_aae02.name)  {a0 : Nat} {post : gS → mS → Int32 → Prop} : ∀ (u : uS) (G : gS) (M : mS) (s0 : Int32) (H : Heap) (locs : List Loc) (ls : Array Slot), a0 ∈ gL G → gK G a0 = 11 → ext G0 G → uL u b → nb_J5_isLatin1_aae02_18 b a0 post u G M s0 → cX p s m args meth c cJ5_isLatin1_aae02 RJ5 1 (some .boolean) wsJ5_isLatin1_aae02 D cy G (pA G0 sz) → wd D cy G M (pA G0 sz) s.heap H locs → lv_has ls 1 [] → W p l e (rnJ5_isLatin1_aae02 b) s m args below meth c H locs u.1 u.2 (MQ below (va_Qi (fun (r : Int32) (u : gS × mS) => post u.1 u.2 r) (fun u t => va_P D vwCl (pl cy u.1 u.2) t.heap ∧ va_D (pA G0 sz) (pl cy u.1 u.2) ∧ wt u.1 ∧ ext G0 u.1) (pA G0 sz)) args s b.1 b.2 (pA G0 sz)) (F0 m 18 ls [.int s0]) := by
  intro u G M s0 H locs ls hL0 hK0 hext hu h cx w hl
  unfold nb_J5_isLatin1_aae02_18 at h
  obtain ⟨hx, hb, hml, hown, hts, hr, hlocks, hK, hA, hG, hsx⟩ := id cx
  have hR : (rnJ5_isLatin1_aae02 b).cells = b.1 ∧ (rnJ5_isLatin1_aae02 b).slots = b.2 := ⟨rfl, rfl⟩
  obtain ⟨z1, h⟩ := w_ck h
  exact rb_nret (z_nar z1) h cx w hext hu dJ5_isLatin1_aae02_18
set_option maxHeartbeats 4000000 in
set_option maxRecDepth 100000 in
theorem bn_J5_isLatin1_aae02_17 {p : Program} {l : Launch} {e : Env} {s : State} {m : MethodId} {args : Array Value} {below : List Frame} {meth : Method} {c : Code} {D : va_G} {cy : cyS} {b : uS} {G0 : gS} {sz : Nat} (hnm : meth.name = yJ5_isLatin1_aae02.name)  {a0 : Nat} {post : gS → mS → Int32 → Prop} : ∀ (u : uS) (G : gS) (M : mS) (H : Heap) (locs : List Loc) (ls : Array Slot), a0 ∈ gL G → gK G a0 = 11 → ext G0 G → uL u b → nb_J5_isLatin1_aae02_17 b a0 post u G M → cX p s m args meth c cJ5_isLatin1_aae02 RJ5 1 (some .boolean) wsJ5_isLatin1_aae02 D cy G (pA G0 sz) → wd D cy G M (pA G0 sz) s.heap H locs → lv_has ls 1 [] → W p l e (rnJ5_isLatin1_aae02 b) s m args below meth c H locs u.1 u.2 (MQ below (va_Qi (fun (r : Int32) (u : gS × mS) => post u.1 u.2 r) (fun u t => va_P D vwCl (pl cy u.1 u.2) t.heap ∧ va_D (pA G0 sz) (pl cy u.1 u.2) ∧ wt u.1 ∧ ext G0 u.1) (pA G0 sz)) args s b.1 b.2 (pA G0 sz)) (F0 m 17 ls []) := by
  intro u G M H locs ls hL0 hK0 hext hu h cx w hl
  unfold nb_J5_isLatin1_aae02_17 at h
  obtain ⟨hx, hb, hml, hown, hts, hr, hlocks, hK, hA, hG, hsx⟩ := id cx
  have hR : (rnJ5_isLatin1_aae02 b).cells = b.1 ∧ (rnJ5_isLatin1_aae02 b).slots = b.2 := ⟨rfl, rfl⟩
  refine lv_iconst (v := (0 : Int32)) hx hb dJ5_isLatin1_aae02_17 (by decide) ?_
  exact bn_J5_isLatin1_aae02_18 hnm u G M ((0 : Int32)) H locs ls hL0 hK0 hext hu h cx w (lv_sub hl [] rfl)
set_option maxHeartbeats 4000000 in
set_option maxRecDepth 100000 in
theorem kn_J5_isLatin1_aae02 {l : Launch} {D : va_G} {cy : cyS} {G : gS} {M : mS} {b : uS} {a0 : Nat} {post : gS → mS → Int32 → Prop} (hG : wt G) (hL0 : a0 ∈ gL G) (hK0 : gK G a0 = 11) (h : n_J5_isLatin1_aae02 b G M a0 post) : cbI l yJ5_isLatin1_aae02 wsJ5_isLatin1_aae02 (rnJ5_isLatin1_aae02 b) D cy G M [.ref a0] b post := by
  unfold n_J5_isLatin1_aae02 at h
  refine cbI_of (cc := cJ5_isLatin1_aae02) (nL := 1) (ret := (some .boolean)) (lv := [(0, .ref a0)]) hG (by decide) rfl (Nat.le_of_ble_eq_true rfl) rfl ?_
  intro p e s m args below meth c sz ls hnm cx w hl
  obtain ⟨hx, hb, hml, hown, hts, hr, hlocks, hK, hA, -, hsx⟩ := id cx
  have hext := ext_rf (G := G)
  have hu : uL (0, 0) b := ⟨Nat.zero_le _, Nat.zero_le _⟩
  have hR : (rnJ5_isLatin1_aae02 b).cells = b.1 ∧ (rnJ5_isLatin1_aae02 b).slots = b.2 := ⟨rfl, rfl⟩
  refine r_getC cx w (List.mem_of_getElem? (i := 1) rfl) dJ5_isLatin1_aae02_0 ?_
  refine lv_if_eq (tgt := 17) hx hb dJ5_isLatin1_aae02_3 (by decide) (fun k1 => ?_) (fun k1 => ?_)
  · have h := w_t h k1
    exact bn_J5_isLatin1_aae02_17 hnm (0, 0) G M s.heap [] ls hL0 hK0 hext hu h cx w (lv_sub hl [] rfl)
  · have h := w_f h k1
    refine lv_aload_n hx hb dJ5_isLatin1_aae02_6 rfl (lv_at hl 0 rfl) ?_
    refine r_getI (k := 1) (v := .int (mI M a0 1)) cx w hL0 hK0 (by decide) rfl wb_J5_isLatin1_aae02_J4 (by decide) rfl (List.mem_of_getElem? (i := 2) rfl) dJ5_isLatin1_aae02_7 ?_
    refine lv_if_ne (tgt := 17) hx hb dJ5_isLatin1_aae02_10 (by decide) (fun k2 => ?_) (fun k2 => ?_)
    · have h := w_f h k2
      exact bn_J5_isLatin1_aae02_17 hnm (0, 0) G M s.heap [] ls hL0 hK0 hext hu h cx w (lv_sub hl [] rfl)
    · have h := w_t h k2
      refine lv_iconst (v := (1 : Int32)) hx hb dJ5_isLatin1_aae02_13 (by decide) ?_
      refine lv_goto (tgt := 18) hx hb dJ5_isLatin1_aae02_14 (by decide) ?_
      exact bn_J5_isLatin1_aae02_18 hnm (0, 0) G M ((1 : Int32)) s.heap [] ls hL0 hK0 hext hu h cx w (lv_sub hl [] rfl)
-- J5_getValue_6d5f1
theorem wb_J5_getValue_6d5f1_J4 : ∀ w ∈ wsJ40, w ∈ wsJ5_getValue_6d5f1 := by decide +kernel
abbrev rnJ5_getValue_6d5f1 (b : uS) : Room := { frames := 0, cells := b.1, slots := b.2, locals := 0 }
def n_J5_getValue_6d5f1 (b : uS) (G : gS) (M : mS) (a0 : Nat) (post : gS → mS → Nat → Prop) : Prop := p_rf (gP G a0 0) (fun q1 => post G M q1)
set_option maxHeartbeats 4000000 in
set_option maxRecDepth 100000 in
theorem kn_J5_getValue_6d5f1 {l : Launch} {D : va_G} {cy : cyS} {G : gS} {M : mS} {b : uS} {a0 : Nat} {post : gS → mS → Nat → Prop} (hG : wt G) (hL0 : a0 ∈ gL G) (hK0 : gK G a0 = 11) (h : n_J5_getValue_6d5f1 b G M a0 post) : cbR 16 l yJ5_getValue_6d5f1 wsJ5_getValue_6d5f1 (rnJ5_getValue_6d5f1 b) D cy G M [.ref a0] b post := by
  unfold n_J5_getValue_6d5f1 at h
  refine cbR_of (cc := cJ5_getValue_6d5f1) (nL := 1) (ret := (some (.array .byte))) (lv := [(0, .ref a0)]) hG (by decide) rfl (Nat.le_of_ble_eq_true rfl) rfl ?_
  intro p e s m args below meth c sz ls hnm cx w hl
  obtain ⟨hx, hb, hml, hown, hts, hr, hlocks, hK, hA, -, hsx⟩ := id cx
  have hext := ext_rf (G := G)
  have hu : uL (0, 0) b := ⟨Nat.zero_le _, Nat.zero_le _⟩
  have hR : (rnJ5_getValue_6d5f1 b).cells = b.1 ∧ (rnJ5_getValue_6d5f1 b).slots = b.2 := ⟨rfl, rfl⟩
  refine lv_aload_n hx hb dJ5_getValue_6d5f1_0 rfl (lv_at hl 0 rfl) ?_
  obtain ⟨q1, eq1, h⟩ := w_rf h
  obtain ⟨hLq1, hKq1⟩ := wt_q hG hL0 hK0 eq1
  have hKq1 : gK G q1 = 16 := hKq1
  refine r_getR (k := 0) cx w hL0 hK0 (by decide) rfl wb_J5_getValue_6d5f1_J4 (by decide) rfl eq1 (List.mem_of_getElem? (i := 1) rfl) dJ5_getValue_6d5f1_1 ?_
  exact rb_aret (Or.inr ⟨_, rfl⟩) hLq1 hKq1 h cx w hext hu dJ5_getValue_6d5f1_4
-- J5_length_8abf5
theorem wb_J5_length_8abf5_J4 : ∀ w ∈ wsJ40, w ∈ wsJ5_length_8abf5 := by decide +kernel
abbrev rnJ5_length_8abf5 (b : uS) : Room := { frames := 0, cells := b.1, slots := b.2, locals := 0 }
def n_J5_length_8abf5 (b : uS) (G : gS) (M : mS) (a0 : Nat) (post : gS → mS → Int32 → Prop) : Prop := post G M (mI M a0 3)
set_option maxHeartbeats 4000000 in
set_option maxRecDepth 100000 in
theorem kn_J5_length_8abf5 {l : Launch} {D : va_G} {cy : cyS} {G : gS} {M : mS} {b : uS} {a0 : Nat} {post : gS → mS → Int32 → Prop} (hG : wt G) (hL0 : a0 ∈ gL G) (hK0 : gK G a0 = 11) (h : n_J5_length_8abf5 b G M a0 post) : cbI l yJ5_length_8abf5 wsJ5_length_8abf5 (rnJ5_length_8abf5 b) D cy G M [.ref a0] b post := by
  unfold n_J5_length_8abf5 at h
  refine cbI_of (cc := cJ5_length_8abf5) (nL := 1) (ret := (some .int)) (lv := [(0, .ref a0)]) hG (by decide) rfl (Nat.le_of_ble_eq_true rfl) rfl ?_
  intro p e s m args below meth c sz ls hnm cx w hl
  obtain ⟨hx, hb, hml, hown, hts, hr, hlocks, hK, hA, -, hsx⟩ := id cx
  have hext := ext_rf (G := G)
  have hu : uL (0, 0) b := ⟨Nat.zero_le _, Nat.zero_le _⟩
  have hR : (rnJ5_length_8abf5 b).cells = b.1 ∧ (rnJ5_length_8abf5 b).slots = b.2 := ⟨rfl, rfl⟩
  refine lv_aload_n hx hb dJ5_length_8abf5_0 rfl (lv_at hl 0 rfl) ?_
  refine r_getI (k := 3) (v := .int (mI M a0 3)) cx w hL0 hK0 (by decide) rfl wb_J5_length_8abf5_J4 (by decide) rfl (List.mem_of_getElem? (i := 1) rfl) dJ5_length_8abf5_1 ?_
  exact rb_iret h cx w hext hu dJ5_length_8abf5_4
-- J4_length_8abf5
abbrev rnJ4_length_8abf5 (b : uS) : Room := { frames := 1, cells := b.1, slots := b.2, locals := 20 }
def n_J4_length_8abf5 (b : uS) (G : gS) (M : mS) (a0 : Nat) (post : gS → mS → Int32 → Prop) : Prop := q_ca b (0, 0) (fun v => n_J5_length_8abf5 v G M a0) (fun u3 G1 M2 r4 => post G1 M2 r4)
set_option maxHeartbeats 4000000 in
set_option maxRecDepth 100000 in
theorem kn_J4_length_8abf5 {l : Launch} {D : va_G} {cy : cyS} {G : gS} {M : mS} {b : uS} {a0 : Nat} {post : gS → mS → Int32 → Prop} (hG : wt G) (hL0 : a0 ∈ gL G) (hK0 : gK G a0 = 11) (h : n_J4_length_8abf5 b G M a0 post) : cbI l yJ4_length_8abf5 wsJ4_length_8abf5 (rnJ4_length_8abf5 b) D cy G M [.ref a0] b post := by
  unfold n_J4_length_8abf5 at h
  refine cbI_of (cc := cJ4_length_8abf5) (nL := 1) (ret := (some .int)) (lv := [(0, .ref a0)]) hG (by decide) rfl (Nat.le_of_ble_eq_true rfl) rfl ?_
  intro p e s m args below meth c sz ls hnm cx w hl
  obtain ⟨hx, hb, hml, hown, hts, hr, hlocks, hK, hA, -, hsx⟩ := id cx
  have hext := ext_rf (G := G)
  have hu : uL (0, 0) b := ⟨Nat.zero_le _, Nat.zero_le _⟩
  have hR : (rnJ4_length_8abf5 b).cells = b.1 ∧ (rnJ4_length_8abf5 b).slots = b.2 := ⟨rfl, rfl⟩
  refine lv_aload_n hx hb dJ4_length_8abf5_0 rfl (lv_at hl 0 rfl) ?_
  refine rb_YI (b := b) (u := (0, 0)) (rf := 0) (rl := 0) (As := []) (rest := []) cx w hR hl.1 h (fun h => kn_J5_length_8abf5 hG hL0 hK0 h) (fun v => va_cwSU 0 hts gJ4_length_8abf5_J5_length_8abf5_s343 rfl rfl rfl (by decide +kernel) ⟨(Nat.le_of_ble_eq_true rfl), (Nat.le_of_ble_eq_true rfl)⟩) hL0 hK0 (by decide) rfl rfl rfl (Nat.le_of_ble_eq_true rfl) dJ4_length_8abf5_1 (fun u3 G1 M2 r4 H locs h hu xe cx w => ?_)
  obtain ⟨hL0, hK0⟩ := ext_wt xe hL0 hK0
  have hext := ext_tr hext xe
  clear xe
  have hG := cX_wt cx
  exact rb_iret h cx w hext hu dJ4_length_8abf5_4
-- J5_inflateIfNeededFor_a7421
theorem wb_J5_inflateIfNeededFor_a7421_J4 : ∀ w ∈ wsJ40, w ∈ wsJ5_inflateIfNeededFor_a7421 := by decide +kernel
abbrev rnJ5_inflateIfNeededFor_a7421 (b : uS) : Room := { frames := 1, cells := b.1, slots := b.2, locals := 20 }
def nb_J5_inflateIfNeededFor_a7421_21 (b : uS) (a0 : Nat) (a1 : Nat) (post : gS → mS → Unit → Prop) (u : uS) (G : gS) (M : mS) : Prop := post G M ()
def n_J5_inflateIfNeededFor_a7421 (b : uS) (G : gS) (M : mS) (a0 : Nat) (a1 : Nat) (post : gS → mS → Unit → Prop) : Prop := p_if ((1 : Int32) = 0) (nb_J5_inflateIfNeededFor_a7421_21 b a0 a1 post (0, 0) G M) (q_ca b (0, 0) (fun v => n_J0_coder_7d493 v G M a1) (fun u4 G2 M3 r5 => p_if ((mI M a0 1) = r5) (nb_J5_inflateIfNeededFor_a7421_21 b a0 a1 post u4 G2 M3) (False)))
set_option maxHeartbeats 4000000 in
set_option maxRecDepth 100000 in
theorem bn_J5_inflateIfNeededFor_a7421_21 {p : Program} {l : Launch} {e : Env} {s : State} {m : MethodId} {args : Array Value} {below : List Frame} {meth : Method} {c : Code} {D : va_G} {cy : cyS} {b : uS} {G0 : gS} {sz : Nat} (hnm : meth.name = yJ5_inflateIfNeededFor_a7421.name)  {a0 : Nat} {a1 : Nat} {post : gS → mS → Unit → Prop} : ∀ (u : uS) (G : gS) (M : mS) (H : Heap) (locs : List Loc) (ls : Array Slot), a0 ∈ gL G → gK G a0 = 11 → a1 < 36 → ext G0 G → uL u b → nb_J5_inflateIfNeededFor_a7421_21 b a0 a1 post u G M → cX p s m args meth c cJ5_inflateIfNeededFor_a7421 RJ5 2 none wsJ5_inflateIfNeededFor_a7421 D cy G (pA G0 sz) → wd D cy G M (pA G0 sz) s.heap H locs → lv_has ls 2 [] → W p l e (rnJ5_inflateIfNeededFor_a7421 b) s m args below meth c H locs u.1 u.2 (MQ below (va_Qv (fun (u : gS × mS) => post u.1 u.2 ()) (fun u t => va_P D vwCl (pl cy u.1 u.2) t.heap ∧ va_D (pA G0 sz) (pl cy u.1 u.2) ∧ wt u.1 ∧ ext G0 u.1) (pA G0 sz)) args s b.1 b.2 (pA G0 sz)) (F0 m 21 ls []) := by
  intro u G M H locs ls hL0 hK0 hi1 hext hu h cx w hl
  unfold nb_J5_inflateIfNeededFor_a7421_21 at h
  obtain ⟨hx, hb, hml, hown, hts, hr, hlocks, hK, hA, hG, hsx⟩ := id cx
  have hR : (rnJ5_inflateIfNeededFor_a7421 b).cells = b.1 ∧ (rnJ5_inflateIfNeededFor_a7421 b).slots = b.2 := ⟨rfl, rfl⟩
  exact rb_vret h cx w hext hu dJ5_inflateIfNeededFor_a7421_21
set_option maxHeartbeats 4000000 in
set_option maxRecDepth 100000 in
theorem kn_J5_inflateIfNeededFor_a7421 {l : Launch} {D : va_G} {cy : cyS} {G : gS} {M : mS} {b : uS} {a0 : Nat} {a1 : Nat} {post : gS → mS → Unit → Prop} (hG : wt G) (hL0 : a0 ∈ gL G) (hK0 : gK G a0 = 11) (hi1 : a1 < 36) (h : n_J5_inflateIfNeededFor_a7421 b G M a0 a1 post) : cbV l yJ5_inflateIfNeededFor_a7421 wsJ5_inflateIfNeededFor_a7421 (rnJ5_inflateIfNeededFor_a7421 b) D cy G M [.ref a0, .ref (stK D a1)] b post := by
  unfold n_J5_inflateIfNeededFor_a7421 at h
  refine cbV_of (cc := cJ5_inflateIfNeededFor_a7421) (nL := 2) (lv := [(0, .ref a0), (1, .ref (stK D a1))]) hG (by decide) rfl (Nat.le_of_ble_eq_true rfl) rfl ?_
  intro p e s m args below meth c sz ls hnm cx w hl
  obtain ⟨hx, hb, hml, hown, hts, hr, hlocks, hK, hA, -, hsx⟩ := id cx
  have hext := ext_rf (G := G)
  have hu : uL (0, 0) b := ⟨Nat.zero_le _, Nat.zero_le _⟩
  have hR : (rnJ5_inflateIfNeededFor_a7421 b).cells = b.1 ∧ (rnJ5_inflateIfNeededFor_a7421 b).slots = b.2 := ⟨rfl, rfl⟩
  refine r_getC cx w (List.mem_of_getElem? (i := 1) rfl) dJ5_inflateIfNeededFor_a7421_0 ?_
  refine lv_if_eq (tgt := 21) hx hb dJ5_inflateIfNeededFor_a7421_3 (by decide) (fun k1 => ?_) (fun k1 => ?_)
  · have h := w_t h k1
    exact bn_J5_inflateIfNeededFor_a7421_21 hnm (0, 0) G M s.heap [] ls hL0 hK0 hi1 hext hu h cx w (lv_sub hl [] rfl)
  · have h := w_f h k1
    refine lv_aload_n hx hb dJ5_inflateIfNeededFor_a7421_6 rfl (lv_at hl 0 rfl) ?_
    refine r_getI (k := 1) (v := .int (mI M a0 1)) cx w hL0 hK0 (by decide) rfl wb_J5_inflateIfNeededFor_a7421_J4 (by decide) rfl (List.mem_of_getElem? (i := 2) rfl) dJ5_inflateIfNeededFor_a7421_7 ?_
    refine lv_aload_n hx hb dJ5_inflateIfNeededFor_a7421_10 rfl (lv_at hl 1 rfl) ?_
    refine rb_TI (b := b) (u := (0, 0)) (rf := 0) (rl := 0) (As := []) (rest := [.int ((mI M a0 1))]) cx w hR hl.1 h (fun h => kn_J0_coder_7d493 hG hi1 h) hi1 (fun v => cwV 0 hts gJ5_inflateIfNeededFor_a7421_J0_coder_7d493 rfl rfl rfl (by decide +kernel) ⟨(Nat.le_of_ble_eq_true rfl), (Nat.le_of_ble_eq_true rfl)⟩) rfl rfl (Nat.le_of_ble_eq_true rfl) dJ5_inflateIfNeededFor_a7421_11 (fun u4 G2 M3 r5 H locs h hu xe cx w => ?_)
    obtain ⟨hL0, hK0⟩ := ext_wt xe hL0 hK0
    have hext := ext_tr hext xe
    clear xe
    have hG := cX_wt cx
    refine lv_icmp_eq (tgt := 21) hx hb dJ5_inflateIfNeededFor_a7421_14 (by decide) (fun k6 => ?_) (fun k6 => ?_)
    · have h := w_t h k6
      exact bn_J5_inflateIfNeededFor_a7421_21 hnm u4 G2 M3 H locs ls hL0 hK0 hi1 hext hu h cx w (lv_sub hl [] rfl)
    · have h := w_f h k6
      exact h.elim
-- J5_inflateIfNeededFor_a7421p
theorem wb_J5_inflateIfNeededFor_a7421p_J4 : ∀ w ∈ wsJ40, w ∈ wsJ5_inflateIfNeededFor_a7421 := by decide +kernel
abbrev rnJ5_inflateIfNeededFor_a7421p (b : uS) : Room := { frames := 1, cells := b.1, slots := b.2, locals := 20 }
def nb_J5_inflateIfNeededFor_a7421p_21 (b : uS) (a0 : Nat) (a1 : Nat) (post : gS → mS → Unit → Prop) (u : uS) (G : gS) (M : mS) : Prop := post G M ()
def n_J5_inflateIfNeededFor_a7421p (b : uS) (G : gS) (M : mS) (a0 : Nat) (a1 : Nat) (post : gS → mS → Unit → Prop) : Prop := p_if ((1 : Int32) = 0) (nb_J5_inflateIfNeededFor_a7421p_21 b a0 a1 post (0, 0) G M) (q_ca b (0, 0) (fun v => n_J0_coder_7d493p v G M a1) (fun u4 G2 M3 r5 => p_if ((mI M a0 1) = r5) (nb_J5_inflateIfNeededFor_a7421p_21 b a0 a1 post u4 G2 M3) (False)))
set_option maxHeartbeats 4000000 in
set_option maxRecDepth 100000 in
theorem bn_J5_inflateIfNeededFor_a7421p_21 {p : Program} {l : Launch} {e : Env} {s : State} {m : MethodId} {args : Array Value} {below : List Frame} {meth : Method} {c : Code} {D : va_G} {cy : cyS} {b : uS} {G0 : gS} {sz : Nat} (hnm : meth.name = yJ5_inflateIfNeededFor_a7421.name)  {a0 : Nat} {a1 : Nat} {post : gS → mS → Unit → Prop} : ∀ (u : uS) (G : gS) (M : mS) (H : Heap) (locs : List Loc) (ls : Array Slot), a0 ∈ gL G → gK G a0 = 11 → a1 ∈ gL G → gK G a1 = 10 → ext G0 G → uL u b → nb_J5_inflateIfNeededFor_a7421p_21 b a0 a1 post u G M → cX p s m args meth c cJ5_inflateIfNeededFor_a7421 RJ5 2 none wsJ5_inflateIfNeededFor_a7421 D cy G (pA G0 sz) → wd D cy G M (pA G0 sz) s.heap H locs → lv_has ls 2 [] → W p l e (rnJ5_inflateIfNeededFor_a7421p b) s m args below meth c H locs u.1 u.2 (MQ below (va_Qv (fun (u : gS × mS) => post u.1 u.2 ()) (fun u t => va_P D vwCl (pl cy u.1 u.2) t.heap ∧ va_D (pA G0 sz) (pl cy u.1 u.2) ∧ wt u.1 ∧ ext G0 u.1) (pA G0 sz)) args s b.1 b.2 (pA G0 sz)) (F0 m 21 ls []) := by
  intro u G M H locs ls hL0 hK0 hL1 hK1 hext hu h cx w hl
  unfold nb_J5_inflateIfNeededFor_a7421p_21 at h
  obtain ⟨hx, hb, hml, hown, hts, hr, hlocks, hK, hA, hG, hsx⟩ := id cx
  have hR : (rnJ5_inflateIfNeededFor_a7421p b).cells = b.1 ∧ (rnJ5_inflateIfNeededFor_a7421p b).slots = b.2 := ⟨rfl, rfl⟩
  exact rb_vret h cx w hext hu dJ5_inflateIfNeededFor_a7421_21
set_option maxHeartbeats 4000000 in
set_option maxRecDepth 100000 in
theorem kn_J5_inflateIfNeededFor_a7421p {l : Launch} {D : va_G} {cy : cyS} {G : gS} {M : mS} {b : uS} {a0 : Nat} {a1 : Nat} {post : gS → mS → Unit → Prop} (hG : wt G) (hL0 : a0 ∈ gL G) (hK0 : gK G a0 = 11) (hL1 : a1 ∈ gL G) (hK1 : gK G a1 = 10) (h : n_J5_inflateIfNeededFor_a7421p b G M a0 a1 post) : cbV l yJ5_inflateIfNeededFor_a7421 wsJ5_inflateIfNeededFor_a7421 (rnJ5_inflateIfNeededFor_a7421p b) D cy G M [.ref a0, .ref a1] b post := by
  unfold n_J5_inflateIfNeededFor_a7421p at h
  refine cbV_of (cc := cJ5_inflateIfNeededFor_a7421) (nL := 2) (lv := [(0, .ref a0), (1, .ref a1)]) hG (by decide) rfl (Nat.le_of_ble_eq_true rfl) rfl ?_
  intro p e s m args below meth c sz ls hnm cx w hl
  obtain ⟨hx, hb, hml, hown, hts, hr, hlocks, hK, hA, -, hsx⟩ := id cx
  have hext := ext_rf (G := G)
  have hu : uL (0, 0) b := ⟨Nat.zero_le _, Nat.zero_le _⟩
  have hR : (rnJ5_inflateIfNeededFor_a7421p b).cells = b.1 ∧ (rnJ5_inflateIfNeededFor_a7421p b).slots = b.2 := ⟨rfl, rfl⟩
  refine r_getC cx w (List.mem_of_getElem? (i := 1) rfl) dJ5_inflateIfNeededFor_a7421_0 ?_
  refine lv_if_eq (tgt := 21) hx hb dJ5_inflateIfNeededFor_a7421_3 (by decide) (fun k1 => ?_) (fun k1 => ?_)
  · have h := w_t h k1
    exact bn_J5_inflateIfNeededFor_a7421p_21 hnm (0, 0) G M s.heap [] ls hL0 hK0 hL1 hK1 hext hu h cx w (lv_sub hl [] rfl)
  · have h := w_f h k1
    refine lv_aload_n hx hb dJ5_inflateIfNeededFor_a7421_6 rfl (lv_at hl 0 rfl) ?_
    refine r_getI (k := 1) (v := .int (mI M a0 1)) cx w hL0 hK0 (by decide) rfl wb_J5_inflateIfNeededFor_a7421p_J4 (by decide) rfl (List.mem_of_getElem? (i := 2) rfl) dJ5_inflateIfNeededFor_a7421_7 ?_
    refine lv_aload_n hx hb dJ5_inflateIfNeededFor_a7421_10 rfl (lv_at hl 1 rfl) ?_
    refine rb_VI (b := b) (u := (0, 0)) (rf := 0) (rl := 0) (As := []) (rest := [.int ((mI M a0 1))]) cx w hR hl.1 h (fun h => kn_J0_coder_7d493p hG hL1 hK1 h) (fun v => cwV 0 hts gJ5_inflateIfNeededFor_a7421_J0_coder_7d493 rfl rfl rfl (by decide +kernel) ⟨(Nat.le_of_ble_eq_true rfl), (Nat.le_of_ble_eq_true rfl)⟩) hL1 hK1 (by decide) rfl rfl rfl (Nat.le_of_ble_eq_true rfl) dJ5_inflateIfNeededFor_a7421_11 (fun u4 G2 M3 r5 H locs h hu xe cx w => ?_)
    obtain ⟨hL0, hK0⟩ := ext_wt xe hL0 hK0
    obtain ⟨hL1, hK1⟩ := ext_wt xe hL1 hK1
    have hext := ext_tr hext xe
    clear xe
    have hG := cX_wt cx
    refine lv_icmp_eq (tgt := 21) hx hb dJ5_inflateIfNeededFor_a7421_14 (by decide) (fun k6 => ?_) (fun k6 => ?_)
    · have h := w_t h k6
      exact bn_J5_inflateIfNeededFor_a7421p_21 hnm u4 G2 M3 H locs ls hL0 hK0 hL1 hK1 hext hu h cx w (lv_sub hl [] rfl)
    · have h := w_f h k6
      exact h.elim
-- J5_putStringAt_47b60
theorem wb_J5_putStringAt_47b60_J4 : ∀ w ∈ wsJ40, w ∈ wsJ5_putStringAt_47b60 := by decide +kernel
abbrev rnJ5_putStringAt_47b60 (b : uS) : Room := { frames := 2, cells := b.1, slots := b.2, locals := 83 }
def n_J5_putStringAt_47b60 (b : uS) (G : gS) (M : mS) (a0 : Nat) (c1 : Int32) (a2 : Nat) (post : gS → mS → Unit → Prop) : Prop := q_ca b (0, 0) (fun v => n_J5_inflateIfNeededFor_a7421 v G M a0 a2) (fun u3 G1 M2 r4 => p_rf (gP G1 a0 0) (fun q5 => q_ca b u3 (fun v => n_J0_getBytes_840e7 v G1 M2 a2 q5 c1 (mI M2 a0 1)) (fun u8 G6 M7 r9 => post G6 M7 ())))
set_option maxHeartbeats 4000000 in
set_option maxRecDepth 100000 in
theorem kn_J5_putStringAt_47b60 {l : Launch} {D : va_G} {cy : cyS} {G : gS} {M : mS} {b : uS} {a0 : Nat} {c1 : Int32} {a2 : Nat} {post : gS → mS → Unit → Prop} (hG : wt G) (hL0 : a0 ∈ gL G) (hK0 : gK G a0 = 11) (hi2 : a2 < 36) (h : n_J5_putStringAt_47b60 b G M a0 c1 a2 post) : cbV l yJ5_putStringAt_47b60 wsJ5_putStringAt_47b60 (rnJ5_putStringAt_47b60 b) D cy G M [.ref a0, .int c1, .ref (stK D a2)] b post := by
  unfold n_J5_putStringAt_47b60 at h
  refine cbV_of (cc := cJ5_putStringAt_47b60) (nL := 3) (lv := [(0, .ref a0), (1, .int c1), (2, .ref (stK D a2))]) hG (by decide) rfl (Nat.le_of_ble_eq_true rfl) rfl ?_
  intro p e s m args below meth c sz ls hnm cx w hl
  obtain ⟨hx, hb, hml, hown, hts, hr, hlocks, hK, hA, -, hsx⟩ := id cx
  have hext := ext_rf (G := G)
  have hu : uL (0, 0) b := ⟨Nat.zero_le _, Nat.zero_le _⟩
  have hR : (rnJ5_putStringAt_47b60 b).cells = b.1 ∧ (rnJ5_putStringAt_47b60 b).slots = b.2 := ⟨rfl, rfl⟩
  refine lv_aload_n hx hb dJ5_putStringAt_47b60_0 rfl (lv_at hl 0 rfl) ?_
  refine lv_aload_n hx hb dJ5_putStringAt_47b60_1 rfl (lv_at hl 2 rfl) ?_
  refine rb_UV (b := b) (u := (0, 0)) (rf := 1) (rl := 20) (As := [.ref (stK D a2)]) (rest := []) cx w hR hl.1 h (fun h => kn_J5_inflateIfNeededFor_a7421 hG hL0 hK0 hi2 h) (fun v => va_cwU (x := ⟨"java/lang/AbstractStringBuilder", "inflateIfNeededFor", "(Ljava/lang/String;)V"⟩) 1 hts gJ5_putStringAt_47b60_J5_inflateIfNeededFor_a7421_u397J4 rfl rfl rfl rfl (by decide +kernel) ⟨(Nat.le_of_ble_eq_true rfl), (Nat.le_of_ble_eq_true rfl)⟩) hL0 hK0 (by decide) rfl rfl rfl (Nat.le_of_ble_eq_true rfl) dJ5_putStringAt_47b60_2 (fun u3 G1 M2 r4 H locs h hu xe cx w => ?_)
  obtain ⟨hL0, hK0⟩ := ext_wt xe hL0 hK0
  have hext := ext_tr hext xe
  clear xe
  have hG := cX_wt cx
  refine lv_aload_n hx hb dJ5_putStringAt_47b60_5 rfl (lv_at hl 2 rfl) ?_
  refine lv_aload_n hx hb dJ5_putStringAt_47b60_6 rfl (lv_at hl 0 rfl) ?_
  obtain ⟨q5, eq5, h⟩ := w_rf h
  obtain ⟨hLq5, hKq5⟩ := wt_q hG hL0 hK0 eq5
  have hKq5 : gK G1 q5 = 16 := hKq5
  refine r_getR (k := 0) cx w hL0 hK0 (by decide) rfl wb_J5_putStringAt_47b60_J4 (by decide) rfl eq5 (List.mem_of_getElem? (i := 1) rfl) dJ5_putStringAt_47b60_7 ?_
  refine lv_iload_n hx hb dJ5_putStringAt_47b60_10 rfl (lv_at hl 1 rfl) ?_
  refine lv_aload_n hx hb dJ5_putStringAt_47b60_11 rfl (lv_at hl 0 rfl) ?_
  refine r_getI (k := 1) (v := .int (mI M2 a0 1)) cx w hL0 hK0 (by decide) rfl wb_J5_putStringAt_47b60_J4 (by decide) rfl (List.mem_of_getElem? (i := 2) rfl) dJ5_putStringAt_47b60_12 ?_
  refine rb_TV (b := b) (u := u3) (rf := 1) (rl := 60) (As := [.ref q5, .int c1, .int ((mI M2 a0 1))]) (rest := []) cx w hR hl.1 h (fun h => kn_J0_getBytes_840e7 hG hi2 hLq5 hKq5 h) hi2 (fun v => cwV 3 hts gJ5_putStringAt_47b60_J0_getBytes_840e7 rfl rfl rfl (by decide +kernel) ⟨(Nat.le_of_ble_eq_true rfl), (Nat.le_of_ble_eq_true rfl)⟩) rfl rfl (Nat.le_of_ble_eq_true rfl) dJ5_putStringAt_47b60_15 (fun u8 G6 M7 r9 H locs h hu xe cx w => ?_)
  obtain ⟨hL0, hK0⟩ := ext_wt xe hL0 hK0
  have hext := ext_tr hext xe
  clear xe
  have hG := cX_wt cx
  exact rb_vret h cx w hext hu dJ5_putStringAt_47b60_18
-- J5_putStringAt_47b60p
theorem wb_J5_putStringAt_47b60p_J4 : ∀ w ∈ wsJ40, w ∈ wsJ5_putStringAt_47b60 := by decide +kernel
abbrev rnJ5_putStringAt_47b60p (b : uS) : Room := { frames := 2, cells := b.1, slots := b.2, locals := 83 }
def n_J5_putStringAt_47b60p (b : uS) (G : gS) (M : mS) (a0 : Nat) (c1 : Int32) (a2 : Nat) (post : gS → mS → Unit → Prop) : Prop := q_ca b (0, 0) (fun v => n_J5_inflateIfNeededFor_a7421p v G M a0 a2) (fun u3 G1 M2 r4 => p_rf (gP G1 a0 0) (fun q5 => q_ca b u3 (fun v => n_J0_getBytes_840e7p v G1 M2 a2 q5 c1 (mI M2 a0 1)) (fun u8 G6 M7 r9 => post G6 M7 ())))
set_option maxHeartbeats 4000000 in
set_option maxRecDepth 100000 in
theorem kn_J5_putStringAt_47b60p {l : Launch} {D : va_G} {cy : cyS} {G : gS} {M : mS} {b : uS} {a0 : Nat} {c1 : Int32} {a2 : Nat} {post : gS → mS → Unit → Prop} (hG : wt G) (hL0 : a0 ∈ gL G) (hK0 : gK G a0 = 11) (hL2 : a2 ∈ gL G) (hK2 : gK G a2 = 10) (h : n_J5_putStringAt_47b60p b G M a0 c1 a2 post) : cbV l yJ5_putStringAt_47b60 wsJ5_putStringAt_47b60 (rnJ5_putStringAt_47b60p b) D cy G M [.ref a0, .int c1, .ref a2] b post := by
  unfold n_J5_putStringAt_47b60p at h
  refine cbV_of (cc := cJ5_putStringAt_47b60) (nL := 3) (lv := [(0, .ref a0), (1, .int c1), (2, .ref a2)]) hG (by decide) rfl (Nat.le_of_ble_eq_true rfl) rfl ?_
  intro p e s m args below meth c sz ls hnm cx w hl
  obtain ⟨hx, hb, hml, hown, hts, hr, hlocks, hK, hA, -, hsx⟩ := id cx
  have hext := ext_rf (G := G)
  have hu : uL (0, 0) b := ⟨Nat.zero_le _, Nat.zero_le _⟩
  have hR : (rnJ5_putStringAt_47b60p b).cells = b.1 ∧ (rnJ5_putStringAt_47b60p b).slots = b.2 := ⟨rfl, rfl⟩
  refine lv_aload_n hx hb dJ5_putStringAt_47b60_0 rfl (lv_at hl 0 rfl) ?_
  refine lv_aload_n hx hb dJ5_putStringAt_47b60_1 rfl (lv_at hl 2 rfl) ?_
  refine rb_UV (b := b) (u := (0, 0)) (rf := 1) (rl := 20) (As := [.ref a2]) (rest := []) cx w hR hl.1 h (fun h => kn_J5_inflateIfNeededFor_a7421p hG hL0 hK0 hL2 hK2 h) (fun v => va_cwU (x := ⟨"java/lang/AbstractStringBuilder", "inflateIfNeededFor", "(Ljava/lang/String;)V"⟩) 1 hts gJ5_putStringAt_47b60_J5_inflateIfNeededFor_a7421_u397J4 rfl rfl rfl rfl (by decide +kernel) ⟨(Nat.le_of_ble_eq_true rfl), (Nat.le_of_ble_eq_true rfl)⟩) hL0 hK0 (by decide) rfl rfl rfl (Nat.le_of_ble_eq_true rfl) dJ5_putStringAt_47b60_2 (fun u3 G1 M2 r4 H locs h hu xe cx w => ?_)
  obtain ⟨hL0, hK0⟩ := ext_wt xe hL0 hK0
  obtain ⟨hL2, hK2⟩ := ext_wt xe hL2 hK2
  have hext := ext_tr hext xe
  clear xe
  have hG := cX_wt cx
  refine lv_aload_n hx hb dJ5_putStringAt_47b60_5 rfl (lv_at hl 2 rfl) ?_
  refine lv_aload_n hx hb dJ5_putStringAt_47b60_6 rfl (lv_at hl 0 rfl) ?_
  obtain ⟨q5, eq5, h⟩ := w_rf h
  obtain ⟨hLq5, hKq5⟩ := wt_q hG hL0 hK0 eq5
  have hKq5 : gK G1 q5 = 16 := hKq5
  refine r_getR (k := 0) cx w hL0 hK0 (by decide) rfl wb_J5_putStringAt_47b60p_J4 (by decide) rfl eq5 (List.mem_of_getElem? (i := 1) rfl) dJ5_putStringAt_47b60_7 ?_
  refine lv_iload_n hx hb dJ5_putStringAt_47b60_10 rfl (lv_at hl 1 rfl) ?_
  refine lv_aload_n hx hb dJ5_putStringAt_47b60_11 rfl (lv_at hl 0 rfl) ?_
  refine r_getI (k := 1) (v := .int (mI M2 a0 1)) cx w hL0 hK0 (by decide) rfl wb_J5_putStringAt_47b60p_J4 (by decide) rfl (List.mem_of_getElem? (i := 2) rfl) dJ5_putStringAt_47b60_12 ?_
  refine rb_VV (b := b) (u := u3) (rf := 1) (rl := 60) (As := [.ref q5, .int c1, .int ((mI M2 a0 1))]) (rest := []) cx w hR hl.1 h (fun h => kn_J0_getBytes_840e7p hG hL2 hK2 hLq5 hKq5 h) (fun v => cwV 3 hts gJ5_putStringAt_47b60_J0_getBytes_840e7 rfl rfl rfl (by decide +kernel) ⟨(Nat.le_of_ble_eq_true rfl), (Nat.le_of_ble_eq_true rfl)⟩) hL2 hK2 (by decide) rfl rfl rfl (Nat.le_of_ble_eq_true rfl) dJ5_putStringAt_47b60_15 (fun u8 G6 M7 r9 H locs h hu xe cx w => ?_)
  obtain ⟨hL0, hK0⟩ := ext_wt xe hL0 hK0
  obtain ⟨hL2, hK2⟩ := ext_wt xe hL2 hK2
  have hext := ext_tr hext xe
  clear xe
  have hG := cX_wt cx
  exact rb_vret h cx w hext hu dJ5_putStringAt_47b60_18
-- J5_append_cf1ce
theorem wb_J5_append_cf1ce_J4 : ∀ w ∈ wsJ40, w ∈ wsJ5_append_cf1ce := by decide +kernel
abbrev rnJ5_append_cf1ce (b : uS) : Room := { frames := 4, cells := b.1, slots := b.2, locals := 130 }
def n_J5_append_cf1ce (b : uS) (G : gS) (M : mS) (a0 : Nat) (a1 : Nat) (post : gS → mS → Nat → Prop) : Prop := q_ca b (0, 0) (fun v => n_J0_length_8abf5 v G M a1) (fun u3 G1 M2 r4 => q_ca b u3 (fun v => n_J5_ensureCapacityInternal_d00df v G1 M2 a0 ((mI M2 a0 3) + r4)) (fun u7 G5 M6 r8 => q_ca b u7 (fun v => n_J5_putStringAt_47b60 v G5 M6 a0 (mI M6 a0 3) a1) (fun u11 G9 M10 r12 => p_wI M10 a0 3 ((mI M10 a0 3) + r4) (fun M13 => post G9 M13 a0))))
set_option maxHeartbeats 4000000 in
set_option maxRecDepth 100000 in
theorem kn_J5_append_cf1ce {l : Launch} {D : va_G} {cy : cyS} {G : gS} {M : mS} {b : uS} {a0 : Nat} {a1 : Nat} {post : gS → mS → Nat → Prop} (hG : wt G) (hL0 : a0 ∈ gL G) (hK0 : gK G a0 = 11) (hi1 : a1 < 36) (h : n_J5_append_cf1ce b G M a0 a1 post) : cbR 11 l yJ5_append_cf1ce wsJ5_append_cf1ce (rnJ5_append_cf1ce b) D cy G M [.ref a0, .ref (stK D a1)] b post := by
  unfold n_J5_append_cf1ce at h
  refine cbR_of (cc := cJ5_append_cf1ce) (nL := 3) (ret := (some (.object "java/lang/AbstractStringBuilder"))) (lv := [(0, .ref a0), (1, .ref (stK D a1))]) hG (by decide) rfl (Nat.le_of_ble_eq_true rfl) rfl ?_
  intro p e s m args below meth c sz ls hnm cx w hl
  obtain ⟨hx, hb, hml, hown, hts, hr, hlocks, hK, hA, -, hsx⟩ := id cx
  have hext := ext_rf (G := G)
  have hu : uL (0, 0) b := ⟨Nat.zero_le _, Nat.zero_le _⟩
  have hR : (rnJ5_append_cf1ce b).cells = b.1 ∧ (rnJ5_append_cf1ce b).slots = b.2 := ⟨rfl, rfl⟩
  refine lv_aload_n hx hb dJ5_append_cf1ce_0 rfl (lv_at hl 1 rfl) ?_
  refine lv_ifnonnull (tgt := 9) hx hb dJ5_append_cf1ce_1 (by decide) ?_
  refine lv_aload_n hx hb dJ5_append_cf1ce_9 rfl (lv_at hl 1 rfl) ?_
  refine rb_TI (b := b) (u := (0, 0)) (rf := 1) (rl := 20) (As := []) (rest := []) cx w hR hl.1 h (fun h => kn_J0_length_8abf5 hG hi1 h) hi1 (fun v => cwV 0 hts gJ5_append_cf1ce_J0_length_8abf5 rfl rfl rfl (by decide +kernel) ⟨(Nat.le_of_ble_eq_true rfl), (Nat.le_of_ble_eq_true rfl)⟩) rfl rfl (Nat.le_of_ble_eq_true rfl) dJ5_append_cf1ce_10 (fun u3 G1 M2 r4 H locs h hu xe cx w => ?_)
  obtain ⟨hL0, hK0⟩ := ext_wt xe hL0 hK0
  have hext := ext_tr hext xe
  clear xe
  have hG := cX_wt cx
  refine lv_istore_n (lv' := [(2, .int r4), (0, .ref a0), (1, .ref (stK D a1))]) hx hb dJ5_append_cf1ce_13 rfl hl (by decide) rfl (fun ls hl => ?_)
  refine lv_aload_n hx hb dJ5_append_cf1ce_14 rfl (lv_at hl 1 rfl) ?_
  refine lv_aload_n hx hb dJ5_append_cf1ce_15 rfl (lv_at hl 1 rfl) ?_
  refine r_getI (k := 3) (v := .int (mI M2 a0 3)) cx w hL0 hK0 (by decide) rfl wb_J5_append_cf1ce_J4 (by decide) rfl (List.mem_of_getElem? (i := 1) rfl) dJ5_append_cf1ce_16 ?_
  refine lv_iload_n hx hb dJ5_append_cf1ce_19 rfl (lv_at hl 0 rfl) ?_
  refine lv_iadd hx hb dJ5_append_cf1ce_20 ?_
  refine rb_UV (b := b) (u := u3) (rf := 3) (rl := 108) (As := [.int (((mI M2 a0 3) + r4))]) (rest := []) cx w hR hl.1 h (fun h => kn_J5_ensureCapacityInternal_d00df hG hL0 hK0 h) (fun v => va_cwU (x := ⟨"java/lang/AbstractStringBuilder", "ensureCapacityInternal", "(I)V"⟩) 1 hts gJ5_append_cf1ce_J5_ensureCapacityInternal_d00df_u100J4 rfl rfl rfl rfl (by decide +kernel) ⟨(Nat.le_of_ble_eq_true rfl), (Nat.le_of_ble_eq_true rfl)⟩) hL0 hK0 (by decide) rfl rfl rfl (Nat.le_of_ble_eq_true rfl) dJ5_append_cf1ce_21 (fun u7 G5 M6 r8 H locs h hu xe cx w => ?_)
  obtain ⟨hL0, hK0⟩ := ext_wt xe hL0 hK0
  have hext := ext_tr hext xe
  clear xe
  have hG := cX_wt cx
  refine lv_aload_n hx hb dJ5_append_cf1ce_24 rfl (lv_at hl 1 rfl) ?_
  refine lv_aload_n hx hb dJ5_append_cf1ce_25 rfl (lv_at hl 1 rfl) ?_
  refine r_getI (k := 3) (v := .int (mI M6 a0 3)) cx w hL0 hK0 (by decide) rfl wb_J5_append_cf1ce_J4 (by decide) rfl (List.mem_of_getElem? (i := 1) rfl) dJ5_append_cf1ce_26 ?_
  refine lv_aload_n hx hb dJ5_append_cf1ce_29 rfl (lv_at hl 2 rfl) ?_
  refine rb_UV (b := b) (u := u7) (rf := 2) (rl := 83) (As := [.int ((mI M6 a0 3)), .ref (stK D a1)]) (rest := []) cx w hR hl.1 h (fun h => kn_J5_putStringAt_47b60 hG hL0 hK0 hi1 h) (fun v => va_cwU (x := ⟨"java/lang/AbstractStringBuilder", "putStringAt", "(ILjava/lang/String;)V"⟩) 2 hts gJ5_append_cf1ce_J5_putStringAt_47b60_u208J4 rfl rfl rfl rfl (by decide +kernel) ⟨(Nat.le_of_ble_eq_true rfl), (Nat.le_of_ble_eq_true rfl)⟩) hL0 hK0 (by decide) rfl rfl rfl (Nat.le_of_ble_eq_true rfl) dJ5_append_cf1ce_30 (fun u11 G9 M10 r12 H locs h hu xe cx w => ?_)
  obtain ⟨hL0, hK0⟩ := ext_wt xe hL0 hK0
  have hext := ext_tr hext xe
  clear xe
  have hG := cX_wt cx
  refine lv_aload_n hx hb dJ5_append_cf1ce_33 rfl (lv_at hl 1 rfl) ?_
  refine lv_dup hx hb dJ5_append_cf1ce_34 rfl ?_
  refine r_getI (k := 3) (v := .int (mI M10 a0 3)) cx w hL0 hK0 (by decide) rfl wb_J5_append_cf1ce_J4 (by decide) rfl (List.mem_of_getElem? (i := 1) rfl) dJ5_append_cf1ce_35 ?_
  refine lv_iload_n hx hb dJ5_append_cf1ce_38 rfl (lv_at hl 0 rfl) ?_
  refine lv_iadd hx hb dJ5_append_cf1ce_39 ?_
  obtain ⟨M13, eM13, h⟩ := w_wI h
  refine r_putI (k := 3) (ty := .int) cx w tyJ4 tyJ4_ok nmJ4 hL0 hK0 (by decide) rfl wb_J5_append_cf1ce_J4 (by decide) rfl rfl rfl rfl st_11_3 (ln_11 _ _ (by decide)) (List.mem_of_getElem? (i := 1) rfl) dJ5_append_cf1ce_40 eM13 (fun H locs w => ?_)
  refine lv_aload_n hx hb dJ5_append_cf1ce_43 rfl (lv_at hl 1 rfl) ?_
  exact rb_aret (Or.inl ⟨_, rfl⟩) hL0 hK0 h cx w hext hu dJ5_append_cf1ce_44
-- J5_append_cf1cep
theorem wb_J5_append_cf1cep_J4 : ∀ w ∈ wsJ40, w ∈ wsJ5_append_cf1ce := by decide +kernel
abbrev rnJ5_append_cf1cep (b : uS) : Room := { frames := 4, cells := b.1, slots := b.2, locals := 130 }
def n_J5_append_cf1cep (b : uS) (G : gS) (M : mS) (a0 : Nat) (a1 : Nat) (post : gS → mS → Nat → Prop) : Prop := q_ca b (0, 0) (fun v => n_J0_length_8abf5p v G M a1) (fun u3 G1 M2 r4 => q_ca b u3 (fun v => n_J5_ensureCapacityInternal_d00df v G1 M2 a0 ((mI M2 a0 3) + r4)) (fun u7 G5 M6 r8 => q_ca b u7 (fun v => n_J5_putStringAt_47b60p v G5 M6 a0 (mI M6 a0 3) a1) (fun u11 G9 M10 r12 => p_wI M10 a0 3 ((mI M10 a0 3) + r4) (fun M13 => post G9 M13 a0))))
set_option maxHeartbeats 4000000 in
set_option maxRecDepth 100000 in
theorem kn_J5_append_cf1cep {l : Launch} {D : va_G} {cy : cyS} {G : gS} {M : mS} {b : uS} {a0 : Nat} {a1 : Nat} {post : gS → mS → Nat → Prop} (hG : wt G) (hL0 : a0 ∈ gL G) (hK0 : gK G a0 = 11) (hL1 : a1 ∈ gL G) (hK1 : gK G a1 = 10) (h : n_J5_append_cf1cep b G M a0 a1 post) : cbR 11 l yJ5_append_cf1ce wsJ5_append_cf1ce (rnJ5_append_cf1cep b) D cy G M [.ref a0, .ref a1] b post := by
  unfold n_J5_append_cf1cep at h
  refine cbR_of (cc := cJ5_append_cf1ce) (nL := 3) (ret := (some (.object "java/lang/AbstractStringBuilder"))) (lv := [(0, .ref a0), (1, .ref a1)]) hG (by decide) rfl (Nat.le_of_ble_eq_true rfl) rfl ?_
  intro p e s m args below meth c sz ls hnm cx w hl
  obtain ⟨hx, hb, hml, hown, hts, hr, hlocks, hK, hA, -, hsx⟩ := id cx
  have hext := ext_rf (G := G)
  have hu : uL (0, 0) b := ⟨Nat.zero_le _, Nat.zero_le _⟩
  have hR : (rnJ5_append_cf1cep b).cells = b.1 ∧ (rnJ5_append_cf1cep b).slots = b.2 := ⟨rfl, rfl⟩
  refine lv_aload_n hx hb dJ5_append_cf1ce_0 rfl (lv_at hl 1 rfl) ?_
  refine lv_ifnonnull (tgt := 9) hx hb dJ5_append_cf1ce_1 (by decide) ?_
  refine lv_aload_n hx hb dJ5_append_cf1ce_9 rfl (lv_at hl 1 rfl) ?_
  refine rb_VI (b := b) (u := (0, 0)) (rf := 1) (rl := 20) (As := []) (rest := []) cx w hR hl.1 h (fun h => kn_J0_length_8abf5p hG hL1 hK1 h) (fun v => cwV 0 hts gJ5_append_cf1ce_J0_length_8abf5 rfl rfl rfl (by decide +kernel) ⟨(Nat.le_of_ble_eq_true rfl), (Nat.le_of_ble_eq_true rfl)⟩) hL1 hK1 (by decide) rfl rfl rfl (Nat.le_of_ble_eq_true rfl) dJ5_append_cf1ce_10 (fun u3 G1 M2 r4 H locs h hu xe cx w => ?_)
  obtain ⟨hL0, hK0⟩ := ext_wt xe hL0 hK0
  obtain ⟨hL1, hK1⟩ := ext_wt xe hL1 hK1
  have hext := ext_tr hext xe
  clear xe
  have hG := cX_wt cx
  refine lv_istore_n (lv' := [(2, .int r4), (0, .ref a0), (1, .ref a1)]) hx hb dJ5_append_cf1ce_13 rfl hl (by decide) rfl (fun ls hl => ?_)
  refine lv_aload_n hx hb dJ5_append_cf1ce_14 rfl (lv_at hl 1 rfl) ?_
  refine lv_aload_n hx hb dJ5_append_cf1ce_15 rfl (lv_at hl 1 rfl) ?_
  refine r_getI (k := 3) (v := .int (mI M2 a0 3)) cx w hL0 hK0 (by decide) rfl wb_J5_append_cf1cep_J4 (by decide) rfl (List.mem_of_getElem? (i := 1) rfl) dJ5_append_cf1ce_16 ?_
  refine lv_iload_n hx hb dJ5_append_cf1ce_19 rfl (lv_at hl 0 rfl) ?_
  refine lv_iadd hx hb dJ5_append_cf1ce_20 ?_
  refine rb_UV (b := b) (u := u3) (rf := 3) (rl := 108) (As := [.int (((mI M2 a0 3) + r4))]) (rest := []) cx w hR hl.1 h (fun h => kn_J5_ensureCapacityInternal_d00df hG hL0 hK0 h) (fun v => va_cwU (x := ⟨"java/lang/AbstractStringBuilder", "ensureCapacityInternal", "(I)V"⟩) 1 hts gJ5_append_cf1ce_J5_ensureCapacityInternal_d00df_u100J4 rfl rfl rfl rfl (by decide +kernel) ⟨(Nat.le_of_ble_eq_true rfl), (Nat.le_of_ble_eq_true rfl)⟩) hL0 hK0 (by decide) rfl rfl rfl (Nat.le_of_ble_eq_true rfl) dJ5_append_cf1ce_21 (fun u7 G5 M6 r8 H locs h hu xe cx w => ?_)
  obtain ⟨hL0, hK0⟩ := ext_wt xe hL0 hK0
  obtain ⟨hL1, hK1⟩ := ext_wt xe hL1 hK1
  have hext := ext_tr hext xe
  clear xe
  have hG := cX_wt cx
  refine lv_aload_n hx hb dJ5_append_cf1ce_24 rfl (lv_at hl 1 rfl) ?_
  refine lv_aload_n hx hb dJ5_append_cf1ce_25 rfl (lv_at hl 1 rfl) ?_
  refine r_getI (k := 3) (v := .int (mI M6 a0 3)) cx w hL0 hK0 (by decide) rfl wb_J5_append_cf1cep_J4 (by decide) rfl (List.mem_of_getElem? (i := 1) rfl) dJ5_append_cf1ce_26 ?_
  refine lv_aload_n hx hb dJ5_append_cf1ce_29 rfl (lv_at hl 2 rfl) ?_
  refine rb_UV (b := b) (u := u7) (rf := 2) (rl := 83) (As := [.int ((mI M6 a0 3)), .ref a1]) (rest := []) cx w hR hl.1 h (fun h => kn_J5_putStringAt_47b60p hG hL0 hK0 hL1 hK1 h) (fun v => va_cwU (x := ⟨"java/lang/AbstractStringBuilder", "putStringAt", "(ILjava/lang/String;)V"⟩) 2 hts gJ5_append_cf1ce_J5_putStringAt_47b60_u208J4 rfl rfl rfl rfl (by decide +kernel) ⟨(Nat.le_of_ble_eq_true rfl), (Nat.le_of_ble_eq_true rfl)⟩) hL0 hK0 (by decide) rfl rfl rfl (Nat.le_of_ble_eq_true rfl) dJ5_append_cf1ce_30 (fun u11 G9 M10 r12 H locs h hu xe cx w => ?_)
  obtain ⟨hL0, hK0⟩ := ext_wt xe hL0 hK0
  obtain ⟨hL1, hK1⟩ := ext_wt xe hL1 hK1
  have hext := ext_tr hext xe
  clear xe
  have hG := cX_wt cx
  refine lv_aload_n hx hb dJ5_append_cf1ce_33 rfl (lv_at hl 1 rfl) ?_
  refine lv_dup hx hb dJ5_append_cf1ce_34 rfl ?_
  refine r_getI (k := 3) (v := .int (mI M10 a0 3)) cx w hL0 hK0 (by decide) rfl wb_J5_append_cf1cep_J4 (by decide) rfl (List.mem_of_getElem? (i := 1) rfl) dJ5_append_cf1ce_35 ?_
  refine lv_iload_n hx hb dJ5_append_cf1ce_38 rfl (lv_at hl 0 rfl) ?_
  refine lv_iadd hx hb dJ5_append_cf1ce_39 ?_
  obtain ⟨M13, eM13, h⟩ := w_wI h
  refine r_putI (k := 3) (ty := .int) cx w tyJ4 tyJ4_ok nmJ4 hL0 hK0 (by decide) rfl wb_J5_append_cf1cep_J4 (by decide) rfl rfl rfl rfl st_11_3 (ln_11 _ _ (by decide)) (List.mem_of_getElem? (i := 1) rfl) dJ5_append_cf1ce_40 eM13 (fun H locs w => ?_)
  refine lv_aload_n hx hb dJ5_append_cf1ce_43 rfl (lv_at hl 1 rfl) ?_
  exact rb_aret (Or.inl ⟨_, rfl⟩) hL0 hK0 h cx w hext hu dJ5_append_cf1ce_44
-- J6_stringSize_0f7a4
abbrev rnJ6_stringSize_0f7a4 (b : uS) : Room := { frames := 0, cells := b.1, slots := b.2, locals := 0 }
def nb_J6_stringSize_0f7a4_16 (b : uS) (post : gS → mS → Int32 → Prop) (back : uS → gS → mS → Int32 → Int32 → Int32 → Int32 → Prop) (u : uS) (G : gS) (M : mS) (v0 : Int32) (v1 : Int32) (v2 : Int32) (v3 : Int32) : Prop := p_if ((10 : Int32) ≤ v3) (post G M ((10 : Int32) + v1)) (p_if (v0 ≤ v2) (p_bd (((10 : Int32) * v2)) (fun x3 => p_bd (v3 + 1 : Int32) (fun x4 => back u G M v0 v1 x3 x4))) (post G M (v3 + v1)))
def nl_J6_stringSize_0f7a4_16 (b : uS) (post : gS → mS → Int32 → Prop) (u : uS) (G : gS) (M : mS) (v0 : Int32) (v1 : Int32) (v2 : Int32) (v3 : Int32) : Prop := ∃ (I : Nat → uS → gS → mS → Int32 → Int32 → Int32 → Int32 → Prop) (n : Nat), I n u G M v0 v1 v2 v3 ∧ ∀ (n : Nat) (u : uS) (G : gS) (M : mS) (v0 : Int32) (v1 : Int32) (v2 : Int32) (v3 : Int32), I n u G M v0 v1 v2 v3 → nb_J6_stringSize_0f7a4_16 b post (fun u G M v0 v1 v2 v3 => ∃ k, k < n ∧ I k u G M v0 v1 v2 v3) u G M v0 v1 v2 v3
def nb_J6_stringSize_0f7a4_11 (b : uS) (post : gS → mS → Int32 → Prop) (u : uS) (G : gS) (M : mS) (v0 : Int32) (v1 : Int32) : Prop := nl_J6_stringSize_0f7a4_16 b post u G M v0 v1 ((-10 : Int32)) ((1 : Int32))
def n_J6_stringSize_0f7a4 (b : uS) (G : gS) (M : mS) (v0 : Int32) (post : gS → mS → Int32 → Prop) : Prop := p_if (v0 < 0) (nb_J6_stringSize_0f7a4_11 b post (0, 0) G M v0 ((1 : Int32))) (p_bd ((-v0)) (fun x2 => nb_J6_stringSize_0f7a4_11 b post (0, 0) G M x2 ((0 : Int32))))
set_option maxHeartbeats 4000000 in
set_option maxRecDepth 100000 in
theorem bn_J6_stringSize_0f7a4_16 {p : Program} {l : Launch} {e : Env} {s : State} {m : MethodId} {args : Array Value} {below : List Frame} {meth : Method} {c : Code} {D : va_G} {cy : cyS} {b : uS} {G0 : gS} {sz : Nat} (hnm : meth.name = yJ6_stringSize_0f7a4.name)  {post : gS → mS → Int32 → Prop} : ∀ (u : uS) (G : gS) (M : mS) (v0 : Int32) (v1 : Int32) (v2 : Int32) (v3 : Int32) (H : Heap) (locs : List Loc) (ls : Array Slot), ext G0 G → uL u b → nl_J6_stringSize_0f7a4_16 b post u G M v0 v1 v2 v3 → cX p s m args meth c cJ6_stringSize_0f7a4 RJ6 4 (some .int) wsJ6_stringSize_0f7a4 D cy G (pA G0 sz) → wd D cy G M (pA G0 sz) s.heap H locs → lv_has ls 4 [(0, .int v0), (1, .int v1), (2, .int v2), (3, .int v3)] → W p l e (rnJ6_stringSize_0f7a4 b) s m args below meth c H locs u.1 u.2 (MQ below (va_Qi (fun (r : Int32) (u : gS × mS) => post u.1 u.2 r) (fun u t => va_P D vwCl (pl cy u.1 u.2) t.heap ∧ va_D (pA G0 sz) (pl cy u.1 u.2) ∧ wt u.1 ∧ ext G0 u.1) (pA G0 sz)) args s b.1 b.2 (pA G0 sz)) (F0 m 16 ls []) := by
  intro u G M v0 v1 v2 v3 H locs ls hext hu h cx w hl
  obtain ⟨I, n, hI, hB⟩ := h
  have key : ∀ n : Nat, ∀ (u : uS) (G : gS) (M : mS) (v0 : Int32) (v1 : Int32) (v2 : Int32) (v3 : Int32) (H : Heap) (locs : List Loc) (ls : Array Slot), ext G0 G → uL u b → I n u G M v0 v1 v2 v3 → cX p s m args meth c cJ6_stringSize_0f7a4 RJ6 4 (some .int) wsJ6_stringSize_0f7a4 D cy G (pA G0 sz) → wd D cy G M (pA G0 sz) s.heap H locs → lv_has ls 4 [(0, .int v0), (1, .int v1), (2, .int v2), (3, .int v3)] → W p l e (rnJ6_stringSize_0f7a4 b) s m args below meth c H locs u.1 u.2 (MQ below (va_Qi (fun (r : Int32) (u : gS × mS) => post u.1 u.2 r) (fun u t => va_P D vwCl (pl cy u.1 u.2) t.heap ∧ va_D (pA G0 sz) (pl cy u.1 u.2) ∧ wt u.1 ∧ ext G0 u.1) (pA G0 sz)) args s b.1 b.2 (pA G0 sz)) (F0 m 16 ls []) := by
    intro n
    induction n using Nat.strongRecOn with
    | ind n ih =>
      intro u G M v0 v1 v2 v3 H locs ls hext hu hI cx w hl
      have h := hB n u G M v0 v1 v2 v3 hI
      unfold nb_J6_stringSize_0f7a4_16 at h
      obtain ⟨hx, hb, hml, hown, hts, hr, hlocks, hK, hA, hG, hsx⟩ := id cx
      have hR : (rnJ6_stringSize_0f7a4 b).cells = b.1 ∧ (rnJ6_stringSize_0f7a4 b).slots = b.2 := ⟨rfl, rfl⟩
      refine lv_iload_n hx hb dJ6_stringSize_0f7a4_16 rfl (lv_at hl 3 rfl) ?_
      refine lv_bipush (v := (10 : Int32)) hx hb dJ6_stringSize_0f7a4_17 (by decide) ?_
      refine lv_icmp_ge (tgt := 42) hx hb dJ6_stringSize_0f7a4_19 (by decide) (fun k1 => ?_) (fun k1 => ?_)
      · have h := w_t h k1
        refine lv_bipush (v := (10 : Int32)) hx hb dJ6_stringSize_0f7a4_42 (by decide) ?_
        refine lv_iload_n hx hb dJ6_stringSize_0f7a4_44 rfl (lv_at hl 1 rfl) ?_
        refine lv_iadd hx hb dJ6_stringSize_0f7a4_45 ?_
        exact rb_iret h cx w hext hu dJ6_stringSize_0f7a4_46
      · have h := w_f h k1
        refine lv_iload_n hx hb dJ6_stringSize_0f7a4_22 rfl (lv_at hl 0 rfl) ?_
        refine lv_iload_n hx hb dJ6_stringSize_0f7a4_23 rfl (lv_at hl 2 rfl) ?_
        refine lv_icmp_le (tgt := 31) hx hb dJ6_stringSize_0f7a4_24 (by decide) (fun k2 => ?_) (fun k2 => ?_)
        · have h := w_t h k2
          refine lv_bipush (v := (10 : Int32)) hx hb dJ6_stringSize_0f7a4_31 (by decide) ?_
          refine lv_iload_n hx hb dJ6_stringSize_0f7a4_33 rfl (lv_at hl 2 rfl) ?_
          refine lv_imul hx hb dJ6_stringSize_0f7a4_34 ?_
          obtain ⟨x3, ex3, h⟩ := w_bd h
          refine r_topI ex3 ?_
          refine lv_istore_n (lv' := [(2, .int x3), (0, .int v0), (1, .int v1), (3, .int v3)]) hx hb dJ6_stringSize_0f7a4_35 rfl hl (by decide) rfl (fun ls hl => ?_)
          obtain ⟨x4, ex4, h⟩ := w_bd h
          refine lv_iinc (v := x4) (lv' := [(3, .int x4), (2, .int x3), (0, .int v0), (1, .int v1)]) hx hb dJ6_stringSize_0f7a4_36 hl (k := 3) rfl (by rw [ex4]; rfl) (by decide) rfl (fun ls hl => ?_)
          refine lv_goto (tgt := 16) hx hb dJ6_stringSize_0f7a4_39 (by decide) ?_
          obtain ⟨k, hk, hI⟩ := h
          exact ih k hk u G M v0 v1 x3 x4 H locs ls hext hu hI cx w (lv_sub hl [2, 3, 1, 0] rfl)
        · have h := w_f h k2
          refine lv_iload_n hx hb dJ6_stringSize_0f7a4_27 rfl (lv_at hl 3 rfl) ?_
          refine lv_iload_n hx hb dJ6_stringSize_0f7a4_28 rfl (lv_at hl 1 rfl) ?_
          refine lv_iadd hx hb dJ6_stringSize_0f7a4_29 ?_
          exact rb_iret h cx w hext hu dJ6_stringSize_0f7a4_30
  exact key n u G M v0 v1 v2 v3 H locs ls hext hu hI cx w hl
set_option maxHeartbeats 4000000 in
set_option maxRecDepth 100000 in
theorem bn_J6_stringSize_0f7a4_11 {p : Program} {l : Launch} {e : Env} {s : State} {m : MethodId} {args : Array Value} {below : List Frame} {meth : Method} {c : Code} {D : va_G} {cy : cyS} {b : uS} {G0 : gS} {sz : Nat} (hnm : meth.name = yJ6_stringSize_0f7a4.name)  {post : gS → mS → Int32 → Prop} : ∀ (u : uS) (G : gS) (M : mS) (v0 : Int32) (v1 : Int32) (H : Heap) (locs : List Loc) (ls : Array Slot), ext G0 G → uL u b → nb_J6_stringSize_0f7a4_11 b post u G M v0 v1 → cX p s m args meth c cJ6_stringSize_0f7a4 RJ6 4 (some .int) wsJ6_stringSize_0f7a4 D cy G (pA G0 sz) → wd D cy G M (pA G0 sz) s.heap H locs → lv_has ls 4 [(0, .int v0), (1, .int v1)] → W p l e (rnJ6_stringSize_0f7a4 b) s m args below meth c H locs u.1 u.2 (MQ below (va_Qi (fun (r : Int32) (u : gS × mS) => post u.1 u.2 r) (fun u t => va_P D vwCl (pl cy u.1 u.2) t.heap ∧ va_D (pA G0 sz) (pl cy u.1 u.2) ∧ wt u.1 ∧ ext G0 u.1) (pA G0 sz)) args s b.1 b.2 (pA G0 sz)) (F0 m 11 ls []) := by
  intro u G M v0 v1 H locs ls hext hu h cx w hl
  unfold nb_J6_stringSize_0f7a4_11 at h
  obtain ⟨hx, hb, hml, hown, hts, hr, hlocks, hK, hA, hG, hsx⟩ := id cx
  have hR : (rnJ6_stringSize_0f7a4 b).cells = b.1 ∧ (rnJ6_stringSize_0f7a4 b).slots = b.2 := ⟨rfl, rfl⟩
  refine lv_bipush (v := (-10 : Int32)) hx hb dJ6_stringSize_0f7a4_11 (by decide) ?_
  refine lv_istore_n (lv' := [(2, .int ((-10 : Int32))), (0, .int v0), (1, .int v1)]) hx hb dJ6_stringSize_0f7a4_13 rfl hl (by decide) rfl (fun ls hl => ?_)
  refine lv_iconst (v := (1 : Int32)) hx hb dJ6_stringSize_0f7a4_14 (by decide) ?_
  refine lv_istore_n (lv' := [(3, .int ((1 : Int32))), (2, .int ((-10 : Int32))), (0, .int v0), (1, .int v1)]) hx hb dJ6_stringSize_0f7a4_15 rfl hl (by decide) rfl (fun ls hl => ?_)
  exact bn_J6_stringSize_0f7a4_16 hnm u G M v0 v1 ((-10 : Int32)) ((1 : Int32)) H locs ls hext hu h cx w (lv_sub hl [2, 3, 1, 0] rfl)
set_option maxHeartbeats 4000000 in
set_option maxRecDepth 100000 in
theorem kn_J6_stringSize_0f7a4 {l : Launch} {D : va_G} {cy : cyS} {G : gS} {M : mS} {b : uS} {v0 : Int32} {post : gS → mS → Int32 → Prop} (hG : wt G) (h : n_J6_stringSize_0f7a4 b G M v0 post) : cbI l yJ6_stringSize_0f7a4 wsJ6_stringSize_0f7a4 (rnJ6_stringSize_0f7a4 b) D cy G M [.int v0] b post := by
  unfold n_J6_stringSize_0f7a4 at h
  refine cbI_of (cc := cJ6_stringSize_0f7a4) (nL := 4) (ret := (some .int)) (lv := [(0, .int v0)]) hG (by decide) rfl (Nat.le_of_ble_eq_true rfl) rfl ?_
  intro p e s m args below meth c sz ls hnm cx w hl
  obtain ⟨hx, hb, hml, hown, hts, hr, hlocks, hK, hA, -, hsx⟩ := id cx
  have hext := ext_rf (G := G)
  have hu : uL (0, 0) b := ⟨Nat.zero_le _, Nat.zero_le _⟩
  have hR : (rnJ6_stringSize_0f7a4 b).cells = b.1 ∧ (rnJ6_stringSize_0f7a4 b).slots = b.2 := ⟨rfl, rfl⟩
  refine lv_iconst (v := (1 : Int32)) hx hb dJ6_stringSize_0f7a4_0 (by decide) ?_
  refine lv_istore_n (lv' := [(1, .int ((1 : Int32))), (0, .int v0)]) hx hb dJ6_stringSize_0f7a4_1 rfl hl (by decide) rfl (fun ls hl => ?_)
  refine lv_iload_n hx hb dJ6_stringSize_0f7a4_2 rfl (lv_at hl 1 rfl) ?_
  refine lv_if_lt (tgt := 11) hx hb dJ6_stringSize_0f7a4_3 (by decide) (fun k1 => ?_) (fun k1 => ?_)
  · have h := w_t h k1
    exact bn_J6_stringSize_0f7a4_11 hnm (0, 0) G M v0 ((1 : Int32)) s.heap [] ls hext hu h cx w (lv_sub hl [1, 0] rfl)
  · have h := w_f h k1
    refine lv_iconst (v := (0 : Int32)) hx hb dJ6_stringSize_0f7a4_6 (by decide) ?_
    refine lv_istore_n (lv' := [(1, .int ((0 : Int32))), (0, .int v0)]) hx hb dJ6_stringSize_0f7a4_7 rfl hl (by decide) rfl (fun ls hl => ?_)
    refine lv_iload_n hx hb dJ6_stringSize_0f7a4_8 rfl (lv_at hl 1 rfl) ?_
    refine lv_ineg hx hb dJ6_stringSize_0f7a4_9 ?_
    obtain ⟨x2, ex2, h⟩ := w_bd h
    refine r_topI ex2 ?_
    refine lv_istore_n (lv' := [(0, .int x2), (1, .int ((0 : Int32)))]) hx hb dJ6_stringSize_0f7a4_10 rfl hl (by decide) rfl (fun ls hl => ?_)
    exact bn_J6_stringSize_0f7a4_11 hnm (0, 0) G M x2 ((0 : Int32)) s.heap [] ls hext hu h cx w (lv_sub hl [0, 1] rfl)
-- J6_getChars_ba4f3
abbrev rnJ6_getChars_ba4f3 (b : uS) : Room := { frames := 0, cells := b.1, slots := b.2, locals := 0 }
def nb_J6_getChars_ba4f3_118 (b : uS) (c1 : Int32) (a2 : Nat) (post : gS → mS → Int32 → Prop) (u : uS) (G : gS) (M : mS) (v5 : Int32) : Prop := post G M v5
def nb_J6_getChars_ba4f3_104 (b : uS) (c1 : Int32) (a2 : Nat) (post : gS → mS → Int32 → Prop) (u : uS) (G : gS) (M : mS) (v5 : Int32) (v6 : Int32) : Prop := p_if (v6 = 0) (nb_J6_getChars_ba4f3_118 b c1 a2 post u G M v5) (p_bd (v5 + (-1) : Int32) (fun x2 => p_ix x2 (gN G a2) (p_wI M a2 (Int32.toNatClampNeg x2) (vp_nar .byte (45 : Int32)) (fun M4 => nb_J6_getChars_ba4f3_118 b c1 a2 post u G M4 x2))))
def nb_J6_getChars_ba4f3_22 (b : uS) (c1 : Int32) (a2 : Nat) (post : gS → mS → Int32 → Prop) (back : uS → gS → mS → Int32 → Int32 → Int32 → Prop) (u : uS) (G : gS) (M : mS) (v0 : Int32) (v5 : Int32) (v6 : Int32) : Prop := p_if ((-100 : Int32) < v0) (p_bd (v5 + (-1) : Int32) (fun x2 => p_ix (-v0) 100 (p_ix x2 (gN G a2) (p_wI M a2 (Int32.toNatClampNeg x2) (vp_nar .byte (f_D 0 (Int32.toNatClampNeg (-v0)))) (fun M5 => p_if ((-9 : Int32) ≤ v0) (nb_J6_getChars_ba4f3_104 b c1 a2 post u G M5 x2 v6) (p_bd (x2 + (-1) : Int32) (fun x7 => p_ix (-v0) 100 (p_ix x7 (gN G a2) (p_wI M5 a2 (Int32.toNatClampNeg x7) (vp_nar .byte (f_D 1 (Int32.toNatClampNeg (-v0)))) (fun M10 => nb_J6_getChars_ba4f3_104 b c1 a2 post u G M10 x7 v6)))))))))) (p_ck (¬ (100 : Int32) = 0) (p_bd ((v0 / (100 : Int32))) (fun x12 => p_bd (((x12 * (100 : Int32)) - v0)) (fun x13 => p_bd (v5 + (-1) : Int32) (fun x14 => p_ix x13 100 (p_ix x14 (gN G a2) (p_wI M a2 (Int32.toNatClampNeg x14) (vp_nar .byte (f_D 0 (Int32.toNatClampNeg x13))) (fun M17 => p_bd (x14 + (-1) : Int32) (fun x18 => p_ix x13 100 (p_ix x18 (gN G a2) (p_wI M17 a2 (Int32.toNatClampNeg x18) (vp_nar .byte (f_D 1 (Int32.toNatClampNeg x13))) (fun M21 => back u G M21 x12 x18 v6))))))))))))
def nl_J6_getChars_ba4f3_22 (b : uS) (c1 : Int32) (a2 : Nat) (post : gS → mS → Int32 → Prop) (u : uS) (G : gS) (M : mS) (v0 : Int32) (v5 : Int32) (v6 : Int32) : Prop := ∃ (I : Nat → uS → gS → mS → Int32 → Int32 → Int32 → Prop) (n : Nat), I n u G M v0 v5 v6 ∧ ∀ (n : Nat) (u : uS) (G : gS) (M : mS) (v0 : Int32) (v5 : Int32) (v6 : Int32), I n u G M v0 v5 v6 → nb_J6_getChars_ba4f3_22 b c1 a2 post (fun u G M v0 v5 v6 => ∃ k, k < n ∧ I k u G M v0 v5 v6) u G M v0 v5 v6
def nb_J6_getChars_ba4f3_12 (b : uS) (c1 : Int32) (a2 : Nat) (post : gS → mS → Int32 → Prop) (u : uS) (G : gS) (M : mS) (v0 : Int32) (v5 : Int32) (s0 : Int32) : Prop := p_if (s0 = 0) (p_bd ((-v0)) (fun x2 => nl_J6_getChars_ba4f3_22 b c1 a2 post u G M x2 v5 s0)) (nl_J6_getChars_ba4f3_22 b c1 a2 post u G M v0 v5 s0)
def n_J6_getChars_ba4f3 (b : uS) (G : gS) (M : mS) (v0 : Int32) (c1 : Int32) (a2 : Nat) (post : gS → mS → Int32 → Prop) : Prop := p_if (0 ≤ v0) (nb_J6_getChars_ba4f3_12 b c1 a2 post (0, 0) G M v0 c1 ((0 : Int32))) (nb_J6_getChars_ba4f3_12 b c1 a2 post (0, 0) G M v0 c1 ((1 : Int32)))
set_option maxHeartbeats 4000000 in
set_option maxRecDepth 100000 in
theorem bn_J6_getChars_ba4f3_118 {p : Program} {l : Launch} {e : Env} {s : State} {m : MethodId} {args : Array Value} {below : List Frame} {meth : Method} {c : Code} {D : va_G} {cy : cyS} {b : uS} {G0 : gS} {sz : Nat} (hnm : meth.name = yJ6_getChars_ba4f3.name)  {c1 : Int32} {a2 : Nat} {post : gS → mS → Int32 → Prop} : ∀ (u : uS) (G : gS) (M : mS) (v5 : Int32) (H : Heap) (locs : List Loc) (ls : Array Slot), a2 ∈ gL G → gK G a2 = 16 → ext G0 G → uL u b → nb_J6_getChars_ba4f3_118 b c1 a2 post u G M v5 → cX p s m args meth c cJ6_getChars_ba4f3 RJ6 7 (some .int) wsJ6_getChars_ba4f3 D cy G (pA G0 sz) → wd D cy G M (pA G0 sz) s.heap H locs → lv_has ls 7 [(5, .int v5)] → W p l e (rnJ6_getChars_ba4f3 b) s m args below meth c H locs u.1 u.2 (MQ below (va_Qi (fun (r : Int32) (u : gS × mS) => post u.1 u.2 r) (fun u t => va_P D vwCl (pl cy u.1 u.2) t.heap ∧ va_D (pA G0 sz) (pl cy u.1 u.2) ∧ wt u.1 ∧ ext G0 u.1) (pA G0 sz)) args s b.1 b.2 (pA G0 sz)) (F0 m 118 ls []) := by
  intro u G M v5 H locs ls hL2 hK2 hext hu h cx w hl
  unfold nb_J6_getChars_ba4f3_118 at h
  obtain ⟨hx, hb, hml, hown, hts, hr, hlocks, hK, hA, hG, hsx⟩ := id cx
  have hR : (rnJ6_getChars_ba4f3 b).cells = b.1 ∧ (rnJ6_getChars_ba4f3 b).slots = b.2 := ⟨rfl, rfl⟩
  refine lv_iload hx hb dJ6_getChars_ba4f3_118 (lv_at hl 0 rfl) ?_
  exact rb_iret h cx w hext hu dJ6_getChars_ba4f3_120
set_option maxHeartbeats 4000000 in
set_option maxRecDepth 100000 in
theorem bn_J6_getChars_ba4f3_104 {p : Program} {l : Launch} {e : Env} {s : State} {m : MethodId} {args : Array Value} {below : List Frame} {meth : Method} {c : Code} {D : va_G} {cy : cyS} {b : uS} {G0 : gS} {sz : Nat} (hnm : meth.name = yJ6_getChars_ba4f3.name)  {c1 : Int32} {a2 : Nat} {post : gS → mS → Int32 → Prop} : ∀ (u : uS) (G : gS) (M : mS) (v5 : Int32) (v6 : Int32) (H : Heap) (locs : List Loc) (ls : Array Slot), a2 ∈ gL G → gK G a2 = 16 → ext G0 G → uL u b → nb_J6_getChars_ba4f3_104 b c1 a2 post u G M v5 v6 → cX p s m args meth c cJ6_getChars_ba4f3 RJ6 7 (some .int) wsJ6_getChars_ba4f3 D cy G (pA G0 sz) → wd D cy G M (pA G0 sz) s.heap H locs → lv_has ls 7 [(2, .ref a2), (5, .int v5), (6, .int v6)] → W p l e (rnJ6_getChars_ba4f3 b) s m args below meth c H locs u.1 u.2 (MQ below (va_Qi (fun (r : Int32) (u : gS × mS) => post u.1 u.2 r) (fun u t => va_P D vwCl (pl cy u.1 u.2) t.heap ∧ va_D (pA G0 sz) (pl cy u.1 u.2) ∧ wt u.1 ∧ ext G0 u.1) (pA G0 sz)) args s b.1 b.2 (pA G0 sz)) (F0 m 104 ls []) := by
  intro u G M v5 v6 H locs ls hL2 hK2 hext hu h cx w hl
  unfold nb_J6_getChars_ba4f3_104 at h
  obtain ⟨hx, hb, hml, hown, hts, hr, hlocks, hK, hA, hG, hsx⟩ := id cx
  have hR : (rnJ6_getChars_ba4f3 b).cells = b.1 ∧ (rnJ6_getChars_ba4f3 b).slots = b.2 := ⟨rfl, rfl⟩
  refine lv_iload hx hb dJ6_getChars_ba4f3_104 (lv_at hl 2 rfl) ?_
  refine lv_if_eq (tgt := 118) hx hb dJ6_getChars_ba4f3_106 (by decide) (fun k1 => ?_) (fun k1 => ?_)
  · have h := w_t h k1
    exact bn_J6_getChars_ba4f3_118 hnm u G M v5 H locs ls hL2 hK2 hext hu h cx w (lv_sub hl [1] rfl)
  · have h := w_f h k1
    refine lv_aload_n hx hb dJ6_getChars_ba4f3_109 rfl (lv_at hl 0 rfl) ?_
    obtain ⟨x2, ex2, h⟩ := w_bd h
    refine lv_iinc (v := x2) (lv' := [(5, .int x2), (2, .ref a2), (6, .int v6)]) hx hb dJ6_getChars_ba4f3_110 hl (k := 1) rfl (by rw [ex2]; rfl) (by decide) rfl (fun ls hl => ?_)
    refine lv_iload hx hb dJ6_getChars_ba4f3_113 (lv_at hl 0 rfl) ?_
    refine lv_bipush (v := (45 : Int32)) hx hb dJ6_getChars_ba4f3_115 (by decide) ?_
    obtain ⟨z3, h⟩ := w_ix h
    obtain ⟨M4, eM4, h⟩ := w_wI h
    refine r_pbast cx w hL2 hK2 z3 dJ6_getChars_ba4f3_117 eM4 (fun H locs w => ?_)
    exact bn_J6_getChars_ba4f3_118 hnm u G M4 x2 H locs ls hL2 hK2 hext hu h cx w (lv_sub hl [0] rfl)
set_option maxHeartbeats 4000000 in
set_option maxRecDepth 100000 in
theorem bn_J6_getChars_ba4f3_22 {p : Program} {l : Launch} {e : Env} {s : State} {m : MethodId} {args : Array Value} {below : List Frame} {meth : Method} {c : Code} {D : va_G} {cy : cyS} {b : uS} {G0 : gS} {sz : Nat} (hnm : meth.name = yJ6_getChars_ba4f3.name)  {c1 : Int32} {a2 : Nat} {post : gS → mS → Int32 → Prop} : ∀ (u : uS) (G : gS) (M : mS) (v0 : Int32) (v5 : Int32) (v6 : Int32) (H : Heap) (locs : List Loc) (ls : Array Slot), a2 ∈ gL G → gK G a2 = 16 → ext G0 G → uL u b → nl_J6_getChars_ba4f3_22 b c1 a2 post u G M v0 v5 v6 → cX p s m args meth c cJ6_getChars_ba4f3 RJ6 7 (some .int) wsJ6_getChars_ba4f3 D cy G (pA G0 sz) → wd D cy G M (pA G0 sz) s.heap H locs → lv_has ls 7 [(0, .int v0), (2, .ref a2), (5, .int v5), (6, .int v6)] → W p l e (rnJ6_getChars_ba4f3 b) s m args below meth c H locs u.1 u.2 (MQ below (va_Qi (fun (r : Int32) (u : gS × mS) => post u.1 u.2 r) (fun u t => va_P D vwCl (pl cy u.1 u.2) t.heap ∧ va_D (pA G0 sz) (pl cy u.1 u.2) ∧ wt u.1 ∧ ext G0 u.1) (pA G0 sz)) args s b.1 b.2 (pA G0 sz)) (F0 m 22 ls []) := by
  intro u G M v0 v5 v6 H locs ls hL2 hK2 hext hu h cx w hl
  obtain ⟨I, n, hI, hB⟩ := h
  have key : ∀ n : Nat, ∀ (u : uS) (G : gS) (M : mS) (v0 : Int32) (v5 : Int32) (v6 : Int32) (H : Heap) (locs : List Loc) (ls : Array Slot), a2 ∈ gL G → gK G a2 = 16 → ext G0 G → uL u b → I n u G M v0 v5 v6 → cX p s m args meth c cJ6_getChars_ba4f3 RJ6 7 (some .int) wsJ6_getChars_ba4f3 D cy G (pA G0 sz) → wd D cy G M (pA G0 sz) s.heap H locs → lv_has ls 7 [(0, .int v0), (2, .ref a2), (5, .int v5), (6, .int v6)] → W p l e (rnJ6_getChars_ba4f3 b) s m args below meth c H locs u.1 u.2 (MQ below (va_Qi (fun (r : Int32) (u : gS × mS) => post u.1 u.2 r) (fun u t => va_P D vwCl (pl cy u.1 u.2) t.heap ∧ va_D (pA G0 sz) (pl cy u.1 u.2) ∧ wt u.1 ∧ ext G0 u.1) (pA G0 sz)) args s b.1 b.2 (pA G0 sz)) (F0 m 22 ls []) := by
    intro n
    induction n using Nat.strongRecOn with
    | ind n ih =>
      intro u G M v0 v5 v6 H locs ls hL2 hK2 hext hu hI cx w hl
      have h := hB n u G M v0 v5 v6 hI
      unfold nb_J6_getChars_ba4f3_22 at h
      obtain ⟨hx, hb, hml, hown, hts, hr, hlocks, hK, hA, hG, hsx⟩ := id cx
      have hR : (rnJ6_getChars_ba4f3 b).cells = b.1 ∧ (rnJ6_getChars_ba4f3 b).slots = b.2 := ⟨rfl, rfl⟩
      refine lv_iload_n hx hb dJ6_getChars_ba4f3_22 rfl (lv_at hl 0 rfl) ?_
      refine lv_bipush (v := (-100 : Int32)) hx hb dJ6_getChars_ba4f3_23 (by decide) ?_
      refine lv_icmp_gt (tgt := 72) hx hb dJ6_getChars_ba4f3_25 (by decide) (fun k1 => ?_) (fun k1 => ?_)
      · have h := w_t h k1
        refine lv_aload_n hx hb dJ6_getChars_ba4f3_72 rfl (lv_at hl 1 rfl) ?_
        obtain ⟨x2, ex2, h⟩ := w_bd h
        refine lv_iinc (v := x2) (lv' := [(5, .int x2), (0, .int v0), (2, .ref a2), (6, .int v6)]) hx hb dJ6_getChars_ba4f3_73 hl (k := 2) rfl (by rw [ex2]; rfl) (by decide) rfl (fun ls hl => ?_)
        refine lv_iload hx hb dJ6_getChars_ba4f3_76 (lv_at hl 0 rfl) ?_
        refine r_getD0 cx w (List.mem_of_getElem? (i := 1) rfl) dJ6_getChars_ba4f3_78 ?_
        refine lv_iload_n hx hb dJ6_getChars_ba4f3_81 rfl (lv_at hl 1 rfl) ?_
        refine lv_ineg hx hb dJ6_getChars_ba4f3_82 ?_
        obtain ⟨z3, h⟩ := w_ix h
        refine r_dald0 cx w z3 dJ6_getChars_ba4f3_83 ?_
        obtain ⟨z4, h⟩ := w_ix h
        obtain ⟨M5, eM5, h⟩ := w_wI h
        refine r_pbast cx w hL2 hK2 z4 dJ6_getChars_ba4f3_84 eM5 (fun H locs w => ?_)
        refine lv_iload_n hx hb dJ6_getChars_ba4f3_85 rfl (lv_at hl 1 rfl) ?_
        refine lv_bipush (v := (-9 : Int32)) hx hb dJ6_getChars_ba4f3_86 (by decide) ?_
        refine lv_icmp_ge (tgt := 104) hx hb dJ6_getChars_ba4f3_88 (by decide) (fun k6 => ?_) (fun k6 => ?_)
        · have h := w_t h k6
          exact bn_J6_getChars_ba4f3_104 hnm u G M5 x2 v6 H locs ls hL2 hK2 hext hu h cx w (lv_sub hl [2, 0, 3] rfl)
        · have h := w_f h k6
          refine lv_aload_n hx hb dJ6_getChars_ba4f3_91 rfl (lv_at hl 2 rfl) ?_
          obtain ⟨x7, ex7, h⟩ := w_bd h
          refine lv_iinc (v := x7) (lv' := [(5, .int x7), (0, .int v0), (2, .ref a2), (6, .int v6)]) hx hb dJ6_getChars_ba4f3_92 hl (k := 0) rfl (by rw [ex7]; rfl) (by decide) rfl (fun ls hl => ?_)
          refine lv_iload hx hb dJ6_getChars_ba4f3_95 (lv_at hl 0 rfl) ?_
          refine r_getD1 cx w (List.mem_of_getElem? (i := 2) rfl) dJ6_getChars_ba4f3_97 ?_
          refine lv_iload_n hx hb dJ6_getChars_ba4f3_100 rfl (lv_at hl 1 rfl) ?_
          refine lv_ineg hx hb dJ6_getChars_ba4f3_101 ?_
          obtain ⟨z8, h⟩ := w_ix h
          refine r_dald1 cx w z8 dJ6_getChars_ba4f3_102 ?_
          obtain ⟨z9, h⟩ := w_ix h
          obtain ⟨M10, eM10, h⟩ := w_wI h
          refine r_pbast cx w hL2 hK2 z9 dJ6_getChars_ba4f3_103 eM10 (fun H locs w => ?_)
          exact bn_J6_getChars_ba4f3_104 hnm u G M10 x7 v6 H locs ls hL2 hK2 hext hu h cx w (lv_sub hl [2, 0, 3] rfl)
      · have h := w_f h k1
        refine lv_iload_n hx hb dJ6_getChars_ba4f3_28 rfl (lv_at hl 0 rfl) ?_
        refine lv_bipush (v := (100 : Int32)) hx hb dJ6_getChars_ba4f3_29 (by decide) ?_
        obtain ⟨z11, h⟩ := w_ck h
        refine lv_idiv hx hb dJ6_getChars_ba4f3_31 z11 ?_
        obtain ⟨x12, ex12, h⟩ := w_bd h
        refine r_topI ex12 ?_
        refine lv_istore_n (lv' := [(3, .int x12), (0, .int v0), (2, .ref a2), (5, .int v5), (6, .int v6)]) hx hb dJ6_getChars_ba4f3_32 rfl hl (by decide) rfl (fun ls hl => ?_)
        refine lv_iload_n hx hb dJ6_getChars_ba4f3_33 rfl (lv_at hl 0 rfl) ?_
        refine lv_bipush (v := (100 : Int32)) hx hb dJ6_getChars_ba4f3_34 (by decide) ?_
        refine lv_imul hx hb dJ6_getChars_ba4f3_36 ?_
        refine lv_iload_n hx hb dJ6_getChars_ba4f3_37 rfl (lv_at hl 1 rfl) ?_
        refine lv_isub hx hb dJ6_getChars_ba4f3_38 ?_
        obtain ⟨x13, ex13, h⟩ := w_bd h
        refine r_topI ex13 ?_
        refine lv_istore (lv' := [(4, .int x13), (3, .int x12), (0, .int v0), (2, .ref a2), (5, .int v5), (6, .int v6)]) hx hb dJ6_getChars_ba4f3_39 hl (by decide) rfl (fun ls hl => ?_)
        refine lv_iload_n hx hb dJ6_getChars_ba4f3_41 rfl (lv_at hl 1 rfl) ?_
        refine lv_istore_n (lv' := [(0, .int x12), (4, .int x13), (3, .int x12), (2, .ref a2), (5, .int v5), (6, .int v6)]) hx hb dJ6_getChars_ba4f3_42 rfl hl (by decide) rfl (fun ls hl => ?_)
        refine lv_aload_n hx hb dJ6_getChars_ba4f3_43 rfl (lv_at hl 3 rfl) ?_
        obtain ⟨x14, ex14, h⟩ := w_bd h
        refine lv_iinc (v := x14) (lv' := [(5, .int x14), (0, .int x12), (4, .int x13), (3, .int x12), (2, .ref a2), (6, .int v6)]) hx hb dJ6_getChars_ba4f3_44 hl (k := 4) rfl (by rw [ex14]; rfl) (by decide) rfl (fun ls hl => ?_)
        refine lv_iload hx hb dJ6_getChars_ba4f3_47 (lv_at hl 0 rfl) ?_
        refine r_getD0 cx w (List.mem_of_getElem? (i := 1) rfl) dJ6_getChars_ba4f3_49 ?_
        refine lv_iload hx hb dJ6_getChars_ba4f3_52 (lv_at hl 2 rfl) ?_
        obtain ⟨z15, h⟩ := w_ix h
        refine r_dald0 cx w z15 dJ6_getChars_ba4f3_54 ?_
        obtain ⟨z16, h⟩ := w_ix h
        obtain ⟨M17, eM17, h⟩ := w_wI h
        refine r_pbast cx w hL2 hK2 z16 dJ6_getChars_ba4f3_55 eM17 (fun H locs w => ?_)
        refine lv_aload_n hx hb dJ6_getChars_ba4f3_56 rfl (lv_at hl 4 rfl) ?_
        obtain ⟨x18, ex18, h⟩ := w_bd h
        refine lv_iinc (v := x18) (lv' := [(5, .int x18), (0, .int x12), (4, .int x13), (3, .int x12), (2, .ref a2), (6, .int v6)]) hx hb dJ6_getChars_ba4f3_57 hl (k := 0) rfl (by rw [ex18]; rfl) (by decide) rfl (fun ls hl => ?_)
        refine lv_iload hx hb dJ6_getChars_ba4f3_60 (lv_at hl 0 rfl) ?_
        refine r_getD1 cx w (List.mem_of_getElem? (i := 2) rfl) dJ6_getChars_ba4f3_62 ?_
        refine lv_iload hx hb dJ6_getChars_ba4f3_65 (lv_at hl 2 rfl) ?_
        obtain ⟨z19, h⟩ := w_ix h
        refine r_dald1 cx w z19 dJ6_getChars_ba4f3_67 ?_
        obtain ⟨z20, h⟩ := w_ix h
        obtain ⟨M21, eM21, h⟩ := w_wI h
        refine r_pbast cx w hL2 hK2 z20 dJ6_getChars_ba4f3_68 eM21 (fun H locs w => ?_)
        refine lv_goto (tgt := 22) hx hb dJ6_getChars_ba4f3_69 (by decide) ?_
        obtain ⟨k, hk, hI⟩ := h
        exact ih k hk u G M21 x12 x18 v6 H locs ls hL2 hK2 hext hu hI cx w (lv_sub hl [1, 4, 0, 5] rfl)
  exact key n u G M v0 v5 v6 H locs ls hL2 hK2 hext hu hI cx w hl
set_option maxHeartbeats 4000000 in
set_option maxRecDepth 100000 in
theorem bn_J6_getChars_ba4f3_12 {p : Program} {l : Launch} {e : Env} {s : State} {m : MethodId} {args : Array Value} {below : List Frame} {meth : Method} {c : Code} {D : va_G} {cy : cyS} {b : uS} {G0 : gS} {sz : Nat} (hnm : meth.name = yJ6_getChars_ba4f3.name)  {c1 : Int32} {a2 : Nat} {post : gS → mS → Int32 → Prop} : ∀ (u : uS) (G : gS) (M : mS) (v0 : Int32) (v5 : Int32) (s0 : Int32) (H : Heap) (locs : List Loc) (ls : Array Slot), a2 ∈ gL G → gK G a2 = 16 → ext G0 G → uL u b → nb_J6_getChars_ba4f3_12 b c1 a2 post u G M v0 v5 s0 → cX p s m args meth c cJ6_getChars_ba4f3 RJ6 7 (some .int) wsJ6_getChars_ba4f3 D cy G (pA G0 sz) → wd D cy G M (pA G0 sz) s.heap H locs → lv_has ls 7 [(0, .int v0), (2, .ref a2), (5, .int v5)] → W p l e (rnJ6_getChars_ba4f3 b) s m args below meth c H locs u.1 u.2 (MQ below (va_Qi (fun (r : Int32) (u : gS × mS) => post u.1 u.2 r) (fun u t => va_P D vwCl (pl cy u.1 u.2) t.heap ∧ va_D (pA G0 sz) (pl cy u.1 u.2) ∧ wt u.1 ∧ ext G0 u.1) (pA G0 sz)) args s b.1 b.2 (pA G0 sz)) (F0 m 12 ls [.int s0]) := by
  intro u G M v0 v5 s0 H locs ls hL2 hK2 hext hu h cx w hl
  unfold nb_J6_getChars_ba4f3_12 at h
  obtain ⟨hx, hb, hml, hown, hts, hr, hlocks, hK, hA, hG, hsx⟩ := id cx
  have hR : (rnJ6_getChars_ba4f3 b).cells = b.1 ∧ (rnJ6_getChars_ba4f3 b).slots = b.2 := ⟨rfl, rfl⟩
  refine lv_istore (lv' := [(6, .int s0), (0, .int v0), (2, .ref a2), (5, .int v5)]) hx hb dJ6_getChars_ba4f3_12 hl (by decide) rfl (fun ls hl => ?_)
  refine lv_iload hx hb dJ6_getChars_ba4f3_14 (lv_at hl 0 rfl) ?_
  refine lv_if_ne (tgt := 22) hx hb dJ6_getChars_ba4f3_16 (by decide) (fun k1 => ?_) (fun k1 => ?_)
  · have h := w_f h k1
    exact bn_J6_getChars_ba4f3_22 hnm u G M v0 v5 s0 H locs ls hL2 hK2 hext hu h cx w (lv_sub hl [1, 2, 3, 0] rfl)
  · have h := w_t h k1
    refine lv_iload_n hx hb dJ6_getChars_ba4f3_19 rfl (lv_at hl 1 rfl) ?_
    refine lv_ineg hx hb dJ6_getChars_ba4f3_20 ?_
    obtain ⟨x2, ex2, h⟩ := w_bd h
    refine r_topI ex2 ?_
    refine lv_istore_n (lv' := [(0, .int x2), (6, .int s0), (2, .ref a2), (5, .int v5)]) hx hb dJ6_getChars_ba4f3_21 rfl hl (by decide) rfl (fun ls hl => ?_)
    exact bn_J6_getChars_ba4f3_22 hnm u G M x2 v5 s0 H locs ls hL2 hK2 hext hu h cx w (lv_sub hl [0, 2, 3, 1] rfl)
set_option maxHeartbeats 4000000 in
set_option maxRecDepth 100000 in
theorem kn_J6_getChars_ba4f3 {l : Launch} {D : va_G} {cy : cyS} {G : gS} {M : mS} {b : uS} {v0 : Int32} {c1 : Int32} {a2 : Nat} {post : gS → mS → Int32 → Prop} (hG : wt G) (hL2 : a2 ∈ gL G) (hK2 : gK G a2 = 16) (h : n_J6_getChars_ba4f3 b G M v0 c1 a2 post) : cbI l yJ6_getChars_ba4f3 wsJ6_getChars_ba4f3 (rnJ6_getChars_ba4f3 b) D cy G M [.int v0, .int c1, .ref a2] b post := by
  unfold n_J6_getChars_ba4f3 at h
  refine cbI_of (cc := cJ6_getChars_ba4f3) (nL := 7) (ret := (some .int)) (lv := [(0, .int v0), (1, .int c1), (2, .ref a2)]) hG (by decide) rfl (Nat.le_of_ble_eq_true rfl) rfl ?_
  intro p e s m args below meth c sz ls hnm cx w hl
  obtain ⟨hx, hb, hml, hown, hts, hr, hlocks, hK, hA, -, hsx⟩ := id cx
  have hext := ext_rf (G := G)
  have hu : uL (0, 0) b := ⟨Nat.zero_le _, Nat.zero_le _⟩
  have hR : (rnJ6_getChars_ba4f3 b).cells = b.1 ∧ (rnJ6_getChars_ba4f3 b).slots = b.2 := ⟨rfl, rfl⟩
  refine lv_iload_n hx hb dJ6_getChars_ba4f3_0 rfl (lv_at hl 1 rfl) ?_
  refine lv_istore (lv' := [(5, .int c1), (0, .int v0), (1, .int c1), (2, .ref a2)]) hx hb dJ6_getChars_ba4f3_1 hl (by decide) rfl (fun ls hl => ?_)
  refine lv_iload_n hx hb dJ6_getChars_ba4f3_3 rfl (lv_at hl 1 rfl) ?_
  refine lv_if_ge (tgt := 11) hx hb dJ6_getChars_ba4f3_4 (by decide) (fun k1 => ?_) (fun k1 => ?_)
  · have h := w_t h k1
    refine lv_iconst (v := (0 : Int32)) hx hb dJ6_getChars_ba4f3_11 (by decide) ?_
    exact bn_J6_getChars_ba4f3_12 hnm (0, 0) G M v0 c1 ((0 : Int32)) s.heap [] ls hL2 hK2 hext hu h cx w (lv_sub hl [1, 3, 0] rfl)
  · have h := w_f h k1
    refine lv_iconst (v := (1 : Int32)) hx hb dJ6_getChars_ba4f3_7 (by decide) ?_
    refine lv_goto (tgt := 12) hx hb dJ6_getChars_ba4f3_8 (by decide) ?_
    exact bn_J6_getChars_ba4f3_12 hnm (0, 0) G M v0 c1 ((1 : Int32)) s.heap [] ls hL2 hK2 hext hu h cx w (lv_sub hl [1, 3, 0] rfl)
-- J5_append_c97b9
theorem wb_J5_append_c97b9_J4 : ∀ w ∈ wsJ40, w ∈ wsJ5_append_c97b9 := by decide +kernel
abbrev rnJ5_append_c97b9 (b : uS) : Room := { frames := 4, cells := b.1, slots := b.2, locals := 130 }
def nb_J5_append_c97b9_48 (b : uS) (a0 : Nat) (c1 : Int32) (post : gS → mS → Nat → Prop) (u : uS) (G : gS) (M : mS) (v3 : Int32) : Prop := p_wI M a0 3 v3 (fun M1 => post G M1 a0)
def n_J5_append_c97b9 (b : uS) (G : gS) (M : mS) (a0 : Nat) (c1 : Int32) (post : gS → mS → Nat → Prop) : Prop := p_bd ((mI M a0 3)) (fun x1 => q_ca b (0, 0) (fun v => n_J6_stringSize_0f7a4 v G M c1) (fun u4 G2 M3 r5 => p_bd ((x1 + r5)) (fun x6 => q_ca b u4 (fun v => n_J5_ensureCapacityInternal_d00df v G2 M3 a0 x6) (fun u9 G7 M8 r10 => q_ca b u9 (fun v => n_J5_isLatin1_aae02 v G7 M8 a0) (fun u13 G11 M12 r14 => p_if (r14 = 0) (False) (p_rf (gP G11 a0 0) (fun q16 => q_ca b u13 (fun v => n_J6_getChars_ba4f3 v G11 M12 c1 x6 q16) (fun u19 G17 M18 r20 => nb_J5_append_c97b9_48 b a0 c1 post u19 G17 M18 x6))))))))
set_option maxHeartbeats 4000000 in
set_option maxRecDepth 100000 in
theorem bn_J5_append_c97b9_48 {p : Program} {l : Launch} {e : Env} {s : State} {m : MethodId} {args : Array Value} {below : List Frame} {meth : Method} {c : Code} {D : va_G} {cy : cyS} {b : uS} {G0 : gS} {sz : Nat} (hnm : meth.name = yJ5_append_c97b9.name)  {a0 : Nat} {c1 : Int32} {post : gS → mS → Nat → Prop} : ∀ (u : uS) (G : gS) (M : mS) (v3 : Int32) (H : Heap) (locs : List Loc) (ls : Array Slot), a0 ∈ gL G → gK G a0 = 11 → ext G0 G → uL u b → nb_J5_append_c97b9_48 b a0 c1 post u G M v3 → cX p s m args meth c cJ5_append_c97b9 RJ5 4 (some (.object "java/lang/AbstractStringBuilder")) wsJ5_append_c97b9 D cy G (pA G0 sz) → wd D cy G M (pA G0 sz) s.heap H locs → lv_has ls 4 [(0, .ref a0), (3, .int v3)] → W p l e (rnJ5_append_c97b9 b) s m args below meth c H locs u.1 u.2 (MQ below (va_Qr (fun (u : gS × mS × Nat) => post u.1 u.2.1 u.2.2) (fun u x t => x = u.2.2 ∧ (x ∈ gL u.1 ∧ gK u.1 x = 11) ∧ va_P D vwCl (pl cy u.1 u.2.1) t.heap ∧ va_D (pA G0 sz) (pl cy u.1 u.2.1) ∧ wt u.1 ∧ ext G0 u.1) (pA G0 sz)) args s b.1 b.2 (pA G0 sz)) (F0 m 48 ls []) := by
  intro u G M v3 H locs ls hL0 hK0 hext hu h cx w hl
  unfold nb_J5_append_c97b9_48 at h
  obtain ⟨hx, hb, hml, hown, hts, hr, hlocks, hK, hA, hG, hsx⟩ := id cx
  have hR : (rnJ5_append_c97b9 b).cells = b.1 ∧ (rnJ5_append_c97b9 b).slots = b.2 := ⟨rfl, rfl⟩
  refine lv_aload_n hx hb dJ5_append_c97b9_48 rfl (lv_at hl 0 rfl) ?_
  refine lv_iload_n hx hb dJ5_append_c97b9_49 rfl (lv_at hl 1 rfl) ?_
  obtain ⟨M1, eM1, h⟩ := w_wI h
  refine r_putI (k := 3) (ty := .int) cx w tyJ4 tyJ4_ok nmJ4 hL0 hK0 (by decide) rfl wb_J5_append_c97b9_J4 (by decide) rfl rfl rfl rfl st_11_3 (ln_11 _ _ (by decide)) (List.mem_of_getElem? (i := 1) rfl) dJ5_append_c97b9_50 eM1 (fun H locs w => ?_)
  refine lv_aload_n hx hb dJ5_append_c97b9_53 rfl (lv_at hl 0 rfl) ?_
  exact rb_aret (Or.inl ⟨_, rfl⟩) hL0 hK0 h cx w hext hu dJ5_append_c97b9_54
set_option maxHeartbeats 4000000 in
set_option maxRecDepth 100000 in
theorem kn_J5_append_c97b9 {l : Launch} {D : va_G} {cy : cyS} {G : gS} {M : mS} {b : uS} {a0 : Nat} {c1 : Int32} {post : gS → mS → Nat → Prop} (hG : wt G) (hL0 : a0 ∈ gL G) (hK0 : gK G a0 = 11) (h : n_J5_append_c97b9 b G M a0 c1 post) : cbR 11 l yJ5_append_c97b9 wsJ5_append_c97b9 (rnJ5_append_c97b9 b) D cy G M [.ref a0, .int c1] b post := by
  unfold n_J5_append_c97b9 at h
  refine cbR_of (cc := cJ5_append_c97b9) (nL := 4) (ret := (some (.object "java/lang/AbstractStringBuilder"))) (lv := [(0, .ref a0), (1, .int c1)]) hG (by decide) rfl (Nat.le_of_ble_eq_true rfl) rfl ?_
  intro p e s m args below meth c sz ls hnm cx w hl
  obtain ⟨hx, hb, hml, hown, hts, hr, hlocks, hK, hA, -, hsx⟩ := id cx
  have hext := ext_rf (G := G)
  have hu : uL (0, 0) b := ⟨Nat.zero_le _, Nat.zero_le _⟩
  have hR : (rnJ5_append_c97b9 b).cells = b.1 ∧ (rnJ5_append_c97b9 b).slots = b.2 := ⟨rfl, rfl⟩
  refine lv_aload_n hx hb dJ5_append_c97b9_0 rfl (lv_at hl 0 rfl) ?_
  refine r_getI (k := 3) (v := .int (mI M a0 3)) cx w hL0 hK0 (by decide) rfl wb_J5_append_c97b9_J4 (by decide) rfl (List.mem_of_getElem? (i := 1) rfl) dJ5_append_c97b9_1 ?_
  obtain ⟨x1, ex1, h⟩ := w_bd h
  refine r_topI ex1 ?_
  refine lv_istore_n (lv' := [(2, .int x1), (0, .ref a0), (1, .int c1)]) hx hb dJ5_append_c97b9_4 rfl hl (by decide) rfl (fun ls hl => ?_)
  refine lv_iload_n hx hb dJ5_append_c97b9_5 rfl (lv_at hl 0 rfl) ?_
  refine lv_iload_n hx hb dJ5_append_c97b9_6 rfl (lv_at hl 2 rfl) ?_
  refine rb_SI (b := b) (u := (0, 0)) (rf := 0) (rl := 0) (As := [.int c1]) (rest := [.int x1]) cx w hR hl.1 h (fun h => kn_J6_stringSize_0f7a4 hG h) (fun v => va_cwS 1 hts gJ5_append_c97b9_J6_stringSize_0f7a4 rfl rfl rfl (by decide +kernel) ⟨(Nat.le_of_ble_eq_true rfl), (Nat.le_of_ble_eq_true rfl)⟩) rfl rfl (Nat.le_of_ble_eq_true rfl) dJ5_append_c97b9_7 (fun u4 G2 M3 r5 H locs h hu xe cx w => ?_)
  obtain ⟨hL0, hK0⟩ := ext_wt xe hL0 hK0
  have hext := ext_tr hext xe
  clear xe
  have hG := cX_wt cx
  refine lv_iadd hx hb dJ5_append_c97b9_10 ?_
  obtain ⟨x6, ex6, h⟩ := w_bd h
  refine r_topI ex6 ?_
  refine lv_istore_n (lv' := [(3, .int x6), (2, .int x1), (0, .ref a0), (1, .int c1)]) hx hb dJ5_append_c97b9_11 rfl hl (by decide) rfl (fun ls hl => ?_)
  refine lv_aload_n hx hb dJ5_append_c97b9_12 rfl (lv_at hl 2 rfl) ?_
  refine lv_iload_n hx hb dJ5_append_c97b9_13 rfl (lv_at hl 0 rfl) ?_
  refine rb_UV (b := b) (u := u4) (rf := 3) (rl := 108) (As := [.int x6]) (rest := []) cx w hR hl.1 h (fun h => kn_J5_ensureCapacityInternal_d00df hG hL0 hK0 h) (fun v => va_cwU (x := ⟨"java/lang/AbstractStringBuilder", "ensureCapacityInternal", "(I)V"⟩) 1 hts gJ5_append_c97b9_J5_ensureCapacityInternal_d00df_u100J4 rfl rfl rfl rfl (by decide +kernel) ⟨(Nat.le_of_ble_eq_true rfl), (Nat.le_of_ble_eq_true rfl)⟩) hL0 hK0 (by decide) rfl rfl rfl (Nat.le_of_ble_eq_true rfl) dJ5_append_c97b9_14 (fun u9 G7 M8 r10 H locs h hu xe cx w => ?_)
  obtain ⟨hL0, hK0⟩ := ext_wt xe hL0 hK0
  have hext := ext_tr hext xe
  clear xe
  have hG := cX_wt cx
  refine lv_aload_n hx hb dJ5_append_c97b9_17 rfl (lv_at hl 2 rfl) ?_
  refine rb_UI (b := b) (u := u9) (rf := 0) (rl := 0) (As := []) (rest := []) cx w hR hl.1 h (fun h => kn_J5_isLatin1_aae02 hG hL0 hK0 h) (fun v => va_cwU (x := ⟨"java/lang/AbstractStringBuilder", "isLatin1", "()Z"⟩) 0 hts gJ5_append_c97b9_J5_isLatin1_aae02_u83J4 rfl rfl rfl rfl (by decide +kernel) ⟨(Nat.le_of_ble_eq_true rfl), (Nat.le_of_ble_eq_true rfl)⟩) hL0 hK0 (by decide) rfl rfl rfl (Nat.le_of_ble_eq_true rfl) dJ5_append_c97b9_18 (fun u13 G11 M12 r14 H locs h hu xe cx w => ?_)
  obtain ⟨hL0, hK0⟩ := ext_wt xe hL0 hK0
  have hext := ext_tr hext xe
  clear xe
  have hG := cX_wt cx
  refine lv_if_eq (tgt := 37) hx hb dJ5_append_c97b9_21 (by decide) (fun k15 => ?_) (fun k15 => ?_)
  · have h := w_t h k15
    exact h.elim
  · have h := w_f h k15
    refine lv_iload_n hx hb dJ5_append_c97b9_24 rfl (lv_at hl 3 rfl) ?_
    refine lv_iload_n hx hb dJ5_append_c97b9_25 rfl (lv_at hl 0 rfl) ?_
    refine lv_aload_n hx hb dJ5_append_c97b9_26 rfl (lv_at hl 2 rfl) ?_
    obtain ⟨q16, eq16, h⟩ := w_rf h
    obtain ⟨hLq16, hKq16⟩ := wt_q hG hL0 hK0 eq16
    have hKq16 : gK G11 q16 = 16 := hKq16
    refine r_getR (k := 0) cx w hL0 hK0 (by decide) rfl wb_J5_append_c97b9_J4 (by decide) rfl eq16 (List.mem_of_getElem? (i := 2) rfl) dJ5_append_c97b9_27 ?_
    refine rb_SI (b := b) (u := u13) (rf := 0) (rl := 0) (As := [.int c1, .int x6, .ref q16]) (rest := []) cx w hR hl.1 h (fun h => kn_J6_getChars_ba4f3 hG hLq16 hKq16 h) (fun v => va_cwS 3 hts gJ5_append_c97b9_J6_getChars_ba4f3 rfl rfl rfl (by decide +kernel) ⟨(Nat.le_of_ble_eq_true rfl), (Nat.le_of_ble_eq_true rfl)⟩) rfl rfl (Nat.le_of_ble_eq_true rfl) dJ5_append_c97b9_30 (fun u19 G17 M18 r20 H locs h hu xe cx w => ?_)
    obtain ⟨hL0, hK0⟩ := ext_wt xe hL0 hK0
    have hext := ext_tr hext xe
    clear xe
    have hG := cX_wt cx
    refine lv_pop hx hb dJ5_append_c97b9_33 rfl ?_
    refine lv_goto (tgt := 48) hx hb dJ5_append_c97b9_34 (by decide) ?_
    exact bn_J5_append_c97b9_48 hnm u19 G17 M18 x6 H locs ls hL0 hK0 hext hu h cx w (lv_sub hl [2, 0] rfl)
-- J5_init_d00df
theorem wb_J5_init_d00df_J4 : ∀ w ∈ wsJ40, w ∈ wsJ5_init_d00df := by decide +kernel
abbrev rnJ5_init_d00df (b : uS) : Room := { frames := 1, cells := b.1, slots := b.2, locals := 60 }
def nb_J5_init_d00df_38 (b : uS) (a0 : Nat) (c1 : Int32) (post : gS → mS → Unit → Prop) (u : uS) (G : gS) (M : mS) : Prop := post G M ()
def n_J5_init_d00df (b : uS) (G : gS) (M : mS) (a0 : Nat) (c1 : Int32) (post : gS → mS → Unit → Prop) : Prop := p_if ((1 : Int32) = 0) (False) (q_na b (0, 0) G M 16 c1 (fun q2 u5 G3 M4 => p_sR G3 a0 0 q2 (fun G6 => p_ck ((Int32.toInt8 (0 : Int32)).toInt32 = (0 : Int32)) (p_wI M4 a0 1 (0 : Int32) (fun M8 => nb_J5_init_d00df_38 b a0 c1 post u5 G6 M8)))))
set_option maxHeartbeats 4000000 in
set_option maxRecDepth 100000 in
theorem bn_J5_init_d00df_38 {p : Program} {l : Launch} {e : Env} {s : State} {m : MethodId} {args : Array Value} {below : List Frame} {meth : Method} {c : Code} {D : va_G} {cy : cyS} {b : uS} {G0 : gS} {sz : Nat} (hnm : meth.name = yJ5_init_d00df.name)  {a0 : Nat} {c1 : Int32} {post : gS → mS → Unit → Prop} : ∀ (u : uS) (G : gS) (M : mS) (H : Heap) (locs : List Loc) (ls : Array Slot), a0 ∈ gL G → gK G a0 = 11 → ext G0 G → uL u b → nb_J5_init_d00df_38 b a0 c1 post u G M → cX p s m args meth c cJ5_init_d00df RJ5 2 none wsJ5_init_d00df D cy G (pA G0 sz) → wd D cy G M (pA G0 sz) s.heap H locs → lv_has ls 2 [] → W p l e (rnJ5_init_d00df b) s m args below meth c H locs u.1 u.2 (MQ below (va_Qv (fun (u : gS × mS) => post u.1 u.2 ()) (fun u t => va_P D vwCl (pl cy u.1 u.2) t.heap ∧ va_D (pA G0 sz) (pl cy u.1 u.2) ∧ wt u.1 ∧ ext G0 u.1) (pA G0 sz)) args s b.1 b.2 (pA G0 sz)) (F0 m 38 ls []) := by
  intro u G M H locs ls hL0 hK0 hext hu h cx w hl
  unfold nb_J5_init_d00df_38 at h
  obtain ⟨hx, hb, hml, hown, hts, hr, hlocks, hK, hA, hG, hsx⟩ := id cx
  have hR : (rnJ5_init_d00df b).cells = b.1 ∧ (rnJ5_init_d00df b).slots = b.2 := ⟨rfl, rfl⟩
  exact rb_vret h cx w hext hu dJ5_init_d00df_38
set_option maxHeartbeats 4000000 in
set_option maxRecDepth 100000 in
theorem kn_J5_init_d00df {l : Launch} {D : va_G} {cy : cyS} {G : gS} {M : mS} {b : uS} {a0 : Nat} {c1 : Int32} {post : gS → mS → Unit → Prop} (hG : wt G) (hL0 : a0 ∈ gL G) (hK0 : gK G a0 = 11) (h : n_J5_init_d00df b G M a0 c1 post) : cbV l yJ5_init_d00df wsJ5_init_d00df (rnJ5_init_d00df b) D cy G M [.ref a0, .int c1] b post := by
  unfold n_J5_init_d00df at h
  refine cbV_of (cc := cJ5_init_d00df) (nL := 2) (lv := [(0, .ref a0), (1, .int c1)]) hG (by decide) rfl (Nat.le_of_ble_eq_true rfl) rfl ?_
  intro p e s m args below meth c sz ls hnm cx w hl
  obtain ⟨hx, hb, hml, hown, hts, hr, hlocks, hK, hA, -, hsx⟩ := id cx
  have hext := ext_rf (G := G)
  have hu : uL (0, 0) b := ⟨Nat.zero_le _, Nat.zero_le _⟩
  have hR : (rnJ5_init_d00df b).cells = b.1 ∧ (rnJ5_init_d00df b).slots = b.2 := ⟨rfl, rfl⟩
  refine lv_aload_n hx hb dJ5_init_d00df_0 rfl (lv_at hl 0 rfl) ?_
  refine W.objInit hx hb hown (hts (.methodLink RJ5 3 objectInit) (List.mem_of_getElem? (i := 1) rfl)) (hts (.instanceMethod objectInit) (List.mem_of_getElem? (i := 2) rfl)) (hts _ (List.mem_of_getElem? (i := 3) rfl)) rfl (by rw [hml]; exact hl.1) rfl dJ5_init_d00df_1 (Nat.le_of_ble_eq_true rfl) (Nat.le_of_ble_eq_true rfl) ?_
  refine W.eq (g2 := F0 m 4 ls []) rfl ?_
  refine r_getC cx w (List.mem_of_getElem? (i := 4) rfl) dJ5_init_d00df_4 ?_
  refine lv_if_eq (tgt := 25) hx hb dJ5_init_d00df_7 (by decide) (fun k1 => ?_) (fun k1 => ?_)
  · have h := w_t h k1
    exact h.elim
  · have h := w_f h k1
    refine lv_aload_n hx hb dJ5_init_d00df_10 rfl (lv_at hl 0 rfl) ?_
    refine lv_iload_n hx hb dJ5_init_d00df_11 rfl (lv_at hl 1 rfl) ?_
    refine rb_newB (b := b) (u := (0, 0)) cx w hR (List.mem_of_getElem? (i := 5) rfl) h dJ5_init_d00df_12 (fun q2 u5 G3 M4 H h hu xe hLq2 hKq2 cx w => ?_)
    obtain ⟨hL0, hK0⟩ := ext_wt xe hL0 hK0
    have hext := ext_tr hext xe
    clear xe
    have hG := cX_wt cx
    refine rb_putR (k0 := 0) cx w tyJ4 tyJ4_ok nmJ4 hL0 hK0 (by decide) rfl wb_J5_init_d00df_J4 (by decide) rfl (tyJ4_ok 0 (by decide)) rfl rfl sr_11_0 (ln_11 _ _ (by decide)) hLq2 hKq2 (List.mem_of_getElem? (i := 6) rfl) h dJ5_init_d00df_14 (fun G6 H locs h xe cx w => ?_)
    obtain ⟨hL0, hK0⟩ := ext_wt xe hL0 hK0
    have hext := ext_tr hext xe
    clear xe
    have hG := cX_wt cx
    refine lv_aload_n hx hb dJ5_init_d00df_17 rfl (lv_at hl 0 rfl) ?_
    refine lv_iconst (v := (0 : Int32)) hx hb dJ5_init_d00df_18 (by decide) ?_
    obtain ⟨z7, h⟩ := w_ck h
    obtain ⟨M8, eM8, h⟩ := w_wI h
    refine r_putI (k := 1) (ty := .byte) cx w tyJ4 tyJ4_ok nmJ4 hL0 hK0 (by decide) rfl wb_J5_init_d00df_J4 (by decide) rfl rfl (z_byte z7) (z_bfit z7) st_11_1 (ln_11 _ _ (by decide)) (List.mem_of_getElem? (i := 7) rfl) dJ5_init_d00df_19 eM8 (fun H locs w => ?_)
    refine lv_goto (tgt := 38) hx hb dJ5_init_d00df_22 (by decide) ?_
    exact bn_J5_init_d00df_38 hnm u5 G6 M8 H locs ls hL0 hK0 hext hu h cx w (lv_sub hl [] rfl)
-- J4_init_da8c8
abbrev rnJ4_init_da8c8 (b : uS) : Room := { frames := 2, cells := b.1, slots := b.2, locals := 81 }
def n_J4_init_da8c8 (b : uS) (G : gS) (M : mS) (a0 : Nat) (post : gS → mS → Unit → Prop) : Prop := q_ca b (0, 0) (fun v => n_J5_init_d00df v G M a0 (16 : Int32)) (fun u3 G1 M2 r4 => post G1 M2 ())
set_option maxHeartbeats 4000000 in
set_option maxRecDepth 100000 in
theorem kn_J4_init_da8c8 {l : Launch} {D : va_G} {cy : cyS} {G : gS} {M : mS} {b : uS} {a0 : Nat} {post : gS → mS → Unit → Prop} (hG : wt G) (hL0 : a0 ∈ gL G) (hK0 : gK G a0 = 11) (h : n_J4_init_da8c8 b G M a0 post) : cbV l yJ4_init_da8c8 wsJ4_init_da8c8 (rnJ4_init_da8c8 b) D cy G M [.ref a0] b post := by
  unfold n_J4_init_da8c8 at h
  refine cbV_of (cc := cJ4_init_da8c8) (nL := 1) (lv := [(0, .ref a0)]) hG (by decide) rfl (Nat.le_of_ble_eq_true rfl) rfl ?_
  intro p e s m args below meth c sz ls hnm cx w hl
  obtain ⟨hx, hb, hml, hown, hts, hr, hlocks, hK, hA, -, hsx⟩ := id cx
  have hext := ext_rf (G := G)
  have hu : uL (0, 0) b := ⟨Nat.zero_le _, Nat.zero_le _⟩
  have hR : (rnJ4_init_da8c8 b).cells = b.1 ∧ (rnJ4_init_da8c8 b).slots = b.2 := ⟨rfl, rfl⟩
  refine lv_aload_n hx hb dJ4_init_da8c8_0 rfl (lv_at hl 0 rfl) ?_
  refine lv_bipush (v := (16 : Int32)) hx hb dJ4_init_da8c8_1 (by decide) ?_
  refine rb_NV (b := b) (u := (0, 0)) (rf := 1) (rl := 60) (As := [.int ((16 : Int32))]) (rest := []) cx w hR hl.1 h (fun h => kn_J5_init_d00df hG hL0 hK0 h) (fun v => cwI 1 hts gJ4_init_da8c8_J5_init_d00df rfl rfl rfl (hts _ (List.mem_of_getElem? (i := 3) rfl)) (hts _ (List.mem_of_getElem? (i := 1) rfl)) (hts _ (List.mem_of_getElem? (i := 2) rfl)) rfl (by decide +kernel) ⟨(Nat.le_of_ble_eq_true rfl), (Nat.le_of_ble_eq_true rfl)⟩) rfl rfl (Nat.le_of_ble_eq_true rfl) dJ4_init_da8c8_3 (fun u3 G1 M2 r4 H locs h hu xe cx w => ?_)
  obtain ⟨hL0, hK0⟩ := ext_wt xe hL0 hK0
  have hext := ext_tr hext xe
  clear xe
  have hG := cX_wt cx
  exact rb_vret h cx w hext hu dJ4_init_da8c8_6
-- J4_append_15ec4
abbrev rnJ4_append_15ec4 (b : uS) : Room := { frames := 5, cells := b.1, slots := b.2, locals := 152 }
def n_J4_append_15ec4 (b : uS) (G : gS) (M : mS) (a0 : Nat) (a1 : Nat) (post : gS → mS → Nat → Prop) : Prop := q_ca b (0, 0) (fun v => n_J5_append_cf1ce v G M a0 a1) (fun u3 G1 M2 r4 => post G1 M2 a0)
set_option maxHeartbeats 4000000 in
set_option maxRecDepth 100000 in
theorem kn_J4_append_15ec4 {l : Launch} {D : va_G} {cy : cyS} {G : gS} {M : mS} {b : uS} {a0 : Nat} {a1 : Nat} {post : gS → mS → Nat → Prop} (hG : wt G) (hL0 : a0 ∈ gL G) (hK0 : gK G a0 = 11) (hi1 : a1 < 36) (h : n_J4_append_15ec4 b G M a0 a1 post) : cbR 11 l yJ4_append_15ec4 wsJ4_append_15ec4 (rnJ4_append_15ec4 b) D cy G M [.ref a0, .ref (stK D a1)] b post := by
  unfold n_J4_append_15ec4 at h
  refine cbR_of (cc := cJ4_append_15ec4) (nL := 2) (ret := (some (.object "java/lang/StringBuilder"))) (lv := [(0, .ref a0), (1, .ref (stK D a1))]) hG (by decide) rfl (Nat.le_of_ble_eq_true rfl) rfl ?_
  intro p e s m args below meth c sz ls hnm cx w hl
  obtain ⟨hx, hb, hml, hown, hts, hr, hlocks, hK, hA, -, hsx⟩ := id cx
  have hext := ext_rf (G := G)
  have hu : uL (0, 0) b := ⟨Nat.zero_le _, Nat.zero_le _⟩
  have hR : (rnJ4_append_15ec4 b).cells = b.1 ∧ (rnJ4_append_15ec4 b).slots = b.2 := ⟨rfl, rfl⟩
  refine lv_aload_n hx hb dJ4_append_15ec4_0 rfl (lv_at hl 0 rfl) ?_
  refine lv_aload_n hx hb dJ4_append_15ec4_1 rfl (lv_at hl 1 rfl) ?_
  refine rb_YR (kr := 11) (b := b) (u := (0, 0)) (rf := 4) (rl := 130) (As := [.ref (stK D a1)]) (rest := []) cx w hR hl.1 h (fun h => kn_J5_append_cf1ce hG hL0 hK0 hi1 h) (fun v => va_cwSU 1 hts gJ4_append_15ec4_J5_append_cf1ce_s29 rfl rfl rfl (by decide +kernel) ⟨(Nat.le_of_ble_eq_true rfl), (Nat.le_of_ble_eq_true rfl)⟩) hL0 hK0 (by decide) rfl rfl rfl (Nat.le_of_ble_eq_true rfl) dJ4_append_15ec4_2 (fun u3 G1 M2 r4 H locs h hu xe hLr4 hKr4 cx w => ?_)
  obtain ⟨hL0, hK0⟩ := ext_wt xe hL0 hK0
  have hext := ext_tr hext xe
  clear xe
  have hG := cX_wt cx
  refine lv_pop hx hb dJ4_append_15ec4_5 rfl ?_
  refine lv_aload_n hx hb dJ4_append_15ec4_6 rfl (lv_at hl 0 rfl) ?_
  exact rb_aret (Or.inl ⟨_, rfl⟩) hL0 hK0 h cx w hext hu dJ4_append_15ec4_7
-- J4_append_15ec4p
abbrev rnJ4_append_15ec4p (b : uS) : Room := { frames := 5, cells := b.1, slots := b.2, locals := 152 }
def n_J4_append_15ec4p (b : uS) (G : gS) (M : mS) (a0 : Nat) (a1 : Nat) (post : gS → mS → Nat → Prop) : Prop := q_ca b (0, 0) (fun v => n_J5_append_cf1cep v G M a0 a1) (fun u3 G1 M2 r4 => post G1 M2 a0)
set_option maxHeartbeats 4000000 in
set_option maxRecDepth 100000 in
theorem kn_J4_append_15ec4p {l : Launch} {D : va_G} {cy : cyS} {G : gS} {M : mS} {b : uS} {a0 : Nat} {a1 : Nat} {post : gS → mS → Nat → Prop} (hG : wt G) (hL0 : a0 ∈ gL G) (hK0 : gK G a0 = 11) (hL1 : a1 ∈ gL G) (hK1 : gK G a1 = 10) (h : n_J4_append_15ec4p b G M a0 a1 post) : cbR 11 l yJ4_append_15ec4 wsJ4_append_15ec4 (rnJ4_append_15ec4p b) D cy G M [.ref a0, .ref a1] b post := by
  unfold n_J4_append_15ec4p at h
  refine cbR_of (cc := cJ4_append_15ec4) (nL := 2) (ret := (some (.object "java/lang/StringBuilder"))) (lv := [(0, .ref a0), (1, .ref a1)]) hG (by decide) rfl (Nat.le_of_ble_eq_true rfl) rfl ?_
  intro p e s m args below meth c sz ls hnm cx w hl
  obtain ⟨hx, hb, hml, hown, hts, hr, hlocks, hK, hA, -, hsx⟩ := id cx
  have hext := ext_rf (G := G)
  have hu : uL (0, 0) b := ⟨Nat.zero_le _, Nat.zero_le _⟩
  have hR : (rnJ4_append_15ec4p b).cells = b.1 ∧ (rnJ4_append_15ec4p b).slots = b.2 := ⟨rfl, rfl⟩
  refine lv_aload_n hx hb dJ4_append_15ec4_0 rfl (lv_at hl 0 rfl) ?_
  refine lv_aload_n hx hb dJ4_append_15ec4_1 rfl (lv_at hl 1 rfl) ?_
  refine rb_YR (kr := 11) (b := b) (u := (0, 0)) (rf := 4) (rl := 130) (As := [.ref a1]) (rest := []) cx w hR hl.1 h (fun h => kn_J5_append_cf1cep hG hL0 hK0 hL1 hK1 h) (fun v => va_cwSU 1 hts gJ4_append_15ec4_J5_append_cf1ce_s29 rfl rfl rfl (by decide +kernel) ⟨(Nat.le_of_ble_eq_true rfl), (Nat.le_of_ble_eq_true rfl)⟩) hL0 hK0 (by decide) rfl rfl rfl (Nat.le_of_ble_eq_true rfl) dJ4_append_15ec4_2 (fun u3 G1 M2 r4 H locs h hu xe hLr4 hKr4 cx w => ?_)
  obtain ⟨hL0, hK0⟩ := ext_wt xe hL0 hK0
  obtain ⟨hL1, hK1⟩ := ext_wt xe hL1 hK1
  have hext := ext_tr hext xe
  clear xe
  have hG := cX_wt cx
  refine lv_pop hx hb dJ4_append_15ec4_5 rfl ?_
  refine lv_aload_n hx hb dJ4_append_15ec4_6 rfl (lv_at hl 0 rfl) ?_
  exact rb_aret (Or.inl ⟨_, rfl⟩) hL0 hK0 h cx w hext hu dJ4_append_15ec4_7
-- J4_append_bf812
abbrev rnJ4_append_bf812 (b : uS) : Room := { frames := 5, cells := b.1, slots := b.2, locals := 153 }
def n_J4_append_bf812 (b : uS) (G : gS) (M : mS) (a0 : Nat) (c1 : Int32) (post : gS → mS → Nat → Prop) : Prop := q_ca b (0, 0) (fun v => n_J5_append_c97b9 v G M a0 c1) (fun u3 G1 M2 r4 => post G1 M2 a0)
set_option maxHeartbeats 4000000 in
set_option maxRecDepth 100000 in
theorem kn_J4_append_bf812 {l : Launch} {D : va_G} {cy : cyS} {G : gS} {M : mS} {b : uS} {a0 : Nat} {c1 : Int32} {post : gS → mS → Nat → Prop} (hG : wt G) (hL0 : a0 ∈ gL G) (hK0 : gK G a0 = 11) (h : n_J4_append_bf812 b G M a0 c1 post) : cbR 11 l yJ4_append_bf812 wsJ4_append_bf812 (rnJ4_append_bf812 b) D cy G M [.ref a0, .int c1] b post := by
  unfold n_J4_append_bf812 at h
  refine cbR_of (cc := cJ4_append_bf812) (nL := 2) (ret := (some (.object "java/lang/StringBuilder"))) (lv := [(0, .ref a0), (1, .int c1)]) hG (by decide) rfl (Nat.le_of_ble_eq_true rfl) rfl ?_
  intro p e s m args below meth c sz ls hnm cx w hl
  obtain ⟨hx, hb, hml, hown, hts, hr, hlocks, hK, hA, -, hsx⟩ := id cx
  have hext := ext_rf (G := G)
  have hu : uL (0, 0) b := ⟨Nat.zero_le _, Nat.zero_le _⟩
  have hR : (rnJ4_append_bf812 b).cells = b.1 ∧ (rnJ4_append_bf812 b).slots = b.2 := ⟨rfl, rfl⟩
  refine lv_aload_n hx hb dJ4_append_bf812_0 rfl (lv_at hl 0 rfl) ?_
  refine lv_iload_n hx hb dJ4_append_bf812_1 rfl (lv_at hl 1 rfl) ?_
  refine rb_YR (kr := 11) (b := b) (u := (0, 0)) (rf := 4) (rl := 130) (As := [.int c1]) (rest := []) cx w hR hl.1 h (fun h => kn_J5_append_c97b9 hG hL0 hK0 h) (fun v => va_cwSU 1 hts gJ4_append_bf812_J5_append_c97b9_s53 rfl rfl rfl (by decide +kernel) ⟨(Nat.le_of_ble_eq_true rfl), (Nat.le_of_ble_eq_true rfl)⟩) hL0 hK0 (by decide) rfl rfl rfl (Nat.le_of_ble_eq_true rfl) dJ4_append_bf812_2 (fun u3 G1 M2 r4 H locs h hu xe hLr4 hKr4 cx w => ?_)
  obtain ⟨hL0, hK0⟩ := ext_wt xe hL0 hK0
  have hext := ext_tr hext xe
  clear xe
  have hG := cX_wt cx
  refine lv_pop hx hb dJ4_append_bf812_5 rfl ?_
  refine lv_aload_n hx hb dJ4_append_bf812_6 rfl (lv_at hl 0 rfl) ?_
  exact rb_aret (Or.inl ⟨_, rfl⟩) hL0 hK0 h cx w hext hu dJ4_append_bf812_7
-- J0_init_db425
theorem wb_J0_init_db425_J0 : ∀ w ∈ wsJ00, w ∈ wsJ0_init_db425 := by decide +kernel
theorem wb_J0_init_db425_J4 : ∀ w ∈ wsJ40, w ∈ wsJ0_init_db425 := by decide +kernel
abbrev rnJ0_init_db425 (b : uS) : Room := { frames := 3, cells := b.1, slots := b.2, locals := 106 }
def nb_J0_init_db425_97 (b : uS) (a0 : Nat) (a1 : Nat) (post : gS → mS → Unit → Prop) (u : uS) (G : gS) (M : mS) : Prop := post G M ()
def nb_J0_init_db425_79 (b : uS) (a0 : Nat) (a1 : Nat) (post : gS → mS → Unit → Prop) (u : uS) (G : gS) (M : mS) (v3 : Nat) (v4 : Int32) : Prop := p_ck ((Int32.toInt8 (1 : Int32)).toInt32 = (1 : Int32)) (p_wI M a0 1 (1 : Int32) (fun M2 => q_ca b u (fun v => n_J7_copyOfRange_39247 v G M2 v3 (0 : Int32) (v4 <<< ((1 : Int32) &&& 31))) (fun u5 G3 M4 r6 => p_sR G3 a0 0 r6 (fun G7 => nb_J0_init_db425_97 b a0 a1 post u5 G7 M4))))
def n_J0_init_db425 (b : uS) (G : gS) (M : mS) (a0 : Nat) (a1 : Nat) (post : gS → mS → Unit → Prop) : Prop := q_ca b (0, 0) (fun v => n_J5_getValue_6d5f1 v G M a1) (fun u3 G1 M2 r4 => q_ca b u3 (fun v => n_J4_length_8abf5 v G1 M2 a1) (fun u7 G5 M6 r8 => q_ca b u7 (fun v => n_J5_isLatin1_aae02 v G5 M6 a1) (fun u11 G9 M10 r12 => p_if (r12 = 0) (p_if ((1 : Int32) = 0) (nb_J0_init_db425_79 b a0 a1 post u11 G9 M10 r4 r8) (p_if ((mI M10 a1 2) = 0) (nb_J0_init_db425_79 b a0 a1 post u11 G9 M10 r4 r8) (False))) (p_ck ((Int32.toInt8 (0 : Int32)).toInt32 = (0 : Int32)) (p_wI M10 a0 1 (0 : Int32) (fun M17 => q_ca b u11 (fun v => n_J7_copyOfRange_39247 v G9 M17 r4 (0 : Int32) r8) (fun u20 G18 M19 r21 => p_sR G18 a0 0 r21 (fun G22 => nb_J0_init_db425_97 b a0 a1 post u20 G22 M19))))))))
set_option maxHeartbeats 4000000 in
set_option maxRecDepth 100000 in
theorem bn_J0_init_db425_97 {p : Program} {l : Launch} {e : Env} {s : State} {m : MethodId} {args : Array Value} {below : List Frame} {meth : Method} {c : Code} {D : va_G} {cy : cyS} {b : uS} {G0 : gS} {sz : Nat} (hnm : meth.name = yJ0_init_db425.name)  {a0 : Nat} {a1 : Nat} {post : gS → mS → Unit → Prop} : ∀ (u : uS) (G : gS) (M : mS) (H : Heap) (locs : List Loc) (ls : Array Slot), a0 ∈ gL G → gK G a0 = 10 → a1 ∈ gL G → gK G a1 = 11 → ext G0 G → uL u b → nb_J0_init_db425_97 b a0 a1 post u G M → cX p s m args meth c cJ0_init_db425 RJ0 5 none wsJ0_init_db425 D cy G (pA G0 sz) → wd D cy G M (pA G0 sz) s.heap H locs → lv_has ls 5 [] → W p l e (rnJ0_init_db425 b) s m args below meth c H locs u.1 u.2 (MQ below (va_Qv (fun (u : gS × mS) => post u.1 u.2 ()) (fun u t => va_P D vwCl (pl cy u.1 u.2) t.heap ∧ va_D (pA G0 sz) (pl cy u.1 u.2) ∧ wt u.1 ∧ ext G0 u.1) (pA G0 sz)) args s b.1 b.2 (pA G0 sz)) (F0 m 97 ls []) := by
  intro u G M H locs ls hL0 hK0 hL1 hK1 hext hu h cx w hl
  unfold nb_J0_init_db425_97 at h
  obtain ⟨hx, hb, hml, hown, hts, hr, hlocks, hK, hA, hG, hsx⟩ := id cx
  have hR : (rnJ0_init_db425 b).cells = b.1 ∧ (rnJ0_init_db425 b).slots = b.2 := ⟨rfl, rfl⟩
  exact rb_vret h cx w hext hu dJ0_init_db425_97
set_option maxHeartbeats 4000000 in
set_option maxRecDepth 100000 in
theorem bn_J0_init_db425_79 {p : Program} {l : Launch} {e : Env} {s : State} {m : MethodId} {args : Array Value} {below : List Frame} {meth : Method} {c : Code} {D : va_G} {cy : cyS} {b : uS} {G0 : gS} {sz : Nat} (hnm : meth.name = yJ0_init_db425.name)  {a0 : Nat} {a1 : Nat} {post : gS → mS → Unit → Prop} : ∀ (u : uS) (G : gS) (M : mS) (v3 : Nat) (v4 : Int32) (H : Heap) (locs : List Loc) (ls : Array Slot), a0 ∈ gL G → gK G a0 = 10 → a1 ∈ gL G → gK G a1 = 11 → v3 ∈ gL G → gK G v3 = 16 → ext G0 G → uL u b → nb_J0_init_db425_79 b a0 a1 post u G M v3 v4 → cX p s m args meth c cJ0_init_db425 RJ0 5 none wsJ0_init_db425 D cy G (pA G0 sz) → wd D cy G M (pA G0 sz) s.heap H locs → lv_has ls 5 [(0, .ref a0), (3, .ref v3), (4, .int v4)] → W p l e (rnJ0_init_db425 b) s m args below meth c H locs u.1 u.2 (MQ below (va_Qv (fun (u : gS × mS) => post u.1 u.2 ()) (fun u t => va_P D vwCl (pl cy u.1 u.2) t.heap ∧ va_D (pA G0 sz) (pl cy u.1 u.2) ∧ wt u.1 ∧ ext G0 u.1) (pA G0 sz)) args s b.1 b.2 (pA G0 sz)) (F0 m 79 ls []) := by
  intro u G M v3 v4 H locs ls hL0 hK0 hL1 hK1 v3L v3K hext hu h cx w hl
  unfold nb_J0_init_db425_79 at h
  obtain ⟨hx, hb, hml, hown, hts, hr, hlocks, hK, hA, hG, hsx⟩ := id cx
  have hR : (rnJ0_init_db425 b).cells = b.1 ∧ (rnJ0_init_db425 b).slots = b.2 := ⟨rfl, rfl⟩
  refine lv_aload_n hx hb dJ0_init_db425_79 rfl (lv_at hl 0 rfl) ?_
  refine lv_iconst (v := (1 : Int32)) hx hb dJ0_init_db425_80 (by decide) ?_
  obtain ⟨z1, h⟩ := w_ck h
  obtain ⟨M2, eM2, h⟩ := w_wI h
  refine r_putIF (k := 1) (ty := .byte) cx w tyJ0 tyJ0_ok nmJ0 hL0 hK0 (by decide) rfl wb_J0_init_db425_J0 (by decide) rfl hnm rfl rfl (z_byte z1) (z_bfit z1) st_10_1 (ln_10 _ _ (by decide)) (List.mem_of_getElem? (i := 4) rfl) dJ0_init_db425_81 eM2 (fun H locs w => ?_)
  refine lv_aload_n hx hb dJ0_init_db425_84 rfl (lv_at hl 0 rfl) ?_
  refine lv_aload_n hx hb dJ0_init_db425_85 rfl (lv_at hl 1 rfl) ?_
  refine lv_iconst (v := (0 : Int32)) hx hb dJ0_init_db425_86 (by decide) ?_
  refine lv_iload hx hb dJ0_init_db425_87 (lv_at hl 2 rfl) ?_
  refine lv_iconst (v := (1 : Int32)) hx hb dJ0_init_db425_89 (by decide) ?_
  refine lv_ishl hx hb dJ0_init_db425_90 ?_
  refine rb_SR (kr := 16) (b := b) (u := u) (rf := 2) (rl := 84) (As := [.ref v3, .int ((0 : Int32)), .int ((v4 <<< ((1 : Int32) &&& 31)))]) (rest := [.ref a0]) cx w hR hl.1 h (fun h => kn_J7_copyOfRange_39247 hG v3L v3K h) (fun v => va_cwS 3 hts gJ0_init_db425_J7_copyOfRange_39247 rfl rfl rfl (by decide +kernel) ⟨(Nat.le_of_ble_eq_true rfl), (Nat.le_of_ble_eq_true rfl)⟩) rfl rfl (Nat.le_of_ble_eq_true rfl) dJ0_init_db425_91 (fun u5 G3 M4 r6 H locs h hu xe hLr6 hKr6 cx w => ?_)
  obtain ⟨hL0, hK0⟩ := ext_wt xe hL0 hK0
  obtain ⟨hL1, hK1⟩ := ext_wt xe hL1 hK1
  obtain ⟨v3L, v3K⟩ := ext_wt xe v3L v3K
  have hext := ext_tr hext xe
  clear xe
  have hG := cX_wt cx
  refine rb_putRF (k0 := 0) cx w tyJ0 tyJ0_ok nmJ0 hL0 hK0 (by decide) rfl wb_J0_init_db425_J0 (by decide) rfl hnm rfl (tyJ0_ok 0 (by decide)) rfl rfl sr_10_0 (ln_10 _ _ (by decide)) hLr6 hKr6 (List.mem_of_getElem? (i := 5) rfl) h dJ0_init_db425_94 (fun G7 H locs h xe cx w => ?_)
  obtain ⟨hL0, hK0⟩ := ext_wt xe hL0 hK0
  obtain ⟨hL1, hK1⟩ := ext_wt xe hL1 hK1
  obtain ⟨v3L, v3K⟩ := ext_wt xe v3L v3K
  have hext := ext_tr hext xe
  clear xe
  have hG := cX_wt cx
  exact bn_J0_init_db425_97 hnm u5 G7 M4 H locs ls hL0 hK0 hL1 hK1 hext hu h cx w (lv_sub hl [] rfl)
set_option maxHeartbeats 4000000 in
set_option maxRecDepth 100000 in
theorem kn_J0_init_db425 {l : Launch} {D : va_G} {cy : cyS} {G : gS} {M : mS} {b : uS} {a0 : Nat} {a1 : Nat} {post : gS → mS → Unit → Prop} (hG : wt G) (hL0 : a0 ∈ gL G) (hK0 : gK G a0 = 10) (hL1 : a1 ∈ gL G) (hK1 : gK G a1 = 11) (h : n_J0_init_db425 b G M a0 a1 post) : cbV l yJ0_init_db425 wsJ0_init_db425 (rnJ0_init_db425 b) D cy G M [.ref a0, .ref a1, .null] b post := by
  unfold n_J0_init_db425 at h
  refine cbV_of (cc := cJ0_init_db425) (nL := 5) (lv := [(0, .ref a0), (1, .ref a1), (2, .null)]) hG (by decide) rfl (Nat.le_of_ble_eq_true rfl) rfl ?_
  intro p e s m args below meth c sz ls hnm cx w hl
  obtain ⟨hx, hb, hml, hown, hts, hr, hlocks, hK, hA, -, hsx⟩ := id cx
  have hext := ext_rf (G := G)
  have hu : uL (0, 0) b := ⟨Nat.zero_le _, Nat.zero_le _⟩
  have hR : (rnJ0_init_db425 b).cells = b.1 ∧ (rnJ0_init_db425 b).slots = b.2 := ⟨rfl, rfl⟩
  refine lv_aload_n hx hb dJ0_init_db425_0 rfl (lv_at hl 0 rfl) ?_
  refine W.objInit hx hb hown (hts (.methodLink RJ0 1 objectInit) (List.mem_of_getElem? (i := 1) rfl)) (hts (.instanceMethod objectInit) (List.mem_of_getElem? (i := 2) rfl)) (hts _ (List.mem_of_getElem? (i := 3) rfl)) rfl (by rw [hml]; exact hl.1) rfl dJ0_init_db425_1 (Nat.le_of_ble_eq_true rfl) (Nat.le_of_ble_eq_true rfl) ?_
  refine W.eq (g2 := F0 m 4 ls []) rfl ?_
  refine lv_aload_n hx hb dJ0_init_db425_4 rfl (lv_at hl 1 rfl) ?_
  refine rb_UR (kr := 16) (b := b) (u := (0, 0)) (rf := 0) (rl := 0) (As := []) (rest := []) cx w hR hl.1 h (fun h => kn_J5_getValue_6d5f1 hG hL1 hK1 h) (fun v => va_cwU (x := ⟨"java/lang/AbstractStringBuilder", "getValue", "()[B"⟩) 0 hts gJ0_init_db425_J5_getValue_6d5f1_u552J4 rfl rfl rfl rfl (by decide +kernel) ⟨(Nat.le_of_ble_eq_true rfl), (Nat.le_of_ble_eq_true rfl)⟩) hL1 hK1 (by decide) rfl rfl rfl (Nat.le_of_ble_eq_true rfl) dJ0_init_db425_5 (fun u3 G1 M2 r4 H locs h hu xe hLr4 hKr4 cx w => ?_)
  obtain ⟨hL0, hK0⟩ := ext_wt xe hL0 hK0
  obtain ⟨hL1, hK1⟩ := ext_wt xe hL1 hK1
  have hext := ext_tr hext xe
  clear xe
  have hG := cX_wt cx
  refine lv_astore_n (lv' := [(3, .ref r4), (0, .ref a0), (1, .ref a1), (2, .null)]) hx hb dJ0_init_db425_8 rfl hl (by decide) rfl (fun ls hl => ?_)
  refine lv_aload_n hx hb dJ0_init_db425_9 rfl (lv_at hl 2 rfl) ?_
  refine rb_UI (b := b) (u := u3) (rf := 1) (rl := 20) (As := []) (rest := []) cx w hR hl.1 h (fun h => kn_J4_length_8abf5 hG hL1 hK1 h) (fun v => va_cwO (x := ⟨"java/lang/AbstractStringBuilder", "length", "()I"⟩) 0 hts gJ0_init_db425_J4_length_8abf5_u549J4 rfl rfl rfl (List.mem_of_getElem? (i := 25) rfl) (by decide +kernel) ⟨(Nat.le_of_ble_eq_true rfl), (Nat.le_of_ble_eq_true rfl)⟩) hL1 hK1 (by decide) rfl rfl rfl (Nat.le_of_ble_eq_true rfl) dJ0_init_db425_10 (fun u7 G5 M6 r8 H locs h hu xe cx w => ?_)
  obtain ⟨hL0, hK0⟩ := ext_wt xe hL0 hK0
  obtain ⟨hL1, hK1⟩ := ext_wt xe hL1 hK1
  obtain ⟨hLr4, hKr4⟩ := ext_wt xe hLr4 hKr4
  have hext := ext_tr hext xe
  clear xe
  have hG := cX_wt cx
  refine lv_istore (lv' := [(4, .int r8), (3, .ref r4), (0, .ref a0), (1, .ref a1), (2, .null)]) hx hb dJ0_init_db425_13 hl (by decide) rfl (fun ls hl => ?_)
  refine lv_aload_n hx hb dJ0_init_db425_15 rfl (lv_at hl 3 rfl) ?_
  refine rb_UI (b := b) (u := u7) (rf := 0) (rl := 0) (As := []) (rest := []) cx w hR hl.1 h (fun h => kn_J5_isLatin1_aae02 hG hL1 hK1 h) (fun v => va_cwU (x := ⟨"java/lang/AbstractStringBuilder", "isLatin1", "()Z"⟩) 0 hts gJ0_init_db425_J5_isLatin1_aae02_u1047J4 rfl rfl rfl rfl (by decide +kernel) ⟨(Nat.le_of_ble_eq_true rfl), (Nat.le_of_ble_eq_true rfl)⟩) hL1 hK1 (by decide) rfl rfl rfl (Nat.le_of_ble_eq_true rfl) dJ0_init_db425_16 (fun u11 G9 M10 r12 H locs h hu xe cx w => ?_)
  obtain ⟨hL0, hK0⟩ := ext_wt xe hL0 hK0
  obtain ⟨hL1, hK1⟩ := ext_wt xe hL1 hK1
  obtain ⟨hLr4, hKr4⟩ := ext_wt xe hLr4 hKr4
  have hext := ext_tr hext xe
  clear xe
  have hG := cX_wt cx
  refine lv_if_eq (tgt := 41) hx hb dJ0_init_db425_19 (by decide) (fun k13 => ?_) (fun k13 => ?_)
  · have h := w_t h k13
    refine r_getC cx w (List.mem_of_getElem? (i := 6) rfl) dJ0_init_db425_41 ?_
    refine lv_if_eq (tgt := 79) hx hb dJ0_init_db425_44 (by decide) (fun k14 => ?_) (fun k14 => ?_)
    · have h := w_t h k14
      exact bn_J0_init_db425_79 hnm u11 G9 M10 r4 r8 H locs ls hL0 hK0 hL1 hK1 hLr4 hKr4 hext hu h cx w (lv_sub hl [2, 1, 0] rfl)
    · have h := w_f h k14
      refine lv_aload_n hx hb dJ0_init_db425_47 rfl (lv_at hl 3 rfl) ?_
      refine r_getI (k := 2) (v := .int (mI M10 a1 2)) cx w hL1 hK1 (by decide) rfl wb_J0_init_db425_J4 (by decide) rfl (List.mem_of_getElem? (i := 7) rfl) dJ0_init_db425_48 ?_
      refine lv_if_eq (tgt := 79) hx hb dJ0_init_db425_51 (by decide) (fun k15 => ?_) (fun k15 => ?_)
      · have h := w_t h k15
        exact bn_J0_init_db425_79 hnm u11 G9 M10 r4 r8 H locs ls hL0 hK0 hL1 hK1 hLr4 hKr4 hext hu h cx w (lv_sub hl [2, 1, 0] rfl)
      · have h := w_f h k15
        exact h.elim
  · have h := w_f h k13
    refine lv_aload_n hx hb dJ0_init_db425_22 rfl (lv_at hl 2 rfl) ?_
    refine lv_iconst (v := (0 : Int32)) hx hb dJ0_init_db425_23 (by decide) ?_
    obtain ⟨z16, h⟩ := w_ck h
    obtain ⟨M17, eM17, h⟩ := w_wI h
    refine r_putIF (k := 1) (ty := .byte) cx w tyJ0 tyJ0_ok nmJ0 hL0 hK0 (by decide) rfl wb_J0_init_db425_J0 (by decide) rfl hnm rfl rfl (z_byte z16) (z_bfit z16) st_10_1 (ln_10 _ _ (by decide)) (List.mem_of_getElem? (i := 4) rfl) dJ0_init_db425_24 eM17 (fun H locs w => ?_)
    refine lv_aload_n hx hb dJ0_init_db425_27 rfl (lv_at hl 2 rfl) ?_
    refine lv_aload_n hx hb dJ0_init_db425_28 rfl (lv_at hl 1 rfl) ?_
    refine lv_iconst (v := (0 : Int32)) hx hb dJ0_init_db425_29 (by decide) ?_
    refine lv_iload hx hb dJ0_init_db425_30 (lv_at hl 0 rfl) ?_
    refine rb_SR (kr := 16) (b := b) (u := u11) (rf := 2) (rl := 84) (As := [.ref r4, .int ((0 : Int32)), .int r8]) (rest := [.ref a0]) cx w hR hl.1 h (fun h => kn_J7_copyOfRange_39247 hG hLr4 hKr4 h) (fun v => va_cwS 3 hts gJ0_init_db425_J7_copyOfRange_39247 rfl rfl rfl (by decide +kernel) ⟨(Nat.le_of_ble_eq_true rfl), (Nat.le_of_ble_eq_true rfl)⟩) rfl rfl (Nat.le_of_ble_eq_true rfl) dJ0_init_db425_32 (fun u20 G18 M19 r21 H locs h hu xe hLr21 hKr21 cx w => ?_)
    obtain ⟨hL0, hK0⟩ := ext_wt xe hL0 hK0
    obtain ⟨hL1, hK1⟩ := ext_wt xe hL1 hK1
    obtain ⟨hLr4, hKr4⟩ := ext_wt xe hLr4 hKr4
    have hext := ext_tr hext xe
    clear xe
    have hG := cX_wt cx
    refine rb_putRF (k0 := 0) cx w tyJ0 tyJ0_ok nmJ0 hL0 hK0 (by decide) rfl wb_J0_init_db425_J0 (by decide) rfl hnm rfl (tyJ0_ok 0 (by decide)) rfl rfl sr_10_0 (ln_10 _ _ (by decide)) hLr21 hKr21 (List.mem_of_getElem? (i := 5) rfl) h dJ0_init_db425_35 (fun G22 H locs h xe cx w => ?_)
    obtain ⟨hL0, hK0⟩ := ext_wt xe hL0 hK0
    obtain ⟨hL1, hK1⟩ := ext_wt xe hL1 hK1
    obtain ⟨hLr4, hKr4⟩ := ext_wt xe hLr4 hKr4
    have hext := ext_tr hext xe
    clear xe
    have hG := cX_wt cx
    refine lv_goto (tgt := 97) hx hb dJ0_init_db425_38 (by decide) ?_
    exact bn_J0_init_db425_97 hnm u20 G22 M19 H locs ls hL0 hK0 hL1 hK1 hext hu h cx w (lv_sub hl [] rfl)
-- J0_init_81219
abbrev rnJ0_init_81219 (b : uS) : Room := { frames := 4, cells := b.1, slots := b.2, locals := 130 }
def n_J0_init_81219 (b : uS) (G : gS) (M : mS) (a0 : Nat) (a1 : Nat) (post : gS → mS → Unit → Prop) : Prop := q_ca b (0, 0) (fun v => n_J0_init_db425 v G M a0 a1) (fun u3 G1 M2 r4 => post G1 M2 ())
set_option maxHeartbeats 4000000 in
set_option maxRecDepth 100000 in
theorem kn_J0_init_81219 {l : Launch} {D : va_G} {cy : cyS} {G : gS} {M : mS} {b : uS} {a0 : Nat} {a1 : Nat} {post : gS → mS → Unit → Prop} (hG : wt G) (hL0 : a0 ∈ gL G) (hK0 : gK G a0 = 10) (hL1 : a1 ∈ gL G) (hK1 : gK G a1 = 11) (h : n_J0_init_81219 b G M a0 a1 post) : cbV l yJ0_init_81219 wsJ0_init_81219 (rnJ0_init_81219 b) D cy G M [.ref a0, .ref a1] b post := by
  unfold n_J0_init_81219 at h
  refine cbV_of (cc := cJ0_init_81219) (nL := 2) (lv := [(0, .ref a0), (1, .ref a1)]) hG (by decide) rfl (Nat.le_of_ble_eq_true rfl) rfl ?_
  intro p e s m args below meth c sz ls hnm cx w hl
  obtain ⟨hx, hb, hml, hown, hts, hr, hlocks, hK, hA, -, hsx⟩ := id cx
  have hext := ext_rf (G := G)
  have hu : uL (0, 0) b := ⟨Nat.zero_le _, Nat.zero_le _⟩
  have hR : (rnJ0_init_81219 b).cells = b.1 ∧ (rnJ0_init_81219 b).slots = b.2 := ⟨rfl, rfl⟩
  refine lv_aload_n hx hb dJ0_init_81219_0 rfl (lv_at hl 0 rfl) ?_
  refine lv_aload_n hx hb dJ0_init_81219_1 rfl (lv_at hl 1 rfl) ?_
  refine lv_null hx hb dJ0_init_81219_2 ?_
  refine rb_NV (b := b) (u := (0, 0)) (rf := 3) (rl := 106) (As := [.ref a1, .null]) (rest := []) cx w hR hl.1 h (fun h => kn_J0_init_db425 hG hL0 hK0 hL1 hK1 h) (fun v => cwI 2 hts gJ0_init_81219_J0_init_db425 rfl rfl rfl (hts _ (List.mem_of_getElem? (i := 3) rfl)) (hts _ (List.mem_of_getElem? (i := 1) rfl)) (hts _ (List.mem_of_getElem? (i := 2) rfl)) rfl (by decide +kernel) ⟨(Nat.le_of_ble_eq_true rfl), (Nat.le_of_ble_eq_true rfl)⟩) rfl rfl (Nat.le_of_ble_eq_true rfl) dJ0_init_81219_3 (fun u3 G1 M2 r4 H locs h hu xe cx w => ?_)
  obtain ⟨hL0, hK0⟩ := ext_wt xe hL0 hK0
  obtain ⟨hL1, hK1⟩ := ext_wt xe hL1 hK1
  have hext := ext_tr hext xe
  clear xe
  have hG := cX_wt cx
  exact rb_vret h cx w hext hu dJ0_init_81219_6
-- J4_toString_0e30d
theorem wb_J4_toString_0e30d_J0 : ∀ w ∈ wsJ00, w ∈ wsJ4_toString_0e30d := by decide +kernel
abbrev rnJ4_toString_0e30d (b : uS) : Room := { frames := 5, cells := b.1, slots := b.2, locals := 151 }
def n_J4_toString_0e30d (b : uS) (G : gS) (M : mS) (a0 : Nat) (post : gS → mS → Nat → Prop) : Prop := q_nw b (0, 0) G M 10 0 4 (fun q1 u4 G2 M3 => q_ca b u4 (fun v => n_J0_init_81219 v G2 M3 q1 a0) (fun u7 G5 M6 r8 => post G5 M6 q1))
set_option maxHeartbeats 4000000 in
set_option maxRecDepth 100000 in
theorem kn_J4_toString_0e30d {l : Launch} {D : va_G} {cy : cyS} {G : gS} {M : mS} {b : uS} {a0 : Nat} {post : gS → mS → Nat → Prop} (hG : wt G) (hL0 : a0 ∈ gL G) (hK0 : gK G a0 = 11) (h : n_J4_toString_0e30d b G M a0 post) : cbR 10 l yJ4_toString_0e30d wsJ4_toString_0e30d (rnJ4_toString_0e30d b) D cy G M [.ref a0] b post := by
  unfold n_J4_toString_0e30d at h
  refine cbR_of (cc := cJ4_toString_0e30d) (nL := 1) (ret := (some (.object "java/lang/String"))) (lv := [(0, .ref a0)]) hG (by decide) rfl (Nat.le_of_ble_eq_true rfl) rfl ?_
  intro p e s m args below meth c sz ls hnm cx w hl
  obtain ⟨hx, hb, hml, hown, hts, hr, hlocks, hK, hA, -, hsx⟩ := id cx
  have hext := ext_rf (G := G)
  have hu : uL (0, 0) b := ⟨Nat.zero_le _, Nat.zero_le _⟩
  have hR : (rnJ4_toString_0e30d b).cells = b.1 ∧ (rnJ4_toString_0e30d b).slots = b.2 := ⟨rfl, rfl⟩
  refine rb_newO (b := b) (u := (0, 0)) cx w hR tyJ0 tyJ0_ok rfl (by decide) wb_J4_toString_0e30d_J0 (List.mem_of_getElem? (i := 1) rfl) (List.mem_of_getElem? (i := 2) rfl) (List.mem_of_getElem? (i := 3) rfl) df_10 h dJ4_toString_0e30d_0 (fun q1 u4 G2 M3 H h hu xe hLq1 hKq1 cx w => ?_)
  obtain ⟨hL0, hK0⟩ := ext_wt xe hL0 hK0
  have hext := ext_tr hext xe
  clear xe
  have hG := cX_wt cx
  refine lv_dup hx hb dJ4_toString_0e30d_3 rfl ?_
  refine lv_aload_n hx hb dJ4_toString_0e30d_4 rfl (lv_at hl 0 rfl) ?_
  refine rb_NV (b := b) (u := u4) (rf := 4) (rl := 130) (As := [.ref a0]) (rest := [.ref q1]) cx w hR hl.1 h (fun h => kn_J0_init_81219 hG hLq1 hKq1 hL0 hK0 h) (fun v => cwI 1 hts gJ4_toString_0e30d_J0_init_81219 rfl rfl rfl (hts _ (List.mem_of_getElem? (i := 3) rfl)) (hts _ (List.mem_of_getElem? (i := 4) rfl)) (hts _ (List.mem_of_getElem? (i := 5) rfl)) rfl (by decide +kernel) ⟨(Nat.le_of_ble_eq_true rfl), (Nat.le_of_ble_eq_true rfl)⟩) rfl rfl (Nat.le_of_ble_eq_true rfl) dJ4_toString_0e30d_5 (fun u7 G5 M6 r8 H locs h hu xe cx w => ?_)
  obtain ⟨hL0, hK0⟩ := ext_wt xe hL0 hK0
  obtain ⟨hLq1, hKq1⟩ := ext_wt xe hLq1 hKq1
  have hext := ext_tr hext xe
  clear xe
  have hG := cX_wt cx
  exact rb_aret (Or.inl ⟨_, rfl⟩) hLq1 hKq1 h cx w hext hu dJ4_toString_0e30d_8
