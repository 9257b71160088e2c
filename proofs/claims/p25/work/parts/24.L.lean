-- L_below
abbrev rnL_below (b : uS) : Room := { frames := 0, cells := b.1, slots := b.2, locals := 0 }
def n_L_below (D : va_G) (b : uS) (G : gS) (M : mS) (c0 : Int32) (c1 : Int32) (post : gS → mS → Int32 → Prop) : Prop := p_ck (¬ c1 = 0) (post G M ((c0 &&& (2147483647 : Int32)) - (c0 &&& (2147483647 : Int32)) / c1 * c1))
set_option maxHeartbeats 4000000 in
set_option maxRecDepth 100000 in
theorem kn_L_below {l : Launch} {D : va_G} {cy : cyS} {G : gS} {M : mS} {b : uS} {c0 : Int32} {c1 : Int32} {post : gS → mS → Int32 → Prop} (hG : wt G) (h : n_L_below D b G M c0 c1 post) : cbI l yL_below wsL_below (rnL_below b) D cy G M [.int c0, .int c1] b post := by
  unfold n_L_below at h
  refine cbI_of (cc := cL_below) (nL := 2) (ret := (some .int)) (lv := [(0, .int c0), (1, .int c1)]) hG (by decide) rfl (Nat.le_of_ble_eq_true rfl) rfl ?_
  intro p e s m args below meth c sz ls hnm cx w hl
  obtain ⟨hx, hb, hml, hown, hts, hr, hlocks, hK, hA, -, hsx⟩ := id cx
  have hext := ext_rf (G := G)
  have hu : uL (0, 0) b := ⟨Nat.zero_le _, Nat.zero_le _⟩
  have hR : (rnL_below b).cells = b.1 ∧ (rnL_below b).slots = b.2 := ⟨rfl, rfl⟩
  refine lv_iload_n hx hb dL_below_0 rfl (lv_at hl 0 rfl) ?_
  refine lv_ldc (v := 2147483647) hx hb hown (hts (.constant RL 7 (2147483647)) (List.mem_of_getElem? (i := 1) rfl)) dL_below_1 ?_
  refine lv_iand hx hb dL_below_3 ?_
  refine lv_iload_n hx hb dL_below_4 rfl (lv_at hl 1 rfl) ?_
  obtain ⟨z1, h⟩ := w_ck h
  refine lv_irem hx hb dL_below_5 z1 ?_
  exact rb_iret h cx w hext hu dL_below_6
-- L_cell
abbrev rnL_cell (b : uS) : Room := { frames := 0, cells := b.1, slots := b.2, locals := 0 }
def nb_L_cell_18 (D : va_G) (b : uS) (c1 : Int32) (post : gS → mS → Int32 → Prop) (u : uS) (G : gS) (M : mS) (s0 : Int32) : Prop := post G M s0
def n_L_cell (D : va_G) (b : uS) (G : gS) (M : mS) (c1 : Int32) (post : gS → mS → Int32 → Prop) : Prop := p_if ((Int32.ofNat (xL D)) ≤ c1) (nb_L_cell_18 D b c1 post (0, 0) G M (((790386105 : Int32) * (c1 + (3 : Int32))))) (p_ix c1 (xL D) (nb_L_cell_18 D b c1 post (0, 0) G M ((xS D (Int32.toNatClampNeg c1)))))
set_option maxHeartbeats 4000000 in
set_option maxRecDepth 100000 in
theorem bn_L_cell_18 {p : Program} {l : Launch} {e : Env} {s : State} {m : MethodId} {args : Array Value} {below : List Frame} {meth : Method} {c : Code} {D : va_G} {cy : cyS} {b : uS} {G0 : gS} {sz : Nat} (hnm : meth.name = yL_cell.name)  {c1 : Int32} {post : gS → mS → Int32 → Prop} : ∀ (u : uS) (G : gS) (M : mS) (s0 : Int32) (H : Heap) (locs : List Loc) (ls : Array Slot), ext G0 G → uL u b → nb_L_cell_18 D b c1 post u G M s0 → cX p s m args meth c cL_cell RL 2 (some .int) wsL_cell D cy G (pA G0 sz) → wd D cy G M (pA G0 sz) s.heap H locs → lv_has ls 2 [] → W p l e (rnL_cell b) s m args below meth c H locs u.1 u.2 (MQ below (va_Qi (fun (r : Int32) (u : gS × mS) => post u.1 u.2 r) (fun u t => va_P D vwCl (pl cy u.1 u.2) t.heap ∧ va_D (pA G0 sz) (pl cy u.1 u.2) ∧ wt u.1 ∧ ext G0 u.1) (pA G0 sz)) args s b.1 b.2 (pA G0 sz)) (F0 m 18 ls [.int s0]) := by
  intro u G M s0 H locs ls hext hu h cx w hl
  unfold nb_L_cell_18 at h
  obtain ⟨hx, hb, hml, hown, hts, hr, hlocks, hK, hA, hG, hsx⟩ := id cx
  have hR : (rnL_cell b).cells = b.1 ∧ (rnL_cell b).slots = b.2 := ⟨rfl, rfl⟩
  exact rb_iret h cx w hext hu dL_cell_18
set_option maxHeartbeats 4000000 in
set_option maxRecDepth 100000 in
theorem kn_L_cell {l : Launch} {D : va_G} {cy : cyS} {G : gS} {M : mS} {b : uS} {c1 : Int32} {post : gS → mS → Int32 → Prop} (hG : wt G) (h : n_L_cell D b G M c1 post) : cbI l yL_cell wsL_cell (rnL_cell b) D cy G M [.ref (stX D), .int c1] b post := by
  unfold n_L_cell at h
  refine cbI_of (cc := cL_cell) (nL := 2) (ret := (some .int)) (lv := [(0, .ref (stX D)), (1, .int c1)]) hG (by decide) rfl (Nat.le_of_ble_eq_true rfl) rfl ?_
  intro p e s m args below meth c sz ls hnm cx w hl
  obtain ⟨hx, hb, hml, hown, hts, hr, hlocks, hK, hA, -, hsx⟩ := id cx
  have hext := ext_rf (G := G)
  have hu : uL (0, 0) b := ⟨Nat.zero_le _, Nat.zero_le _⟩
  have hR : (rnL_cell b).cells = b.1 ∧ (rnL_cell b).slots = b.2 := ⟨rfl, rfl⟩
  refine lv_iload_n hx hb dL_cell_0 rfl (lv_at hl 1 rfl) ?_
  refine lv_aload_n hx hb dL_cell_1 rfl (lv_at hl 0 rfl) ?_
  refine r_xlen cx w dL_cell_2 ?_
  refine lv_icmp_ge (tgt := 12) hx hb dL_cell_3 (by decide) (fun k1 => ?_) (fun k1 => ?_)
  · have h := w_t h k1
    refine lv_ldc (v := 790386105) hx hb hown (hts (.constant RL 8 (790386105)) (List.mem_of_getElem? (i := 1) rfl)) dL_cell_12 ?_
    refine lv_iload_n hx hb dL_cell_14 rfl (lv_at hl 1 rfl) ?_
    refine lv_iconst (v := (3 : Int32)) hx hb dL_cell_15 (by decide) ?_
    refine lv_iadd hx hb dL_cell_16 ?_
    refine lv_imul hx hb dL_cell_17 ?_
    exact bn_L_cell_18 hnm (0, 0) G M (((790386105 : Int32) * (c1 + (3 : Int32)))) s.heap [] ls hext hu h cx w (lv_sub hl [] rfl)
  · have h := w_f h k1
    refine lv_aload_n hx hb dL_cell_6 rfl (lv_at hl 0 rfl) ?_
    refine lv_iload_n hx hb dL_cell_7 rfl (lv_at hl 1 rfl) ?_
    obtain ⟨z2, h⟩ := w_ix h
    refine r_xald cx w z2 dL_cell_8 ?_
    refine lv_goto (tgt := 18) hx hb dL_cell_9 (by decide) ?_
    exact bn_L_cell_18 hnm (0, 0) G M ((xS D (Int32.toNatClampNeg c1))) s.heap [] ls hext hu h cx w (lv_sub hl [] rfl)
-- L_test
theorem wb_L_test_J4 : ∀ w ∈ wsJ40, w ∈ wsL_test := by decide +kernel
abbrev rnL_test (b : uS) : Room := { frames := 6, cells := b.1, slots := b.2, locals := 174 }
def n_L_test (D : va_G) (b : uS) (G : gS) (M : mS) (a0 : Nat) (post : gS → mS → Nat → Prop) : Prop := p_ix (3 : Int32) (gN G a0) (p_if ((mI M a0 (Int32.toNatClampNeg (3 : Int32))) = 0) (q_nw b (0, 0) G M 11 0 4 (fun q3 u6 G4 M5 => q_ca b u6 (fun v => n_J4_init_da8c8 v G4 M5 q3) (fun u9 G7 M8 r10 => q_ca b u9 (fun v => n_J4_append_15ec4 v G7 M8 q3 8) (fun u13 G11 M12 r14 => p_ix (4 : Int32) (gN G11 a0) (q_ca b u13 (fun v => n_J4_append_bf812 v G11 M12 r14 (mI M12 a0 (Int32.toNatClampNeg (4 : Int32)))) (fun u18 G16 M17 r19 => q_ca b u18 (fun v => n_J4_toString_0e30d v G16 M17 r19) (fun u22 G20 M21 r23 => post G20 M21 r23))))))) (p_if ((mI M a0 (Int32.toNatClampNeg (3 : Int32))) = 1) (q_nw b (0, 0) G M 11 0 4 (fun q25 u28 G26 M27 => q_ca b u28 (fun v => n_J4_init_da8c8 v G26 M27 q25) (fun u31 G29 M30 r32 => q_ca b u31 (fun v => n_J4_append_15ec4 v G29 M30 q25 9) (fun u35 G33 M34 r36 => p_ix (4 : Int32) (gN G33 a0) (q_ca b u35 (fun v => n_J4_append_bf812 v G33 M34 r36 (mI M34 a0 (Int32.toNatClampNeg (4 : Int32)))) (fun u40 G38 M39 r41 => q_ca b u40 (fun v => n_J4_append_15ec4 v G38 M39 r41 10) (fun u44 G42 M43 r45 => p_ix (4 : Int32) (gN G42 a0) (q_ca b u44 (fun v => n_J4_append_bf812 v G42 M43 r45 (mI M43 a0 (Int32.toNatClampNeg (4 : Int32)))) (fun u49 G47 M48 r50 => q_ca b u49 (fun v => n_J4_append_15ec4 v G47 M48 r50 11) (fun u53 G51 M52 r54 => p_ix (5 : Int32) (gN G51 a0) (q_ca b u53 (fun v => n_J4_append_bf812 v G51 M52 r54 (mI M52 a0 (Int32.toNatClampNeg (5 : Int32)))) (fun u58 G56 M57 r59 => q_ca b u58 (fun v => n_J4_toString_0e30d v G56 M57 r59) (fun u62 G60 M61 r63 => post G60 M61 r63))))))))))))) (p_if ((mI M a0 (Int32.toNatClampNeg (3 : Int32))) = 2) (q_nw b (0, 0) G M 11 0 4 (fun q65 u68 G66 M67 => q_ca b u68 (fun v => n_J4_init_da8c8 v G66 M67 q65) (fun u71 G69 M70 r72 => q_ca b u71 (fun v => n_J4_append_15ec4 v G69 M70 q65 12) (fun u75 G73 M74 r76 => p_ix (4 : Int32) (gN G73 a0) (q_ca b u75 (fun v => n_J4_append_bf812 v G73 M74 r76 (mI M74 a0 (Int32.toNatClampNeg (4 : Int32)))) (fun u80 G78 M79 r81 => q_ca b u80 (fun v => n_J4_append_15ec4 v G78 M79 r81 13) (fun u84 G82 M83 r85 => p_ix (5 : Int32) (gN G82 a0) (q_ca b u84 (fun v => n_J4_append_bf812 v G82 M83 r85 (mI M83 a0 (Int32.toNatClampNeg (5 : Int32)))) (fun u89 G87 M88 r90 => q_ca b u89 (fun v => n_J4_append_15ec4 v G87 M88 r90 14) (fun u93 G91 M92 r94 => p_ix (4 : Int32) (gN G91 a0) (q_ca b u93 (fun v => n_J4_append_bf812 v G91 M92 r94 (mI M92 a0 (Int32.toNatClampNeg (4 : Int32)))) (fun u98 G96 M97 r99 => q_ca b u98 (fun v => n_J4_toString_0e30d v G96 M97 r99) (fun u102 G100 M101 r103 => post G100 M101 r103))))))))))))) (p_if ((mI M a0 (Int32.toNatClampNeg (3 : Int32))) = 3) (q_nw b (0, 0) G M 11 0 4 (fun q105 u108 G106 M107 => q_ca b u108 (fun v => n_J4_init_da8c8 v G106 M107 q105) (fun u111 G109 M110 r112 => q_ca b u111 (fun v => n_J4_append_15ec4 v G109 M110 q105 15) (fun u115 G113 M114 r116 => p_ix (4 : Int32) (gN G113 a0) (q_ca b u115 (fun v => n_J4_append_bf812 v G113 M114 r116 (mI M114 a0 (Int32.toNatClampNeg (4 : Int32)))) (fun u120 G118 M119 r121 => q_ca b u120 (fun v => n_J4_append_15ec4 v G118 M119 r121 16) (fun u124 G122 M123 r125 => p_ix (4 : Int32) (gN G122 a0) (q_ca b u124 (fun v => n_J4_append_bf812 v G122 M123 r125 (mI M123 a0 (Int32.toNatClampNeg (4 : Int32)))) (fun u129 G127 M128 r130 => q_ca b u129 (fun v => n_J4_toString_0e30d v G127 M128 r130) (fun u133 G131 M132 r134 => post G131 M132 r134)))))))))) (q_nw b (0, 0) G M 11 0 4 (fun q135 u138 G136 M137 => q_ca b u138 (fun v => n_J4_init_da8c8 v G136 M137 q135) (fun u141 G139 M140 r142 => q_ca b u141 (fun v => n_J4_append_15ec4 v G139 M140 q135 17) (fun u145 G143 M144 r146 => p_ix (4 : Int32) (gN G143 a0) (q_ca b u145 (fun v => n_J4_append_bf812 v G143 M144 r146 (mI M144 a0 (Int32.toNatClampNeg (4 : Int32)))) (fun u150 G148 M149 r151 => q_ca b u150 (fun v => n_J4_append_15ec4 v G148 M149 r151 18) (fun u154 G152 M153 r155 => p_ix (5 : Int32) (gN G152 a0) (q_ca b u154 (fun v => n_J4_append_bf812 v G152 M153 r155 (mI M153 a0 (Int32.toNatClampNeg (5 : Int32)))) (fun u159 G157 M158 r160 => q_ca b u159 (fun v => n_J4_append_15ec4 v G157 M158 r160 19) (fun u163 G161 M162 r164 => q_ca b u163 (fun v => n_J4_toString_0e30d v G161 M162 r164) (fun u167 G165 M166 r168 => post G165 M166 r168)))))))))))))))
set_option maxHeartbeats 4000000 in
set_option maxRecDepth 100000 in
theorem kn_L_test {l : Launch} {D : va_G} {cy : cyS} {G : gS} {M : mS} {b : uS} {a0 : Nat} {post : gS → mS → Nat → Prop} (hG : wt G) (hL0 : a0 ∈ gL G) (hK0 : gK G a0 = 12) (h : n_L_test D b G M a0 post) : cbR 10 l yL_test wsL_test (rnL_test b) D cy G M [.ref a0] b post := by
  unfold n_L_test at h
  refine cbR_of (cc := cL_test) (nL := 1) (ret := (some (.object "java/lang/String"))) (lv := [(0, .ref a0)]) hG (by decide) rfl (Nat.le_of_ble_eq_true rfl) rfl ?_
  intro p e s m args below meth c sz ls hnm cx w hl
  obtain ⟨hx, hb, hml, hown, hts, hr, hlocks, hK, hA, -, hsx⟩ := id cx
  have hext := ext_rf (G := G)
  have hu : uL (0, 0) b := ⟨Nat.zero_le _, Nat.zero_le _⟩
  have hR : (rnL_test b).cells = b.1 ∧ (rnL_test b).slots = b.2 := ⟨rfl, rfl⟩
  refine lv_aload_n hx hb dL_test_0 rfl (lv_at hl 0 rfl) ?_
  refine lv_iconst (v := (3 : Int32)) hx hb dL_test_1 (by decide) ?_
  obtain ⟨z1, h⟩ := w_ix h
  refine r_iald cx w hL0 hK0 z1 dL_test_2 ?_
  rcases Decidable.em ((mI M a0 (Int32.toNatClampNeg (3 : Int32))) = 0) with k2 | k2
  · have h := w_t h k2
    rw [k2]
    refine lv_tableIn (tgt := 32) hx hb dL_test_3 (by decide) (by decide) rfl (by decide) ?_
    refine rb_newO (b := b) (u := (0, 0)) cx w hR tyJ4 tyJ4_ok rfl (by decide) wb_L_test_J4 (List.mem_of_getElem? (i := 1) rfl) (List.mem_of_getElem? (i := 2) rfl) (List.mem_of_getElem? (i := 3) rfl) df_11 h dL_test_32 (fun q3 u6 G4 M5 H h hu xe hLq3 hKq3 cx w => ?_)
    obtain ⟨hL0, hK0⟩ := ext_wt xe hL0 hK0
    have hext := ext_tr hext xe
    clear xe
    have hG := cX_wt cx
    refine lv_dup hx hb dL_test_35 rfl ?_
    refine rb_NV (b := b) (u := u6) (rf := 2) (rl := 81) (As := []) (rest := [.ref q3]) cx w hR hl.1 h (fun h => kn_J4_init_da8c8 hG hLq3 hKq3 h) (fun v => cwI 0 hts gL_test_J4_init_da8c8 rfl rfl rfl (hts _ (List.mem_of_getElem? (i := 3) rfl)) (hts _ (List.mem_of_getElem? (i := 4) rfl)) (hts _ (List.mem_of_getElem? (i := 5) rfl)) rfl (by decide +kernel) ⟨(Nat.le_of_ble_eq_true rfl), (Nat.le_of_ble_eq_true rfl)⟩) rfl rfl (Nat.le_of_ble_eq_true rfl) dL_test_36 (fun u9 G7 M8 r10 H locs h hu xe cx w => ?_)
    obtain ⟨hL0, hK0⟩ := ext_wt xe hL0 hK0
    obtain ⟨hLq3, hKq3⟩ := ext_wt xe hLq3 hKq3
    have hext := ext_tr hext xe
    clear xe
    have hG := cX_wt cx
    refine r_ldcS (i := 8) cx w (by decide) rfl rfl dL_test_39 ?_
    refine rb_VR (kr := 11) (b := b) (u := u9) (rf := 5) (rl := 152) (As := [.ref (stK D 8)]) (rest := []) cx w hR hl.1 h (fun h => kn_J4_append_15ec4 hG hLq3 hKq3 (by decide : 8 < 36) h) (fun v => cwV 1 hts gL_test_J4_append_15ec4 rfl rfl rfl (by decide +kernel) ⟨(Nat.le_of_ble_eq_true rfl), (Nat.le_of_ble_eq_true rfl)⟩) hLq3 hKq3 (by decide) rfl rfl rfl (Nat.le_of_ble_eq_true rfl) dL_test_41 (fun u13 G11 M12 r14 H locs h hu xe hLr14 hKr14 cx w => ?_)
    obtain ⟨hL0, hK0⟩ := ext_wt xe hL0 hK0
    have hext := ext_tr hext xe
    clear xe
    have hG := cX_wt cx
    refine lv_aload_n hx hb dL_test_44 rfl (lv_at hl 0 rfl) ?_
    refine lv_iconst (v := (4 : Int32)) hx hb dL_test_45 (by decide) ?_
    obtain ⟨z15, h⟩ := w_ix h
    refine r_iald cx w hL0 hK0 z15 dL_test_46 ?_
    refine rb_VR (kr := 11) (b := b) (u := u13) (rf := 5) (rl := 153) (As := [.int ((mI M12 a0 (Int32.toNatClampNeg (4 : Int32))))]) (rest := []) cx w hR hl.1 h (fun h => kn_J4_append_bf812 hG hLr14 hKr14 h) (fun v => cwV 1 hts gL_test_J4_append_bf812 rfl rfl rfl (by decide +kernel) ⟨(Nat.le_of_ble_eq_true rfl), (Nat.le_of_ble_eq_true rfl)⟩) hLr14 hKr14 (by decide) rfl rfl rfl (Nat.le_of_ble_eq_true rfl) dL_test_47 (fun u18 G16 M17 r19 H locs h hu xe hLr19 hKr19 cx w => ?_)
    obtain ⟨hL0, hK0⟩ := ext_wt xe hL0 hK0
    have hext := ext_tr hext xe
    clear xe
    have hG := cX_wt cx
    refine rb_VR (kr := 10) (b := b) (u := u18) (rf := 5) (rl := 151) (As := []) (rest := []) cx w hR hl.1 h (fun h => kn_J4_toString_0e30d hG hLr19 hKr19 h) (fun v => cwV 0 hts gL_test_J4_toString_0e30d rfl rfl rfl (by decide +kernel) ⟨(Nat.le_of_ble_eq_true rfl), (Nat.le_of_ble_eq_true rfl)⟩) hLr19 hKr19 (by decide) rfl rfl rfl (Nat.le_of_ble_eq_true rfl) dL_test_50 (fun u22 G20 M21 r23 H locs h hu xe hLr23 hKr23 cx w => ?_)
    obtain ⟨hL0, hK0⟩ := ext_wt xe hL0 hK0
    have hext := ext_tr hext xe
    clear xe
    have hG := cX_wt cx
    exact rb_aret (Or.inl ⟨_, rfl⟩) hLr23 hKr23 h cx w hext hu dL_test_53
  · have h := w_f h k2
    rcases Decidable.em ((mI M a0 (Int32.toNatClampNeg (3 : Int32))) = 1) with k24 | k24
    · have h := w_t h k24
      rw [k24]
      refine lv_tableIn (tgt := 54) hx hb dL_test_3 (by decide) (by decide) rfl (by decide) ?_
      refine rb_newO (b := b) (u := (0, 0)) cx w hR tyJ4 tyJ4_ok rfl (by decide) wb_L_test_J4 (List.mem_of_getElem? (i := 1) rfl) (List.mem_of_getElem? (i := 2) rfl) (List.mem_of_getElem? (i := 3) rfl) df_11 h dL_test_54 (fun q25 u28 G26 M27 H h hu xe hLq25 hKq25 cx w => ?_)
      obtain ⟨hL0, hK0⟩ := ext_wt xe hL0 hK0
      have hext := ext_tr hext xe
      clear xe
      have hG := cX_wt cx
      refine lv_dup hx hb dL_test_57 rfl ?_
      refine rb_NV (b := b) (u := u28) (rf := 2) (rl := 81) (As := []) (rest := [.ref q25]) cx w hR hl.1 h (fun h => kn_J4_init_da8c8 hG hLq25 hKq25 h) (fun v => cwI 0 hts gL_test_J4_init_da8c8 rfl rfl rfl (hts _ (List.mem_of_getElem? (i := 3) rfl)) (hts _ (List.mem_of_getElem? (i := 4) rfl)) (hts _ (List.mem_of_getElem? (i := 5) rfl)) rfl (by decide +kernel) ⟨(Nat.le_of_ble_eq_true rfl), (Nat.le_of_ble_eq_true rfl)⟩) rfl rfl (Nat.le_of_ble_eq_true rfl) dL_test_58 (fun u31 G29 M30 r32 H locs h hu xe cx w => ?_)
      obtain ⟨hL0, hK0⟩ := ext_wt xe hL0 hK0
      obtain ⟨hLq25, hKq25⟩ := ext_wt xe hLq25 hKq25
      have hext := ext_tr hext xe
      clear xe
      have hG := cX_wt cx
      refine r_ldcS (i := 9) cx w (by decide) rfl rfl dL_test_61 ?_
      refine rb_VR (kr := 11) (b := b) (u := u31) (rf := 5) (rl := 152) (As := [.ref (stK D 9)]) (rest := []) cx w hR hl.1 h (fun h => kn_J4_append_15ec4 hG hLq25 hKq25 (by decide : 9 < 36) h) (fun v => cwV 1 hts gL_test_J4_append_15ec4 rfl rfl rfl (by decide +kernel) ⟨(Nat.le_of_ble_eq_true rfl), (Nat.le_of_ble_eq_true rfl)⟩) hLq25 hKq25 (by decide) rfl rfl rfl (Nat.le_of_ble_eq_true rfl) dL_test_63 (fun u35 G33 M34 r36 H locs h hu xe hLr36 hKr36 cx w => ?_)
      obtain ⟨hL0, hK0⟩ := ext_wt xe hL0 hK0
      have hext := ext_tr hext xe
      clear xe
      have hG := cX_wt cx
      refine lv_aload_n hx hb dL_test_66 rfl (lv_at hl 0 rfl) ?_
      refine lv_iconst (v := (4 : Int32)) hx hb dL_test_67 (by decide) ?_
      obtain ⟨z37, h⟩ := w_ix h
      refine r_iald cx w hL0 hK0 z37 dL_test_68 ?_
      refine rb_VR (kr := 11) (b := b) (u := u35) (rf := 5) (rl := 153) (As := [.int ((mI M34 a0 (Int32.toNatClampNeg (4 : Int32))))]) (rest := []) cx w hR hl.1 h (fun h => kn_J4_append_bf812 hG hLr36 hKr36 h) (fun v => cwV 1 hts gL_test_J4_append_bf812 rfl rfl rfl (by decide +kernel) ⟨(Nat.le_of_ble_eq_true rfl), (Nat.le_of_ble_eq_true rfl)⟩) hLr36 hKr36 (by decide) rfl rfl rfl (Nat.le_of_ble_eq_true rfl) dL_test_69 (fun u40 G38 M39 r41 H locs h hu xe hLr41 hKr41 cx w => ?_)
      obtain ⟨hL0, hK0⟩ := ext_wt xe hL0 hK0
      have hext := ext_tr hext xe
      clear xe
      have hG := cX_wt cx
      refine r_ldcS (i := 10) cx w (by decide) rfl rfl dL_test_72 ?_
      refine rb_VR (kr := 11) (b := b) (u := u40) (rf := 5) (rl := 152) (As := [.ref (stK D 10)]) (rest := []) cx w hR hl.1 h (fun h => kn_J4_append_15ec4 hG hLr41 hKr41 (by decide : 10 < 36) h) (fun v => cwV 1 hts gL_test_J4_append_15ec4 rfl rfl rfl (by decide +kernel) ⟨(Nat.le_of_ble_eq_true rfl), (Nat.le_of_ble_eq_true rfl)⟩) hLr41 hKr41 (by decide) rfl rfl rfl (Nat.le_of_ble_eq_true rfl) dL_test_74 (fun u44 G42 M43 r45 H locs h hu xe hLr45 hKr45 cx w => ?_)
      obtain ⟨hL0, hK0⟩ := ext_wt xe hL0 hK0
      have hext := ext_tr hext xe
      clear xe
      have hG := cX_wt cx
      refine lv_aload_n hx hb dL_test_77 rfl (lv_at hl 0 rfl) ?_
      refine lv_iconst (v := (4 : Int32)) hx hb dL_test_78 (by decide) ?_
      obtain ⟨z46, h⟩ := w_ix h
      refine r_iald cx w hL0 hK0 z46 dL_test_79 ?_
      refine rb_VR (kr := 11) (b := b) (u := u44) (rf := 5) (rl := 153) (As := [.int ((mI M43 a0 (Int32.toNatClampNeg (4 : Int32))))]) (rest := []) cx w hR hl.1 h (fun h => kn_J4_append_bf812 hG hLr45 hKr45 h) (fun v => cwV 1 hts gL_test_J4_append_bf812 rfl rfl rfl (by decide +kernel) ⟨(Nat.le_of_ble_eq_true rfl), (Nat.le_of_ble_eq_true rfl)⟩) hLr45 hKr45 (by decide) rfl rfl rfl (Nat.le_of_ble_eq_true rfl) dL_test_80 (fun u49 G47 M48 r50 H locs h hu xe hLr50 hKr50 cx w => ?_)
      obtain ⟨hL0, hK0⟩ := ext_wt xe hL0 hK0
      have hext := ext_tr hext xe
      clear xe
      have hG := cX_wt cx
      refine r_ldcS (i := 11) cx w (by decide) rfl rfl dL_test_83 ?_
      refine rb_VR (kr := 11) (b := b) (u := u49) (rf := 5) (rl := 152) (As := [.ref (stK D 11)]) (rest := []) cx w hR hl.1 h (fun h => kn_J4_append_15ec4 hG hLr50 hKr50 (by decide : 11 < 36) h) (fun v => cwV 1 hts gL_test_J4_append_15ec4 rfl rfl rfl (by decide +kernel) ⟨(Nat.le_of_ble_eq_true rfl), (Nat.le_of_ble_eq_true rfl)⟩) hLr50 hKr50 (by decide) rfl rfl rfl (Nat.le_of_ble_eq_true rfl) dL_test_85 (fun u53 G51 M52 r54 H locs h hu xe hLr54 hKr54 cx w => ?_)
      obtain ⟨hL0, hK0⟩ := ext_wt xe hL0 hK0
      have hext := ext_tr hext xe
      clear xe
      have hG := cX_wt cx
      refine lv_aload_n hx hb dL_test_88 rfl (lv_at hl 0 rfl) ?_
      refine lv_iconst (v := (5 : Int32)) hx hb dL_test_89 (by decide) ?_
      obtain ⟨z55, h⟩ := w_ix h
      refine r_iald cx w hL0 hK0 z55 dL_test_90 ?_
      refine rb_VR (kr := 11) (b := b) (u := u53) (rf := 5) (rl := 153) (As := [.int ((mI M52 a0 (Int32.toNatClampNeg (5 : Int32))))]) (rest := []) cx w hR hl.1 h (fun h => kn_J4_append_bf812 hG hLr54 hKr54 h) (fun v => cwV 1 hts gL_test_J4_append_bf812 rfl rfl rfl (by decide +kernel) ⟨(Nat.le_of_ble_eq_true rfl), (Nat.le_of_ble_eq_true rfl)⟩) hLr54 hKr54 (by decide) rfl rfl rfl (Nat.le_of_ble_eq_true rfl) dL_test_91 (fun u58 G56 M57 r59 H locs h hu xe hLr59 hKr59 cx w => ?_)
      obtain ⟨hL0, hK0⟩ := ext_wt xe hL0 hK0
      have hext := ext_tr hext xe
      clear xe
      have hG := cX_wt cx
      refine rb_VR (kr := 10) (b := b) (u := u58) (rf := 5) (rl := 151) (As := []) (rest := []) cx w hR hl.1 h (fun h => kn_J4_toString_0e30d hG hLr59 hKr59 h) (fun v => cwV 0 hts gL_test_J4_toString_0e30d rfl rfl rfl (by decide +kernel) ⟨(Nat.le_of_ble_eq_true rfl), (Nat.le_of_ble_eq_true rfl)⟩) hLr59 hKr59 (by decide) rfl rfl rfl (Nat.le_of_ble_eq_true rfl) dL_test_94 (fun u62 G60 M61 r63 H locs h hu xe hLr63 hKr63 cx w => ?_)
      obtain ⟨hL0, hK0⟩ := ext_wt xe hL0 hK0
      have hext := ext_tr hext xe
      clear xe
      have hG := cX_wt cx
      exact rb_aret (Or.inl ⟨_, rfl⟩) hLr63 hKr63 h cx w hext hu dL_test_97
    · have h := w_f h k24
      rcases Decidable.em ((mI M a0 (Int32.toNatClampNeg (3 : Int32))) = 2) with k64 | k64
      · have h := w_t h k64
        rw [k64]
        refine lv_tableIn (tgt := 98) hx hb dL_test_3 (by decide) (by decide) rfl (by decide) ?_
        refine rb_newO (b := b) (u := (0, 0)) cx w hR tyJ4 tyJ4_ok rfl (by decide) wb_L_test_J4 (List.mem_of_getElem? (i := 1) rfl) (List.mem_of_getElem? (i := 2) rfl) (List.mem_of_getElem? (i := 3) rfl) df_11 h dL_test_98 (fun q65 u68 G66 M67 H h hu xe hLq65 hKq65 cx w => ?_)
        obtain ⟨hL0, hK0⟩ := ext_wt xe hL0 hK0
        have hext := ext_tr hext xe
        clear xe
        have hG := cX_wt cx
        refine lv_dup hx hb dL_test_101 rfl ?_
        refine rb_NV (b := b) (u := u68) (rf := 2) (rl := 81) (As := []) (rest := [.ref q65]) cx w hR hl.1 h (fun h => kn_J4_init_da8c8 hG hLq65 hKq65 h) (fun v => cwI 0 hts gL_test_J4_init_da8c8 rfl rfl rfl (hts _ (List.mem_of_getElem? (i := 3) rfl)) (hts _ (List.mem_of_getElem? (i := 4) rfl)) (hts _ (List.mem_of_getElem? (i := 5) rfl)) rfl (by decide +kernel) ⟨(Nat.le_of_ble_eq_true rfl), (Nat.le_of_ble_eq_true rfl)⟩) rfl rfl (Nat.le_of_ble_eq_true rfl) dL_test_102 (fun u71 G69 M70 r72 H locs h hu xe cx w => ?_)
        obtain ⟨hL0, hK0⟩ := ext_wt xe hL0 hK0
        obtain ⟨hLq65, hKq65⟩ := ext_wt xe hLq65 hKq65
        have hext := ext_tr hext xe
        clear xe
        have hG := cX_wt cx
        refine r_ldcS (i := 12) cx w (by decide) rfl rfl dL_test_105 ?_
        refine rb_VR (kr := 11) (b := b) (u := u71) (rf := 5) (rl := 152) (As := [.ref (stK D 12)]) (rest := []) cx w hR hl.1 h (fun h => kn_J4_append_15ec4 hG hLq65 hKq65 (by decide : 12 < 36) h) (fun v => cwV 1 hts gL_test_J4_append_15ec4 rfl rfl rfl (by decide +kernel) ⟨(Nat.le_of_ble_eq_true rfl), (Nat.le_of_ble_eq_true rfl)⟩) hLq65 hKq65 (by decide) rfl rfl rfl (Nat.le_of_ble_eq_true rfl) dL_test_107 (fun u75 G73 M74 r76 H locs h hu xe hLr76 hKr76 cx w => ?_)
        obtain ⟨hL0, hK0⟩ := ext_wt xe hL0 hK0
        have hext := ext_tr hext xe
        clear xe
        have hG := cX_wt cx
        refine lv_aload_n hx hb dL_test_110 rfl (lv_at hl 0 rfl) ?_
        refine lv_iconst (v := (4 : Int32)) hx hb dL_test_111 (by decide) ?_
        obtain ⟨z77, h⟩ := w_ix h
        refine r_iald cx w hL0 hK0 z77 dL_test_112 ?_
        refine rb_VR (kr := 11) (b := b) (u := u75) (rf := 5) (rl := 153) (As := [.int ((mI M74 a0 (Int32.toNatClampNeg (4 : Int32))))]) (rest := []) cx w hR hl.1 h (fun h => kn_J4_append_bf812 hG hLr76 hKr76 h) (fun v => cwV 1 hts gL_test_J4_append_bf812 rfl rfl rfl (by decide +kernel) ⟨(Nat.le_of_ble_eq_true rfl), (Nat.le_of_ble_eq_true rfl)⟩) hLr76 hKr76 (by decide) rfl rfl rfl (Nat.le_of_ble_eq_true rfl) dL_test_113 (fun u80 G78 M79 r81 H locs h hu xe hLr81 hKr81 cx w => ?_)
        obtain ⟨hL0, hK0⟩ := ext_wt xe hL0 hK0
        have hext := ext_tr hext xe
        clear xe
        have hG := cX_wt cx
        refine r_ldcS (i := 13) cx w (by decide) rfl rfl dL_test_116 ?_
        refine rb_VR (kr := 11) (b := b) (u := u80) (rf := 5) (rl := 152) (As := [.ref (stK D 13)]) (rest := []) cx w hR hl.1 h (fun h => kn_J4_append_15ec4 hG hLr81 hKr81 (by decide : 13 < 36) h) (fun v => cwV 1 hts gL_test_J4_append_15ec4 rfl rfl rfl (by decide +kernel) ⟨(Nat.le_of_ble_eq_true rfl), (Nat.le_of_ble_eq_true rfl)⟩) hLr81 hKr81 (by decide) rfl rfl rfl (Nat.le_of_ble_eq_true rfl) dL_test_118 (fun u84 G82 M83 r85 H locs h hu xe hLr85 hKr85 cx w => ?_)
        obtain ⟨hL0, hK0⟩ := ext_wt xe hL0 hK0
        have hext := ext_tr hext xe
        clear xe
        have hG := cX_wt cx
        refine lv_aload_n hx hb dL_test_121 rfl (lv_at hl 0 rfl) ?_
        refine lv_iconst (v := (5 : Int32)) hx hb dL_test_122 (by decide) ?_
        obtain ⟨z86, h⟩ := w_ix h
        refine r_iald cx w hL0 hK0 z86 dL_test_123 ?_
        refine rb_VR (kr := 11) (b := b) (u := u84) (rf := 5) (rl := 153) (As := [.int ((mI M83 a0 (Int32.toNatClampNeg (5 : Int32))))]) (rest := []) cx w hR hl.1 h (fun h => kn_J4_append_bf812 hG hLr85 hKr85 h) (fun v => cwV 1 hts gL_test_J4_append_bf812 rfl rfl rfl (by decide +kernel) ⟨(Nat.le_of_ble_eq_true rfl), (Nat.le_of_ble_eq_true rfl)⟩) hLr85 hKr85 (by decide) rfl rfl rfl (Nat.le_of_ble_eq_true rfl) dL_test_124 (fun u89 G87 M88 r90 H locs h hu xe hLr90 hKr90 cx w => ?_)
        obtain ⟨hL0, hK0⟩ := ext_wt xe hL0 hK0
        have hext := ext_tr hext xe
        clear xe
        have hG := cX_wt cx
        refine r_ldcS (i := 14) cx w (by decide) rfl rfl dL_test_127 ?_
        refine rb_VR (kr := 11) (b := b) (u := u89) (rf := 5) (rl := 152) (As := [.ref (stK D 14)]) (rest := []) cx w hR hl.1 h (fun h => kn_J4_append_15ec4 hG hLr90 hKr90 (by decide : 14 < 36) h) (fun v => cwV 1 hts gL_test_J4_append_15ec4 rfl rfl rfl (by decide +kernel) ⟨(Nat.le_of_ble_eq_true rfl), (Nat.le_of_ble_eq_true rfl)⟩) hLr90 hKr90 (by decide) rfl rfl rfl (Nat.le_of_ble_eq_true rfl) dL_test_129 (fun u93 G91 M92 r94 H locs h hu xe hLr94 hKr94 cx w => ?_)
        obtain ⟨hL0, hK0⟩ := ext_wt xe hL0 hK0
        have hext := ext_tr hext xe
        clear xe
        have hG := cX_wt cx
        refine lv_aload_n hx hb dL_test_132 rfl (lv_at hl 0 rfl) ?_
        refine lv_iconst (v := (4 : Int32)) hx hb dL_test_133 (by decide) ?_
        obtain ⟨z95, h⟩ := w_ix h
        refine r_iald cx w hL0 hK0 z95 dL_test_134 ?_
        refine rb_VR (kr := 11) (b := b) (u := u93) (rf := 5) (rl := 153) (As := [.int ((mI M92 a0 (Int32.toNatClampNeg (4 : Int32))))]) (rest := []) cx w hR hl.1 h (fun h => kn_J4_append_bf812 hG hLr94 hKr94 h) (fun v => cwV 1 hts gL_test_J4_append_bf812 rfl rfl rfl (by decide +kernel) ⟨(Nat.le_of_ble_eq_true rfl), (Nat.le_of_ble_eq_true rfl)⟩) hLr94 hKr94 (by decide) rfl rfl rfl (Nat.le_of_ble_eq_true rfl) dL_test_135 (fun u98 G96 M97 r99 H locs h hu xe hLr99 hKr99 cx w => ?_)
        obtain ⟨hL0, hK0⟩ := ext_wt xe hL0 hK0
        have hext := ext_tr hext xe
        clear xe
        have hG := cX_wt cx
        refine rb_VR (kr := 10) (b := b) (u := u98) (rf := 5) (rl := 151) (As := []) (rest := []) cx w hR hl.1 h (fun h => kn_J4_toString_0e30d hG hLr99 hKr99 h) (fun v => cwV 0 hts gL_test_J4_toString_0e30d rfl rfl rfl (by decide +kernel) ⟨(Nat.le_of_ble_eq_true rfl), (Nat.le_of_ble_eq_true rfl)⟩) hLr99 hKr99 (by decide) rfl rfl rfl (Nat.le_of_ble_eq_true rfl) dL_test_138 (fun u102 G100 M101 r103 H locs h hu xe hLr103 hKr103 cx w => ?_)
        obtain ⟨hL0, hK0⟩ := ext_wt xe hL0 hK0
        have hext := ext_tr hext xe
        clear xe
        have hG := cX_wt cx
        exact rb_aret (Or.inl ⟨_, rfl⟩) hLr103 hKr103 h cx w hext hu dL_test_141
      · have h := w_f h k64
        rcases Decidable.em ((mI M a0 (Int32.toNatClampNeg (3 : Int32))) = 3) with k104 | k104
        · have h := w_t h k104
          rw [k104]
          refine lv_tableIn (tgt := 142) hx hb dL_test_3 (by decide) (by decide) rfl (by decide) ?_
          refine rb_newO (b := b) (u := (0, 0)) cx w hR tyJ4 tyJ4_ok rfl (by decide) wb_L_test_J4 (List.mem_of_getElem? (i := 1) rfl) (List.mem_of_getElem? (i := 2) rfl) (List.mem_of_getElem? (i := 3) rfl) df_11 h dL_test_142 (fun q105 u108 G106 M107 H h hu xe hLq105 hKq105 cx w => ?_)
          obtain ⟨hL0, hK0⟩ := ext_wt xe hL0 hK0
          have hext := ext_tr hext xe
          clear xe
          have hG := cX_wt cx
          refine lv_dup hx hb dL_test_145 rfl ?_
          refine rb_NV (b := b) (u := u108) (rf := 2) (rl := 81) (As := []) (rest := [.ref q105]) cx w hR hl.1 h (fun h => kn_J4_init_da8c8 hG hLq105 hKq105 h) (fun v => cwI 0 hts gL_test_J4_init_da8c8 rfl rfl rfl (hts _ (List.mem_of_getElem? (i := 3) rfl)) (hts _ (List.mem_of_getElem? (i := 4) rfl)) (hts _ (List.mem_of_getElem? (i := 5) rfl)) rfl (by decide +kernel) ⟨(Nat.le_of_ble_eq_true rfl), (Nat.le_of_ble_eq_true rfl)⟩) rfl rfl (Nat.le_of_ble_eq_true rfl) dL_test_146 (fun u111 G109 M110 r112 H locs h hu xe cx w => ?_)
          obtain ⟨hL0, hK0⟩ := ext_wt xe hL0 hK0
          obtain ⟨hLq105, hKq105⟩ := ext_wt xe hLq105 hKq105
          have hext := ext_tr hext xe
          clear xe
          have hG := cX_wt cx
          refine r_ldcS (i := 15) cx w (by decide) rfl rfl dL_test_149 ?_
          refine rb_VR (kr := 11) (b := b) (u := u111) (rf := 5) (rl := 152) (As := [.ref (stK D 15)]) (rest := []) cx w hR hl.1 h (fun h => kn_J4_append_15ec4 hG hLq105 hKq105 (by decide : 15 < 36) h) (fun v => cwV 1 hts gL_test_J4_append_15ec4 rfl rfl rfl (by decide +kernel) ⟨(Nat.le_of_ble_eq_true rfl), (Nat.le_of_ble_eq_true rfl)⟩) hLq105 hKq105 (by decide) rfl rfl rfl (Nat.le_of_ble_eq_true rfl) dL_test_151 (fun u115 G113 M114 r116 H locs h hu xe hLr116 hKr116 cx w => ?_)
          obtain ⟨hL0, hK0⟩ := ext_wt xe hL0 hK0
          have hext := ext_tr hext xe
          clear xe
          have hG := cX_wt cx
          refine lv_aload_n hx hb dL_test_154 rfl (lv_at hl 0 rfl) ?_
          refine lv_iconst (v := (4 : Int32)) hx hb dL_test_155 (by decide) ?_
          obtain ⟨z117, h⟩ := w_ix h
          refine r_iald cx w hL0 hK0 z117 dL_test_156 ?_
          refine rb_VR (kr := 11) (b := b) (u := u115) (rf := 5) (rl := 153) (As := [.int ((mI M114 a0 (Int32.toNatClampNeg (4 : Int32))))]) (rest := []) cx w hR hl.1 h (fun h => kn_J4_append_bf812 hG hLr116 hKr116 h) (fun v => cwV 1 hts gL_test_J4_append_bf812 rfl rfl rfl (by decide +kernel) ⟨(Nat.le_of_ble_eq_true rfl), (Nat.le_of_ble_eq_true rfl)⟩) hLr116 hKr116 (by decide) rfl rfl rfl (Nat.le_of_ble_eq_true rfl) dL_test_157 (fun u120 G118 M119 r121 H locs h hu xe hLr121 hKr121 cx w => ?_)
          obtain ⟨hL0, hK0⟩ := ext_wt xe hL0 hK0
          have hext := ext_tr hext xe
          clear xe
          have hG := cX_wt cx
          refine r_ldcS (i := 16) cx w (by decide) rfl rfl dL_test_160 ?_
          refine rb_VR (kr := 11) (b := b) (u := u120) (rf := 5) (rl := 152) (As := [.ref (stK D 16)]) (rest := []) cx w hR hl.1 h (fun h => kn_J4_append_15ec4 hG hLr121 hKr121 (by decide : 16 < 36) h) (fun v => cwV 1 hts gL_test_J4_append_15ec4 rfl rfl rfl (by decide +kernel) ⟨(Nat.le_of_ble_eq_true rfl), (Nat.le_of_ble_eq_true rfl)⟩) hLr121 hKr121 (by decide) rfl rfl rfl (Nat.le_of_ble_eq_true rfl) dL_test_162 (fun u124 G122 M123 r125 H locs h hu xe hLr125 hKr125 cx w => ?_)
          obtain ⟨hL0, hK0⟩ := ext_wt xe hL0 hK0
          have hext := ext_tr hext xe
          clear xe
          have hG := cX_wt cx
          refine lv_aload_n hx hb dL_test_165 rfl (lv_at hl 0 rfl) ?_
          refine lv_iconst (v := (4 : Int32)) hx hb dL_test_166 (by decide) ?_
          obtain ⟨z126, h⟩ := w_ix h
          refine r_iald cx w hL0 hK0 z126 dL_test_167 ?_
          refine rb_VR (kr := 11) (b := b) (u := u124) (rf := 5) (rl := 153) (As := [.int ((mI M123 a0 (Int32.toNatClampNeg (4 : Int32))))]) (rest := []) cx w hR hl.1 h (fun h => kn_J4_append_bf812 hG hLr125 hKr125 h) (fun v => cwV 1 hts gL_test_J4_append_bf812 rfl rfl rfl (by decide +kernel) ⟨(Nat.le_of_ble_eq_true rfl), (Nat.le_of_ble_eq_true rfl)⟩) hLr125 hKr125 (by decide) rfl rfl rfl (Nat.le_of_ble_eq_true rfl) dL_test_168 (fun u129 G127 M128 r130 H locs h hu xe hLr130 hKr130 cx w => ?_)
          obtain ⟨hL0, hK0⟩ := ext_wt xe hL0 hK0
          have hext := ext_tr hext xe
          clear xe
          have hG := cX_wt cx
          refine rb_VR (kr := 10) (b := b) (u := u129) (rf := 5) (rl := 151) (As := []) (rest := []) cx w hR hl.1 h (fun h => kn_J4_toString_0e30d hG hLr130 hKr130 h) (fun v => cwV 0 hts gL_test_J4_toString_0e30d rfl rfl rfl (by decide +kernel) ⟨(Nat.le_of_ble_eq_true rfl), (Nat.le_of_ble_eq_true rfl)⟩) hLr130 hKr130 (by decide) rfl rfl rfl (Nat.le_of_ble_eq_true rfl) dL_test_171 (fun u133 G131 M132 r134 H locs h hu xe hLr134 hKr134 cx w => ?_)
          obtain ⟨hL0, hK0⟩ := ext_wt xe hL0 hK0
          have hext := ext_tr hext xe
          clear xe
          have hG := cX_wt cx
          exact rb_aret (Or.inl ⟨_, rfl⟩) hLr134 hKr134 h cx w hext hu dL_test_174
        · have h := w_f h k104
          refine lv_tableOut (tgt := 175) hx hb dL_test_3 (by have nk2 : Int32.toInt (mI M a0 (Int32.toNatClampNeg (3 : Int32))) ≠ 0 := fun hh => k2 (Int32.toInt_inj.mp hh); have nk24 : Int32.toInt (mI M a0 (Int32.toNatClampNeg (3 : Int32))) ≠ 1 := fun hh => k24 (Int32.toInt_inj.mp hh); have nk64 : Int32.toInt (mI M a0 (Int32.toNatClampNeg (3 : Int32))) ≠ 2 := fun hh => k64 (Int32.toInt_inj.mp hh); have nk104 : Int32.toInt (mI M a0 (Int32.toNatClampNeg (3 : Int32))) ≠ 3 := fun hh => k104 (Int32.toInt_inj.mp hh); omega) (by decide) ?_
          refine rb_newO (b := b) (u := (0, 0)) cx w hR tyJ4 tyJ4_ok rfl (by decide) wb_L_test_J4 (List.mem_of_getElem? (i := 1) rfl) (List.mem_of_getElem? (i := 2) rfl) (List.mem_of_getElem? (i := 3) rfl) df_11 h dL_test_175 (fun q135 u138 G136 M137 H h hu xe hLq135 hKq135 cx w => ?_)
          obtain ⟨hL0, hK0⟩ := ext_wt xe hL0 hK0
          have hext := ext_tr hext xe
          clear xe
          have hG := cX_wt cx
          refine lv_dup hx hb dL_test_178 rfl ?_
          refine rb_NV (b := b) (u := u138) (rf := 2) (rl := 81) (As := []) (rest := [.ref q135]) cx w hR hl.1 h (fun h => kn_J4_init_da8c8 hG hLq135 hKq135 h) (fun v => cwI 0 hts gL_test_J4_init_da8c8 rfl rfl rfl (hts _ (List.mem_of_getElem? (i := 3) rfl)) (hts _ (List.mem_of_getElem? (i := 4) rfl)) (hts _ (List.mem_of_getElem? (i := 5) rfl)) rfl (by decide +kernel) ⟨(Nat.le_of_ble_eq_true rfl), (Nat.le_of_ble_eq_true rfl)⟩) rfl rfl (Nat.le_of_ble_eq_true rfl) dL_test_179 (fun u141 G139 M140 r142 H locs h hu xe cx w => ?_)
          obtain ⟨hL0, hK0⟩ := ext_wt xe hL0 hK0
          obtain ⟨hLq135, hKq135⟩ := ext_wt xe hLq135 hKq135
          have hext := ext_tr hext xe
          clear xe
          have hG := cX_wt cx
          refine r_ldcS (i := 17) cx w (by decide) rfl rfl dL_test_182 ?_
          refine rb_VR (kr := 11) (b := b) (u := u141) (rf := 5) (rl := 152) (As := [.ref (stK D 17)]) (rest := []) cx w hR hl.1 h (fun h => kn_J4_append_15ec4 hG hLq135 hKq135 (by decide : 17 < 36) h) (fun v => cwV 1 hts gL_test_J4_append_15ec4 rfl rfl rfl (by decide +kernel) ⟨(Nat.le_of_ble_eq_true rfl), (Nat.le_of_ble_eq_true rfl)⟩) hLq135 hKq135 (by decide) rfl rfl rfl (Nat.le_of_ble_eq_true rfl) dL_test_184 (fun u145 G143 M144 r146 H locs h hu xe hLr146 hKr146 cx w => ?_)
          obtain ⟨hL0, hK0⟩ := ext_wt xe hL0 hK0
          have hext := ext_tr hext xe
          clear xe
          have hG := cX_wt cx
          refine lv_aload_n hx hb dL_test_187 rfl (lv_at hl 0 rfl) ?_
          refine lv_iconst (v := (4 : Int32)) hx hb dL_test_188 (by decide) ?_
          obtain ⟨z147, h⟩ := w_ix h
          refine r_iald cx w hL0 hK0 z147 dL_test_189 ?_
          refine rb_VR (kr := 11) (b := b) (u := u145) (rf := 5) (rl := 153) (As := [.int ((mI M144 a0 (Int32.toNatClampNeg (4 : Int32))))]) (rest := []) cx w hR hl.1 h (fun h => kn_J4_append_bf812 hG hLr146 hKr146 h) (fun v => cwV 1 hts gL_test_J4_append_bf812 rfl rfl rfl (by decide +kernel) ⟨(Nat.le_of_ble_eq_true rfl), (Nat.le_of_ble_eq_true rfl)⟩) hLr146 hKr146 (by decide) rfl rfl rfl (Nat.le_of_ble_eq_true rfl) dL_test_190 (fun u150 G148 M149 r151 H locs h hu xe hLr151 hKr151 cx w => ?_)
          obtain ⟨hL0, hK0⟩ := ext_wt xe hL0 hK0
          have hext := ext_tr hext xe
          clear xe
          have hG := cX_wt cx
          refine r_ldcS (i := 18) cx w (by decide) rfl rfl dL_test_193 ?_
          refine rb_VR (kr := 11) (b := b) (u := u150) (rf := 5) (rl := 152) (As := [.ref (stK D 18)]) (rest := []) cx w hR hl.1 h (fun h => kn_J4_append_15ec4 hG hLr151 hKr151 (by decide : 18 < 36) h) (fun v => cwV 1 hts gL_test_J4_append_15ec4 rfl rfl rfl (by decide +kernel) ⟨(Nat.le_of_ble_eq_true rfl), (Nat.le_of_ble_eq_true rfl)⟩) hLr151 hKr151 (by decide) rfl rfl rfl (Nat.le_of_ble_eq_true rfl) dL_test_195 (fun u154 G152 M153 r155 H locs h hu xe hLr155 hKr155 cx w => ?_)
          obtain ⟨hL0, hK0⟩ := ext_wt xe hL0 hK0
          have hext := ext_tr hext xe
          clear xe
          have hG := cX_wt cx
          refine lv_aload_n hx hb dL_test_198 rfl (lv_at hl 0 rfl) ?_
          refine lv_iconst (v := (5 : Int32)) hx hb dL_test_199 (by decide) ?_
          obtain ⟨z156, h⟩ := w_ix h
          refine r_iald cx w hL0 hK0 z156 dL_test_200 ?_
          refine rb_VR (kr := 11) (b := b) (u := u154) (rf := 5) (rl := 153) (As := [.int ((mI M153 a0 (Int32.toNatClampNeg (5 : Int32))))]) (rest := []) cx w hR hl.1 h (fun h => kn_J4_append_bf812 hG hLr155 hKr155 h) (fun v => cwV 1 hts gL_test_J4_append_bf812 rfl rfl rfl (by decide +kernel) ⟨(Nat.le_of_ble_eq_true rfl), (Nat.le_of_ble_eq_true rfl)⟩) hLr155 hKr155 (by decide) rfl rfl rfl (Nat.le_of_ble_eq_true rfl) dL_test_201 (fun u159 G157 M158 r160 H locs h hu xe hLr160 hKr160 cx w => ?_)
          obtain ⟨hL0, hK0⟩ := ext_wt xe hL0 hK0
          have hext := ext_tr hext xe
          clear xe
          have hG := cX_wt cx
          refine r_ldcS (i := 19) cx w (by decide) rfl rfl dL_test_204 ?_
          refine rb_VR (kr := 11) (b := b) (u := u159) (rf := 5) (rl := 152) (As := [.ref (stK D 19)]) (rest := []) cx w hR hl.1 h (fun h => kn_J4_append_15ec4 hG hLr160 hKr160 (by decide : 19 < 36) h) (fun v => cwV 1 hts gL_test_J4_append_15ec4 rfl rfl rfl (by decide +kernel) ⟨(Nat.le_of_ble_eq_true rfl), (Nat.le_of_ble_eq_true rfl)⟩) hLr160 hKr160 (by decide) rfl rfl rfl (Nat.le_of_ble_eq_true rfl) dL_test_206 (fun u163 G161 M162 r164 H locs h hu xe hLr164 hKr164 cx w => ?_)
          obtain ⟨hL0, hK0⟩ := ext_wt xe hL0 hK0
          have hext := ext_tr hext xe
          clear xe
          have hG := cX_wt cx
          refine rb_VR (kr := 10) (b := b) (u := u163) (rf := 5) (rl := 151) (As := []) (rest := []) cx w hR hl.1 h (fun h => kn_J4_toString_0e30d hG hLr164 hKr164 h) (fun v => cwV 0 hts gL_test_J4_toString_0e30d rfl rfl rfl (by decide +kernel) ⟨(Nat.le_of_ble_eq_true rfl), (Nat.le_of_ble_eq_true rfl)⟩) hLr164 hKr164 (by decide) rfl rfl rfl (Nat.le_of_ble_eq_true rfl) dL_test_209 (fun u167 G165 M166 r168 H locs h hu xe hLr168 hKr168 cx w => ?_)
          obtain ⟨hL0, hK0⟩ := ext_wt xe hL0 hK0
          have hext := ext_tr hext xe
          clear xe
          have hG := cX_wt cx
          exact rb_aret (Or.inl ⟨_, rfl⟩) hLr168 hKr168 h cx w hext hu dL_test_212
-- L_list
theorem wb_L_list_X10 : ∀ w ∈ wsX100, w ∈ wsL_list := by decide +kernel
theorem wb_L_list_J4 : ∀ w ∈ wsJ40, w ∈ wsL_list := by decide +kernel
abbrev rnL_list (b : uS) : Room := { frames := 7, cells := b.1, slots := b.2, locals := 194 }
def nb_L_list_66 (D : va_G) (b : uS) (a1 : Nat) (kb23 : uS → gS → mS → Nat → Int32 → Int32 → Prop) (post : gS → mS → Nat → Prop) (back : uS → gS → mS → Nat → Int32 → Int32 → Int32 → Nat → Int32 → Prop) (u : uS) (G : gS) (M : mS) (v2 : Nat) (v3 : Int32) (v4 : Int32) (v5 : Int32) (v6 : Nat) (v7 : Int32) : Prop := p_if ((Int32.ofNat (gN G v6)) ≤ v7) (q_ca b u (fun v => n_J4_append_15ec4 v G M a1 22) (fun u4 G2 M3 r5 => p_rf (gP G2 v2 4) (fun q6 => q_ca b u4 (fun v => n_X10_with v G2 M3 q6 v6) (fun u9 G7 M8 r10 => p_sR G7 v2 4 r10 (fun G11 => p_bd (v4 + 1 : Int32) (fun x12 => kb23 u9 G11 M8 v2 v3 x12)))))) (q_ca b u (fun v => n_L_below D v G M (v5 >>> ((((2 : Int32) * v7) + (3 : Int32)) &&& 31)) (4 : Int32)) (fun u15 G13 M14 r16 => p_ix v7 (gN G13 v6) (p_wI M14 v6 (Int32.toNatClampNeg v7) r16 (fun M18 => q_ca b u15 (fun v => n_J4_append_15ec4 v G13 M18 a1 21) (fun u21 G19 M20 r22 => p_ix v7 (gN G19 v6) (p_ix (mI M20 v6 (Int32.toNatClampNeg v7)) 4 (q_ca b u21 (fun v => n_J4_append_15ec4 v G19 M20 r22 (Int32.toNatClampNeg (mI M20 v6 (Int32.toNatClampNeg v7)))) (fun u27 G25 M26 r28 => p_bd (v7 + 1 : Int32) (fun x29 => back u27 G25 M26 v2 v3 v4 v5 v6 x29)))))))))
def nl_L_list_66 (D : va_G) (b : uS) (a1 : Nat) (kb23 : uS → gS → mS → Nat → Int32 → Int32 → Prop) (post : gS → mS → Nat → Prop) (u : uS) (G : gS) (M : mS) (v2 : Nat) (v3 : Int32) (v4 : Int32) (v5 : Int32) (v6 : Nat) (v7 : Int32) : Prop := ∃ (I : Nat → uS → gS → mS → Nat → Int32 → Int32 → Int32 → Nat → Int32 → Prop) (n : Nat), I n u G M v2 v3 v4 v5 v6 v7 ∧ ∀ (n : Nat) (u : uS) (G : gS) (M : mS) (v2 : Nat) (v3 : Int32) (v4 : Int32) (v5 : Int32) (v6 : Nat) (v7 : Int32), I n u G M v2 v3 v4 v5 v6 v7 → nb_L_list_66 D b a1 kb23 post (fun u G M v2 v3 v4 v5 v6 v7 => ∃ k, k < n ∧ I k u G M v2 v3 v4 v5 v6 v7) u G M v2 v3 v4 v5 v6 v7
def nb_L_list_258 (D : va_G) (b : uS) (a1 : Nat) (kb159 : uS → gS → mS → Nat → Int32 → Int32 → Int32 → Prop) (post : gS → mS → Nat → Prop) (u : uS) (G : gS) (M : mS) (v2 : Nat) (v3 : Int32) (v4 : Int32) (v5 : Int32) (v6 : Int32) (s0 : Nat) (s1 : Nat) (s2 : Int32) (s3 : Int32) (s4 : Int32) (s5 : Int32) : Prop := p_ck (¬ (64 : Int32) = 0) (p_ix s2 (gN G s1) (p_wI M s1 (Int32.toNatClampNeg s2) ((s3 + (s4 * s5)) - (s3 + (s4 * s5)) / (64 : Int32) * (64 : Int32)) (fun M3 => q_ca b u (fun v => n_L_below D v G M3 (v6 >>> ((9 : Int32) &&& 31)) (4 : Int32)) (fun u6 G4 M5 r7 => p_ix (3 : Int32) (gN G4 s0) (p_wI M5 s0 (Int32.toNatClampNeg (3 : Int32)) r7 (fun M9 => p_ix (4 : Int32) (gN G4 s0) (p_wI M9 s0 (Int32.toNatClampNeg (4 : Int32)) (1 : Int32) (fun M11 => p_ix (5 : Int32) (gN G4 s0) (p_wI M11 s0 (Int32.toNatClampNeg (5 : Int32)) (0 : Int32) (fun M13 => q_ca b u6 (fun v => n_J4_append_15ec4 v G4 M13 a1 23) (fun u16 G14 M15 r17 => q_ca b u16 (fun v => n_J4_append_bf812 v G14 M15 r17 v5) (fun u20 G18 M19 r21 => q_ca b u20 (fun v => n_J4_append_15ec4 v G18 M19 r21 24) (fun u24 G22 M23 r25 => p_ix (0 : Int32) (gN G22 s0) (q_ca b u24 (fun v => n_J4_append_bf812 v G22 M23 r25 (mI M23 s0 (Int32.toNatClampNeg (0 : Int32)))) (fun u29 G27 M28 r30 => q_ca b u29 (fun v => n_J4_append_15ec4 v G27 M28 r30 25) (fun u33 G31 M32 r34 => p_ix (1 : Int32) (gN G31 s0) (q_ca b u33 (fun v => n_J4_append_bf812 v G31 M32 r34 (mI M32 s0 (Int32.toNatClampNeg (1 : Int32)))) (fun u38 G36 M37 r39 => q_ca b u38 (fun v => n_J4_append_15ec4 v G36 M37 r39 21) (fun u42 G40 M41 r43 => p_ix (2 : Int32) (gN G40 s0) (q_ca b u42 (fun v => n_J4_append_bf812 v G40 M41 r43 (mI M41 s0 (Int32.toNatClampNeg (2 : Int32)))) (fun u47 G45 M46 r48 => q_ca b u47 (fun v => n_J4_append_15ec4 v G45 M46 r48 26) (fun u51 G49 M50 r52 => p_ix (3 : Int32) (gN G49 s0) (p_ix (mI M50 s0 (Int32.toNatClampNeg (3 : Int32))) 4 (q_ca b u51 (fun v => n_J4_append_15ec4 v G49 M50 r52 (4 + (Int32.toNatClampNeg (mI M50 s0 (Int32.toNatClampNeg (3 : Int32)))))) (fun u57 G55 M56 r58 => q_ca b u57 (fun v => n_J4_append_15ec4 v G55 M56 r58 27) (fun u61 G59 M60 r62 => p_rf (gP G59 v2 6) (fun q63 => q_ca b u61 (fun v => n_X10_with v G59 M60 q63 s0) (fun u66 G64 M65 r67 => p_sR G64 v2 6 r67 (fun G68 => p_rf (gP G68 v2 7) (fun q69 => q_na b u66 G68 M65 12 (0 : Int32) (fun q70 u73 G71 M72 => q_ca b u73 (fun v => n_X10_with v G71 M72 q69 q70) (fun u76 G74 M75 r77 => p_sR G74 v2 7 r77 (fun G78 => p_bd (v5 + 1 : Int32) (fun x79 => kb159 u76 G78 M75 v2 v3 v4 x79))))))))))))))))))))))))))))))))))
def nb_L_list_223 (D : va_G) (b : uS) (a1 : Nat) (kb159 : uS → gS → mS → Nat → Int32 → Int32 → Int32 → Prop) (post : gS → mS → Nat → Prop) (u : uS) (G : gS) (M : mS) (v2 : Nat) (v3 : Int32) (v4 : Int32) (v5 : Int32) (v6 : Int32) (s0 : Nat) (s1 : Nat) (s2 : Int32) (s3 : Int32) (s4 : Int32) (s5 : Int32) : Prop := p_ck (¬ (64 : Int32) = 0) (p_ix s2 (gN G s1) (p_wI M s1 (Int32.toNatClampNeg s2) ((s3 + (s4 * s5)) - (s3 + (s4 * s5)) / (64 : Int32) * (64 : Int32)) (fun M3 => q_ca b u (fun v => n_L_below D v G M3 (v6 >>> ((6 : Int32) &&& 31)) (8 : Int32)) (fun u6 G4 M5 r7 => q_ca b u6 (fun v => n_L_below D v G4 M5 v6 (5 : Int32)) (fun u10 G8 M9 r11 => p_if (r11 = 0) (nb_L_list_258 D b a1 kb159 post u10 G8 M9 v2 v3 v4 v5 v6 s0 s0 ((2 : Int32)) ((30 : Int32)) r7 ((8 : Int32))) (nb_L_list_258 D b a1 kb159 post u10 G8 M9 v2 v3 v4 v5 v6 s0 s0 ((2 : Int32)) ((30 : Int32)) r7 ((1 : Int32))))))))
def nb_L_list_977 (D : va_G) (b : uS) (a1 : Nat) (kb538 : uS → gS → mS → Nat → Int32 → Int32 → Prop) (post : gS → mS → Nat → Prop) (u : uS) (G : gS) (M : mS) (v2 : Nat) (v4 : Int32) (v5 : Int32) (v10 : Nat) (s1 : Nat) : Prop := q_ca b u (fun v => n_J4_append_15ec4p v G M a1 s1) (fun u3 G1 M2 r4 => q_ca b u3 (fun v => n_J4_append_15ec4 v G1 M2 r4 35) (fun u7 G5 M6 r8 => q_ca b u7 (fun v => n_L_test D v G5 M6 v10) (fun u11 G9 M10 r12 => q_ca b u11 (fun v => n_J4_append_15ec4p v G9 M10 r8 r12) (fun u15 G13 M14 r16 => q_ca b u15 (fun v => n_J4_append_15ec4 v G13 M14 r16 27) (fun u19 G17 M18 r20 => p_rf (gP G17 v2 8) (fun q21 => q_ca b u19 (fun v => n_X10_with v G17 M18 q21 v10) (fun u24 G22 M23 r25 => p_sR G22 v2 8 r25 (fun G26 => p_bd (v5 + (-1) : Int32) (fun x27 => kb538 u24 G26 M23 v2 v4 x27)))))))))
def nb_L_list_834 (D : va_G) (b : uS) (a1 : Nat) (kb538 : uS → gS → mS → Nat → Int32 → Int32 → Prop) (post : gS → mS → Nat → Prop) (u : uS) (G : gS) (M : mS) (v2 : Nat) (v4 : Int32) (v5 : Int32) (v8 : Int32) (v10 : Nat) : Prop := p_if (v8 = 0) (q_nw b u G M 11 0 4 (fun q77 u80 G78 M79 => q_ca b u80 (fun v => n_J4_init_da8c8 v G78 M79 q77) (fun u83 G81 M82 r84 => q_ca b u83 (fun v => n_J4_append_15ec4 v G81 M82 q77 29) (fun u87 G85 M86 r88 => p_ix (1 : Int32) (gN G85 v10) (q_ca b u87 (fun v => n_J4_append_bf812 v G85 M86 r88 (mI M86 v10 (Int32.toNatClampNeg (1 : Int32)))) (fun u92 G90 M91 r93 => q_ca b u92 (fun v => n_J4_append_15ec4 v G90 M91 r93 30) (fun u96 G94 M95 r97 => p_ix (2 : Int32) (gN G94 v10) (q_ca b u96 (fun v => n_J4_append_bf812 v G94 M95 r97 (mI M95 v10 (Int32.toNatClampNeg (2 : Int32)))) (fun u101 G99 M100 r102 => q_ca b u101 (fun v => n_J4_toString_0e30d v G99 M100 r102) (fun u105 G103 M104 r106 => nb_L_list_977 D b a1 kb538 post u105 G103 M104 v2 v4 v5 v10 r106)))))))))) (p_if (v8 = (1 : Int32)) (q_nw b u G M 11 0 4 (fun q46 u49 G47 M48 => q_ca b u49 (fun v => n_J4_init_da8c8 v G47 M48 q46) (fun u52 G50 M51 r53 => q_ca b u52 (fun v => n_J4_append_15ec4 v G50 M51 q46 31) (fun u56 G54 M55 r57 => p_ix (1 : Int32) (gN G54 v10) (q_ca b u56 (fun v => n_J4_append_bf812 v G54 M55 r57 (mI M55 v10 (Int32.toNatClampNeg (1 : Int32)))) (fun u61 G59 M60 r62 => q_ca b u61 (fun v => n_J4_append_15ec4 v G59 M60 r62 21) (fun u65 G63 M64 r66 => p_ix (2 : Int32) (gN G63 v10) (p_ix (mI M64 v10 (Int32.toNatClampNeg (2 : Int32))) 4 (q_ca b u65 (fun v => n_J4_append_15ec4 v G63 M64 r66 (4 + (Int32.toNatClampNeg (mI M64 v10 (Int32.toNatClampNeg (2 : Int32)))))) (fun u71 G69 M70 r72 => q_ca b u71 (fun v => n_J4_toString_0e30d v G69 M70 r72) (fun u75 G73 M74 r76 => nb_L_list_977 D b a1 kb538 post u75 G73 M74 v2 v4 v5 v10 r76))))))))))) (p_if (v8 = (2 : Int32)) (q_nw b u G M 11 0 4 (fun q25 u28 G26 M27 => q_ca b u28 (fun v => n_J4_init_da8c8 v G26 M27 q25) (fun u31 G29 M30 r32 => q_ca b u31 (fun v => n_J4_append_15ec4 v G29 M30 q25 32) (fun u35 G33 M34 r36 => p_ix (1 : Int32) (gN G33 v10) (q_ca b u35 (fun v => n_J4_append_bf812 v G33 M34 r36 (mI M34 v10 (Int32.toNatClampNeg (1 : Int32)))) (fun u40 G38 M39 r41 => q_ca b u40 (fun v => n_J4_toString_0e30d v G38 M39 r41) (fun u44 G42 M43 r45 => nb_L_list_977 D b a1 kb538 post u44 G42 M43 v2 v4 v5 v10 r45))))))) (q_nw b u G M 11 0 4 (fun q4 u7 G5 M6 => q_ca b u7 (fun v => n_J4_init_da8c8 v G5 M6 q4) (fun u10 G8 M9 r11 => q_ca b u10 (fun v => n_J4_append_15ec4 v G8 M9 q4 33) (fun u14 G12 M13 r15 => p_ix (1 : Int32) (gN G12 v10) (q_ca b u14 (fun v => n_J4_append_bf812 v G12 M13 r15 (mI M13 v10 (Int32.toNatClampNeg (1 : Int32)))) (fun u19 G17 M18 r20 => q_ca b u19 (fun v => n_J4_toString_0e30d v G17 M18 r20) (fun u23 G21 M22 r24 => nb_L_list_977 D b a1 kb538 post u23 G21 M22 v2 v4 v5 v10 r24)))))))))
def nb_L_list_812 (D : va_G) (b : uS) (a1 : Nat) (kb538 : uS → gS → mS → Nat → Int32 → Int32 → Prop) (post : gS → mS → Nat → Prop) (u : uS) (G : gS) (M : mS) (v2 : Nat) (v4 : Int32) (v5 : Int32) (v6 : Int32) (v8 : Int32) (v10 : Nat) : Prop := p_ix (3 : Int32) (gN G v10) (p_if ((mI M v10 (Int32.toNatClampNeg (3 : Int32))) = (4 : Int32)) (q_ca b u (fun v => n_L_below D v G M (v6 >>> ((9 : Int32) &&& 31)) v4) (fun u5 G3 M4 r6 => p_ix (5 : Int32) (gN G3 v10) (p_wI M4 v10 (Int32.toNatClampNeg (5 : Int32)) r6 (fun M8 => nb_L_list_834 D b a1 kb538 post u5 G3 M8 v2 v4 v5 v8 v10)))) (nb_L_list_834 D b a1 kb538 post u G M v2 v4 v5 v8 v10))
def nb_L_list_788 (D : va_G) (b : uS) (a1 : Nat) (kb538 : uS → gS → mS → Nat → Int32 → Int32 → Prop) (post : gS → mS → Nat → Prop) (u : uS) (G : gS) (M : mS) (v2 : Nat) (v4 : Int32) (v5 : Int32) (v6 : Int32) (v8 : Int32) (v10 : Nat) : Prop := p_ix (3 : Int32) (gN G v10) (p_if ((mI M v10 (Int32.toNatClampNeg (3 : Int32))) = (2 : Int32)) (q_ca b u (fun v => n_L_below D v G M (v6 >>> ((2 : Int32) &&& 31)) (12 : Int32)) (fun u5 G3 M4 r6 => p_ix (5 : Int32) (gN G3 v10) (p_wI M4 v10 (Int32.toNatClampNeg (5 : Int32)) ((26 : Int32) + r6) (fun M8 => nb_L_list_812 D b a1 kb538 post u5 G3 M8 v2 v4 v5 v6 v8 v10)))) (nb_L_list_812 D b a1 kb538 post u G M v2 v4 v5 v6 v8 v10))
def nb_L_list_787 (D : va_G) (b : uS) (a1 : Nat) (kb538 : uS → gS → mS → Nat → Int32 → Int32 → Prop) (post : gS → mS → Nat → Prop) (u : uS) (G : gS) (M : mS) (v2 : Nat) (v4 : Int32) (v5 : Int32) (v6 : Int32) (v8 : Int32) (v10 : Nat) (s0 : Nat) (s1 : Int32) (s2 : Int32) : Prop := p_ix s1 (gN G s0) (p_wI M s0 (Int32.toNatClampNeg s1) s2 (fun M2 => nb_L_list_788 D b a1 kb538 post u G M2 v2 v4 v5 v6 v8 v10))
def nb_L_list_743 (D : va_G) (b : uS) (a1 : Nat) (kb538 : uS → gS → mS → Nat → Int32 → Int32 → Prop) (post : gS → mS → Nat → Prop) (u : uS) (G : gS) (M : mS) (v2 : Nat) (v4 : Int32) (v5 : Int32) (v6 : Int32) (v8 : Int32) (v10 : Nat) : Prop := p_ix (3 : Int32) (gN G v10) (p_if ((mI M v10 (Int32.toNatClampNeg (3 : Int32))) ≤ (1 : Int32)) (nb_L_list_788 D b a1 kb538 post u G M v2 v4 v5 v6 v8 v10) (p_ix (3 : Int32) (gN G v10) (p_if ((mI M v10 (Int32.toNatClampNeg (3 : Int32))) = (4 : Int32)) (q_ca b u (fun v => n_L_below D v G M (v6 >>> ((2 : Int32) &&& 31)) (12 : Int32)) (fun u11 G9 M10 r12 => nb_L_list_787 D b a1 kb538 post u11 G9 M10 v2 v4 v5 v6 v8 v10 v10 ((4 : Int32)) (((28 : Int32) + r12)))) (q_ca b u (fun v => n_L_below D v G M (v6 >>> ((8 : Int32) &&& 31)) v4) (fun u7 G5 M6 r8 => nb_L_list_787 D b a1 kb538 post u7 G5 M6 v2 v4 v5 v6 v8 v10 v10 ((4 : Int32)) r8)))))
def nb_L_list_719 (D : va_G) (b : uS) (a1 : Nat) (kb538 : uS → gS → mS → Nat → Int32 → Int32 → Prop) (post : gS → mS → Nat → Prop) (u : uS) (G : gS) (M : mS) (v2 : Nat) (v4 : Int32) (v5 : Int32) (v6 : Int32) (v8 : Int32) (v10 : Nat) : Prop := p_ix (3 : Int32) (gN G v10) (p_if ((mI M v10 (Int32.toNatClampNeg (3 : Int32))) = (1 : Int32)) (p_ix (4 : Int32) (gN G v10) (q_ca b u (fun v => n_L_below D v G M (v6 >>> ((6 : Int32) &&& 31)) (mI M v10 (Int32.toNatClampNeg (4 : Int32)))) (fun u6 G4 M5 r7 => p_ix (5 : Int32) (gN G4 v10) (p_wI M5 v10 (Int32.toNatClampNeg (5 : Int32)) r7 (fun M9 => nb_L_list_743 D b a1 kb538 post u6 G4 M9 v2 v4 v5 v6 v8 v10))))) (nb_L_list_743 D b a1 kb538 post u G M v2 v4 v5 v6 v8 v10))
def nb_L_list_696 (D : va_G) (b : uS) (a1 : Nat) (kb538 : uS → gS → mS → Nat → Int32 → Int32 → Prop) (post : gS → mS → Nat → Prop) (u : uS) (G : gS) (M : mS) (v2 : Nat) (v4 : Int32) (v5 : Int32) (v6 : Int32) (v8 : Int32) (v10 : Nat) : Prop := p_ix (3 : Int32) (gN G v10) (p_if ((mI M v10 (Int32.toNatClampNeg (3 : Int32))) = (1 : Int32)) (q_ca b u (fun v => n_L_below D v G M (v6 >>> ((2 : Int32) &&& 31)) (9 : Int32)) (fun u5 G3 M4 r6 => p_ix (4 : Int32) (gN G3 v10) (p_wI M4 v10 (Int32.toNatClampNeg (4 : Int32)) ((2 : Int32) + r6) (fun M8 => nb_L_list_719 D b a1 kb538 post u5 G3 M8 v2 v4 v5 v6 v8 v10)))) (nb_L_list_719 D b a1 kb538 post u G M v2 v4 v5 v6 v8 v10))
def nb_L_list_653 (D : va_G) (b : uS) (a1 : Nat) (kb538 : uS → gS → mS → Nat → Int32 → Int32 → Prop) (post : gS → mS → Nat → Prop) (u : uS) (G : gS) (M : mS) (v2 : Nat) (v4 : Int32) (v5 : Int32) (v6 : Int32) (v8 : Int32) (s0 : Nat) (s1 : Nat) (s2 : Int32) (s3 : Int32) : Prop := p_ix s2 (gN G s1) (p_wI M s1 (Int32.toNatClampNeg s2) s3 (fun M2 => q_ca b u (fun v => n_L_below D v G M2 (v6 >>> ((7 : Int32) &&& 31)) (5 : Int32)) (fun u5 G3 M4 r6 => p_ix (3 : Int32) (gN G3 s0) (p_wI M4 s0 (Int32.toNatClampNeg (3 : Int32)) r6 (fun M8 => p_ix (4 : Int32) (gN G3 s0) (p_wI M8 s0 (Int32.toNatClampNeg (4 : Int32)) (0 : Int32) (fun M10 => p_ix (5 : Int32) (gN G3 s0) (p_wI M10 s0 (Int32.toNatClampNeg (5 : Int32)) (0 : Int32) (fun M12 => p_ix (3 : Int32) (gN G3 s0) (p_if ((mI M12 s0 (Int32.toNatClampNeg (3 : Int32))) = 0) (q_ca b u5 (fun v => n_L_below D v G3 M12 (v6 >>> ((2 : Int32) &&& 31)) (30 : Int32)) (fun u17 G15 M16 r18 => p_ix (4 : Int32) (gN G15 s0) (p_wI M16 s0 (Int32.toNatClampNeg (4 : Int32)) r18 (fun M20 => nb_L_list_696 D b a1 kb538 post u17 G15 M20 v2 v4 v5 v6 v8 s0)))) (nb_L_list_696 D b a1 kb538 post u5 G3 M12 v2 v4 v5 v6 v8 s0)))))))))))
def nb_L_list_616 (D : va_G) (b : uS) (a1 : Nat) (kb538 : uS → gS → mS → Nat → Int32 → Int32 → Prop) (post : gS → mS → Nat → Prop) (u : uS) (G : gS) (M : mS) (v2 : Nat) (v4 : Int32) (v5 : Int32) (v6 : Int32) (v8 : Int32) (v9 : Int32) (s0 : Nat) (s1 : Nat) (s2 : Int32) (s3 : Int32) : Prop := p_ix s2 (gN G s1) (p_wI M s1 (Int32.toNatClampNeg s2) s3 (fun M2 => p_if (v8 = 0) (q_ca b u (fun v => n_L_below D v G M2 (v6 >>> ((6 : Int32) &&& 31)) (30 : Int32)) (fun u10 G8 M9 r11 => nb_L_list_653 D b a1 kb538 post u10 G8 M9 v2 v4 v5 v6 v8 s0 s0 ((2 : Int32)) ((if (v9 + r11) < (63 : Int32) then (v9 + r11) else (63 : Int32))))) (q_ca b u (fun v => n_L_below D v G M2 (v6 >>> ((5 : Int32) &&& 31)) (4 : Int32)) (fun u6 G4 M5 r7 => nb_L_list_653 D b a1 kb538 post u6 G4 M5 v2 v4 v5 v6 v8 s0 s0 ((2 : Int32)) r7))))
def nb_L_list_538 (D : va_G) (b : uS) (a1 : Nat) (post : gS → mS → Nat → Prop) (back : uS → gS → mS → Nat → Int32 → Int32 → Prop) (u : uS) (G : gS) (M : mS) (v2 : Nat) (v4 : Int32) (v5 : Int32) : Prop := p_if (v5 ≤ 0) (post G M v2) (q_ca b u (fun v => n_L_cell D v G M (13 : Int32)) (fun u4 G2 M3 r5 => p_bd (((r5 >>> (v5 &&& 31)) + ((61 : Int32) * v5))) (fun x6 => q_ca b u4 (fun v => n_L_below D v G2 M3 (x6 >>> ((3 : Int32) &&& 31)) v4) (fun u9 G7 M8 r10 => q_ca b u9 (fun v => n_L_below D v G7 M8 x6 (4 : Int32)) (fun u13 G11 M12 r14 => q_ca b u13 (fun v => n_L_below D v G11 M12 (x6 >>> ((4 : Int32) &&& 31)) (16 : Int32)) (fun u17 G15 M16 r18 => p_bd (((24 : Int32) + r18)) (fun x19 => q_na b u17 G15 M16 12 (6 : Int32) (fun q20 u23 G21 M22 => p_ix (0 : Int32) (gN G21 q20) (p_wI M22 q20 (Int32.toNatClampNeg (0 : Int32)) r14 (fun M25 => p_if (r14 = 0) (nb_L_list_616 D b a1 back post u23 G21 M25 v2 v4 v5 x6 r14 x19 q20 q20 ((1 : Int32)) x19) (nb_L_list_616 D b a1 back post u23 G21 M25 v2 v4 v5 x6 r14 x19 q20 q20 ((1 : Int32)) r10)))))))))))
def nl_L_list_538 (D : va_G) (b : uS) (a1 : Nat) (post : gS → mS → Nat → Prop) (u : uS) (G : gS) (M : mS) (v2 : Nat) (v4 : Int32) (v5 : Int32) : Prop := ∃ (I : Nat → uS → gS → mS → Nat → Int32 → Int32 → Prop) (n : Nat), I n u G M v2 v4 v5 ∧ ∀ (n : Nat) (u : uS) (G : gS) (M : mS) (v2 : Nat) (v4 : Int32) (v5 : Int32), I n u G M v2 v4 v5 → nb_L_list_538 D b a1 post (fun u G M v2 v4 v5 => ∃ k, k < n ∧ I k u G M v2 v4 v5) u G M v2 v4 v5
def nb_L_list_401 (D : va_G) (b : uS) (a1 : Nat) (post : gS → mS → Nat → Prop) (back : uS → gS → mS → Nat → Int32 → Int32 → Prop) (u : uS) (G : gS) (M : mS) (v2 : Nat) (v4 : Int32) (v5 : Int32) : Prop := p_if (v5 ≤ 0) (q_ca b u (fun v => n_L_cell D v G M (12 : Int32)) (fun u4 G2 M3 r5 => q_ca b u4 (fun v => n_L_below D v G2 M3 r5 (6 : Int32)) (fun u8 G6 M7 r9 => nl_L_list_538 D b a1 post u8 G6 M7 v2 v4 r9))) (q_ca b u (fun v => n_L_cell D v G M (11 : Int32)) (fun u12 G10 M11 r13 => p_bd ((r13 + ((97 : Int32) * v5))) (fun x14 => q_ca b u12 (fun v => n_L_below D v G10 M11 (x14 >>> ((2 : Int32) &&& 31)) (12 : Int32)) (fun u17 G15 M16 r18 => p_ck (¬ (64 : Int32) = 0) (p_bd ((((28 : Int32) + r18) - ((28 : Int32) + r18) / (64 : Int32) * (64 : Int32))) (fun x20 => q_ca b u17 (fun v => n_L_below D v G15 M16 (x14 >>> ((5 : Int32) &&& 31)) (12 : Int32)) (fun u23 G21 M22 r24 => p_ck (¬ (64 : Int32) = 0) (p_bd ((((28 : Int32) + r24) - ((28 : Int32) + r24) / (64 : Int32) * (64 : Int32))) (fun x26 => p_rf (gP G21 v2 5) (fun q27 => p_ix x26 (gN G21 q27) (p_rf (gP G21 q27 (Int32.toNatClampNeg x26)) (fun q29 => q_ca b u23 (fun v => n_L_below D v G21 M22 (x14 >>> ((7 : Int32) &&& 31)) (6 : Int32)) (fun u32 G30 M31 r33 => p_ix x20 (gN G30 q29) (p_wI M31 q29 (Int32.toNatClampNeg x20) r33 (fun M35 => q_ca b u32 (fun v => n_J4_append_15ec4 v G30 M35 a1 28) (fun u38 G36 M37 r39 => q_ca b u38 (fun v => n_J4_append_bf812 v G36 M37 r39 x20) (fun u42 G40 M41 r43 => q_ca b u42 (fun v => n_J4_append_15ec4 v G40 M41 r43 21) (fun u46 G44 M45 r47 => q_ca b u46 (fun v => n_J4_append_bf812 v G44 M45 r47 x26) (fun u50 G48 M49 r51 => q_ca b u50 (fun v => n_J4_append_15ec4 v G48 M49 r51 21) (fun u54 G52 M53 r55 => p_rf (gP G52 v2 5) (fun q56 => p_ix x26 (gN G52 q56) (p_rf (gP G52 q56 (Int32.toNatClampNeg x26)) (fun q58 => p_ix x20 (gN G52 q58) (q_ca b u54 (fun v => n_J4_append_bf812 v G52 M53 r55 (mI M53 q58 (Int32.toNatClampNeg x20))) (fun u62 G60 M61 r63 => q_ca b u62 (fun v => n_J4_append_15ec4 v G60 M61 r63 22) (fun u66 G64 M65 r67 => p_bd (v5 + (-1) : Int32) (fun x68 => back u66 G64 M65 v2 v4 x68)))))))))))))))))))))))))))
def nl_L_list_401 (D : va_G) (b : uS) (a1 : Nat) (post : gS → mS → Nat → Prop) (u : uS) (G : gS) (M : mS) (v2 : Nat) (v4 : Int32) (v5 : Int32) : Prop := ∃ (I : Nat → uS → gS → mS → Nat → Int32 → Int32 → Prop) (n : Nat), I n u G M v2 v4 v5 ∧ ∀ (n : Nat) (u : uS) (G : gS) (M : mS) (v2 : Nat) (v4 : Int32) (v5 : Int32), I n u G M v2 v4 v5 → nb_L_list_401 D b a1 post (fun u G M v2 v4 v5 => ∃ k, k < n ∧ I k u G M v2 v4 v5) u G M v2 v4 v5
def nb_L_list_159 (D : va_G) (b : uS) (a1 : Nat) (post : gS → mS → Nat → Prop) (back : uS → gS → mS → Nat → Int32 → Int32 → Int32 → Prop) (u : uS) (G : gS) (M : mS) (v2 : Nat) (v3 : Int32) (v4 : Int32) (v5 : Int32) : Prop := p_if (v4 ≤ v5) (q_ca b u (fun v => n_L_cell D v G M (10 : Int32)) (fun u4 G2 M3 r5 => q_ca b u4 (fun v => n_L_below D v G2 M3 r5 (9 : Int32)) (fun u8 G6 M7 r9 => nl_L_list_401 D b a1 post u8 G6 M7 v2 v4 r9))) (q_ca b u (fun v => n_L_cell D v G M ((5 : Int32) + v5)) (fun u12 G10 M11 r13 => p_bd ((r13 + ((7 : Int32) * v5))) (fun x14 => q_na b u12 G10 M11 12 (6 : Int32) (fun q15 u18 G16 M17 => q_ca b u18 (fun v => n_L_below D v G16 M17 x14 v3) (fun u21 G19 M20 r22 => p_ix (0 : Int32) (gN G19 q15) (p_wI M20 q15 (Int32.toNatClampNeg (0 : Int32)) r22 (fun M24 => q_ca b u21 (fun v => n_L_below D v G19 M24 (x14 >>> ((3 : Int32) &&& 31)) (8 : Int32)) (fun u27 G25 M26 r28 => q_ca b u27 (fun v => n_L_below D v G25 M26 x14 (3 : Int32)) (fun u31 G29 M30 r32 => p_if (r32 = 0) (nb_L_list_223 D b a1 back post u31 G29 M30 v2 v3 v4 v5 x14 q15 q15 ((1 : Int32)) ((30 : Int32)) r28 ((8 : Int32))) (nb_L_list_223 D b a1 back post u31 G29 M30 v2 v3 v4 v5 x14 q15 q15 ((1 : Int32)) ((30 : Int32)) r28 ((1 : Int32))))))))))))
def nl_L_list_159 (D : va_G) (b : uS) (a1 : Nat) (post : gS → mS → Nat → Prop) (u : uS) (G : gS) (M : mS) (v2 : Nat) (v3 : Int32) (v4 : Int32) (v5 : Int32) : Prop := ∃ (I : Nat → uS → gS → mS → Nat → Int32 → Int32 → Int32 → Prop) (n : Nat), I n u G M v2 v3 v4 v5 ∧ ∀ (n : Nat) (u : uS) (G : gS) (M : mS) (v2 : Nat) (v3 : Int32) (v4 : Int32) (v5 : Int32), I n u G M v2 v3 v4 v5 → nb_L_list_159 D b a1 post (fun u G M v2 v3 v4 v5 => ∃ k, k < n ∧ I k u G M v2 v3 v4 v5) u G M v2 v3 v4 v5
def nb_L_list_23 (D : va_G) (b : uS) (a1 : Nat) (post : gS → mS → Nat → Prop) (back : uS → gS → mS → Nat → Int32 → Int32 → Prop) (u : uS) (G : gS) (M : mS) (v2 : Nat) (v3 : Int32) (v4 : Int32) : Prop := p_if (v3 ≤ v4) (q_ca b u (fun v => n_L_cell D v G M (4 : Int32)) (fun u4 G2 M3 r5 => q_ca b u4 (fun v => n_L_below D v G2 M3 r5 (5 : Int32)) (fun u8 G6 M7 r9 => p_bd (((1 : Int32) + r9)) (fun x10 => nl_L_list_159 D b a1 post u8 G6 M7 v2 v3 x10 ((0 : Int32)))))) (q_ca b u (fun v => n_L_cell D v G M ((1 : Int32) + v4)) (fun u13 G11 M12 r14 => q_ca b u13 (fun v => n_L_below D v G11 M12 r14 (5 : Int32)) (fun u17 G15 M16 r18 => q_na b u17 G15 M16 12 ((2 : Int32) + r18) (fun q19 u22 G20 M21 => q_ca b u22 (fun v => n_J4_append_15ec4 v G20 M21 a1 20) (fun u25 G23 M24 r26 => q_ca b u25 (fun v => n_J4_append_bf812 v G23 M24 r26 v4) (fun u29 G27 M28 r30 => nl_L_list_66 D b a1 back post u29 G27 M28 v2 v3 v4 r14 q19 ((0 : Int32))))))))
def nl_L_list_23 (D : va_G) (b : uS) (a1 : Nat) (post : gS → mS → Nat → Prop) (u : uS) (G : gS) (M : mS) (v2 : Nat) (v3 : Int32) (v4 : Int32) : Prop := ∃ (I : Nat → uS → gS → mS → Nat → Int32 → Int32 → Prop) (n : Nat), I n u G M v2 v3 v4 ∧ ∀ (n : Nat) (u : uS) (G : gS) (M : mS) (v2 : Nat) (v3 : Int32) (v4 : Int32), I n u G M v2 v3 v4 → nb_L_list_23 D b a1 post (fun u G M v2 v3 v4 => ∃ k, k < n ∧ I k u G M v2 v3 v4) u G M v2 v3 v4
def n_L_list (D : va_G) (b : uS) (G : gS) (M : mS) (a1 : Nat) (post : gS → mS → Nat → Prop) : Prop := q_nw b (0, 0) G M 9 0 9 (fun q1 u4 G2 M3 => q_ca b u4 (fun v => n_X10_init v G2 M3 q1) (fun u7 G5 M6 r8 => q_ca b u7 (fun v => n_L_cell D v G5 M6 (0 : Int32)) (fun u11 G9 M10 r12 => q_ca b u11 (fun v => n_L_below D v G9 M10 r12 (3 : Int32)) (fun u15 G13 M14 r16 => p_bd (((1 : Int32) + r16)) (fun x17 => nl_L_list_23 D b a1 post u15 G13 M14 q1 x17 ((0 : Int32)))))))
set_option maxHeartbeats 4000000 in
set_option maxRecDepth 100000 in
theorem bn_L_list_66 {p : Program} {l : Launch} {e : Env} {s : State} {m : MethodId} {args : Array Value} {below : List Frame} {meth : Method} {c : Code} {D : va_G} {cy : cyS} {b : uS} {G0 : gS} {sz : Nat} (hnm : meth.name = yL_list.name)  {a1 : Nat} {post : gS → mS → Nat → Prop} {kb23 : uS → gS → mS → Nat → Int32 → Int32 → Prop} (hkb23 : ∀ (u : uS) (G : gS) (M : mS) (v2 : Nat) (v3 : Int32) (v4 : Int32) (H : Heap) (locs : List Loc) (ls : Array Slot), a1 ∈ gL G → gK G a1 = 11 → v2 ∈ gL G → gK G v2 = 9 → ext G0 G → uL u b → kb23 u G M v2 v3 v4 → cX p s m args meth c cL_list RL 11 (some (.object "FlagAntsLaw$Sim")) wsL_list D cy G (pA G0 sz) → wd D cy G M (pA G0 sz) s.heap H locs → lv_has ls 11 [(0, .ref (stX D)), (1, .ref a1), (2, .ref v2), (3, .int v3), (4, .int v4)] → W p l e (rnL_list b) s m args below meth c H locs u.1 u.2 (MQ below (va_Qr (fun (u : gS × mS × Nat) => post u.1 u.2.1 u.2.2) (fun u x t => x = u.2.2 ∧ (x ∈ gL u.1 ∧ gK u.1 x = 9) ∧ va_P D vwCl (pl cy u.1 u.2.1) t.heap ∧ va_D (pA G0 sz) (pl cy u.1 u.2.1) ∧ wt u.1 ∧ ext G0 u.1) (pA G0 sz)) args s b.1 b.2 (pA G0 sz)) (F0 m 23 ls [])) : ∀ (u : uS) (G : gS) (M : mS) (v2 : Nat) (v3 : Int32) (v4 : Int32) (v5 : Int32) (v6 : Nat) (v7 : Int32) (H : Heap) (locs : List Loc) (ls : Array Slot), a1 ∈ gL G → gK G a1 = 11 → v2 ∈ gL G → gK G v2 = 9 → v6 ∈ gL G → gK G v6 = 12 → ext G0 G → uL u b → nl_L_list_66 D b a1 kb23 post u G M v2 v3 v4 v5 v6 v7 → cX p s m args meth c cL_list RL 11 (some (.object "FlagAntsLaw$Sim")) wsL_list D cy G (pA G0 sz) → wd D cy G M (pA G0 sz) s.heap H locs → lv_has ls 11 [(0, .ref (stX D)), (1, .ref a1), (2, .ref v2), (3, .int v3), (4, .int v4), (5, .int v5), (6, .ref v6), (7, .int v7)] → W p l e (rnL_list b) s m args below meth c H locs u.1 u.2 (MQ below (va_Qr (fun (u : gS × mS × Nat) => post u.1 u.2.1 u.2.2) (fun u x t => x = u.2.2 ∧ (x ∈ gL u.1 ∧ gK u.1 x = 9) ∧ va_P D vwCl (pl cy u.1 u.2.1) t.heap ∧ va_D (pA G0 sz) (pl cy u.1 u.2.1) ∧ wt u.1 ∧ ext G0 u.1) (pA G0 sz)) args s b.1 b.2 (pA G0 sz)) (F0 m 66 ls []) := by
  intro u G M v2 v3 v4 v5 v6 v7 H locs ls hL1 hK1 v2L v2K v6L v6K hext hu h cx w hl
  obtain ⟨I, n, hI, hB⟩ := h
  have key : ∀ n : Nat, ∀ (u : uS) (G : gS) (M : mS) (v2 : Nat) (v3 : Int32) (v4 : Int32) (v5 : Int32) (v6 : Nat) (v7 : Int32) (H : Heap) (locs : List Loc) (ls : Array Slot), a1 ∈ gL G → gK G a1 = 11 → v2 ∈ gL G → gK G v2 = 9 → v6 ∈ gL G → gK G v6 = 12 → ext G0 G → uL u b → I n u G M v2 v3 v4 v5 v6 v7 → cX p s m args meth c cL_list RL 11 (some (.object "FlagAntsLaw$Sim")) wsL_list D cy G (pA G0 sz) → wd D cy G M (pA G0 sz) s.heap H locs → lv_has ls 11 [(0, .ref (stX D)), (1, .ref a1), (2, .ref v2), (3, .int v3), (4, .int v4), (5, .int v5), (6, .ref v6), (7, .int v7)] → W p l e (rnL_list b) s m args below meth c H locs u.1 u.2 (MQ below (va_Qr (fun (u : gS × mS × Nat) => post u.1 u.2.1 u.2.2) (fun u x t => x = u.2.2 ∧ (x ∈ gL u.1 ∧ gK u.1 x = 9) ∧ va_P D vwCl (pl cy u.1 u.2.1) t.heap ∧ va_D (pA G0 sz) (pl cy u.1 u.2.1) ∧ wt u.1 ∧ ext G0 u.1) (pA G0 sz)) args s b.1 b.2 (pA G0 sz)) (F0 m 66 ls []) := by
    intro n
    induction n using Nat.strongRecOn with
    | ind n ih =>
      intro u G M v2 v3 v4 v5 v6 v7 H locs ls hL1 hK1 v2L v2K v6L v6K hext hu hI cx w hl
      have h := hB n u G M v2 v3 v4 v5 v6 v7 hI
      unfold nb_L_list_66 at h
      obtain ⟨hx, hb, hml, hown, hts, hr, hlocks, hK, hA, hG, hsx⟩ := id cx
      have hR : (rnL_list b).cells = b.1 ∧ (rnL_list b).slots = b.2 := ⟨rfl, rfl⟩
      refine lv_iload hx hb dL_list_66 (lv_at hl 7 rfl) ?_
      refine lv_aload hx hb dL_list_68 (lv_at hl 6 rfl) ?_
      refine r_alen cx w v6L v6K (by decide) dL_list_70 ?_
      refine lv_icmp_ge (tgt := 117) hx hb dL_list_71 (by decide) (fun k1 => ?_) (fun k1 => ?_)
      · have h := w_t h k1
        refine lv_aload_n hx hb dL_list_117 rfl (lv_at hl 1 rfl) ?_
        refine r_ldcS (i := 22) cx w (by decide) rfl rfl dL_list_118 ?_
        refine rb_VR (kr := 11) (b := b) (u := u) (rf := 5) (rl := 152) (As := [.ref (stK D 22)]) (rest := []) cx w hR hl.1 h (fun h => kn_J4_append_15ec4 hG hL1 hK1 (by decide : 22 < 36) h) (fun v => cwV 1 hts gL_list_J4_append_15ec4 rfl rfl rfl (by decide +kernel) ⟨(Nat.le_of_ble_eq_true rfl), (Nat.le_of_ble_eq_true rfl)⟩) hL1 hK1 (by decide) rfl rfl rfl (Nat.le_of_ble_eq_true rfl) dL_list_120 (fun u4 G2 M3 r5 H locs h hu xe hLr5 hKr5 cx w => ?_)
        obtain ⟨hL1, hK1⟩ := ext_wt xe hL1 hK1
        obtain ⟨v2L, v2K⟩ := ext_wt xe v2L v2K
        obtain ⟨v6L, v6K⟩ := ext_wt xe v6L v6K
        have hext := ext_tr hext xe
        clear xe
        have hG := cX_wt cx
        refine lv_pop hx hb dL_list_123 rfl ?_
        refine lv_aload_n hx hb dL_list_124 rfl (lv_at hl 2 rfl) ?_
        refine lv_aload_n hx hb dL_list_125 rfl (lv_at hl 2 rfl) ?_
        obtain ⟨q6, eq6, h⟩ := w_rf h
        obtain ⟨hLq6, hKq6⟩ := wt_q hG v2L v2K eq6
        have hKq6 : gK G2 q6 = 15 := hKq6
        refine r_getR (k := 4) cx w v2L v2K (by decide) rfl wb_L_list_X10 (by decide) rfl eq6 (List.mem_of_getElem? (i := 6) rfl) dL_list_126 ?_
        refine lv_aload hx hb dL_list_129 (lv_at hl 6 rfl) ?_
        refine rb_SR (kr := 15) (b := b) (u := u4) (rf := 0) (rl := 0) (As := [.ref q6, .ref v6]) (rest := [.ref v2]) cx w hR hl.1 h (fun h => kn_X10_with hG hLq6 hKq6 v6L v6K h) (fun v => va_cwS 2 hts gL_list_X10_with rfl rfl rfl (by decide +kernel) ⟨(Nat.le_of_ble_eq_true rfl), (Nat.le_of_ble_eq_true rfl)⟩) rfl rfl (Nat.le_of_ble_eq_true rfl) dL_list_131 (fun u9 G7 M8 r10 H locs h hu xe hLr10 hKr10 cx w => ?_)
        obtain ⟨hL1, hK1⟩ := ext_wt xe hL1 hK1
        obtain ⟨v2L, v2K⟩ := ext_wt xe v2L v2K
        obtain ⟨v6L, v6K⟩ := ext_wt xe v6L v6K
        have hext := ext_tr hext xe
        clear xe
        have hG := cX_wt cx
        refine rb_putR (k0 := 4) cx w tyX10 tyX10_ok nmX10 v2L v2K (by decide) rfl wb_L_list_X10 (by decide) rfl (tyX10_ok 4 (by decide)) rfl rfl sr_9_4 (ln_9 _ _ (by decide)) hLr10 hKr10 (List.mem_of_getElem? (i := 6) rfl) h dL_list_134 (fun G11 H locs h xe cx w => ?_)
        obtain ⟨hL1, hK1⟩ := ext_wt xe hL1 hK1
        obtain ⟨v2L, v2K⟩ := ext_wt xe v2L v2K
        obtain ⟨v6L, v6K⟩ := ext_wt xe v6L v6K
        have hext := ext_tr hext xe
        clear xe
        have hG := cX_wt cx
        obtain ⟨x12, ex12, h⟩ := w_bd h
        refine lv_iinc (v := x12) (lv' := [(4, .int x12), (0, .ref (stX D)), (1, .ref a1), (2, .ref v2), (3, .int v3), (5, .int v5), (6, .ref v6), (7, .int v7)]) hx hb dL_list_137 hl (k := 4) rfl (by rw [ex12]; rfl) (by decide) rfl (fun ls hl => ?_)
        refine lv_goto (tgt := 23) hx hb dL_list_140 (by decide) ?_
        exact hkb23 u9 G11 M8 v2 v3 x12 H locs ls hL1 hK1 v2L v2K hext hu h cx w (lv_sub hl [1, 2, 3, 4, 0] rfl)
      · have h := w_f h k1
        refine lv_aload hx hb dL_list_74 (lv_at hl 6 rfl) ?_
        refine lv_iload hx hb dL_list_76 (lv_at hl 7 rfl) ?_
        refine lv_iload hx hb dL_list_78 (lv_at hl 5 rfl) ?_
        refine lv_iconst (v := (2 : Int32)) hx hb dL_list_80 (by decide) ?_
        refine lv_iload hx hb dL_list_81 (lv_at hl 7 rfl) ?_
        refine lv_imul hx hb dL_list_83 ?_
        refine lv_iconst (v := (3 : Int32)) hx hb dL_list_84 (by decide) ?_
        refine lv_iadd hx hb dL_list_85 ?_
        refine lv_ishr hx hb dL_list_86 ?_
        refine lv_iconst (v := (4 : Int32)) hx hb dL_list_87 (by decide) ?_
        refine rb_SI (b := b) (u := u) (rf := 0) (rl := 0) (As := [.int ((v5 >>> ((((2 : Int32) * v7) + (3 : Int32)) &&& 31))), .int ((4 : Int32))]) (rest := [.int v7, .ref v6]) cx w hR hl.1 h (fun h => kn_L_below hG h) (fun v => va_cwS 2 hts gL_list_L_below rfl rfl rfl (by decide +kernel) ⟨(Nat.le_of_ble_eq_true rfl), (Nat.le_of_ble_eq_true rfl)⟩) rfl rfl (Nat.le_of_ble_eq_true rfl) dL_list_88 (fun u15 G13 M14 r16 H locs h hu xe cx w => ?_)
        obtain ⟨hL1, hK1⟩ := ext_wt xe hL1 hK1
        obtain ⟨v2L, v2K⟩ := ext_wt xe v2L v2K
        obtain ⟨v6L, v6K⟩ := ext_wt xe v6L v6K
        have hext := ext_tr hext xe
        clear xe
        have hG := cX_wt cx
        obtain ⟨z17, h⟩ := w_ix h
        obtain ⟨M18, eM18, h⟩ := w_wI h
        refine r_iast cx w v6L v6K z17 dL_list_91 eM18 (fun H locs w => ?_)
        refine lv_aload_n hx hb dL_list_92 rfl (lv_at hl 1 rfl) ?_
        refine r_ldcS (i := 21) cx w (by decide) rfl rfl dL_list_93 ?_
        refine rb_VR (kr := 11) (b := b) (u := u15) (rf := 5) (rl := 152) (As := [.ref (stK D 21)]) (rest := []) cx w hR hl.1 h (fun h => kn_J4_append_15ec4 hG hL1 hK1 (by decide : 21 < 36) h) (fun v => cwV 1 hts gL_list_J4_append_15ec4 rfl rfl rfl (by decide +kernel) ⟨(Nat.le_of_ble_eq_true rfl), (Nat.le_of_ble_eq_true rfl)⟩) hL1 hK1 (by decide) rfl rfl rfl (Nat.le_of_ble_eq_true rfl) dL_list_95 (fun u21 G19 M20 r22 H locs h hu xe hLr22 hKr22 cx w => ?_)
        obtain ⟨hL1, hK1⟩ := ext_wt xe hL1 hK1
        obtain ⟨v2L, v2K⟩ := ext_wt xe v2L v2K
        obtain ⟨v6L, v6K⟩ := ext_wt xe v6L v6K
        have hext := ext_tr hext xe
        clear xe
        have hG := cX_wt cx
        refine r_getW0 cx w (List.mem_of_getElem? (i := 5) rfl) dL_list_98 ?_
        refine lv_aload hx hb dL_list_101 (lv_at hl 6 rfl) ?_
        refine lv_iload hx hb dL_list_103 (lv_at hl 7 rfl) ?_
        obtain ⟨z23, h⟩ := w_ix h
        refine r_iald cx w v6L v6K z23 dL_list_105 ?_
        obtain ⟨z24, h⟩ := w_ix h
        refine r_wald0 cx w z24 dL_list_106 ?_
        refine rb_VR (kr := 11) (b := b) (u := u21) (rf := 5) (rl := 152) (As := [.ref (stK D ((Int32.toNatClampNeg (mI M20 v6 (Int32.toNatClampNeg v7)))))]) (rest := []) cx w hR hl.1 h (fun h => kn_J4_append_15ec4 hG hLr22 hKr22 (vp_ltw0 z24) h) (fun v => cwV 1 hts gL_list_J4_append_15ec4 rfl rfl rfl (by decide +kernel) ⟨(Nat.le_of_ble_eq_true rfl), (Nat.le_of_ble_eq_true rfl)⟩) hLr22 hKr22 (by decide) rfl rfl rfl (Nat.le_of_ble_eq_true rfl) dL_list_107 (fun u27 G25 M26 r28 H locs h hu xe hLr28 hKr28 cx w => ?_)
        obtain ⟨hL1, hK1⟩ := ext_wt xe hL1 hK1
        obtain ⟨v2L, v2K⟩ := ext_wt xe v2L v2K
        obtain ⟨v6L, v6K⟩ := ext_wt xe v6L v6K
        have hext := ext_tr hext xe
        clear xe
        have hG := cX_wt cx
        refine lv_pop hx hb dL_list_110 rfl ?_
        obtain ⟨x29, ex29, h⟩ := w_bd h
        refine lv_iinc (v := x29) (lv' := [(7, .int x29), (0, .ref (stX D)), (1, .ref a1), (2, .ref v2), (3, .int v3), (4, .int v4), (5, .int v5), (6, .ref v6)]) hx hb dL_list_111 hl (k := 7) rfl (by rw [ex29]; rfl) (by decide) rfl (fun ls hl => ?_)
        refine lv_goto (tgt := 66) hx hb dL_list_114 (by decide) ?_
        obtain ⟨k, hk, hI⟩ := h
        exact ih k hk u27 G25 M26 v2 v3 v4 v5 v6 x29 H locs ls hL1 hK1 v2L v2K v6L v6K hext hu hI cx w (lv_sub hl [1, 2, 3, 4, 5, 6, 7, 0] rfl)
  exact key n u G M v2 v3 v4 v5 v6 v7 H locs ls hL1 hK1 v2L v2K v6L v6K hext hu hI cx w hl
set_option maxHeartbeats 4000000 in
set_option maxRecDepth 100000 in
theorem bn_L_list_258 {p : Program} {l : Launch} {e : Env} {s : State} {m : MethodId} {args : Array Value} {below : List Frame} {meth : Method} {c : Code} {D : va_G} {cy : cyS} {b : uS} {G0 : gS} {sz : Nat} (hnm : meth.name = yL_list.name)  {a1 : Nat} {post : gS → mS → Nat → Prop} {kb159 : uS → gS → mS → Nat → Int32 → Int32 → Int32 → Prop} (hkb159 : ∀ (u : uS) (G : gS) (M : mS) (v2 : Nat) (v3 : Int32) (v4 : Int32) (v5 : Int32) (H : Heap) (locs : List Loc) (ls : Array Slot), a1 ∈ gL G → gK G a1 = 11 → v2 ∈ gL G → gK G v2 = 9 → ext G0 G → uL u b → kb159 u G M v2 v3 v4 v5 → cX p s m args meth c cL_list RL 11 (some (.object "FlagAntsLaw$Sim")) wsL_list D cy G (pA G0 sz) → wd D cy G M (pA G0 sz) s.heap H locs → lv_has ls 11 [(0, .ref (stX D)), (1, .ref a1), (2, .ref v2), (3, .int v3), (4, .int v4), (5, .int v5)] → W p l e (rnL_list b) s m args below meth c H locs u.1 u.2 (MQ below (va_Qr (fun (u : gS × mS × Nat) => post u.1 u.2.1 u.2.2) (fun u x t => x = u.2.2 ∧ (x ∈ gL u.1 ∧ gK u.1 x = 9) ∧ va_P D vwCl (pl cy u.1 u.2.1) t.heap ∧ va_D (pA G0 sz) (pl cy u.1 u.2.1) ∧ wt u.1 ∧ ext G0 u.1) (pA G0 sz)) args s b.1 b.2 (pA G0 sz)) (F0 m 159 ls [])) : ∀ (u : uS) (G : gS) (M : mS) (v2 : Nat) (v3 : Int32) (v4 : Int32) (v5 : Int32) (v6 : Int32) (s0 : Nat) (s1 : Nat) (s2 : Int32) (s3 : Int32) (s4 : Int32) (s5 : Int32) (H : Heap) (locs : List Loc) (ls : Array Slot), a1 ∈ gL G → gK G a1 = 11 → v2 ∈ gL G → gK G v2 = 9 → s0 ∈ gL G → gK G s0 = 12 → s1 ∈ gL G → gK G s1 = 12 → ext G0 G → uL u b → nb_L_list_258 D b a1 kb159 post u G M v2 v3 v4 v5 v6 s0 s1 s2 s3 s4 s5 → cX p s m args meth c cL_list RL 11 (some (.object "FlagAntsLaw$Sim")) wsL_list D cy G (pA G0 sz) → wd D cy G M (pA G0 sz) s.heap H locs → lv_has ls 11 [(0, .ref (stX D)), (1, .ref a1), (2, .ref v2), (3, .int v3), (4, .int v4), (5, .int v5), (6, .int v6)] → W p l e (rnL_list b) s m args below meth c H locs u.1 u.2 (MQ below (va_Qr (fun (u : gS × mS × Nat) => post u.1 u.2.1 u.2.2) (fun u x t => x = u.2.2 ∧ (x ∈ gL u.1 ∧ gK u.1 x = 9) ∧ va_P D vwCl (pl cy u.1 u.2.1) t.heap ∧ va_D (pA G0 sz) (pl cy u.1 u.2.1) ∧ wt u.1 ∧ ext G0 u.1) (pA G0 sz)) args s b.1 b.2 (pA G0 sz)) (F0 m 258 ls [.int s5, .int s4, .int s3, .int s2, .ref s1, .ref s0]) := by
  intro u G M v2 v3 v4 v5 v6 s0 s1 s2 s3 s4 s5 H locs ls hL1 hK1 v2L v2K s0L s0K s1L s1K hext hu h cx w hl
  unfold nb_L_list_258 at h
  obtain ⟨hx, hb, hml, hown, hts, hr, hlocks, hK, hA, hG, hsx⟩ := id cx
  have hR : (rnL_list b).cells = b.1 ∧ (rnL_list b).slots = b.2 := ⟨rfl, rfl⟩
  refine lv_imul hx hb dL_list_258 ?_
  refine lv_iadd hx hb dL_list_259 ?_
  refine lv_bipush (v := (64 : Int32)) hx hb dL_list_260 (by decide) ?_
  obtain ⟨z1, h⟩ := w_ck h
  refine lv_irem hx hb dL_list_262 z1 ?_
  obtain ⟨z2, h⟩ := w_ix h
  obtain ⟨M3, eM3, h⟩ := w_wI h
  refine r_iast cx w s1L s1K z2 dL_list_263 eM3 (fun H locs w => ?_)
  refine lv_dup hx hb dL_list_264 rfl ?_
  refine lv_iconst (v := (3 : Int32)) hx hb dL_list_265 (by decide) ?_
  refine lv_iload hx hb dL_list_266 (lv_at hl 6 rfl) ?_
  refine lv_bipush (v := (9 : Int32)) hx hb dL_list_268 (by decide) ?_
  refine lv_ishr hx hb dL_list_270 ?_
  refine lv_iconst (v := (4 : Int32)) hx hb dL_list_271 (by decide) ?_
  refine rb_SI (b := b) (u := u) (rf := 0) (rl := 0) (As := [.int ((v6 >>> ((9 : Int32) &&& 31))), .int ((4 : Int32))]) (rest := [.int ((3 : Int32)), .ref s0, .ref s0]) cx w hR hl.1 h (fun h => kn_L_below hG h) (fun v => va_cwS 2 hts gL_list_L_below rfl rfl rfl (by decide +kernel) ⟨(Nat.le_of_ble_eq_true rfl), (Nat.le_of_ble_eq_true rfl)⟩) rfl rfl (Nat.le_of_ble_eq_true rfl) dL_list_272 (fun u6 G4 M5 r7 H locs h hu xe cx w => ?_)
  obtain ⟨hL1, hK1⟩ := ext_wt xe hL1 hK1
  obtain ⟨v2L, v2K⟩ := ext_wt xe v2L v2K
  obtain ⟨s0L, s0K⟩ := ext_wt xe s0L s0K
  have hext := ext_tr hext xe
  clear xe
  have hG := cX_wt cx
  obtain ⟨z8, h⟩ := w_ix h
  obtain ⟨M9, eM9, h⟩ := w_wI h
  refine r_iast cx w s0L s0K z8 dL_list_275 eM9 (fun H locs w => ?_)
  refine lv_dup hx hb dL_list_276 rfl ?_
  refine lv_iconst (v := (4 : Int32)) hx hb dL_list_277 (by decide) ?_
  refine lv_iconst (v := (1 : Int32)) hx hb dL_list_278 (by decide) ?_
  obtain ⟨z10, h⟩ := w_ix h
  obtain ⟨M11, eM11, h⟩ := w_wI h
  refine r_iast cx w s0L s0K z10 dL_list_279 eM11 (fun H locs w => ?_)
  refine lv_dup hx hb dL_list_280 rfl ?_
  refine lv_iconst (v := (5 : Int32)) hx hb dL_list_281 (by decide) ?_
  refine lv_iconst (v := (0 : Int32)) hx hb dL_list_282 (by decide) ?_
  obtain ⟨z12, h⟩ := w_ix h
  obtain ⟨M13, eM13, h⟩ := w_wI h
  refine r_iast cx w s0L s0K z12 dL_list_283 eM13 (fun H locs w => ?_)
  refine lv_astore (lv' := [(7, .ref s0), (0, .ref (stX D)), (1, .ref a1), (2, .ref v2), (3, .int v3), (4, .int v4), (5, .int v5), (6, .int v6)]) hx hb dL_list_284 hl (by decide) rfl (fun ls hl => ?_)
  refine lv_aload_n hx hb dL_list_286 rfl (lv_at hl 2 rfl) ?_
  refine r_ldcS (i := 23) cx w (by decide) rfl rfl dL_list_287 ?_
  refine rb_VR (kr := 11) (b := b) (u := u6) (rf := 5) (rl := 152) (As := [.ref (stK D 23)]) (rest := []) cx w hR hl.1 h (fun h => kn_J4_append_15ec4 hG hL1 hK1 (by decide : 23 < 36) h) (fun v => cwV 1 hts gL_list_J4_append_15ec4 rfl rfl rfl (by decide +kernel) ⟨(Nat.le_of_ble_eq_true rfl), (Nat.le_of_ble_eq_true rfl)⟩) hL1 hK1 (by decide) rfl rfl rfl (Nat.le_of_ble_eq_true rfl) dL_list_289 (fun u16 G14 M15 r17 H locs h hu xe hLr17 hKr17 cx w => ?_)
  obtain ⟨hL1, hK1⟩ := ext_wt xe hL1 hK1
  obtain ⟨v2L, v2K⟩ := ext_wt xe v2L v2K
  obtain ⟨s0L, s0K⟩ := ext_wt xe s0L s0K
  have hext := ext_tr hext xe
  clear xe
  have hG := cX_wt cx
  refine lv_iload hx hb dL_list_292 (lv_at hl 6 rfl) ?_
  refine rb_VR (kr := 11) (b := b) (u := u16) (rf := 5) (rl := 153) (As := [.int v5]) (rest := []) cx w hR hl.1 h (fun h => kn_J4_append_bf812 hG hLr17 hKr17 h) (fun v => cwV 1 hts gL_list_J4_append_bf812 rfl rfl rfl (by decide +kernel) ⟨(Nat.le_of_ble_eq_true rfl), (Nat.le_of_ble_eq_true rfl)⟩) hLr17 hKr17 (by decide) rfl rfl rfl (Nat.le_of_ble_eq_true rfl) dL_list_294 (fun u20 G18 M19 r21 H locs h hu xe hLr21 hKr21 cx w => ?_)
  obtain ⟨hL1, hK1⟩ := ext_wt xe hL1 hK1
  obtain ⟨v2L, v2K⟩ := ext_wt xe v2L v2K
  obtain ⟨s0L, s0K⟩ := ext_wt xe s0L s0K
  have hext := ext_tr hext xe
  clear xe
  have hG := cX_wt cx
  refine r_ldcS (i := 24) cx w (by decide) rfl rfl dL_list_297 ?_
  refine rb_VR (kr := 11) (b := b) (u := u20) (rf := 5) (rl := 152) (As := [.ref (stK D 24)]) (rest := []) cx w hR hl.1 h (fun h => kn_J4_append_15ec4 hG hLr21 hKr21 (by decide : 24 < 36) h) (fun v => cwV 1 hts gL_list_J4_append_15ec4 rfl rfl rfl (by decide +kernel) ⟨(Nat.le_of_ble_eq_true rfl), (Nat.le_of_ble_eq_true rfl)⟩) hLr21 hKr21 (by decide) rfl rfl rfl (Nat.le_of_ble_eq_true rfl) dL_list_299 (fun u24 G22 M23 r25 H locs h hu xe hLr25 hKr25 cx w => ?_)
  obtain ⟨hL1, hK1⟩ := ext_wt xe hL1 hK1
  obtain ⟨v2L, v2K⟩ := ext_wt xe v2L v2K
  obtain ⟨s0L, s0K⟩ := ext_wt xe s0L s0K
  have hext := ext_tr hext xe
  clear xe
  have hG := cX_wt cx
  refine lv_aload hx hb dL_list_302 (lv_at hl 0 rfl) ?_
  refine lv_iconst (v := (0 : Int32)) hx hb dL_list_304 (by decide) ?_
  obtain ⟨z26, h⟩ := w_ix h
  refine r_iald cx w s0L s0K z26 dL_list_305 ?_
  refine rb_VR (kr := 11) (b := b) (u := u24) (rf := 5) (rl := 153) (As := [.int ((mI M23 s0 (Int32.toNatClampNeg (0 : Int32))))]) (rest := []) cx w hR hl.1 h (fun h => kn_J4_append_bf812 hG hLr25 hKr25 h) (fun v => cwV 1 hts gL_list_J4_append_bf812 rfl rfl rfl (by decide +kernel) ⟨(Nat.le_of_ble_eq_true rfl), (Nat.le_of_ble_eq_true rfl)⟩) hLr25 hKr25 (by decide) rfl rfl rfl (Nat.le_of_ble_eq_true rfl) dL_list_306 (fun u29 G27 M28 r30 H locs h hu xe hLr30 hKr30 cx w => ?_)
  obtain ⟨hL1, hK1⟩ := ext_wt xe hL1 hK1
  obtain ⟨v2L, v2K⟩ := ext_wt xe v2L v2K
  obtain ⟨s0L, s0K⟩ := ext_wt xe s0L s0K
  have hext := ext_tr hext xe
  clear xe
  have hG := cX_wt cx
  refine r_ldcS (i := 25) cx w (by decide) rfl rfl dL_list_309 ?_
  refine rb_VR (kr := 11) (b := b) (u := u29) (rf := 5) (rl := 152) (As := [.ref (stK D 25)]) (rest := []) cx w hR hl.1 h (fun h => kn_J4_append_15ec4 hG hLr30 hKr30 (by decide : 25 < 36) h) (fun v => cwV 1 hts gL_list_J4_append_15ec4 rfl rfl rfl (by decide +kernel) ⟨(Nat.le_of_ble_eq_true rfl), (Nat.le_of_ble_eq_true rfl)⟩) hLr30 hKr30 (by decide) rfl rfl rfl (Nat.le_of_ble_eq_true rfl) dL_list_311 (fun u33 G31 M32 r34 H locs h hu xe hLr34 hKr34 cx w => ?_)
  obtain ⟨hL1, hK1⟩ := ext_wt xe hL1 hK1
  obtain ⟨v2L, v2K⟩ := ext_wt xe v2L v2K
  obtain ⟨s0L, s0K⟩ := ext_wt xe s0L s0K
  have hext := ext_tr hext xe
  clear xe
  have hG := cX_wt cx
  refine lv_aload hx hb dL_list_314 (lv_at hl 0 rfl) ?_
  refine lv_iconst (v := (1 : Int32)) hx hb dL_list_316 (by decide) ?_
  obtain ⟨z35, h⟩ := w_ix h
  refine r_iald cx w s0L s0K z35 dL_list_317 ?_
  refine rb_VR (kr := 11) (b := b) (u := u33) (rf := 5) (rl := 153) (As := [.int ((mI M32 s0 (Int32.toNatClampNeg (1 : Int32))))]) (rest := []) cx w hR hl.1 h (fun h => kn_J4_append_bf812 hG hLr34 hKr34 h) (fun v => cwV 1 hts gL_list_J4_append_bf812 rfl rfl rfl (by decide +kernel) ⟨(Nat.le_of_ble_eq_true rfl), (Nat.le_of_ble_eq_true rfl)⟩) hLr34 hKr34 (by decide) rfl rfl rfl (Nat.le_of_ble_eq_true rfl) dL_list_318 (fun u38 G36 M37 r39 H locs h hu xe hLr39 hKr39 cx w => ?_)
  obtain ⟨hL1, hK1⟩ := ext_wt xe hL1 hK1
  obtain ⟨v2L, v2K⟩ := ext_wt xe v2L v2K
  obtain ⟨s0L, s0K⟩ := ext_wt xe s0L s0K
  have hext := ext_tr hext xe
  clear xe
  have hG := cX_wt cx
  refine r_ldcS (i := 21) cx w (by decide) rfl rfl dL_list_321 ?_
  refine rb_VR (kr := 11) (b := b) (u := u38) (rf := 5) (rl := 152) (As := [.ref (stK D 21)]) (rest := []) cx w hR hl.1 h (fun h => kn_J4_append_15ec4 hG hLr39 hKr39 (by decide : 21 < 36) h) (fun v => cwV 1 hts gL_list_J4_append_15ec4 rfl rfl rfl (by decide +kernel) ⟨(Nat.le_of_ble_eq_true rfl), (Nat.le_of_ble_eq_true rfl)⟩) hLr39 hKr39 (by decide) rfl rfl rfl (Nat.le_of_ble_eq_true rfl) dL_list_323 (fun u42 G40 M41 r43 H locs h hu xe hLr43 hKr43 cx w => ?_)
  obtain ⟨hL1, hK1⟩ := ext_wt xe hL1 hK1
  obtain ⟨v2L, v2K⟩ := ext_wt xe v2L v2K
  obtain ⟨s0L, s0K⟩ := ext_wt xe s0L s0K
  have hext := ext_tr hext xe
  clear xe
  have hG := cX_wt cx
  refine lv_aload hx hb dL_list_326 (lv_at hl 0 rfl) ?_
  refine lv_iconst (v := (2 : Int32)) hx hb dL_list_328 (by decide) ?_
  obtain ⟨z44, h⟩ := w_ix h
  refine r_iald cx w s0L s0K z44 dL_list_329 ?_
  refine rb_VR (kr := 11) (b := b) (u := u42) (rf := 5) (rl := 153) (As := [.int ((mI M41 s0 (Int32.toNatClampNeg (2 : Int32))))]) (rest := []) cx w hR hl.1 h (fun h => kn_J4_append_bf812 hG hLr43 hKr43 h) (fun v => cwV 1 hts gL_list_J4_append_bf812 rfl rfl rfl (by decide +kernel) ⟨(Nat.le_of_ble_eq_true rfl), (Nat.le_of_ble_eq_true rfl)⟩) hLr43 hKr43 (by decide) rfl rfl rfl (Nat.le_of_ble_eq_true rfl) dL_list_330 (fun u47 G45 M46 r48 H locs h hu xe hLr48 hKr48 cx w => ?_)
  obtain ⟨hL1, hK1⟩ := ext_wt xe hL1 hK1
  obtain ⟨v2L, v2K⟩ := ext_wt xe v2L v2K
  obtain ⟨s0L, s0K⟩ := ext_wt xe s0L s0K
  have hext := ext_tr hext xe
  clear xe
  have hG := cX_wt cx
  refine r_ldcS (i := 26) cx w (by decide) rfl rfl dL_list_333 ?_
  refine rb_VR (kr := 11) (b := b) (u := u47) (rf := 5) (rl := 152) (As := [.ref (stK D 26)]) (rest := []) cx w hR hl.1 h (fun h => kn_J4_append_15ec4 hG hLr48 hKr48 (by decide : 26 < 36) h) (fun v => cwV 1 hts gL_list_J4_append_15ec4 rfl rfl rfl (by decide +kernel) ⟨(Nat.le_of_ble_eq_true rfl), (Nat.le_of_ble_eq_true rfl)⟩) hLr48 hKr48 (by decide) rfl rfl rfl (Nat.le_of_ble_eq_true rfl) dL_list_335 (fun u51 G49 M50 r52 H locs h hu xe hLr52 hKr52 cx w => ?_)
  obtain ⟨hL1, hK1⟩ := ext_wt xe hL1 hK1
  obtain ⟨v2L, v2K⟩ := ext_wt xe v2L v2K
  obtain ⟨s0L, s0K⟩ := ext_wt xe s0L s0K
  have hext := ext_tr hext xe
  clear xe
  have hG := cX_wt cx
  refine r_getW1 cx w (List.mem_of_getElem? (i := 7) rfl) dL_list_338 ?_
  refine lv_aload hx hb dL_list_341 (lv_at hl 0 rfl) ?_
  refine lv_iconst (v := (3 : Int32)) hx hb dL_list_343 (by decide) ?_
  obtain ⟨z53, h⟩ := w_ix h
  refine r_iald cx w s0L s0K z53 dL_list_344 ?_
  obtain ⟨z54, h⟩ := w_ix h
  refine r_wald1 cx w z54 dL_list_345 ?_
  refine rb_VR (kr := 11) (b := b) (u := u51) (rf := 5) (rl := 152) (As := [.ref (stK D ((4 + (Int32.toNatClampNeg (mI M50 s0 (Int32.toNatClampNeg (3 : Int32)))))))]) (rest := []) cx w hR hl.1 h (fun h => kn_J4_append_15ec4 hG hLr52 hKr52 (vp_ltw1 z54) h) (fun v => cwV 1 hts gL_list_J4_append_15ec4 rfl rfl rfl (by decide +kernel) ⟨(Nat.le_of_ble_eq_true rfl), (Nat.le_of_ble_eq_true rfl)⟩) hLr52 hKr52 (by decide) rfl rfl rfl (Nat.le_of_ble_eq_true rfl) dL_list_346 (fun u57 G55 M56 r58 H locs h hu xe hLr58 hKr58 cx w => ?_)
  obtain ⟨hL1, hK1⟩ := ext_wt xe hL1 hK1
  obtain ⟨v2L, v2K⟩ := ext_wt xe v2L v2K
  obtain ⟨s0L, s0K⟩ := ext_wt xe s0L s0K
  have hext := ext_tr hext xe
  clear xe
  have hG := cX_wt cx
  refine r_ldcS (i := 27) cx w (by decide) rfl rfl dL_list_349 ?_
  refine rb_VR (kr := 11) (b := b) (u := u57) (rf := 5) (rl := 152) (As := [.ref (stK D 27)]) (rest := []) cx w hR hl.1 h (fun h => kn_J4_append_15ec4 hG hLr58 hKr58 (by decide : 27 < 36) h) (fun v => cwV 1 hts gL_list_J4_append_15ec4 rfl rfl rfl (by decide +kernel) ⟨(Nat.le_of_ble_eq_true rfl), (Nat.le_of_ble_eq_true rfl)⟩) hLr58 hKr58 (by decide) rfl rfl rfl (Nat.le_of_ble_eq_true rfl) dL_list_351 (fun u61 G59 M60 r62 H locs h hu xe hLr62 hKr62 cx w => ?_)
  obtain ⟨hL1, hK1⟩ := ext_wt xe hL1 hK1
  obtain ⟨v2L, v2K⟩ := ext_wt xe v2L v2K
  obtain ⟨s0L, s0K⟩ := ext_wt xe s0L s0K
  have hext := ext_tr hext xe
  clear xe
  have hG := cX_wt cx
  refine lv_pop hx hb dL_list_354 rfl ?_
  refine lv_aload_n hx hb dL_list_355 rfl (lv_at hl 3 rfl) ?_
  refine lv_aload_n hx hb dL_list_356 rfl (lv_at hl 3 rfl) ?_
  obtain ⟨q63, eq63, h⟩ := w_rf h
  obtain ⟨hLq63, hKq63⟩ := wt_q hG v2L v2K eq63
  have hKq63 : gK G59 q63 = 15 := hKq63
  refine r_getR (k := 6) cx w v2L v2K (by decide) rfl wb_L_list_X10 (by decide) rfl eq63 (List.mem_of_getElem? (i := 8) rfl) dL_list_357 ?_
  refine lv_aload hx hb dL_list_360 (lv_at hl 0 rfl) ?_
  refine rb_SR (kr := 15) (b := b) (u := u61) (rf := 0) (rl := 0) (As := [.ref q63, .ref s0]) (rest := [.ref v2]) cx w hR hl.1 h (fun h => kn_X10_with hG hLq63 hKq63 s0L s0K h) (fun v => va_cwS 2 hts gL_list_X10_with rfl rfl rfl (by decide +kernel) ⟨(Nat.le_of_ble_eq_true rfl), (Nat.le_of_ble_eq_true rfl)⟩) rfl rfl (Nat.le_of_ble_eq_true rfl) dL_list_362 (fun u66 G64 M65 r67 H locs h hu xe hLr67 hKr67 cx w => ?_)
  obtain ⟨hL1, hK1⟩ := ext_wt xe hL1 hK1
  obtain ⟨v2L, v2K⟩ := ext_wt xe v2L v2K
  obtain ⟨s0L, s0K⟩ := ext_wt xe s0L s0K
  have hext := ext_tr hext xe
  clear xe
  have hG := cX_wt cx
  refine rb_putR (k0 := 6) cx w tyX10 tyX10_ok nmX10 v2L v2K (by decide) rfl wb_L_list_X10 (by decide) rfl (tyX10_ok 6 (by decide)) rfl rfl sr_9_6 (ln_9 _ _ (by decide)) hLr67 hKr67 (List.mem_of_getElem? (i := 8) rfl) h dL_list_365 (fun G68 H locs h xe cx w => ?_)
  obtain ⟨hL1, hK1⟩ := ext_wt xe hL1 hK1
  obtain ⟨v2L, v2K⟩ := ext_wt xe v2L v2K
  obtain ⟨s0L, s0K⟩ := ext_wt xe s0L s0K
  have hext := ext_tr hext xe
  clear xe
  have hG := cX_wt cx
  refine lv_aload_n hx hb dL_list_368 rfl (lv_at hl 3 rfl) ?_
  refine lv_aload_n hx hb dL_list_369 rfl (lv_at hl 3 rfl) ?_
  obtain ⟨q69, eq69, h⟩ := w_rf h
  obtain ⟨hLq69, hKq69⟩ := wt_q hG v2L v2K eq69
  have hKq69 : gK G68 q69 = 15 := hKq69
  refine r_getR (k := 7) cx w v2L v2K (by decide) rfl wb_L_list_X10 (by decide) rfl eq69 (List.mem_of_getElem? (i := 9) rfl) dL_list_370 ?_
  refine lv_iconst (v := (0 : Int32)) hx hb dL_list_373 (by decide) ?_
  refine rb_newI (b := b) (u := u66) cx w hR (List.mem_of_getElem? (i := 4) rfl) h dL_list_374 (fun q70 u73 G71 M72 H h hu xe hLq70 hKq70 cx w => ?_)
  obtain ⟨hL1, hK1⟩ := ext_wt xe hL1 hK1
  obtain ⟨v2L, v2K⟩ := ext_wt xe v2L v2K
  obtain ⟨s0L, s0K⟩ := ext_wt xe s0L s0K
  obtain ⟨hLq69, hKq69⟩ := ext_wt xe hLq69 hKq69
  have hext := ext_tr hext xe
  clear xe
  have hG := cX_wt cx
  refine rb_SR (kr := 15) (b := b) (u := u73) (rf := 0) (rl := 0) (As := [.ref q69, .ref q70]) (rest := [.ref v2]) cx w hR hl.1 h (fun h => kn_X10_with hG hLq69 hKq69 hLq70 hKq70 h) (fun v => va_cwS 2 hts gL_list_X10_with rfl rfl rfl (by decide +kernel) ⟨(Nat.le_of_ble_eq_true rfl), (Nat.le_of_ble_eq_true rfl)⟩) rfl rfl (Nat.le_of_ble_eq_true rfl) dL_list_376 (fun u76 G74 M75 r77 H locs h hu xe hLr77 hKr77 cx w => ?_)
  obtain ⟨hL1, hK1⟩ := ext_wt xe hL1 hK1
  obtain ⟨v2L, v2K⟩ := ext_wt xe v2L v2K
  obtain ⟨s0L, s0K⟩ := ext_wt xe s0L s0K
  have hext := ext_tr hext xe
  clear xe
  have hG := cX_wt cx
  refine rb_putR (k0 := 7) cx w tyX10 tyX10_ok nmX10 v2L v2K (by decide) rfl wb_L_list_X10 (by decide) rfl (tyX10_ok 7 (by decide)) rfl rfl sr_9_7 (ln_9 _ _ (by decide)) hLr77 hKr77 (List.mem_of_getElem? (i := 9) rfl) h dL_list_379 (fun G78 H locs h xe cx w => ?_)
  obtain ⟨hL1, hK1⟩ := ext_wt xe hL1 hK1
  obtain ⟨v2L, v2K⟩ := ext_wt xe v2L v2K
  obtain ⟨s0L, s0K⟩ := ext_wt xe s0L s0K
  have hext := ext_tr hext xe
  clear xe
  have hG := cX_wt cx
  obtain ⟨x79, ex79, h⟩ := w_bd h
  refine lv_iinc (v := x79) (lv' := [(5, .int x79), (7, .ref s0), (0, .ref (stX D)), (1, .ref a1), (2, .ref v2), (3, .int v3), (4, .int v4), (6, .int v6)]) hx hb dL_list_382 hl (k := 6) rfl (by rw [ex79]; rfl) (by decide) rfl (fun ls hl => ?_)
  refine lv_goto (tgt := 159) hx hb dL_list_385 (by decide) ?_
  exact hkb159 u76 G78 M75 v2 v3 v4 x79 H locs ls hL1 hK1 v2L v2K hext hu h cx w (lv_sub hl [2, 3, 4, 5, 6, 0] rfl)
set_option maxHeartbeats 4000000 in
set_option maxRecDepth 100000 in
theorem bn_L_list_223 {p : Program} {l : Launch} {e : Env} {s : State} {m : MethodId} {args : Array Value} {below : List Frame} {meth : Method} {c : Code} {D : va_G} {cy : cyS} {b : uS} {G0 : gS} {sz : Nat} (hnm : meth.name = yL_list.name)  {a1 : Nat} {post : gS → mS → Nat → Prop} {kb159 : uS → gS → mS → Nat → Int32 → Int32 → Int32 → Prop} (hkb159 : ∀ (u : uS) (G : gS) (M : mS) (v2 : Nat) (v3 : Int32) (v4 : Int32) (v5 : Int32) (H : Heap) (locs : List Loc) (ls : Array Slot), a1 ∈ gL G → gK G a1 = 11 → v2 ∈ gL G → gK G v2 = 9 → ext G0 G → uL u b → kb159 u G M v2 v3 v4 v5 → cX p s m args meth c cL_list RL 11 (some (.object "FlagAntsLaw$Sim")) wsL_list D cy G (pA G0 sz) → wd D cy G M (pA G0 sz) s.heap H locs → lv_has ls 11 [(0, .ref (stX D)), (1, .ref a1), (2, .ref v2), (3, .int v3), (4, .int v4), (5, .int v5)] → W p l e (rnL_list b) s m args below meth c H locs u.1 u.2 (MQ below (va_Qr (fun (u : gS × mS × Nat) => post u.1 u.2.1 u.2.2) (fun u x t => x = u.2.2 ∧ (x ∈ gL u.1 ∧ gK u.1 x = 9) ∧ va_P D vwCl (pl cy u.1 u.2.1) t.heap ∧ va_D (pA G0 sz) (pl cy u.1 u.2.1) ∧ wt u.1 ∧ ext G0 u.1) (pA G0 sz)) args s b.1 b.2 (pA G0 sz)) (F0 m 159 ls [])) : ∀ (u : uS) (G : gS) (M : mS) (v2 : Nat) (v3 : Int32) (v4 : Int32) (v5 : Int32) (v6 : Int32) (s0 : Nat) (s1 : Nat) (s2 : Int32) (s3 : Int32) (s4 : Int32) (s5 : Int32) (H : Heap) (locs : List Loc) (ls : Array Slot), a1 ∈ gL G → gK G a1 = 11 → v2 ∈ gL G → gK G v2 = 9 → s0 ∈ gL G → gK G s0 = 12 → s1 ∈ gL G → gK G s1 = 12 → ext G0 G → uL u b → nb_L_list_223 D b a1 kb159 post u G M v2 v3 v4 v5 v6 s0 s1 s2 s3 s4 s5 → cX p s m args meth c cL_list RL 11 (some (.object "FlagAntsLaw$Sim")) wsL_list D cy G (pA G0 sz) → wd D cy G M (pA G0 sz) s.heap H locs → lv_has ls 11 [(0, .ref (stX D)), (1, .ref a1), (2, .ref v2), (3, .int v3), (4, .int v4), (5, .int v5), (6, .int v6)] → W p l e (rnL_list b) s m args below meth c H locs u.1 u.2 (MQ below (va_Qr (fun (u : gS × mS × Nat) => post u.1 u.2.1 u.2.2) (fun u x t => x = u.2.2 ∧ (x ∈ gL u.1 ∧ gK u.1 x = 9) ∧ va_P D vwCl (pl cy u.1 u.2.1) t.heap ∧ va_D (pA G0 sz) (pl cy u.1 u.2.1) ∧ wt u.1 ∧ ext G0 u.1) (pA G0 sz)) args s b.1 b.2 (pA G0 sz)) (F0 m 223 ls [.int s5, .int s4, .int s3, .int s2, .ref s1, .ref s0]) := by
  intro u G M v2 v3 v4 v5 v6 s0 s1 s2 s3 s4 s5 H locs ls hL1 hK1 v2L v2K s0L s0K s1L s1K hext hu h cx w hl
  unfold nb_L_list_223 at h
  obtain ⟨hx, hb, hml, hown, hts, hr, hlocks, hK, hA, hG, hsx⟩ := id cx
  have hR : (rnL_list b).cells = b.1 ∧ (rnL_list b).slots = b.2 := ⟨rfl, rfl⟩
  refine lv_imul hx hb dL_list_223 ?_
  refine lv_iadd hx hb dL_list_224 ?_
  refine lv_bipush (v := (64 : Int32)) hx hb dL_list_225 (by decide) ?_
  obtain ⟨z1, h⟩ := w_ck h
  refine lv_irem hx hb dL_list_227 z1 ?_
  obtain ⟨z2, h⟩ := w_ix h
  obtain ⟨M3, eM3, h⟩ := w_wI h
  refine r_iast cx w s1L s1K z2 dL_list_228 eM3 (fun H locs w => ?_)
  refine lv_dup hx hb dL_list_229 rfl ?_
  refine lv_iconst (v := (2 : Int32)) hx hb dL_list_230 (by decide) ?_
  refine lv_bipush (v := (30 : Int32)) hx hb dL_list_231 (by decide) ?_
  refine lv_iload hx hb dL_list_233 (lv_at hl 6 rfl) ?_
  refine lv_bipush (v := (6 : Int32)) hx hb dL_list_235 (by decide) ?_
  refine lv_ishr hx hb dL_list_237 ?_
  refine lv_bipush (v := (8 : Int32)) hx hb dL_list_238 (by decide) ?_
  refine rb_SI (b := b) (u := u) (rf := 0) (rl := 0) (As := [.int ((v6 >>> ((6 : Int32) &&& 31))), .int ((8 : Int32))]) (rest := [.int ((30 : Int32)), .int ((2 : Int32)), .ref s0, .ref s0]) cx w hR hl.1 h (fun h => kn_L_below hG h) (fun v => va_cwS 2 hts gL_list_L_below rfl rfl rfl (by decide +kernel) ⟨(Nat.le_of_ble_eq_true rfl), (Nat.le_of_ble_eq_true rfl)⟩) rfl rfl (Nat.le_of_ble_eq_true rfl) dL_list_240 (fun u6 G4 M5 r7 H locs h hu xe cx w => ?_)
  obtain ⟨hL1, hK1⟩ := ext_wt xe hL1 hK1
  obtain ⟨v2L, v2K⟩ := ext_wt xe v2L v2K
  obtain ⟨s0L, s0K⟩ := ext_wt xe s0L s0K
  have hext := ext_tr hext xe
  clear xe
  have hG := cX_wt cx
  refine lv_iload hx hb dL_list_243 (lv_at hl 6 rfl) ?_
  refine lv_iconst (v := (5 : Int32)) hx hb dL_list_245 (by decide) ?_
  refine rb_SI (b := b) (u := u6) (rf := 0) (rl := 0) (As := [.int v6, .int ((5 : Int32))]) (rest := [.int r7, .int ((30 : Int32)), .int ((2 : Int32)), .ref s0, .ref s0]) cx w hR hl.1 h (fun h => kn_L_below hG h) (fun v => va_cwS 2 hts gL_list_L_below rfl rfl rfl (by decide +kernel) ⟨(Nat.le_of_ble_eq_true rfl), (Nat.le_of_ble_eq_true rfl)⟩) rfl rfl (Nat.le_of_ble_eq_true rfl) dL_list_246 (fun u10 G8 M9 r11 H locs h hu xe cx w => ?_)
  obtain ⟨hL1, hK1⟩ := ext_wt xe hL1 hK1
  obtain ⟨v2L, v2K⟩ := ext_wt xe v2L v2K
  obtain ⟨s0L, s0K⟩ := ext_wt xe s0L s0K
  have hext := ext_tr hext xe
  clear xe
  have hG := cX_wt cx
  refine lv_if_ne (tgt := 257) hx hb dL_list_249 (by decide) (fun k12 => ?_) (fun k12 => ?_)
  · have h := w_f h k12
    refine lv_iconst (v := (1 : Int32)) hx hb dL_list_257 (by decide) ?_
    exact bn_L_list_258 hnm (hkb159 := hkb159) u10 G8 M9 v2 v3 v4 v5 v6 s0 s0 ((2 : Int32)) ((30 : Int32)) r7 ((1 : Int32)) H locs ls hL1 hK1 v2L v2K s0L s0K s0L s0K hext hu h cx w (lv_sub hl [0, 1, 2, 3, 4, 5, 6] rfl)
  · have h := w_t h k12
    refine lv_bipush (v := (8 : Int32)) hx hb dL_list_252 (by decide) ?_
    refine lv_goto (tgt := 258) hx hb dL_list_254 (by decide) ?_
    exact bn_L_list_258 hnm (hkb159 := hkb159) u10 G8 M9 v2 v3 v4 v5 v6 s0 s0 ((2 : Int32)) ((30 : Int32)) r7 ((8 : Int32)) H locs ls hL1 hK1 v2L v2K s0L s0K s0L s0K hext hu h cx w (lv_sub hl [0, 1, 2, 3, 4, 5, 6] rfl)
set_option maxHeartbeats 4000000 in
set_option maxRecDepth 100000 in
theorem bn_L_list_977 {p : Program} {l : Launch} {e : Env} {s : State} {m : MethodId} {args : Array Value} {below : List Frame} {meth : Method} {c : Code} {D : va_G} {cy : cyS} {b : uS} {G0 : gS} {sz : Nat} (hnm : meth.name = yL_list.name)  {a1 : Nat} {post : gS → mS → Nat → Prop} {kb538 : uS → gS → mS → Nat → Int32 → Int32 → Prop} (hkb538 : ∀ (u : uS) (G : gS) (M : mS) (v2 : Nat) (v4 : Int32) (v5 : Int32) (H : Heap) (locs : List Loc) (ls : Array Slot), a1 ∈ gL G → gK G a1 = 11 → v2 ∈ gL G → gK G v2 = 9 → ext G0 G → uL u b → kb538 u G M v2 v4 v5 → cX p s m args meth c cL_list RL 11 (some (.object "FlagAntsLaw$Sim")) wsL_list D cy G (pA G0 sz) → wd D cy G M (pA G0 sz) s.heap H locs → lv_has ls 11 [(0, .ref (stX D)), (1, .ref a1), (2, .ref v2), (4, .int v4), (5, .int v5)] → W p l e (rnL_list b) s m args below meth c H locs u.1 u.2 (MQ below (va_Qr (fun (u : gS × mS × Nat) => post u.1 u.2.1 u.2.2) (fun u x t => x = u.2.2 ∧ (x ∈ gL u.1 ∧ gK u.1 x = 9) ∧ va_P D vwCl (pl cy u.1 u.2.1) t.heap ∧ va_D (pA G0 sz) (pl cy u.1 u.2.1) ∧ wt u.1 ∧ ext G0 u.1) (pA G0 sz)) args s b.1 b.2 (pA G0 sz)) (F0 m 538 ls [])) : ∀ (u : uS) (G : gS) (M : mS) (v2 : Nat) (v4 : Int32) (v5 : Int32) (v10 : Nat) (s1 : Nat) (H : Heap) (locs : List Loc) (ls : Array Slot), a1 ∈ gL G → gK G a1 = 11 → v2 ∈ gL G → gK G v2 = 9 → v10 ∈ gL G → gK G v10 = 12 → s1 ∈ gL G → gK G s1 = 10 → ext G0 G → uL u b → nb_L_list_977 D b a1 kb538 post u G M v2 v4 v5 v10 s1 → cX p s m args meth c cL_list RL 11 (some (.object "FlagAntsLaw$Sim")) wsL_list D cy G (pA G0 sz) → wd D cy G M (pA G0 sz) s.heap H locs → lv_has ls 11 [(0, .ref (stX D)), (1, .ref a1), (2, .ref v2), (4, .int v4), (5, .int v5), (10, .ref v10)] → W p l e (rnL_list b) s m args below meth c H locs u.1 u.2 (MQ below (va_Qr (fun (u : gS × mS × Nat) => post u.1 u.2.1 u.2.2) (fun u x t => x = u.2.2 ∧ (x ∈ gL u.1 ∧ gK u.1 x = 9) ∧ va_P D vwCl (pl cy u.1 u.2.1) t.heap ∧ va_D (pA G0 sz) (pl cy u.1 u.2.1) ∧ wt u.1 ∧ ext G0 u.1) (pA G0 sz)) args s b.1 b.2 (pA G0 sz)) (F0 m 977 ls [.ref s1, .ref a1]) := by
  intro u G M v2 v4 v5 v10 s1 H locs ls hL1 hK1 v2L v2K v10L v10K s1L s1K hext hu h cx w hl
  unfold nb_L_list_977 at h
  obtain ⟨hx, hb, hml, hown, hts, hr, hlocks, hK, hA, hG, hsx⟩ := id cx
  have hR : (rnL_list b).cells = b.1 ∧ (rnL_list b).slots = b.2 := ⟨rfl, rfl⟩
  refine rb_VR (kr := 11) (b := b) (u := u) (rf := 5) (rl := 152) (As := [.ref s1]) (rest := []) cx w hR hl.1 h (fun h => kn_J4_append_15ec4p hG hL1 hK1 s1L s1K h) (fun v => cwV 1 hts gL_list_J4_append_15ec4 rfl rfl rfl (by decide +kernel) ⟨(Nat.le_of_ble_eq_true rfl), (Nat.le_of_ble_eq_true rfl)⟩) hL1 hK1 (by decide) rfl rfl rfl (Nat.le_of_ble_eq_true rfl) dL_list_977 (fun u3 G1 M2 r4 H locs h hu xe hLr4 hKr4 cx w => ?_)
  obtain ⟨hL1, hK1⟩ := ext_wt xe hL1 hK1
  obtain ⟨v2L, v2K⟩ := ext_wt xe v2L v2K
  obtain ⟨v10L, v10K⟩ := ext_wt xe v10L v10K
  have hext := ext_tr hext xe
  clear xe
  have hG := cX_wt cx
  refine r_ldcS (i := 35) cx w (by decide) rfl rfl dL_list_980 ?_
  refine rb_VR (kr := 11) (b := b) (u := u3) (rf := 5) (rl := 152) (As := [.ref (stK D 35)]) (rest := []) cx w hR hl.1 h (fun h => kn_J4_append_15ec4 hG hLr4 hKr4 (by decide : 35 < 36) h) (fun v => cwV 1 hts gL_list_J4_append_15ec4 rfl rfl rfl (by decide +kernel) ⟨(Nat.le_of_ble_eq_true rfl), (Nat.le_of_ble_eq_true rfl)⟩) hLr4 hKr4 (by decide) rfl rfl rfl (Nat.le_of_ble_eq_true rfl) dL_list_982 (fun u7 G5 M6 r8 H locs h hu xe hLr8 hKr8 cx w => ?_)
  obtain ⟨hL1, hK1⟩ := ext_wt xe hL1 hK1
  obtain ⟨v2L, v2K⟩ := ext_wt xe v2L v2K
  obtain ⟨v10L, v10K⟩ := ext_wt xe v10L v10K
  have hext := ext_tr hext xe
  clear xe
  have hG := cX_wt cx
  refine lv_aload hx hb dL_list_985 (lv_at hl 5 rfl) ?_
  refine rb_SR (kr := 10) (b := b) (u := u7) (rf := 6) (rl := 174) (As := [.ref v10]) (rest := [.ref r8]) cx w hR hl.1 h (fun h => kn_L_test hG v10L v10K h) (fun v => va_cwS 1 hts gL_list_L_test rfl rfl rfl (by decide +kernel) ⟨(Nat.le_of_ble_eq_true rfl), (Nat.le_of_ble_eq_true rfl)⟩) rfl rfl (Nat.le_of_ble_eq_true rfl) dL_list_987 (fun u11 G9 M10 r12 H locs h hu xe hLr12 hKr12 cx w => ?_)
  obtain ⟨hL1, hK1⟩ := ext_wt xe hL1 hK1
  obtain ⟨v2L, v2K⟩ := ext_wt xe v2L v2K
  obtain ⟨v10L, v10K⟩ := ext_wt xe v10L v10K
  obtain ⟨hLr8, hKr8⟩ := ext_wt xe hLr8 hKr8
  have hext := ext_tr hext xe
  clear xe
  have hG := cX_wt cx
  refine rb_VR (kr := 11) (b := b) (u := u11) (rf := 5) (rl := 152) (As := [.ref r12]) (rest := []) cx w hR hl.1 h (fun h => kn_J4_append_15ec4p hG hLr8 hKr8 hLr12 hKr12 h) (fun v => cwV 1 hts gL_list_J4_append_15ec4 rfl rfl rfl (by decide +kernel) ⟨(Nat.le_of_ble_eq_true rfl), (Nat.le_of_ble_eq_true rfl)⟩) hLr8 hKr8 (by decide) rfl rfl rfl (Nat.le_of_ble_eq_true rfl) dL_list_990 (fun u15 G13 M14 r16 H locs h hu xe hLr16 hKr16 cx w => ?_)
  obtain ⟨hL1, hK1⟩ := ext_wt xe hL1 hK1
  obtain ⟨v2L, v2K⟩ := ext_wt xe v2L v2K
  obtain ⟨v10L, v10K⟩ := ext_wt xe v10L v10K
  have hext := ext_tr hext xe
  clear xe
  have hG := cX_wt cx
  refine r_ldcS (i := 27) cx w (by decide) rfl rfl dL_list_993 ?_
  refine rb_VR (kr := 11) (b := b) (u := u15) (rf := 5) (rl := 152) (As := [.ref (stK D 27)]) (rest := []) cx w hR hl.1 h (fun h => kn_J4_append_15ec4 hG hLr16 hKr16 (by decide : 27 < 36) h) (fun v => cwV 1 hts gL_list_J4_append_15ec4 rfl rfl rfl (by decide +kernel) ⟨(Nat.le_of_ble_eq_true rfl), (Nat.le_of_ble_eq_true rfl)⟩) hLr16 hKr16 (by decide) rfl rfl rfl (Nat.le_of_ble_eq_true rfl) dL_list_995 (fun u19 G17 M18 r20 H locs h hu xe hLr20 hKr20 cx w => ?_)
  obtain ⟨hL1, hK1⟩ := ext_wt xe hL1 hK1
  obtain ⟨v2L, v2K⟩ := ext_wt xe v2L v2K
  obtain ⟨v10L, v10K⟩ := ext_wt xe v10L v10K
  have hext := ext_tr hext xe
  clear xe
  have hG := cX_wt cx
  refine lv_pop hx hb dL_list_998 rfl ?_
  refine lv_aload_n hx hb dL_list_999 rfl (lv_at hl 2 rfl) ?_
  refine lv_aload_n hx hb dL_list_1000 rfl (lv_at hl 2 rfl) ?_
  obtain ⟨q21, eq21, h⟩ := w_rf h
  obtain ⟨hLq21, hKq21⟩ := wt_q hG v2L v2K eq21
  have hKq21 : gK G17 q21 = 15 := hKq21
  refine r_getR (k := 8) cx w v2L v2K (by decide) rfl wb_L_list_X10 (by decide) rfl eq21 (List.mem_of_getElem? (i := 18) rfl) dL_list_1001 ?_
  refine lv_aload hx hb dL_list_1004 (lv_at hl 5 rfl) ?_
  refine rb_SR (kr := 15) (b := b) (u := u19) (rf := 0) (rl := 0) (As := [.ref q21, .ref v10]) (rest := [.ref v2]) cx w hR hl.1 h (fun h => kn_X10_with hG hLq21 hKq21 v10L v10K h) (fun v => va_cwS 2 hts gL_list_X10_with rfl rfl rfl (by decide +kernel) ⟨(Nat.le_of_ble_eq_true rfl), (Nat.le_of_ble_eq_true rfl)⟩) rfl rfl (Nat.le_of_ble_eq_true rfl) dL_list_1006 (fun u24 G22 M23 r25 H locs h hu xe hLr25 hKr25 cx w => ?_)
  obtain ⟨hL1, hK1⟩ := ext_wt xe hL1 hK1
  obtain ⟨v2L, v2K⟩ := ext_wt xe v2L v2K
  obtain ⟨v10L, v10K⟩ := ext_wt xe v10L v10K
  have hext := ext_tr hext xe
  clear xe
  have hG := cX_wt cx
  refine rb_putR (k0 := 8) cx w tyX10 tyX10_ok nmX10 v2L v2K (by decide) rfl wb_L_list_X10 (by decide) rfl (tyX10_ok 8 (by decide)) rfl rfl sr_9_8 (ln_9 _ _ (by decide)) hLr25 hKr25 (List.mem_of_getElem? (i := 18) rfl) h dL_list_1009 (fun G26 H locs h xe cx w => ?_)
  obtain ⟨hL1, hK1⟩ := ext_wt xe hL1 hK1
  obtain ⟨v2L, v2K⟩ := ext_wt xe v2L v2K
  obtain ⟨v10L, v10K⟩ := ext_wt xe v10L v10K
  have hext := ext_tr hext xe
  clear xe
  have hG := cX_wt cx
  obtain ⟨x27, ex27, h⟩ := w_bd h
  refine lv_iinc (v := x27) (lv' := [(5, .int x27), (0, .ref (stX D)), (1, .ref a1), (2, .ref v2), (4, .int v4), (10, .ref v10)]) hx hb dL_list_1012 hl (k := 4) rfl (by rw [ex27]; rfl) (by decide) rfl (fun ls hl => ?_)
  refine lv_goto (tgt := 538) hx hb dL_list_1015 (by decide) ?_
  exact hkb538 u24 G26 M23 v2 v4 x27 H locs ls hL1 hK1 v2L v2K hext hu h cx w (lv_sub hl [1, 2, 3, 4, 0] rfl)
set_option maxHeartbeats 4000000 in
set_option maxRecDepth 100000 in
theorem bn_L_list_834 {p : Program} {l : Launch} {e : Env} {s : State} {m : MethodId} {args : Array Value} {below : List Frame} {meth : Method} {c : Code} {D : va_G} {cy : cyS} {b : uS} {G0 : gS} {sz : Nat} (hnm : meth.name = yL_list.name)  {a1 : Nat} {post : gS → mS → Nat → Prop} {kb538 : uS → gS → mS → Nat → Int32 → Int32 → Prop} (hkb538 : ∀ (u : uS) (G : gS) (M : mS) (v2 : Nat) (v4 : Int32) (v5 : Int32) (H : Heap) (locs : List Loc) (ls : Array Slot), a1 ∈ gL G → gK G a1 = 11 → v2 ∈ gL G → gK G v2 = 9 → ext G0 G → uL u b → kb538 u G M v2 v4 v5 → cX p s m args meth c cL_list RL 11 (some (.object "FlagAntsLaw$Sim")) wsL_list D cy G (pA G0 sz) → wd D cy G M (pA G0 sz) s.heap H locs → lv_has ls 11 [(0, .ref (stX D)), (1, .ref a1), (2, .ref v2), (4, .int v4), (5, .int v5)] → W p l e (rnL_list b) s m args below meth c H locs u.1 u.2 (MQ below (va_Qr (fun (u : gS × mS × Nat) => post u.1 u.2.1 u.2.2) (fun u x t => x = u.2.2 ∧ (x ∈ gL u.1 ∧ gK u.1 x = 9) ∧ va_P D vwCl (pl cy u.1 u.2.1) t.heap ∧ va_D (pA G0 sz) (pl cy u.1 u.2.1) ∧ wt u.1 ∧ ext G0 u.1) (pA G0 sz)) args s b.1 b.2 (pA G0 sz)) (F0 m 538 ls [])) : ∀ (u : uS) (G : gS) (M : mS) (v2 : Nat) (v4 : Int32) (v5 : Int32) (v8 : Int32) (v10 : Nat) (H : Heap) (locs : List Loc) (ls : Array Slot), a1 ∈ gL G → gK G a1 = 11 → v2 ∈ gL G → gK G v2 = 9 → v10 ∈ gL G → gK G v10 = 12 → ext G0 G → uL u b → nb_L_list_834 D b a1 kb538 post u G M v2 v4 v5 v8 v10 → cX p s m args meth c cL_list RL 11 (some (.object "FlagAntsLaw$Sim")) wsL_list D cy G (pA G0 sz) → wd D cy G M (pA G0 sz) s.heap H locs → lv_has ls 11 [(0, .ref (stX D)), (1, .ref a1), (2, .ref v2), (4, .int v4), (5, .int v5), (8, .int v8), (10, .ref v10)] → W p l e (rnL_list b) s m args below meth c H locs u.1 u.2 (MQ below (va_Qr (fun (u : gS × mS × Nat) => post u.1 u.2.1 u.2.2) (fun u x t => x = u.2.2 ∧ (x ∈ gL u.1 ∧ gK u.1 x = 9) ∧ va_P D vwCl (pl cy u.1 u.2.1) t.heap ∧ va_D (pA G0 sz) (pl cy u.1 u.2.1) ∧ wt u.1 ∧ ext G0 u.1) (pA G0 sz)) args s b.1 b.2 (pA G0 sz)) (F0 m 834 ls []) := by
  intro u G M v2 v4 v5 v8 v10 H locs ls hL1 hK1 v2L v2K v10L v10K hext hu h cx w hl
  unfold nb_L_list_834 at h
  obtain ⟨hx, hb, hml, hown, hts, hr, hlocks, hK, hA, hG, hsx⟩ := id cx
  have hR : (rnL_list b).cells = b.1 ∧ (rnL_list b).slots = b.2 := ⟨rfl, rfl⟩
  refine lv_aload_n hx hb dL_list_834 rfl (lv_at hl 1 rfl) ?_
  refine lv_iload hx hb dL_list_835 (lv_at hl 5 rfl) ?_
  refine lv_if_ne (tgt := 877) hx hb dL_list_837 (by decide) (fun k1 => ?_) (fun k1 => ?_)
  · have h := w_f h k1
    refine lv_iload hx hb dL_list_877 (lv_at hl 5 rfl) ?_
    refine lv_iconst (v := (1 : Int32)) hx hb dL_list_879 (by decide) ?_
    refine lv_icmp_ne (tgt := 924) hx hb dL_list_880 (by decide) (fun k2 => ?_) (fun k2 => ?_)
    · have h := w_f h k2
      refine lv_iload hx hb dL_list_924 (lv_at hl 5 rfl) ?_
      refine lv_iconst (v := (2 : Int32)) hx hb dL_list_926 (by decide) ?_
      refine lv_icmp_ne (tgt := 955) hx hb dL_list_927 (by decide) (fun k3 => ?_) (fun k3 => ?_)
      · have h := w_f h k3
        refine rb_newO (b := b) (u := u) cx w hR tyJ4 tyJ4_ok rfl (by decide) wb_L_list_J4 (List.mem_of_getElem? (i := 15) rfl) (List.mem_of_getElem? (i := 16) rfl) (List.mem_of_getElem? (i := 17) rfl) df_11 h dL_list_955 (fun q4 u7 G5 M6 H h hu xe hLq4 hKq4 cx w => ?_)
        obtain ⟨hL1, hK1⟩ := ext_wt xe hL1 hK1
        obtain ⟨v2L, v2K⟩ := ext_wt xe v2L v2K
        obtain ⟨v10L, v10K⟩ := ext_wt xe v10L v10K
        have hext := ext_tr hext xe
        clear xe
        have hG := cX_wt cx
        refine lv_dup hx hb dL_list_958 rfl ?_
        refine rb_NV (b := b) (u := u7) (rf := 2) (rl := 81) (As := []) (rest := [.ref q4, .ref a1]) cx w hR hl.1 h (fun h => kn_J4_init_da8c8 hG hLq4 hKq4 h) (fun v => cwI 0 hts gL_list_J4_init_da8c8 rfl rfl rfl (hts _ (List.mem_of_getElem? (i := 17) rfl)) (hts _ (List.mem_of_getElem? (i := 211) rfl)) (hts _ (List.mem_of_getElem? (i := 212) rfl)) rfl (by decide +kernel) ⟨(Nat.le_of_ble_eq_true rfl), (Nat.le_of_ble_eq_true rfl)⟩) rfl rfl (Nat.le_of_ble_eq_true rfl) dL_list_959 (fun u10 G8 M9 r11 H locs h hu xe cx w => ?_)
        obtain ⟨hL1, hK1⟩ := ext_wt xe hL1 hK1
        obtain ⟨v2L, v2K⟩ := ext_wt xe v2L v2K
        obtain ⟨v10L, v10K⟩ := ext_wt xe v10L v10K
        obtain ⟨hLq4, hKq4⟩ := ext_wt xe hLq4 hKq4
        have hext := ext_tr hext xe
        clear xe
        have hG := cX_wt cx
        refine r_ldcS (i := 33) cx w (by decide) rfl rfl dL_list_962 ?_
        refine rb_VR (kr := 11) (b := b) (u := u10) (rf := 5) (rl := 152) (As := [.ref (stK D 33)]) (rest := [.ref a1]) cx w hR hl.1 h (fun h => kn_J4_append_15ec4 hG hLq4 hKq4 (by decide : 33 < 36) h) (fun v => cwV 1 hts gL_list_J4_append_15ec4 rfl rfl rfl (by decide +kernel) ⟨(Nat.le_of_ble_eq_true rfl), (Nat.le_of_ble_eq_true rfl)⟩) hLq4 hKq4 (by decide) rfl rfl rfl (Nat.le_of_ble_eq_true rfl) dL_list_964 (fun u14 G12 M13 r15 H locs h hu xe hLr15 hKr15 cx w => ?_)
        obtain ⟨hL1, hK1⟩ := ext_wt xe hL1 hK1
        obtain ⟨v2L, v2K⟩ := ext_wt xe v2L v2K
        obtain ⟨v10L, v10K⟩ := ext_wt xe v10L v10K
        have hext := ext_tr hext xe
        clear xe
        have hG := cX_wt cx
        refine lv_aload hx hb dL_list_967 (lv_at hl 6 rfl) ?_
        refine lv_iconst (v := (1 : Int32)) hx hb dL_list_969 (by decide) ?_
        obtain ⟨z16, h⟩ := w_ix h
        refine r_iald cx w v10L v10K z16 dL_list_970 ?_
        refine rb_VR (kr := 11) (b := b) (u := u14) (rf := 5) (rl := 153) (As := [.int ((mI M13 v10 (Int32.toNatClampNeg (1 : Int32))))]) (rest := [.ref a1]) cx w hR hl.1 h (fun h => kn_J4_append_bf812 hG hLr15 hKr15 h) (fun v => cwV 1 hts gL_list_J4_append_bf812 rfl rfl rfl (by decide +kernel) ⟨(Nat.le_of_ble_eq_true rfl), (Nat.le_of_ble_eq_true rfl)⟩) hLr15 hKr15 (by decide) rfl rfl rfl (Nat.le_of_ble_eq_true rfl) dL_list_971 (fun u19 G17 M18 r20 H locs h hu xe hLr20 hKr20 cx w => ?_)
        obtain ⟨hL1, hK1⟩ := ext_wt xe hL1 hK1
        obtain ⟨v2L, v2K⟩ := ext_wt xe v2L v2K
        obtain ⟨v10L, v10K⟩ := ext_wt xe v10L v10K
        have hext := ext_tr hext xe
        clear xe
        have hG := cX_wt cx
        refine rb_VR (kr := 10) (b := b) (u := u19) (rf := 5) (rl := 151) (As := []) (rest := [.ref a1]) cx w hR hl.1 h (fun h => kn_J4_toString_0e30d hG hLr20 hKr20 h) (fun v => cwV 0 hts gL_list_J4_toString_0e30d rfl rfl rfl (by decide +kernel) ⟨(Nat.le_of_ble_eq_true rfl), (Nat.le_of_ble_eq_true rfl)⟩) hLr20 hKr20 (by decide) rfl rfl rfl (Nat.le_of_ble_eq_true rfl) dL_list_974 (fun u23 G21 M22 r24 H locs h hu xe hLr24 hKr24 cx w => ?_)
        obtain ⟨hL1, hK1⟩ := ext_wt xe hL1 hK1
        obtain ⟨v2L, v2K⟩ := ext_wt xe v2L v2K
        obtain ⟨v10L, v10K⟩ := ext_wt xe v10L v10K
        have hext := ext_tr hext xe
        clear xe
        have hG := cX_wt cx
        exact bn_L_list_977 hnm (hkb538 := hkb538) u23 G21 M22 v2 v4 v5 v10 r24 H locs ls hL1 hK1 v2L v2K v10L v10K hLr24 hKr24 hext hu h cx w (lv_sub hl [0, 1, 2, 3, 4, 6] rfl)
      · have h := w_t h k3
        refine rb_newO (b := b) (u := u) cx w hR tyJ4 tyJ4_ok rfl (by decide) wb_L_list_J4 (List.mem_of_getElem? (i := 15) rfl) (List.mem_of_getElem? (i := 16) rfl) (List.mem_of_getElem? (i := 17) rfl) df_11 h dL_list_930 (fun q25 u28 G26 M27 H h hu xe hLq25 hKq25 cx w => ?_)
        obtain ⟨hL1, hK1⟩ := ext_wt xe hL1 hK1
        obtain ⟨v2L, v2K⟩ := ext_wt xe v2L v2K
        obtain ⟨v10L, v10K⟩ := ext_wt xe v10L v10K
        have hext := ext_tr hext xe
        clear xe
        have hG := cX_wt cx
        refine lv_dup hx hb dL_list_933 rfl ?_
        refine rb_NV (b := b) (u := u28) (rf := 2) (rl := 81) (As := []) (rest := [.ref q25, .ref a1]) cx w hR hl.1 h (fun h => kn_J4_init_da8c8 hG hLq25 hKq25 h) (fun v => cwI 0 hts gL_list_J4_init_da8c8 rfl rfl rfl (hts _ (List.mem_of_getElem? (i := 17) rfl)) (hts _ (List.mem_of_getElem? (i := 211) rfl)) (hts _ (List.mem_of_getElem? (i := 212) rfl)) rfl (by decide +kernel) ⟨(Nat.le_of_ble_eq_true rfl), (Nat.le_of_ble_eq_true rfl)⟩) rfl rfl (Nat.le_of_ble_eq_true rfl) dL_list_934 (fun u31 G29 M30 r32 H locs h hu xe cx w => ?_)
        obtain ⟨hL1, hK1⟩ := ext_wt xe hL1 hK1
        obtain ⟨v2L, v2K⟩ := ext_wt xe v2L v2K
        obtain ⟨v10L, v10K⟩ := ext_wt xe v10L v10K
        obtain ⟨hLq25, hKq25⟩ := ext_wt xe hLq25 hKq25
        have hext := ext_tr hext xe
        clear xe
        have hG := cX_wt cx
        refine r_ldcS (i := 32) cx w (by decide) rfl rfl dL_list_937 ?_
        refine rb_VR (kr := 11) (b := b) (u := u31) (rf := 5) (rl := 152) (As := [.ref (stK D 32)]) (rest := [.ref a1]) cx w hR hl.1 h (fun h => kn_J4_append_15ec4 hG hLq25 hKq25 (by decide : 32 < 36) h) (fun v => cwV 1 hts gL_list_J4_append_15ec4 rfl rfl rfl (by decide +kernel) ⟨(Nat.le_of_ble_eq_true rfl), (Nat.le_of_ble_eq_true rfl)⟩) hLq25 hKq25 (by decide) rfl rfl rfl (Nat.le_of_ble_eq_true rfl) dL_list_939 (fun u35 G33 M34 r36 H locs h hu xe hLr36 hKr36 cx w => ?_)
        obtain ⟨hL1, hK1⟩ := ext_wt xe hL1 hK1
        obtain ⟨v2L, v2K⟩ := ext_wt xe v2L v2K
        obtain ⟨v10L, v10K⟩ := ext_wt xe v10L v10K
        have hext := ext_tr hext xe
        clear xe
        have hG := cX_wt cx
        refine lv_aload hx hb dL_list_942 (lv_at hl 6 rfl) ?_
        refine lv_iconst (v := (1 : Int32)) hx hb dL_list_944 (by decide) ?_
        obtain ⟨z37, h⟩ := w_ix h
        refine r_iald cx w v10L v10K z37 dL_list_945 ?_
        refine rb_VR (kr := 11) (b := b) (u := u35) (rf := 5) (rl := 153) (As := [.int ((mI M34 v10 (Int32.toNatClampNeg (1 : Int32))))]) (rest := [.ref a1]) cx w hR hl.1 h (fun h => kn_J4_append_bf812 hG hLr36 hKr36 h) (fun v => cwV 1 hts gL_list_J4_append_bf812 rfl rfl rfl (by decide +kernel) ⟨(Nat.le_of_ble_eq_true rfl), (Nat.le_of_ble_eq_true rfl)⟩) hLr36 hKr36 (by decide) rfl rfl rfl (Nat.le_of_ble_eq_true rfl) dL_list_946 (fun u40 G38 M39 r41 H locs h hu xe hLr41 hKr41 cx w => ?_)
        obtain ⟨hL1, hK1⟩ := ext_wt xe hL1 hK1
        obtain ⟨v2L, v2K⟩ := ext_wt xe v2L v2K
        obtain ⟨v10L, v10K⟩ := ext_wt xe v10L v10K
        have hext := ext_tr hext xe
        clear xe
        have hG := cX_wt cx
        refine rb_VR (kr := 10) (b := b) (u := u40) (rf := 5) (rl := 151) (As := []) (rest := [.ref a1]) cx w hR hl.1 h (fun h => kn_J4_toString_0e30d hG hLr41 hKr41 h) (fun v => cwV 0 hts gL_list_J4_toString_0e30d rfl rfl rfl (by decide +kernel) ⟨(Nat.le_of_ble_eq_true rfl), (Nat.le_of_ble_eq_true rfl)⟩) hLr41 hKr41 (by decide) rfl rfl rfl (Nat.le_of_ble_eq_true rfl) dL_list_949 (fun u44 G42 M43 r45 H locs h hu xe hLr45 hKr45 cx w => ?_)
        obtain ⟨hL1, hK1⟩ := ext_wt xe hL1 hK1
        obtain ⟨v2L, v2K⟩ := ext_wt xe v2L v2K
        obtain ⟨v10L, v10K⟩ := ext_wt xe v10L v10K
        have hext := ext_tr hext xe
        clear xe
        have hG := cX_wt cx
        refine lv_goto (tgt := 977) hx hb dL_list_952 (by decide) ?_
        exact bn_L_list_977 hnm (hkb538 := hkb538) u44 G42 M43 v2 v4 v5 v10 r45 H locs ls hL1 hK1 v2L v2K v10L v10K hLr45 hKr45 hext hu h cx w (lv_sub hl [0, 1, 2, 3, 4, 6] rfl)
    · have h := w_t h k2
      refine rb_newO (b := b) (u := u) cx w hR tyJ4 tyJ4_ok rfl (by decide) wb_L_list_J4 (List.mem_of_getElem? (i := 15) rfl) (List.mem_of_getElem? (i := 16) rfl) (List.mem_of_getElem? (i := 17) rfl) df_11 h dL_list_883 (fun q46 u49 G47 M48 H h hu xe hLq46 hKq46 cx w => ?_)
      obtain ⟨hL1, hK1⟩ := ext_wt xe hL1 hK1
      obtain ⟨v2L, v2K⟩ := ext_wt xe v2L v2K
      obtain ⟨v10L, v10K⟩ := ext_wt xe v10L v10K
      have hext := ext_tr hext xe
      clear xe
      have hG := cX_wt cx
      refine lv_dup hx hb dL_list_886 rfl ?_
      refine rb_NV (b := b) (u := u49) (rf := 2) (rl := 81) (As := []) (rest := [.ref q46, .ref a1]) cx w hR hl.1 h (fun h => kn_J4_init_da8c8 hG hLq46 hKq46 h) (fun v => cwI 0 hts gL_list_J4_init_da8c8 rfl rfl rfl (hts _ (List.mem_of_getElem? (i := 17) rfl)) (hts _ (List.mem_of_getElem? (i := 211) rfl)) (hts _ (List.mem_of_getElem? (i := 212) rfl)) rfl (by decide +kernel) ⟨(Nat.le_of_ble_eq_true rfl), (Nat.le_of_ble_eq_true rfl)⟩) rfl rfl (Nat.le_of_ble_eq_true rfl) dL_list_887 (fun u52 G50 M51 r53 H locs h hu xe cx w => ?_)
      obtain ⟨hL1, hK1⟩ := ext_wt xe hL1 hK1
      obtain ⟨v2L, v2K⟩ := ext_wt xe v2L v2K
      obtain ⟨v10L, v10K⟩ := ext_wt xe v10L v10K
      obtain ⟨hLq46, hKq46⟩ := ext_wt xe hLq46 hKq46
      have hext := ext_tr hext xe
      clear xe
      have hG := cX_wt cx
      refine r_ldcS (i := 31) cx w (by decide) rfl rfl dL_list_890 ?_
      refine rb_VR (kr := 11) (b := b) (u := u52) (rf := 5) (rl := 152) (As := [.ref (stK D 31)]) (rest := [.ref a1]) cx w hR hl.1 h (fun h => kn_J4_append_15ec4 hG hLq46 hKq46 (by decide : 31 < 36) h) (fun v => cwV 1 hts gL_list_J4_append_15ec4 rfl rfl rfl (by decide +kernel) ⟨(Nat.le_of_ble_eq_true rfl), (Nat.le_of_ble_eq_true rfl)⟩) hLq46 hKq46 (by decide) rfl rfl rfl (Nat.le_of_ble_eq_true rfl) dL_list_892 (fun u56 G54 M55 r57 H locs h hu xe hLr57 hKr57 cx w => ?_)
      obtain ⟨hL1, hK1⟩ := ext_wt xe hL1 hK1
      obtain ⟨v2L, v2K⟩ := ext_wt xe v2L v2K
      obtain ⟨v10L, v10K⟩ := ext_wt xe v10L v10K
      have hext := ext_tr hext xe
      clear xe
      have hG := cX_wt cx
      refine lv_aload hx hb dL_list_895 (lv_at hl 6 rfl) ?_
      refine lv_iconst (v := (1 : Int32)) hx hb dL_list_897 (by decide) ?_
      obtain ⟨z58, h⟩ := w_ix h
      refine r_iald cx w v10L v10K z58 dL_list_898 ?_
      refine rb_VR (kr := 11) (b := b) (u := u56) (rf := 5) (rl := 153) (As := [.int ((mI M55 v10 (Int32.toNatClampNeg (1 : Int32))))]) (rest := [.ref a1]) cx w hR hl.1 h (fun h => kn_J4_append_bf812 hG hLr57 hKr57 h) (fun v => cwV 1 hts gL_list_J4_append_bf812 rfl rfl rfl (by decide +kernel) ⟨(Nat.le_of_ble_eq_true rfl), (Nat.le_of_ble_eq_true rfl)⟩) hLr57 hKr57 (by decide) rfl rfl rfl (Nat.le_of_ble_eq_true rfl) dL_list_899 (fun u61 G59 M60 r62 H locs h hu xe hLr62 hKr62 cx w => ?_)
      obtain ⟨hL1, hK1⟩ := ext_wt xe hL1 hK1
      obtain ⟨v2L, v2K⟩ := ext_wt xe v2L v2K
      obtain ⟨v10L, v10K⟩ := ext_wt xe v10L v10K
      have hext := ext_tr hext xe
      clear xe
      have hG := cX_wt cx
      refine r_ldcS (i := 21) cx w (by decide) rfl rfl dL_list_902 ?_
      refine rb_VR (kr := 11) (b := b) (u := u61) (rf := 5) (rl := 152) (As := [.ref (stK D 21)]) (rest := [.ref a1]) cx w hR hl.1 h (fun h => kn_J4_append_15ec4 hG hLr62 hKr62 (by decide : 21 < 36) h) (fun v => cwV 1 hts gL_list_J4_append_15ec4 rfl rfl rfl (by decide +kernel) ⟨(Nat.le_of_ble_eq_true rfl), (Nat.le_of_ble_eq_true rfl)⟩) hLr62 hKr62 (by decide) rfl rfl rfl (Nat.le_of_ble_eq_true rfl) dL_list_904 (fun u65 G63 M64 r66 H locs h hu xe hLr66 hKr66 cx w => ?_)
      obtain ⟨hL1, hK1⟩ := ext_wt xe hL1 hK1
      obtain ⟨v2L, v2K⟩ := ext_wt xe v2L v2K
      obtain ⟨v10L, v10K⟩ := ext_wt xe v10L v10K
      have hext := ext_tr hext xe
      clear xe
      have hG := cX_wt cx
      refine r_getW1 cx w (List.mem_of_getElem? (i := 7) rfl) dL_list_907 ?_
      refine lv_aload hx hb dL_list_910 (lv_at hl 6 rfl) ?_
      refine lv_iconst (v := (2 : Int32)) hx hb dL_list_912 (by decide) ?_
      obtain ⟨z67, h⟩ := w_ix h
      refine r_iald cx w v10L v10K z67 dL_list_913 ?_
      obtain ⟨z68, h⟩ := w_ix h
      refine r_wald1 cx w z68 dL_list_914 ?_
      refine rb_VR (kr := 11) (b := b) (u := u65) (rf := 5) (rl := 152) (As := [.ref (stK D ((4 + (Int32.toNatClampNeg (mI M64 v10 (Int32.toNatClampNeg (2 : Int32)))))))]) (rest := [.ref a1]) cx w hR hl.1 h (fun h => kn_J4_append_15ec4 hG hLr66 hKr66 (vp_ltw1 z68) h) (fun v => cwV 1 hts gL_list_J4_append_15ec4 rfl rfl rfl (by decide +kernel) ⟨(Nat.le_of_ble_eq_true rfl), (Nat.le_of_ble_eq_true rfl)⟩) hLr66 hKr66 (by decide) rfl rfl rfl (Nat.le_of_ble_eq_true rfl) dL_list_915 (fun u71 G69 M70 r72 H locs h hu xe hLr72 hKr72 cx w => ?_)
      obtain ⟨hL1, hK1⟩ := ext_wt xe hL1 hK1
      obtain ⟨v2L, v2K⟩ := ext_wt xe v2L v2K
      obtain ⟨v10L, v10K⟩ := ext_wt xe v10L v10K
      have hext := ext_tr hext xe
      clear xe
      have hG := cX_wt cx
      refine rb_VR (kr := 10) (b := b) (u := u71) (rf := 5) (rl := 151) (As := []) (rest := [.ref a1]) cx w hR hl.1 h (fun h => kn_J4_toString_0e30d hG hLr72 hKr72 h) (fun v => cwV 0 hts gL_list_J4_toString_0e30d rfl rfl rfl (by decide +kernel) ⟨(Nat.le_of_ble_eq_true rfl), (Nat.le_of_ble_eq_true rfl)⟩) hLr72 hKr72 (by decide) rfl rfl rfl (Nat.le_of_ble_eq_true rfl) dL_list_918 (fun u75 G73 M74 r76 H locs h hu xe hLr76 hKr76 cx w => ?_)
      obtain ⟨hL1, hK1⟩ := ext_wt xe hL1 hK1
      obtain ⟨v2L, v2K⟩ := ext_wt xe v2L v2K
      obtain ⟨v10L, v10K⟩ := ext_wt xe v10L v10K
      have hext := ext_tr hext xe
      clear xe
      have hG := cX_wt cx
      refine lv_goto (tgt := 977) hx hb dL_list_921 (by decide) ?_
      exact bn_L_list_977 hnm (hkb538 := hkb538) u75 G73 M74 v2 v4 v5 v10 r76 H locs ls hL1 hK1 v2L v2K v10L v10K hLr76 hKr76 hext hu h cx w (lv_sub hl [0, 1, 2, 3, 4, 6] rfl)
  · have h := w_t h k1
    refine rb_newO (b := b) (u := u) cx w hR tyJ4 tyJ4_ok rfl (by decide) wb_L_list_J4 (List.mem_of_getElem? (i := 15) rfl) (List.mem_of_getElem? (i := 16) rfl) (List.mem_of_getElem? (i := 17) rfl) df_11 h dL_list_840 (fun q77 u80 G78 M79 H h hu xe hLq77 hKq77 cx w => ?_)
    obtain ⟨hL1, hK1⟩ := ext_wt xe hL1 hK1
    obtain ⟨v2L, v2K⟩ := ext_wt xe v2L v2K
    obtain ⟨v10L, v10K⟩ := ext_wt xe v10L v10K
    have hext := ext_tr hext xe
    clear xe
    have hG := cX_wt cx
    refine lv_dup hx hb dL_list_843 rfl ?_
    refine rb_NV (b := b) (u := u80) (rf := 2) (rl := 81) (As := []) (rest := [.ref q77, .ref a1]) cx w hR hl.1 h (fun h => kn_J4_init_da8c8 hG hLq77 hKq77 h) (fun v => cwI 0 hts gL_list_J4_init_da8c8 rfl rfl rfl (hts _ (List.mem_of_getElem? (i := 17) rfl)) (hts _ (List.mem_of_getElem? (i := 211) rfl)) (hts _ (List.mem_of_getElem? (i := 212) rfl)) rfl (by decide +kernel) ⟨(Nat.le_of_ble_eq_true rfl), (Nat.le_of_ble_eq_true rfl)⟩) rfl rfl (Nat.le_of_ble_eq_true rfl) dL_list_844 (fun u83 G81 M82 r84 H locs h hu xe cx w => ?_)
    obtain ⟨hL1, hK1⟩ := ext_wt xe hL1 hK1
    obtain ⟨v2L, v2K⟩ := ext_wt xe v2L v2K
    obtain ⟨v10L, v10K⟩ := ext_wt xe v10L v10K
    obtain ⟨hLq77, hKq77⟩ := ext_wt xe hLq77 hKq77
    have hext := ext_tr hext xe
    clear xe
    have hG := cX_wt cx
    refine r_ldcS (i := 29) cx w (by decide) rfl rfl dL_list_847 ?_
    refine rb_VR (kr := 11) (b := b) (u := u83) (rf := 5) (rl := 152) (As := [.ref (stK D 29)]) (rest := [.ref a1]) cx w hR hl.1 h (fun h => kn_J4_append_15ec4 hG hLq77 hKq77 (by decide : 29 < 36) h) (fun v => cwV 1 hts gL_list_J4_append_15ec4 rfl rfl rfl (by decide +kernel) ⟨(Nat.le_of_ble_eq_true rfl), (Nat.le_of_ble_eq_true rfl)⟩) hLq77 hKq77 (by decide) rfl rfl rfl (Nat.le_of_ble_eq_true rfl) dL_list_849 (fun u87 G85 M86 r88 H locs h hu xe hLr88 hKr88 cx w => ?_)
    obtain ⟨hL1, hK1⟩ := ext_wt xe hL1 hK1
    obtain ⟨v2L, v2K⟩ := ext_wt xe v2L v2K
    obtain ⟨v10L, v10K⟩ := ext_wt xe v10L v10K
    have hext := ext_tr hext xe
    clear xe
    have hG := cX_wt cx
    refine lv_aload hx hb dL_list_852 (lv_at hl 6 rfl) ?_
    refine lv_iconst (v := (1 : Int32)) hx hb dL_list_854 (by decide) ?_
    obtain ⟨z89, h⟩ := w_ix h
    refine r_iald cx w v10L v10K z89 dL_list_855 ?_
    refine rb_VR (kr := 11) (b := b) (u := u87) (rf := 5) (rl := 153) (As := [.int ((mI M86 v10 (Int32.toNatClampNeg (1 : Int32))))]) (rest := [.ref a1]) cx w hR hl.1 h (fun h => kn_J4_append_bf812 hG hLr88 hKr88 h) (fun v => cwV 1 hts gL_list_J4_append_bf812 rfl rfl rfl (by decide +kernel) ⟨(Nat.le_of_ble_eq_true rfl), (Nat.le_of_ble_eq_true rfl)⟩) hLr88 hKr88 (by decide) rfl rfl rfl (Nat.le_of_ble_eq_true rfl) dL_list_856 (fun u92 G90 M91 r93 H locs h hu xe hLr93 hKr93 cx w => ?_)
    obtain ⟨hL1, hK1⟩ := ext_wt xe hL1 hK1
    obtain ⟨v2L, v2K⟩ := ext_wt xe v2L v2K
    obtain ⟨v10L, v10K⟩ := ext_wt xe v10L v10K
    have hext := ext_tr hext xe
    clear xe
    have hG := cX_wt cx
    refine r_ldcS (i := 30) cx w (by decide) rfl rfl dL_list_859 ?_
    refine rb_VR (kr := 11) (b := b) (u := u92) (rf := 5) (rl := 152) (As := [.ref (stK D 30)]) (rest := [.ref a1]) cx w hR hl.1 h (fun h => kn_J4_append_15ec4 hG hLr93 hKr93 (by decide : 30 < 36) h) (fun v => cwV 1 hts gL_list_J4_append_15ec4 rfl rfl rfl (by decide +kernel) ⟨(Nat.le_of_ble_eq_true rfl), (Nat.le_of_ble_eq_true rfl)⟩) hLr93 hKr93 (by decide) rfl rfl rfl (Nat.le_of_ble_eq_true rfl) dL_list_861 (fun u96 G94 M95 r97 H locs h hu xe hLr97 hKr97 cx w => ?_)
    obtain ⟨hL1, hK1⟩ := ext_wt xe hL1 hK1
    obtain ⟨v2L, v2K⟩ := ext_wt xe v2L v2K
    obtain ⟨v10L, v10K⟩ := ext_wt xe v10L v10K
    have hext := ext_tr hext xe
    clear xe
    have hG := cX_wt cx
    refine lv_aload hx hb dL_list_864 (lv_at hl 6 rfl) ?_
    refine lv_iconst (v := (2 : Int32)) hx hb dL_list_866 (by decide) ?_
    obtain ⟨z98, h⟩ := w_ix h
    refine r_iald cx w v10L v10K z98 dL_list_867 ?_
    refine rb_VR (kr := 11) (b := b) (u := u96) (rf := 5) (rl := 153) (As := [.int ((mI M95 v10 (Int32.toNatClampNeg (2 : Int32))))]) (rest := [.ref a1]) cx w hR hl.1 h (fun h => kn_J4_append_bf812 hG hLr97 hKr97 h) (fun v => cwV 1 hts gL_list_J4_append_bf812 rfl rfl rfl (by decide +kernel) ⟨(Nat.le_of_ble_eq_true rfl), (Nat.le_of_ble_eq_true rfl)⟩) hLr97 hKr97 (by decide) rfl rfl rfl (Nat.le_of_ble_eq_true rfl) dL_list_868 (fun u101 G99 M100 r102 H locs h hu xe hLr102 hKr102 cx w => ?_)
    obtain ⟨hL1, hK1⟩ := ext_wt xe hL1 hK1
    obtain ⟨v2L, v2K⟩ := ext_wt xe v2L v2K
    obtain ⟨v10L, v10K⟩ := ext_wt xe v10L v10K
    have hext := ext_tr hext xe
    clear xe
    have hG := cX_wt cx
    refine rb_VR (kr := 10) (b := b) (u := u101) (rf := 5) (rl := 151) (As := []) (rest := [.ref a1]) cx w hR hl.1 h (fun h => kn_J4_toString_0e30d hG hLr102 hKr102 h) (fun v => cwV 0 hts gL_list_J4_toString_0e30d rfl rfl rfl (by decide +kernel) ⟨(Nat.le_of_ble_eq_true rfl), (Nat.le_of_ble_eq_true rfl)⟩) hLr102 hKr102 (by decide) rfl rfl rfl (Nat.le_of_ble_eq_true rfl) dL_list_871 (fun u105 G103 M104 r106 H locs h hu xe hLr106 hKr106 cx w => ?_)
    obtain ⟨hL1, hK1⟩ := ext_wt xe hL1 hK1
    obtain ⟨v2L, v2K⟩ := ext_wt xe v2L v2K
    obtain ⟨v10L, v10K⟩ := ext_wt xe v10L v10K
    have hext := ext_tr hext xe
    clear xe
    have hG := cX_wt cx
    refine lv_goto (tgt := 977) hx hb dL_list_874 (by decide) ?_
    exact bn_L_list_977 hnm (hkb538 := hkb538) u105 G103 M104 v2 v4 v5 v10 r106 H locs ls hL1 hK1 v2L v2K v10L v10K hLr106 hKr106 hext hu h cx w (lv_sub hl [0, 1, 2, 3, 4, 6] rfl)
set_option maxHeartbeats 4000000 in
set_option maxRecDepth 100000 in
theorem bn_L_list_812 {p : Program} {l : Launch} {e : Env} {s : State} {m : MethodId} {args : Array Value} {below : List Frame} {meth : Method} {c : Code} {D : va_G} {cy : cyS} {b : uS} {G0 : gS} {sz : Nat} (hnm : meth.name = yL_list.name)  {a1 : Nat} {post : gS → mS → Nat → Prop} {kb538 : uS → gS → mS → Nat → Int32 → Int32 → Prop} (hkb538 : ∀ (u : uS) (G : gS) (M : mS) (v2 : Nat) (v4 : Int32) (v5 : Int32) (H : Heap) (locs : List Loc) (ls : Array Slot), a1 ∈ gL G → gK G a1 = 11 → v2 ∈ gL G → gK G v2 = 9 → ext G0 G → uL u b → kb538 u G M v2 v4 v5 → cX p s m args meth c cL_list RL 11 (some (.object "FlagAntsLaw$Sim")) wsL_list D cy G (pA G0 sz) → wd D cy G M (pA G0 sz) s.heap H locs → lv_has ls 11 [(0, .ref (stX D)), (1, .ref a1), (2, .ref v2), (4, .int v4), (5, .int v5)] → W p l e (rnL_list b) s m args below meth c H locs u.1 u.2 (MQ below (va_Qr (fun (u : gS × mS × Nat) => post u.1 u.2.1 u.2.2) (fun u x t => x = u.2.2 ∧ (x ∈ gL u.1 ∧ gK u.1 x = 9) ∧ va_P D vwCl (pl cy u.1 u.2.1) t.heap ∧ va_D (pA G0 sz) (pl cy u.1 u.2.1) ∧ wt u.1 ∧ ext G0 u.1) (pA G0 sz)) args s b.1 b.2 (pA G0 sz)) (F0 m 538 ls [])) : ∀ (u : uS) (G : gS) (M : mS) (v2 : Nat) (v4 : Int32) (v5 : Int32) (v6 : Int32) (v8 : Int32) (v10 : Nat) (H : Heap) (locs : List Loc) (ls : Array Slot), a1 ∈ gL G → gK G a1 = 11 → v2 ∈ gL G → gK G v2 = 9 → v10 ∈ gL G → gK G v10 = 12 → ext G0 G → uL u b → nb_L_list_812 D b a1 kb538 post u G M v2 v4 v5 v6 v8 v10 → cX p s m args meth c cL_list RL 11 (some (.object "FlagAntsLaw$Sim")) wsL_list D cy G (pA G0 sz) → wd D cy G M (pA G0 sz) s.heap H locs → lv_has ls 11 [(0, .ref (stX D)), (1, .ref a1), (2, .ref v2), (4, .int v4), (5, .int v5), (6, .int v6), (8, .int v8), (10, .ref v10)] → W p l e (rnL_list b) s m args below meth c H locs u.1 u.2 (MQ below (va_Qr (fun (u : gS × mS × Nat) => post u.1 u.2.1 u.2.2) (fun u x t => x = u.2.2 ∧ (x ∈ gL u.1 ∧ gK u.1 x = 9) ∧ va_P D vwCl (pl cy u.1 u.2.1) t.heap ∧ va_D (pA G0 sz) (pl cy u.1 u.2.1) ∧ wt u.1 ∧ ext G0 u.1) (pA G0 sz)) args s b.1 b.2 (pA G0 sz)) (F0 m 812 ls []) := by
  intro u G M v2 v4 v5 v6 v8 v10 H locs ls hL1 hK1 v2L v2K v10L v10K hext hu h cx w hl
  unfold nb_L_list_812 at h
  obtain ⟨hx, hb, hml, hown, hts, hr, hlocks, hK, hA, hG, hsx⟩ := id cx
  have hR : (rnL_list b).cells = b.1 ∧ (rnL_list b).slots = b.2 := ⟨rfl, rfl⟩
  refine lv_aload hx hb dL_list_812 (lv_at hl 7 rfl) ?_
  refine lv_iconst (v := (3 : Int32)) hx hb dL_list_814 (by decide) ?_
  obtain ⟨z1, h⟩ := w_ix h
  refine r_iald cx w v10L v10K z1 dL_list_815 ?_
  refine lv_iconst (v := (4 : Int32)) hx hb dL_list_816 (by decide) ?_
  refine lv_icmp_ne (tgt := 834) hx hb dL_list_817 (by decide) (fun k2 => ?_) (fun k2 => ?_)
  · have h := w_f h k2
    exact bn_L_list_834 hnm (hkb538 := hkb538) u G M v2 v4 v5 v8 v10 H locs ls hL1 hK1 v2L v2K v10L v10K hext hu h cx w (lv_sub hl [0, 1, 2, 3, 4, 6, 7] rfl)
  · have h := w_t h k2
    refine lv_aload hx hb dL_list_820 (lv_at hl 7 rfl) ?_
    refine lv_iconst (v := (5 : Int32)) hx hb dL_list_822 (by decide) ?_
    refine lv_iload hx hb dL_list_823 (lv_at hl 5 rfl) ?_
    refine lv_bipush (v := (9 : Int32)) hx hb dL_list_825 (by decide) ?_
    refine lv_ishr hx hb dL_list_827 ?_
    refine lv_iload hx hb dL_list_828 (lv_at hl 3 rfl) ?_
    refine rb_SI (b := b) (u := u) (rf := 0) (rl := 0) (As := [.int ((v6 >>> ((9 : Int32) &&& 31))), .int v4]) (rest := [.int ((5 : Int32)), .ref v10]) cx w hR hl.1 h (fun h => kn_L_below hG h) (fun v => va_cwS 2 hts gL_list_L_below rfl rfl rfl (by decide +kernel) ⟨(Nat.le_of_ble_eq_true rfl), (Nat.le_of_ble_eq_true rfl)⟩) rfl rfl (Nat.le_of_ble_eq_true rfl) dL_list_830 (fun u5 G3 M4 r6 H locs h hu xe cx w => ?_)
    obtain ⟨hL1, hK1⟩ := ext_wt xe hL1 hK1
    obtain ⟨v2L, v2K⟩ := ext_wt xe v2L v2K
    obtain ⟨v10L, v10K⟩ := ext_wt xe v10L v10K
    have hext := ext_tr hext xe
    clear xe
    have hG := cX_wt cx
    obtain ⟨z7, h⟩ := w_ix h
    obtain ⟨M8, eM8, h⟩ := w_wI h
    refine r_iast cx w v10L v10K z7 dL_list_833 eM8 (fun H locs w => ?_)
    exact bn_L_list_834 hnm (hkb538 := hkb538) u5 G3 M8 v2 v4 v5 v8 v10 H locs ls hL1 hK1 v2L v2K v10L v10K hext hu h cx w (lv_sub hl [0, 1, 2, 3, 4, 6, 7] rfl)
set_option maxHeartbeats 4000000 in
set_option maxRecDepth 100000 in
theorem bn_L_list_788 {p : Program} {l : Launch} {e : Env} {s : State} {m : MethodId} {args : Array Value} {below : List Frame} {meth : Method} {c : Code} {D : va_G} {cy : cyS} {b : uS} {G0 : gS} {sz : Nat} (hnm : meth.name = yL_list.name)  {a1 : Nat} {post : gS → mS → Nat → Prop} {kb538 : uS → gS → mS → Nat → Int32 → Int32 → Prop} (hkb538 : ∀ (u : uS) (G : gS) (M : mS) (v2 : Nat) (v4 : Int32) (v5 : Int32) (H : Heap) (locs : List Loc) (ls : Array Slot), a1 ∈ gL G → gK G a1 = 11 → v2 ∈ gL G → gK G v2 = 9 → ext G0 G → uL u b → kb538 u G M v2 v4 v5 → cX p s m args meth c cL_list RL 11 (some (.object "FlagAntsLaw$Sim")) wsL_list D cy G (pA G0 sz) → wd D cy G M (pA G0 sz) s.heap H locs → lv_has ls 11 [(0, .ref (stX D)), (1, .ref a1), (2, .ref v2), (4, .int v4), (5, .int v5)] → W p l e (rnL_list b) s m args below meth c H locs u.1 u.2 (MQ below (va_Qr (fun (u : gS × mS × Nat) => post u.1 u.2.1 u.2.2) (fun u x t => x = u.2.2 ∧ (x ∈ gL u.1 ∧ gK u.1 x = 9) ∧ va_P D vwCl (pl cy u.1 u.2.1) t.heap ∧ va_D (pA G0 sz) (pl cy u.1 u.2.1) ∧ wt u.1 ∧ ext G0 u.1) (pA G0 sz)) args s b.1 b.2 (pA G0 sz)) (F0 m 538 ls [])) : ∀ (u : uS) (G : gS) (M : mS) (v2 : Nat) (v4 : Int32) (v5 : Int32) (v6 : Int32) (v8 : Int32) (v10 : Nat) (H : Heap) (locs : List Loc) (ls : Array Slot), a1 ∈ gL G → gK G a1 = 11 → v2 ∈ gL G → gK G v2 = 9 → v10 ∈ gL G → gK G v10 = 12 → ext G0 G → uL u b → nb_L_list_788 D b a1 kb538 post u G M v2 v4 v5 v6 v8 v10 → cX p s m args meth c cL_list RL 11 (some (.object "FlagAntsLaw$Sim")) wsL_list D cy G (pA G0 sz) → wd D cy G M (pA G0 sz) s.heap H locs → lv_has ls 11 [(0, .ref (stX D)), (1, .ref a1), (2, .ref v2), (4, .int v4), (5, .int v5), (6, .int v6), (8, .int v8), (10, .ref v10)] → W p l e (rnL_list b) s m args below meth c H locs u.1 u.2 (MQ below (va_Qr (fun (u : gS × mS × Nat) => post u.1 u.2.1 u.2.2) (fun u x t => x = u.2.2 ∧ (x ∈ gL u.1 ∧ gK u.1 x = 9) ∧ va_P D vwCl (pl cy u.1 u.2.1) t.heap ∧ va_D (pA G0 sz) (pl cy u.1 u.2.1) ∧ wt u.1 ∧ ext G0 u.1) (pA G0 sz)) args s b.1 b.2 (pA G0 sz)) (F0 m 788 ls []) := by
  intro u G M v2 v4 v5 v6 v8 v10 H locs ls hL1 hK1 v2L v2K v10L v10K hext hu h cx w hl
  unfold nb_L_list_788 at h
  obtain ⟨hx, hb, hml, hown, hts, hr, hlocks, hK, hA, hG, hsx⟩ := id cx
  have hR : (rnL_list b).cells = b.1 ∧ (rnL_list b).slots = b.2 := ⟨rfl, rfl⟩
  refine lv_aload hx hb dL_list_788 (lv_at hl 7 rfl) ?_
  refine lv_iconst (v := (3 : Int32)) hx hb dL_list_790 (by decide) ?_
  obtain ⟨z1, h⟩ := w_ix h
  refine r_iald cx w v10L v10K z1 dL_list_791 ?_
  refine lv_iconst (v := (2 : Int32)) hx hb dL_list_792 (by decide) ?_
  refine lv_icmp_ne (tgt := 812) hx hb dL_list_793 (by decide) (fun k2 => ?_) (fun k2 => ?_)
  · have h := w_f h k2
    exact bn_L_list_812 hnm (hkb538 := hkb538) u G M v2 v4 v5 v6 v8 v10 H locs ls hL1 hK1 v2L v2K v10L v10K hext hu h cx w (lv_sub hl [0, 1, 2, 3, 4, 5, 6, 7] rfl)
  · have h := w_t h k2
    refine lv_aload hx hb dL_list_796 (lv_at hl 7 rfl) ?_
    refine lv_iconst (v := (5 : Int32)) hx hb dL_list_798 (by decide) ?_
    refine lv_bipush (v := (26 : Int32)) hx hb dL_list_799 (by decide) ?_
    refine lv_iload hx hb dL_list_801 (lv_at hl 5 rfl) ?_
    refine lv_iconst (v := (2 : Int32)) hx hb dL_list_803 (by decide) ?_
    refine lv_ishr hx hb dL_list_804 ?_
    refine lv_bipush (v := (12 : Int32)) hx hb dL_list_805 (by decide) ?_
    refine rb_SI (b := b) (u := u) (rf := 0) (rl := 0) (As := [.int ((v6 >>> ((2 : Int32) &&& 31))), .int ((12 : Int32))]) (rest := [.int ((26 : Int32)), .int ((5 : Int32)), .ref v10]) cx w hR hl.1 h (fun h => kn_L_below hG h) (fun v => va_cwS 2 hts gL_list_L_below rfl rfl rfl (by decide +kernel) ⟨(Nat.le_of_ble_eq_true rfl), (Nat.le_of_ble_eq_true rfl)⟩) rfl rfl (Nat.le_of_ble_eq_true rfl) dL_list_807 (fun u5 G3 M4 r6 H locs h hu xe cx w => ?_)
    obtain ⟨hL1, hK1⟩ := ext_wt xe hL1 hK1
    obtain ⟨v2L, v2K⟩ := ext_wt xe v2L v2K
    obtain ⟨v10L, v10K⟩ := ext_wt xe v10L v10K
    have hext := ext_tr hext xe
    clear xe
    have hG := cX_wt cx
    refine lv_iadd hx hb dL_list_810 ?_
    obtain ⟨z7, h⟩ := w_ix h
    obtain ⟨M8, eM8, h⟩ := w_wI h
    refine r_iast cx w v10L v10K z7 dL_list_811 eM8 (fun H locs w => ?_)
    exact bn_L_list_812 hnm (hkb538 := hkb538) u5 G3 M8 v2 v4 v5 v6 v8 v10 H locs ls hL1 hK1 v2L v2K v10L v10K hext hu h cx w (lv_sub hl [0, 1, 2, 3, 4, 5, 6, 7] rfl)
set_option maxHeartbeats 4000000 in
set_option maxRecDepth 100000 in
theorem bn_L_list_787 {p : Program} {l : Launch} {e : Env} {s : State} {m : MethodId} {args : Array Value} {below : List Frame} {meth : Method} {c : Code} {D : va_G} {cy : cyS} {b : uS} {G0 : gS} {sz : Nat} (hnm : meth.name = yL_list.name)  {a1 : Nat} {post : gS → mS → Nat → Prop} {kb538 : uS → gS → mS → Nat → Int32 → Int32 → Prop} (hkb538 : ∀ (u : uS) (G : gS) (M : mS) (v2 : Nat) (v4 : Int32) (v5 : Int32) (H : Heap) (locs : List Loc) (ls : Array Slot), a1 ∈ gL G → gK G a1 = 11 → v2 ∈ gL G → gK G v2 = 9 → ext G0 G → uL u b → kb538 u G M v2 v4 v5 → cX p s m args meth c cL_list RL 11 (some (.object "FlagAntsLaw$Sim")) wsL_list D cy G (pA G0 sz) → wd D cy G M (pA G0 sz) s.heap H locs → lv_has ls 11 [(0, .ref (stX D)), (1, .ref a1), (2, .ref v2), (4, .int v4), (5, .int v5)] → W p l e (rnL_list b) s m args below meth c H locs u.1 u.2 (MQ below (va_Qr (fun (u : gS × mS × Nat) => post u.1 u.2.1 u.2.2) (fun u x t => x = u.2.2 ∧ (x ∈ gL u.1 ∧ gK u.1 x = 9) ∧ va_P D vwCl (pl cy u.1 u.2.1) t.heap ∧ va_D (pA G0 sz) (pl cy u.1 u.2.1) ∧ wt u.1 ∧ ext G0 u.1) (pA G0 sz)) args s b.1 b.2 (pA G0 sz)) (F0 m 538 ls [])) : ∀ (u : uS) (G : gS) (M : mS) (v2 : Nat) (v4 : Int32) (v5 : Int32) (v6 : Int32) (v8 : Int32) (v10 : Nat) (s0 : Nat) (s1 : Int32) (s2 : Int32) (H : Heap) (locs : List Loc) (ls : Array Slot), a1 ∈ gL G → gK G a1 = 11 → v2 ∈ gL G → gK G v2 = 9 → v10 ∈ gL G → gK G v10 = 12 → s0 ∈ gL G → gK G s0 = 12 → ext G0 G → uL u b → nb_L_list_787 D b a1 kb538 post u G M v2 v4 v5 v6 v8 v10 s0 s1 s2 → cX p s m args meth c cL_list RL 11 (some (.object "FlagAntsLaw$Sim")) wsL_list D cy G (pA G0 sz) → wd D cy G M (pA G0 sz) s.heap H locs → lv_has ls 11 [(0, .ref (stX D)), (1, .ref a1), (2, .ref v2), (4, .int v4), (5, .int v5), (6, .int v6), (8, .int v8), (10, .ref v10)] → W p l e (rnL_list b) s m args below meth c H locs u.1 u.2 (MQ below (va_Qr (fun (u : gS × mS × Nat) => post u.1 u.2.1 u.2.2) (fun u x t => x = u.2.2 ∧ (x ∈ gL u.1 ∧ gK u.1 x = 9) ∧ va_P D vwCl (pl cy u.1 u.2.1) t.heap ∧ va_D (pA G0 sz) (pl cy u.1 u.2.1) ∧ wt u.1 ∧ ext G0 u.1) (pA G0 sz)) args s b.1 b.2 (pA G0 sz)) (F0 m 787 ls [.int s2, .int s1, .ref s0]) := by
  intro u G M v2 v4 v5 v6 v8 v10 s0 s1 s2 H locs ls hL1 hK1 v2L v2K v10L v10K s0L s0K hext hu h cx w hl
  unfold nb_L_list_787 at h
  obtain ⟨hx, hb, hml, hown, hts, hr, hlocks, hK, hA, hG, hsx⟩ := id cx
  have hR : (rnL_list b).cells = b.1 ∧ (rnL_list b).slots = b.2 := ⟨rfl, rfl⟩
  obtain ⟨z1, h⟩ := w_ix h
  obtain ⟨M2, eM2, h⟩ := w_wI h
  refine r_iast cx w s0L s0K z1 dL_list_787 eM2 (fun H locs w => ?_)
  exact bn_L_list_788 hnm (hkb538 := hkb538) u G M2 v2 v4 v5 v6 v8 v10 H locs ls hL1 hK1 v2L v2K v10L v10K hext hu h cx w (lv_sub hl [0, 1, 2, 3, 4, 5, 6, 7] rfl)
set_option maxHeartbeats 4000000 in
set_option maxRecDepth 100000 in
theorem bn_L_list_743 {p : Program} {l : Launch} {e : Env} {s : State} {m : MethodId} {args : Array Value} {below : List Frame} {meth : Method} {c : Code} {D : va_G} {cy : cyS} {b : uS} {G0 : gS} {sz : Nat} (hnm : meth.name = yL_list.name)  {a1 : Nat} {post : gS → mS → Nat → Prop} {kb538 : uS → gS → mS → Nat → Int32 → Int32 → Prop} (hkb538 : ∀ (u : uS) (G : gS) (M : mS) (v2 : Nat) (v4 : Int32) (v5 : Int32) (H : Heap) (locs : List Loc) (ls : Array Slot), a1 ∈ gL G → gK G a1 = 11 → v2 ∈ gL G → gK G v2 = 9 → ext G0 G → uL u b → kb538 u G M v2 v4 v5 → cX p s m args meth c cL_list RL 11 (some (.object "FlagAntsLaw$Sim")) wsL_list D cy G (pA G0 sz) → wd D cy G M (pA G0 sz) s.heap H locs → lv_has ls 11 [(0, .ref (stX D)), (1, .ref a1), (2, .ref v2), (4, .int v4), (5, .int v5)] → W p l e (rnL_list b) s m args below meth c H locs u.1 u.2 (MQ below (va_Qr (fun (u : gS × mS × Nat) => post u.1 u.2.1 u.2.2) (fun u x t => x = u.2.2 ∧ (x ∈ gL u.1 ∧ gK u.1 x = 9) ∧ va_P D vwCl (pl cy u.1 u.2.1) t.heap ∧ va_D (pA G0 sz) (pl cy u.1 u.2.1) ∧ wt u.1 ∧ ext G0 u.1) (pA G0 sz)) args s b.1 b.2 (pA G0 sz)) (F0 m 538 ls [])) : ∀ (u : uS) (G : gS) (M : mS) (v2 : Nat) (v4 : Int32) (v5 : Int32) (v6 : Int32) (v8 : Int32) (v10 : Nat) (H : Heap) (locs : List Loc) (ls : Array Slot), a1 ∈ gL G → gK G a1 = 11 → v2 ∈ gL G → gK G v2 = 9 → v10 ∈ gL G → gK G v10 = 12 → ext G0 G → uL u b → nb_L_list_743 D b a1 kb538 post u G M v2 v4 v5 v6 v8 v10 → cX p s m args meth c cL_list RL 11 (some (.object "FlagAntsLaw$Sim")) wsL_list D cy G (pA G0 sz) → wd D cy G M (pA G0 sz) s.heap H locs → lv_has ls 11 [(0, .ref (stX D)), (1, .ref a1), (2, .ref v2), (4, .int v4), (5, .int v5), (6, .int v6), (8, .int v8), (10, .ref v10)] → W p l e (rnL_list b) s m args below meth c H locs u.1 u.2 (MQ below (va_Qr (fun (u : gS × mS × Nat) => post u.1 u.2.1 u.2.2) (fun u x t => x = u.2.2 ∧ (x ∈ gL u.1 ∧ gK u.1 x = 9) ∧ va_P D vwCl (pl cy u.1 u.2.1) t.heap ∧ va_D (pA G0 sz) (pl cy u.1 u.2.1) ∧ wt u.1 ∧ ext G0 u.1) (pA G0 sz)) args s b.1 b.2 (pA G0 sz)) (F0 m 743 ls []) := by
  intro u G M v2 v4 v5 v6 v8 v10 H locs ls hL1 hK1 v2L v2K v10L v10K hext hu h cx w hl
  unfold nb_L_list_743 at h
  obtain ⟨hx, hb, hml, hown, hts, hr, hlocks, hK, hA, hG, hsx⟩ := id cx
  have hR : (rnL_list b).cells = b.1 ∧ (rnL_list b).slots = b.2 := ⟨rfl, rfl⟩
  refine lv_aload hx hb dL_list_743 (lv_at hl 7 rfl) ?_
  refine lv_iconst (v := (3 : Int32)) hx hb dL_list_745 (by decide) ?_
  obtain ⟨z1, h⟩ := w_ix h
  refine r_iald cx w v10L v10K z1 dL_list_746 ?_
  refine lv_iconst (v := (1 : Int32)) hx hb dL_list_747 (by decide) ?_
  refine lv_icmp_le (tgt := 788) hx hb dL_list_748 (by decide) (fun k2 => ?_) (fun k2 => ?_)
  · have h := w_t h k2
    exact bn_L_list_788 hnm (hkb538 := hkb538) u G M v2 v4 v5 v6 v8 v10 H locs ls hL1 hK1 v2L v2K v10L v10K hext hu h cx w (lv_sub hl [0, 1, 2, 3, 4, 5, 6, 7] rfl)
  · have h := w_f h k2
    refine lv_aload hx hb dL_list_751 (lv_at hl 7 rfl) ?_
    refine lv_iconst (v := (4 : Int32)) hx hb dL_list_753 (by decide) ?_
    refine lv_aload hx hb dL_list_754 (lv_at hl 7 rfl) ?_
    refine lv_iconst (v := (3 : Int32)) hx hb dL_list_756 (by decide) ?_
    obtain ⟨z3, h⟩ := w_ix h
    refine r_iald cx w v10L v10K z3 dL_list_757 ?_
    refine lv_iconst (v := (4 : Int32)) hx hb dL_list_758 (by decide) ?_
    refine lv_icmp_ne (tgt := 777) hx hb dL_list_759 (by decide) (fun k4 => ?_) (fun k4 => ?_)
    · have h := w_f h k4
      refine lv_iload hx hb dL_list_777 (lv_at hl 5 rfl) ?_
      refine lv_bipush (v := (8 : Int32)) hx hb dL_list_779 (by decide) ?_
      refine lv_ishr hx hb dL_list_781 ?_
      refine lv_iload hx hb dL_list_782 (lv_at hl 3 rfl) ?_
      refine rb_SI (b := b) (u := u) (rf := 0) (rl := 0) (As := [.int ((v6 >>> ((8 : Int32) &&& 31))), .int v4]) (rest := [.int ((4 : Int32)), .ref v10]) cx w hR hl.1 h (fun h => kn_L_below hG h) (fun v => va_cwS 2 hts gL_list_L_below rfl rfl rfl (by decide +kernel) ⟨(Nat.le_of_ble_eq_true rfl), (Nat.le_of_ble_eq_true rfl)⟩) rfl rfl (Nat.le_of_ble_eq_true rfl) dL_list_784 (fun u7 G5 M6 r8 H locs h hu xe cx w => ?_)
      obtain ⟨hL1, hK1⟩ := ext_wt xe hL1 hK1
      obtain ⟨v2L, v2K⟩ := ext_wt xe v2L v2K
      obtain ⟨v10L, v10K⟩ := ext_wt xe v10L v10K
      have hext := ext_tr hext xe
      clear xe
      have hG := cX_wt cx
      exact bn_L_list_787 hnm (hkb538 := hkb538) u7 G5 M6 v2 v4 v5 v6 v8 v10 v10 ((4 : Int32)) r8 H locs ls hL1 hK1 v2L v2K v10L v10K v10L v10K hext hu h cx w (lv_sub hl [0, 1, 2, 3, 4, 5, 6, 7] rfl)
    · have h := w_t h k4
      refine lv_bipush (v := (28 : Int32)) hx hb dL_list_762 (by decide) ?_
      refine lv_iload hx hb dL_list_764 (lv_at hl 5 rfl) ?_
      refine lv_iconst (v := (2 : Int32)) hx hb dL_list_766 (by decide) ?_
      refine lv_ishr hx hb dL_list_767 ?_
      refine lv_bipush (v := (12 : Int32)) hx hb dL_list_768 (by decide) ?_
      refine rb_SI (b := b) (u := u) (rf := 0) (rl := 0) (As := [.int ((v6 >>> ((2 : Int32) &&& 31))), .int ((12 : Int32))]) (rest := [.int ((28 : Int32)), .int ((4 : Int32)), .ref v10]) cx w hR hl.1 h (fun h => kn_L_below hG h) (fun v => va_cwS 2 hts gL_list_L_below rfl rfl rfl (by decide +kernel) ⟨(Nat.le_of_ble_eq_true rfl), (Nat.le_of_ble_eq_true rfl)⟩) rfl rfl (Nat.le_of_ble_eq_true rfl) dL_list_770 (fun u11 G9 M10 r12 H locs h hu xe cx w => ?_)
      obtain ⟨hL1, hK1⟩ := ext_wt xe hL1 hK1
      obtain ⟨v2L, v2K⟩ := ext_wt xe v2L v2K
      obtain ⟨v10L, v10K⟩ := ext_wt xe v10L v10K
      have hext := ext_tr hext xe
      clear xe
      have hG := cX_wt cx
      refine lv_iadd hx hb dL_list_773 ?_
      refine lv_goto (tgt := 787) hx hb dL_list_774 (by decide) ?_
      exact bn_L_list_787 hnm (hkb538 := hkb538) u11 G9 M10 v2 v4 v5 v6 v8 v10 v10 ((4 : Int32)) (((28 : Int32) + r12)) H locs ls hL1 hK1 v2L v2K v10L v10K v10L v10K hext hu h cx w (lv_sub hl [0, 1, 2, 3, 4, 5, 6, 7] rfl)
set_option maxHeartbeats 4000000 in
set_option maxRecDepth 100000 in
theorem bn_L_list_719 {p : Program} {l : Launch} {e : Env} {s : State} {m : MethodId} {args : Array Value} {below : List Frame} {meth : Method} {c : Code} {D : va_G} {cy : cyS} {b : uS} {G0 : gS} {sz : Nat} (hnm : meth.name = yL_list.name)  {a1 : Nat} {post : gS → mS → Nat → Prop} {kb538 : uS → gS → mS → Nat → Int32 → Int32 → Prop} (hkb538 : ∀ (u : uS) (G : gS) (M : mS) (v2 : Nat) (v4 : Int32) (v5 : Int32) (H : Heap) (locs : List Loc) (ls : Array Slot), a1 ∈ gL G → gK G a1 = 11 → v2 ∈ gL G → gK G v2 = 9 → ext G0 G → uL u b → kb538 u G M v2 v4 v5 → cX p s m args meth c cL_list RL 11 (some (.object "FlagAntsLaw$Sim")) wsL_list D cy G (pA G0 sz) → wd D cy G M (pA G0 sz) s.heap H locs → lv_has ls 11 [(0, .ref (stX D)), (1, .ref a1), (2, .ref v2), (4, .int v4), (5, .int v5)] → W p l e (rnL_list b) s m args below meth c H locs u.1 u.2 (MQ below (va_Qr (fun (u : gS × mS × Nat) => post u.1 u.2.1 u.2.2) (fun u x t => x = u.2.2 ∧ (x ∈ gL u.1 ∧ gK u.1 x = 9) ∧ va_P D vwCl (pl cy u.1 u.2.1) t.heap ∧ va_D (pA G0 sz) (pl cy u.1 u.2.1) ∧ wt u.1 ∧ ext G0 u.1) (pA G0 sz)) args s b.1 b.2 (pA G0 sz)) (F0 m 538 ls [])) : ∀ (u : uS) (G : gS) (M : mS) (v2 : Nat) (v4 : Int32) (v5 : Int32) (v6 : Int32) (v8 : Int32) (v10 : Nat) (H : Heap) (locs : List Loc) (ls : Array Slot), a1 ∈ gL G → gK G a1 = 11 → v2 ∈ gL G → gK G v2 = 9 → v10 ∈ gL G → gK G v10 = 12 → ext G0 G → uL u b → nb_L_list_719 D b a1 kb538 post u G M v2 v4 v5 v6 v8 v10 → cX p s m args meth c cL_list RL 11 (some (.object "FlagAntsLaw$Sim")) wsL_list D cy G (pA G0 sz) → wd D cy G M (pA G0 sz) s.heap H locs → lv_has ls 11 [(0, .ref (stX D)), (1, .ref a1), (2, .ref v2), (4, .int v4), (5, .int v5), (6, .int v6), (8, .int v8), (10, .ref v10)] → W p l e (rnL_list b) s m args below meth c H locs u.1 u.2 (MQ below (va_Qr (fun (u : gS × mS × Nat) => post u.1 u.2.1 u.2.2) (fun u x t => x = u.2.2 ∧ (x ∈ gL u.1 ∧ gK u.1 x = 9) ∧ va_P D vwCl (pl cy u.1 u.2.1) t.heap ∧ va_D (pA G0 sz) (pl cy u.1 u.2.1) ∧ wt u.1 ∧ ext G0 u.1) (pA G0 sz)) args s b.1 b.2 (pA G0 sz)) (F0 m 719 ls []) := by
  intro u G M v2 v4 v5 v6 v8 v10 H locs ls hL1 hK1 v2L v2K v10L v10K hext hu h cx w hl
  unfold nb_L_list_719 at h
  obtain ⟨hx, hb, hml, hown, hts, hr, hlocks, hK, hA, hG, hsx⟩ := id cx
  have hR : (rnL_list b).cells = b.1 ∧ (rnL_list b).slots = b.2 := ⟨rfl, rfl⟩
  refine lv_aload hx hb dL_list_719 (lv_at hl 7 rfl) ?_
  refine lv_iconst (v := (3 : Int32)) hx hb dL_list_721 (by decide) ?_
  obtain ⟨z1, h⟩ := w_ix h
  refine r_iald cx w v10L v10K z1 dL_list_722 ?_
  refine lv_iconst (v := (1 : Int32)) hx hb dL_list_723 (by decide) ?_
  refine lv_icmp_ne (tgt := 743) hx hb dL_list_724 (by decide) (fun k2 => ?_) (fun k2 => ?_)
  · have h := w_f h k2
    exact bn_L_list_743 hnm (hkb538 := hkb538) u G M v2 v4 v5 v6 v8 v10 H locs ls hL1 hK1 v2L v2K v10L v10K hext hu h cx w (lv_sub hl [0, 1, 2, 3, 4, 5, 6, 7] rfl)
  · have h := w_t h k2
    refine lv_aload hx hb dL_list_727 (lv_at hl 7 rfl) ?_
    refine lv_iconst (v := (5 : Int32)) hx hb dL_list_729 (by decide) ?_
    refine lv_iload hx hb dL_list_730 (lv_at hl 5 rfl) ?_
    refine lv_bipush (v := (6 : Int32)) hx hb dL_list_732 (by decide) ?_
    refine lv_ishr hx hb dL_list_734 ?_
    refine lv_aload hx hb dL_list_735 (lv_at hl 7 rfl) ?_
    refine lv_iconst (v := (4 : Int32)) hx hb dL_list_737 (by decide) ?_
    obtain ⟨z3, h⟩ := w_ix h
    refine r_iald cx w v10L v10K z3 dL_list_738 ?_
    refine rb_SI (b := b) (u := u) (rf := 0) (rl := 0) (As := [.int ((v6 >>> ((6 : Int32) &&& 31))), .int ((mI M v10 (Int32.toNatClampNeg (4 : Int32))))]) (rest := [.int ((5 : Int32)), .ref v10]) cx w hR hl.1 h (fun h => kn_L_below hG h) (fun v => va_cwS 2 hts gL_list_L_below rfl rfl rfl (by decide +kernel) ⟨(Nat.le_of_ble_eq_true rfl), (Nat.le_of_ble_eq_true rfl)⟩) rfl rfl (Nat.le_of_ble_eq_true rfl) dL_list_739 (fun u6 G4 M5 r7 H locs h hu xe cx w => ?_)
    obtain ⟨hL1, hK1⟩ := ext_wt xe hL1 hK1
    obtain ⟨v2L, v2K⟩ := ext_wt xe v2L v2K
    obtain ⟨v10L, v10K⟩ := ext_wt xe v10L v10K
    have hext := ext_tr hext xe
    clear xe
    have hG := cX_wt cx
    obtain ⟨z8, h⟩ := w_ix h
    obtain ⟨M9, eM9, h⟩ := w_wI h
    refine r_iast cx w v10L v10K z8 dL_list_742 eM9 (fun H locs w => ?_)
    exact bn_L_list_743 hnm (hkb538 := hkb538) u6 G4 M9 v2 v4 v5 v6 v8 v10 H locs ls hL1 hK1 v2L v2K v10L v10K hext hu h cx w (lv_sub hl [0, 1, 2, 3, 4, 5, 6, 7] rfl)
set_option maxHeartbeats 4000000 in
set_option maxRecDepth 100000 in
theorem bn_L_list_696 {p : Program} {l : Launch} {e : Env} {s : State} {m : MethodId} {args : Array Value} {below : List Frame} {meth : Method} {c : Code} {D : va_G} {cy : cyS} {b : uS} {G0 : gS} {sz : Nat} (hnm : meth.name = yL_list.name)  {a1 : Nat} {post : gS → mS → Nat → Prop} {kb538 : uS → gS → mS → Nat → Int32 → Int32 → Prop} (hkb538 : ∀ (u : uS) (G : gS) (M : mS) (v2 : Nat) (v4 : Int32) (v5 : Int32) (H : Heap) (locs : List Loc) (ls : Array Slot), a1 ∈ gL G → gK G a1 = 11 → v2 ∈ gL G → gK G v2 = 9 → ext G0 G → uL u b → kb538 u G M v2 v4 v5 → cX p s m args meth c cL_list RL 11 (some (.object "FlagAntsLaw$Sim")) wsL_list D cy G (pA G0 sz) → wd D cy G M (pA G0 sz) s.heap H locs → lv_has ls 11 [(0, .ref (stX D)), (1, .ref a1), (2, .ref v2), (4, .int v4), (5, .int v5)] → W p l e (rnL_list b) s m args below meth c H locs u.1 u.2 (MQ below (va_Qr (fun (u : gS × mS × Nat) => post u.1 u.2.1 u.2.2) (fun u x t => x = u.2.2 ∧ (x ∈ gL u.1 ∧ gK u.1 x = 9) ∧ va_P D vwCl (pl cy u.1 u.2.1) t.heap ∧ va_D (pA G0 sz) (pl cy u.1 u.2.1) ∧ wt u.1 ∧ ext G0 u.1) (pA G0 sz)) args s b.1 b.2 (pA G0 sz)) (F0 m 538 ls [])) : ∀ (u : uS) (G : gS) (M : mS) (v2 : Nat) (v4 : Int32) (v5 : Int32) (v6 : Int32) (v8 : Int32) (v10 : Nat) (H : Heap) (locs : List Loc) (ls : Array Slot), a1 ∈ gL G → gK G a1 = 11 → v2 ∈ gL G → gK G v2 = 9 → v10 ∈ gL G → gK G v10 = 12 → ext G0 G → uL u b → nb_L_list_696 D b a1 kb538 post u G M v2 v4 v5 v6 v8 v10 → cX p s m args meth c cL_list RL 11 (some (.object "FlagAntsLaw$Sim")) wsL_list D cy G (pA G0 sz) → wd D cy G M (pA G0 sz) s.heap H locs → lv_has ls 11 [(0, .ref (stX D)), (1, .ref a1), (2, .ref v2), (4, .int v4), (5, .int v5), (6, .int v6), (8, .int v8), (10, .ref v10)] → W p l e (rnL_list b) s m args below meth c H locs u.1 u.2 (MQ below (va_Qr (fun (u : gS × mS × Nat) => post u.1 u.2.1 u.2.2) (fun u x t => x = u.2.2 ∧ (x ∈ gL u.1 ∧ gK u.1 x = 9) ∧ va_P D vwCl (pl cy u.1 u.2.1) t.heap ∧ va_D (pA G0 sz) (pl cy u.1 u.2.1) ∧ wt u.1 ∧ ext G0 u.1) (pA G0 sz)) args s b.1 b.2 (pA G0 sz)) (F0 m 696 ls []) := by
  intro u G M v2 v4 v5 v6 v8 v10 H locs ls hL1 hK1 v2L v2K v10L v10K hext hu h cx w hl
  unfold nb_L_list_696 at h
  obtain ⟨hx, hb, hml, hown, hts, hr, hlocks, hK, hA, hG, hsx⟩ := id cx
  have hR : (rnL_list b).cells = b.1 ∧ (rnL_list b).slots = b.2 := ⟨rfl, rfl⟩
  refine lv_aload hx hb dL_list_696 (lv_at hl 7 rfl) ?_
  refine lv_iconst (v := (3 : Int32)) hx hb dL_list_698 (by decide) ?_
  obtain ⟨z1, h⟩ := w_ix h
  refine r_iald cx w v10L v10K z1 dL_list_699 ?_
  refine lv_iconst (v := (1 : Int32)) hx hb dL_list_700 (by decide) ?_
  refine lv_icmp_ne (tgt := 719) hx hb dL_list_701 (by decide) (fun k2 => ?_) (fun k2 => ?_)
  · have h := w_f h k2
    exact bn_L_list_719 hnm (hkb538 := hkb538) u G M v2 v4 v5 v6 v8 v10 H locs ls hL1 hK1 v2L v2K v10L v10K hext hu h cx w (lv_sub hl [0, 1, 2, 3, 4, 5, 6, 7] rfl)
  · have h := w_t h k2
    refine lv_aload hx hb dL_list_704 (lv_at hl 7 rfl) ?_
    refine lv_iconst (v := (4 : Int32)) hx hb dL_list_706 (by decide) ?_
    refine lv_iconst (v := (2 : Int32)) hx hb dL_list_707 (by decide) ?_
    refine lv_iload hx hb dL_list_708 (lv_at hl 5 rfl) ?_
    refine lv_iconst (v := (2 : Int32)) hx hb dL_list_710 (by decide) ?_
    refine lv_ishr hx hb dL_list_711 ?_
    refine lv_bipush (v := (9 : Int32)) hx hb dL_list_712 (by decide) ?_
    refine rb_SI (b := b) (u := u) (rf := 0) (rl := 0) (As := [.int ((v6 >>> ((2 : Int32) &&& 31))), .int ((9 : Int32))]) (rest := [.int ((2 : Int32)), .int ((4 : Int32)), .ref v10]) cx w hR hl.1 h (fun h => kn_L_below hG h) (fun v => va_cwS 2 hts gL_list_L_below rfl rfl rfl (by decide +kernel) ⟨(Nat.le_of_ble_eq_true rfl), (Nat.le_of_ble_eq_true rfl)⟩) rfl rfl (Nat.le_of_ble_eq_true rfl) dL_list_714 (fun u5 G3 M4 r6 H locs h hu xe cx w => ?_)
    obtain ⟨hL1, hK1⟩ := ext_wt xe hL1 hK1
    obtain ⟨v2L, v2K⟩ := ext_wt xe v2L v2K
    obtain ⟨v10L, v10K⟩ := ext_wt xe v10L v10K
    have hext := ext_tr hext xe
    clear xe
    have hG := cX_wt cx
    refine lv_iadd hx hb dL_list_717 ?_
    obtain ⟨z7, h⟩ := w_ix h
    obtain ⟨M8, eM8, h⟩ := w_wI h
    refine r_iast cx w v10L v10K z7 dL_list_718 eM8 (fun H locs w => ?_)
    exact bn_L_list_719 hnm (hkb538 := hkb538) u5 G3 M8 v2 v4 v5 v6 v8 v10 H locs ls hL1 hK1 v2L v2K v10L v10K hext hu h cx w (lv_sub hl [0, 1, 2, 3, 4, 5, 6, 7] rfl)
set_option maxHeartbeats 4000000 in
set_option maxRecDepth 100000 in
theorem bn_L_list_653 {p : Program} {l : Launch} {e : Env} {s : State} {m : MethodId} {args : Array Value} {below : List Frame} {meth : Method} {c : Code} {D : va_G} {cy : cyS} {b : uS} {G0 : gS} {sz : Nat} (hnm : meth.name = yL_list.name)  {a1 : Nat} {post : gS → mS → Nat → Prop} {kb538 : uS → gS → mS → Nat → Int32 → Int32 → Prop} (hkb538 : ∀ (u : uS) (G : gS) (M : mS) (v2 : Nat) (v4 : Int32) (v5 : Int32) (H : Heap) (locs : List Loc) (ls : Array Slot), a1 ∈ gL G → gK G a1 = 11 → v2 ∈ gL G → gK G v2 = 9 → ext G0 G → uL u b → kb538 u G M v2 v4 v5 → cX p s m args meth c cL_list RL 11 (some (.object "FlagAntsLaw$Sim")) wsL_list D cy G (pA G0 sz) → wd D cy G M (pA G0 sz) s.heap H locs → lv_has ls 11 [(0, .ref (stX D)), (1, .ref a1), (2, .ref v2), (4, .int v4), (5, .int v5)] → W p l e (rnL_list b) s m args below meth c H locs u.1 u.2 (MQ below (va_Qr (fun (u : gS × mS × Nat) => post u.1 u.2.1 u.2.2) (fun u x t => x = u.2.2 ∧ (x ∈ gL u.1 ∧ gK u.1 x = 9) ∧ va_P D vwCl (pl cy u.1 u.2.1) t.heap ∧ va_D (pA G0 sz) (pl cy u.1 u.2.1) ∧ wt u.1 ∧ ext G0 u.1) (pA G0 sz)) args s b.1 b.2 (pA G0 sz)) (F0 m 538 ls [])) : ∀ (u : uS) (G : gS) (M : mS) (v2 : Nat) (v4 : Int32) (v5 : Int32) (v6 : Int32) (v8 : Int32) (s0 : Nat) (s1 : Nat) (s2 : Int32) (s3 : Int32) (H : Heap) (locs : List Loc) (ls : Array Slot), a1 ∈ gL G → gK G a1 = 11 → v2 ∈ gL G → gK G v2 = 9 → s0 ∈ gL G → gK G s0 = 12 → s1 ∈ gL G → gK G s1 = 12 → ext G0 G → uL u b → nb_L_list_653 D b a1 kb538 post u G M v2 v4 v5 v6 v8 s0 s1 s2 s3 → cX p s m args meth c cL_list RL 11 (some (.object "FlagAntsLaw$Sim")) wsL_list D cy G (pA G0 sz) → wd D cy G M (pA G0 sz) s.heap H locs → lv_has ls 11 [(0, .ref (stX D)), (1, .ref a1), (2, .ref v2), (4, .int v4), (5, .int v5), (6, .int v6), (8, .int v8)] → W p l e (rnL_list b) s m args below meth c H locs u.1 u.2 (MQ below (va_Qr (fun (u : gS × mS × Nat) => post u.1 u.2.1 u.2.2) (fun u x t => x = u.2.2 ∧ (x ∈ gL u.1 ∧ gK u.1 x = 9) ∧ va_P D vwCl (pl cy u.1 u.2.1) t.heap ∧ va_D (pA G0 sz) (pl cy u.1 u.2.1) ∧ wt u.1 ∧ ext G0 u.1) (pA G0 sz)) args s b.1 b.2 (pA G0 sz)) (F0 m 653 ls [.int s3, .int s2, .ref s1, .ref s0]) := by
  intro u G M v2 v4 v5 v6 v8 s0 s1 s2 s3 H locs ls hL1 hK1 v2L v2K s0L s0K s1L s1K hext hu h cx w hl
  unfold nb_L_list_653 at h
  obtain ⟨hx, hb, hml, hown, hts, hr, hlocks, hK, hA, hG, hsx⟩ := id cx
  have hR : (rnL_list b).cells = b.1 ∧ (rnL_list b).slots = b.2 := ⟨rfl, rfl⟩
  obtain ⟨z1, h⟩ := w_ix h
  obtain ⟨M2, eM2, h⟩ := w_wI h
  refine r_iast cx w s1L s1K z1 dL_list_653 eM2 (fun H locs w => ?_)
  refine lv_dup hx hb dL_list_654 rfl ?_
  refine lv_iconst (v := (3 : Int32)) hx hb dL_list_655 (by decide) ?_
  refine lv_iload hx hb dL_list_656 (lv_at hl 5 rfl) ?_
  refine lv_bipush (v := (7 : Int32)) hx hb dL_list_658 (by decide) ?_
  refine lv_ishr hx hb dL_list_660 ?_
  refine lv_iconst (v := (5 : Int32)) hx hb dL_list_661 (by decide) ?_
  refine rb_SI (b := b) (u := u) (rf := 0) (rl := 0) (As := [.int ((v6 >>> ((7 : Int32) &&& 31))), .int ((5 : Int32))]) (rest := [.int ((3 : Int32)), .ref s0, .ref s0]) cx w hR hl.1 h (fun h => kn_L_below hG h) (fun v => va_cwS 2 hts gL_list_L_below rfl rfl rfl (by decide +kernel) ⟨(Nat.le_of_ble_eq_true rfl), (Nat.le_of_ble_eq_true rfl)⟩) rfl rfl (Nat.le_of_ble_eq_true rfl) dL_list_662 (fun u5 G3 M4 r6 H locs h hu xe cx w => ?_)
  obtain ⟨hL1, hK1⟩ := ext_wt xe hL1 hK1
  obtain ⟨v2L, v2K⟩ := ext_wt xe v2L v2K
  obtain ⟨s0L, s0K⟩ := ext_wt xe s0L s0K
  have hext := ext_tr hext xe
  clear xe
  have hG := cX_wt cx
  obtain ⟨z7, h⟩ := w_ix h
  obtain ⟨M8, eM8, h⟩ := w_wI h
  refine r_iast cx w s0L s0K z7 dL_list_665 eM8 (fun H locs w => ?_)
  refine lv_dup hx hb dL_list_666 rfl ?_
  refine lv_iconst (v := (4 : Int32)) hx hb dL_list_667 (by decide) ?_
  refine lv_iconst (v := (0 : Int32)) hx hb dL_list_668 (by decide) ?_
  obtain ⟨z9, h⟩ := w_ix h
  obtain ⟨M10, eM10, h⟩ := w_wI h
  refine r_iast cx w s0L s0K z9 dL_list_669 eM10 (fun H locs w => ?_)
  refine lv_dup hx hb dL_list_670 rfl ?_
  refine lv_iconst (v := (5 : Int32)) hx hb dL_list_671 (by decide) ?_
  refine lv_iconst (v := (0 : Int32)) hx hb dL_list_672 (by decide) ?_
  obtain ⟨z11, h⟩ := w_ix h
  obtain ⟨M12, eM12, h⟩ := w_wI h
  refine r_iast cx w s0L s0K z11 dL_list_673 eM12 (fun H locs w => ?_)
  refine lv_astore (lv' := [(10, .ref s0), (0, .ref (stX D)), (1, .ref a1), (2, .ref v2), (4, .int v4), (5, .int v5), (6, .int v6), (8, .int v8)]) hx hb dL_list_674 hl (by decide) rfl (fun ls hl => ?_)
  refine lv_aload hx hb dL_list_676 (lv_at hl 0 rfl) ?_
  refine lv_iconst (v := (3 : Int32)) hx hb dL_list_678 (by decide) ?_
  obtain ⟨z13, h⟩ := w_ix h
  refine r_iald cx w s0L s0K z13 dL_list_679 ?_
  refine lv_if_ne (tgt := 696) hx hb dL_list_680 (by decide) (fun k14 => ?_) (fun k14 => ?_)
  · have h := w_f h k14
    exact bn_L_list_696 hnm (hkb538 := hkb538) u5 G3 M12 v2 v4 v5 v6 v8 s0 H locs ls hL1 hK1 v2L v2K s0L s0K hext hu h cx w (lv_sub hl [1, 2, 3, 4, 5, 6, 7, 0] rfl)
  · have h := w_t h k14
    refine lv_aload hx hb dL_list_683 (lv_at hl 0 rfl) ?_
    refine lv_iconst (v := (4 : Int32)) hx hb dL_list_685 (by decide) ?_
    refine lv_iload hx hb dL_list_686 (lv_at hl 6 rfl) ?_
    refine lv_iconst (v := (2 : Int32)) hx hb dL_list_688 (by decide) ?_
    refine lv_ishr hx hb dL_list_689 ?_
    refine lv_bipush (v := (30 : Int32)) hx hb dL_list_690 (by decide) ?_
    refine rb_SI (b := b) (u := u5) (rf := 0) (rl := 0) (As := [.int ((v6 >>> ((2 : Int32) &&& 31))), .int ((30 : Int32))]) (rest := [.int ((4 : Int32)), .ref s0]) cx w hR hl.1 h (fun h => kn_L_below hG h) (fun v => va_cwS 2 hts gL_list_L_below rfl rfl rfl (by decide +kernel) ⟨(Nat.le_of_ble_eq_true rfl), (Nat.le_of_ble_eq_true rfl)⟩) rfl rfl (Nat.le_of_ble_eq_true rfl) dL_list_692 (fun u17 G15 M16 r18 H locs h hu xe cx w => ?_)
    obtain ⟨hL1, hK1⟩ := ext_wt xe hL1 hK1
    obtain ⟨v2L, v2K⟩ := ext_wt xe v2L v2K
    obtain ⟨s0L, s0K⟩ := ext_wt xe s0L s0K
    have hext := ext_tr hext xe
    clear xe
    have hG := cX_wt cx
    obtain ⟨z19, h⟩ := w_ix h
    obtain ⟨M20, eM20, h⟩ := w_wI h
    refine r_iast cx w s0L s0K z19 dL_list_695 eM20 (fun H locs w => ?_)
    exact bn_L_list_696 hnm (hkb538 := hkb538) u17 G15 M20 v2 v4 v5 v6 v8 s0 H locs ls hL1 hK1 v2L v2K s0L s0K hext hu h cx w (lv_sub hl [1, 2, 3, 4, 5, 6, 7, 0] rfl)
set_option maxHeartbeats 4000000 in
set_option maxRecDepth 100000 in
theorem bn_L_list_616 {p : Program} {l : Launch} {e : Env} {s : State} {m : MethodId} {args : Array Value} {below : List Frame} {meth : Method} {c : Code} {D : va_G} {cy : cyS} {b : uS} {G0 : gS} {sz : Nat} (hnm : meth.name = yL_list.name)  {a1 : Nat} {post : gS → mS → Nat → Prop} {kb538 : uS → gS → mS → Nat → Int32 → Int32 → Prop} (hkb538 : ∀ (u : uS) (G : gS) (M : mS) (v2 : Nat) (v4 : Int32) (v5 : Int32) (H : Heap) (locs : List Loc) (ls : Array Slot), a1 ∈ gL G → gK G a1 = 11 → v2 ∈ gL G → gK G v2 = 9 → ext G0 G → uL u b → kb538 u G M v2 v4 v5 → cX p s m args meth c cL_list RL 11 (some (.object "FlagAntsLaw$Sim")) wsL_list D cy G (pA G0 sz) → wd D cy G M (pA G0 sz) s.heap H locs → lv_has ls 11 [(0, .ref (stX D)), (1, .ref a1), (2, .ref v2), (4, .int v4), (5, .int v5)] → W p l e (rnL_list b) s m args below meth c H locs u.1 u.2 (MQ below (va_Qr (fun (u : gS × mS × Nat) => post u.1 u.2.1 u.2.2) (fun u x t => x = u.2.2 ∧ (x ∈ gL u.1 ∧ gK u.1 x = 9) ∧ va_P D vwCl (pl cy u.1 u.2.1) t.heap ∧ va_D (pA G0 sz) (pl cy u.1 u.2.1) ∧ wt u.1 ∧ ext G0 u.1) (pA G0 sz)) args s b.1 b.2 (pA G0 sz)) (F0 m 538 ls [])) : ∀ (u : uS) (G : gS) (M : mS) (v2 : Nat) (v4 : Int32) (v5 : Int32) (v6 : Int32) (v8 : Int32) (v9 : Int32) (s0 : Nat) (s1 : Nat) (s2 : Int32) (s3 : Int32) (H : Heap) (locs : List Loc) (ls : Array Slot), a1 ∈ gL G → gK G a1 = 11 → v2 ∈ gL G → gK G v2 = 9 → s0 ∈ gL G → gK G s0 = 12 → s1 ∈ gL G → gK G s1 = 12 → ext G0 G → uL u b → nb_L_list_616 D b a1 kb538 post u G M v2 v4 v5 v6 v8 v9 s0 s1 s2 s3 → cX p s m args meth c cL_list RL 11 (some (.object "FlagAntsLaw$Sim")) wsL_list D cy G (pA G0 sz) → wd D cy G M (pA G0 sz) s.heap H locs → lv_has ls 11 [(0, .ref (stX D)), (1, .ref a1), (2, .ref v2), (4, .int v4), (5, .int v5), (6, .int v6), (8, .int v8), (9, .int v9)] → W p l e (rnL_list b) s m args below meth c H locs u.1 u.2 (MQ below (va_Qr (fun (u : gS × mS × Nat) => post u.1 u.2.1 u.2.2) (fun u x t => x = u.2.2 ∧ (x ∈ gL u.1 ∧ gK u.1 x = 9) ∧ va_P D vwCl (pl cy u.1 u.2.1) t.heap ∧ va_D (pA G0 sz) (pl cy u.1 u.2.1) ∧ wt u.1 ∧ ext G0 u.1) (pA G0 sz)) args s b.1 b.2 (pA G0 sz)) (F0 m 616 ls [.int s3, .int s2, .ref s1, .ref s0]) := by
  intro u G M v2 v4 v5 v6 v8 v9 s0 s1 s2 s3 H locs ls hL1 hK1 v2L v2K s0L s0K s1L s1K hext hu h cx w hl
  unfold nb_L_list_616 at h
  obtain ⟨hx, hb, hml, hown, hts, hr, hlocks, hK, hA, hG, hsx⟩ := id cx
  have hR : (rnL_list b).cells = b.1 ∧ (rnL_list b).slots = b.2 := ⟨rfl, rfl⟩
  obtain ⟨z1, h⟩ := w_ix h
  obtain ⟨M2, eM2, h⟩ := w_wI h
  refine r_iast cx w s1L s1K z1 dL_list_616 eM2 (fun H locs w => ?_)
  refine lv_dup hx hb dL_list_617 rfl ?_
  refine lv_iconst (v := (2 : Int32)) hx hb dL_list_618 (by decide) ?_
  refine lv_iload hx hb dL_list_619 (lv_at hl 6 rfl) ?_
  refine lv_if_ne (tgt := 645) hx hb dL_list_621 (by decide) (fun k3 => ?_) (fun k3 => ?_)
  · have h := w_f h k3
    refine lv_iload hx hb dL_list_645 (lv_at hl 5 rfl) ?_
    refine lv_iconst (v := (5 : Int32)) hx hb dL_list_647 (by decide) ?_
    refine lv_ishr hx hb dL_list_648 ?_
    refine lv_iconst (v := (4 : Int32)) hx hb dL_list_649 (by decide) ?_
    refine rb_SI (b := b) (u := u) (rf := 0) (rl := 0) (As := [.int ((v6 >>> ((5 : Int32) &&& 31))), .int ((4 : Int32))]) (rest := [.int ((2 : Int32)), .ref s0, .ref s0]) cx w hR hl.1 h (fun h => kn_L_below hG h) (fun v => va_cwS 2 hts gL_list_L_below rfl rfl rfl (by decide +kernel) ⟨(Nat.le_of_ble_eq_true rfl), (Nat.le_of_ble_eq_true rfl)⟩) rfl rfl (Nat.le_of_ble_eq_true rfl) dL_list_650 (fun u6 G4 M5 r7 H locs h hu xe cx w => ?_)
    obtain ⟨hL1, hK1⟩ := ext_wt xe hL1 hK1
    obtain ⟨v2L, v2K⟩ := ext_wt xe v2L v2K
    obtain ⟨s0L, s0K⟩ := ext_wt xe s0L s0K
    have hext := ext_tr hext xe
    clear xe
    have hG := cX_wt cx
    exact bn_L_list_653 hnm (hkb538 := hkb538) u6 G4 M5 v2 v4 v5 v6 v8 s0 s0 ((2 : Int32)) r7 H locs ls hL1 hK1 v2L v2K s0L s0K s0L s0K hext hu h cx w (lv_sub hl [0, 1, 2, 3, 4, 5, 6] rfl)
  · have h := w_t h k3
    refine lv_bipush (v := (63 : Int32)) hx hb dL_list_624 (by decide) ?_
    refine lv_iload hx hb dL_list_626 (lv_at hl 7 rfl) ?_
    refine lv_iload hx hb dL_list_628 (lv_at hl 5 rfl) ?_
    refine lv_bipush (v := (6 : Int32)) hx hb dL_list_630 (by decide) ?_
    refine lv_ishr hx hb dL_list_632 ?_
    refine lv_bipush (v := (30 : Int32)) hx hb dL_list_633 (by decide) ?_
    refine rb_SI (b := b) (u := u) (rf := 0) (rl := 0) (As := [.int ((v6 >>> ((6 : Int32) &&& 31))), .int ((30 : Int32))]) (rest := [.int v9, .int ((63 : Int32)), .int ((2 : Int32)), .ref s0, .ref s0]) cx w hR hl.1 h (fun h => kn_L_below hG h) (fun v => va_cwS 2 hts gL_list_L_below rfl rfl rfl (by decide +kernel) ⟨(Nat.le_of_ble_eq_true rfl), (Nat.le_of_ble_eq_true rfl)⟩) rfl rfl (Nat.le_of_ble_eq_true rfl) dL_list_635 (fun u10 G8 M9 r11 H locs h hu xe cx w => ?_)
    obtain ⟨hL1, hK1⟩ := ext_wt xe hL1 hK1
    obtain ⟨v2L, v2K⟩ := ext_wt xe v2L v2K
    obtain ⟨s0L, s0K⟩ := ext_wt xe s0L s0K
    have hext := ext_tr hext xe
    clear xe
    have hG := cX_wt cx
    refine lv_iadd hx hb dL_list_638 ?_
    refine va_mmin hx hb (hml.trans hl.1.symm) hown (hts _ (List.mem_of_getElem? (i := 11) rfl)) (hts _ (List.mem_of_getElem? (i := 12) rfl)) (hts _ (List.mem_of_getElem? (i := 13) rfl)) (hts _ (List.mem_of_getElem? (i := 14) rfl)) (Nat.le_of_ble_eq_true rfl) (Nat.le_of_ble_eq_true rfl) hu.1 hu.2 dL_list_639 ?_
    refine lv_goto (tgt := 653) hx hb dL_list_642 (by decide) ?_
    exact bn_L_list_653 hnm (hkb538 := hkb538) u10 G8 M9 v2 v4 v5 v6 v8 s0 s0 ((2 : Int32)) ((if (v9 + r11) < (63 : Int32) then (v9 + r11) else (63 : Int32))) H locs ls hL1 hK1 v2L v2K s0L s0K s0L s0K hext hu h cx w (lv_sub hl [0, 1, 2, 3, 4, 5, 6] rfl)
set_option maxHeartbeats 4000000 in
set_option maxRecDepth 100000 in
theorem bn_L_list_538 {p : Program} {l : Launch} {e : Env} {s : State} {m : MethodId} {args : Array Value} {below : List Frame} {meth : Method} {c : Code} {D : va_G} {cy : cyS} {b : uS} {G0 : gS} {sz : Nat} (hnm : meth.name = yL_list.name)  {a1 : Nat} {post : gS → mS → Nat → Prop} : ∀ (u : uS) (G : gS) (M : mS) (v2 : Nat) (v4 : Int32) (v5 : Int32) (H : Heap) (locs : List Loc) (ls : Array Slot), a1 ∈ gL G → gK G a1 = 11 → v2 ∈ gL G → gK G v2 = 9 → ext G0 G → uL u b → nl_L_list_538 D b a1 post u G M v2 v4 v5 → cX p s m args meth c cL_list RL 11 (some (.object "FlagAntsLaw$Sim")) wsL_list D cy G (pA G0 sz) → wd D cy G M (pA G0 sz) s.heap H locs → lv_has ls 11 [(0, .ref (stX D)), (1, .ref a1), (2, .ref v2), (4, .int v4), (5, .int v5)] → W p l e (rnL_list b) s m args below meth c H locs u.1 u.2 (MQ below (va_Qr (fun (u : gS × mS × Nat) => post u.1 u.2.1 u.2.2) (fun u x t => x = u.2.2 ∧ (x ∈ gL u.1 ∧ gK u.1 x = 9) ∧ va_P D vwCl (pl cy u.1 u.2.1) t.heap ∧ va_D (pA G0 sz) (pl cy u.1 u.2.1) ∧ wt u.1 ∧ ext G0 u.1) (pA G0 sz)) args s b.1 b.2 (pA G0 sz)) (F0 m 538 ls []) := by
  intro u G M v2 v4 v5 H locs ls hL1 hK1 v2L v2K hext hu h cx w hl
  obtain ⟨I, n, hI, hB⟩ := h
  have key : ∀ n : Nat, ∀ (u : uS) (G : gS) (M : mS) (v2 : Nat) (v4 : Int32) (v5 : Int32) (H : Heap) (locs : List Loc) (ls : Array Slot), a1 ∈ gL G → gK G a1 = 11 → v2 ∈ gL G → gK G v2 = 9 → ext G0 G → uL u b → I n u G M v2 v4 v5 → cX p s m args meth c cL_list RL 11 (some (.object "FlagAntsLaw$Sim")) wsL_list D cy G (pA G0 sz) → wd D cy G M (pA G0 sz) s.heap H locs → lv_has ls 11 [(0, .ref (stX D)), (1, .ref a1), (2, .ref v2), (4, .int v4), (5, .int v5)] → W p l e (rnL_list b) s m args below meth c H locs u.1 u.2 (MQ below (va_Qr (fun (u : gS × mS × Nat) => post u.1 u.2.1 u.2.2) (fun u x t => x = u.2.2 ∧ (x ∈ gL u.1 ∧ gK u.1 x = 9) ∧ va_P D vwCl (pl cy u.1 u.2.1) t.heap ∧ va_D (pA G0 sz) (pl cy u.1 u.2.1) ∧ wt u.1 ∧ ext G0 u.1) (pA G0 sz)) args s b.1 b.2 (pA G0 sz)) (F0 m 538 ls []) := by
    intro n
    induction n using Nat.strongRecOn with
    | ind n ih =>
      intro u G M v2 v4 v5 H locs ls hL1 hK1 v2L v2K hext hu hI cx w hl
      have h := hB n u G M v2 v4 v5 hI
      unfold nb_L_list_538 at h
      obtain ⟨hx, hb, hml, hown, hts, hr, hlocks, hK, hA, hG, hsx⟩ := id cx
      have hR : (rnL_list b).cells = b.1 ∧ (rnL_list b).slots = b.2 := ⟨rfl, rfl⟩
      refine lv_iload hx hb dL_list_538 (lv_at hl 4 rfl) ?_
      refine lv_if_le (tgt := 1018) hx hb dL_list_540 (by decide) (fun k1 => ?_) (fun k1 => ?_)
      · have h := w_t h k1
        refine lv_aload_n hx hb dL_list_1018 rfl (lv_at hl 2 rfl) ?_
        exact rb_aret (Or.inl ⟨_, rfl⟩) v2L v2K h cx w hext hu dL_list_1019
      · have h := w_f h k1
        refine lv_aload_n hx hb dL_list_543 rfl (lv_at hl 0 rfl) ?_
        refine lv_bipush (v := (13 : Int32)) hx hb dL_list_544 (by decide) ?_
        refine rb_SI (b := b) (u := u) (rf := 0) (rl := 0) (As := [.ref (stX D), .int ((13 : Int32))]) (rest := []) cx w hR hl.1 h (fun h => kn_L_cell hG h) (fun v => va_cwS 2 hts gL_list_L_cell rfl rfl rfl (by decide +kernel) ⟨(Nat.le_of_ble_eq_true rfl), (Nat.le_of_ble_eq_true rfl)⟩) rfl rfl (Nat.le_of_ble_eq_true rfl) dL_list_546 (fun u4 G2 M3 r5 H locs h hu xe cx w => ?_)
        obtain ⟨hL1, hK1⟩ := ext_wt xe hL1 hK1
        obtain ⟨v2L, v2K⟩ := ext_wt xe v2L v2K
        have hext := ext_tr hext xe
        clear xe
        have hG := cX_wt cx
        refine lv_iload hx hb dL_list_549 (lv_at hl 4 rfl) ?_
        refine lv_ishr hx hb dL_list_551 ?_
        refine lv_bipush (v := (61 : Int32)) hx hb dL_list_552 (by decide) ?_
        refine lv_iload hx hb dL_list_554 (lv_at hl 4 rfl) ?_
        refine lv_imul hx hb dL_list_556 ?_
        refine lv_iadd hx hb dL_list_557 ?_
        obtain ⟨x6, ex6, h⟩ := w_bd h
        refine r_topI ex6 ?_
        refine lv_istore (lv' := [(6, .int x6), (0, .ref (stX D)), (1, .ref a1), (2, .ref v2), (4, .int v4), (5, .int v5)]) hx hb dL_list_558 hl (by decide) rfl (fun ls hl => ?_)
        refine lv_iload hx hb dL_list_560 (lv_at hl 0 rfl) ?_
        refine lv_iconst (v := (3 : Int32)) hx hb dL_list_562 (by decide) ?_
        refine lv_ishr hx hb dL_list_563 ?_
        refine lv_iload hx hb dL_list_564 (lv_at hl 4 rfl) ?_
        refine rb_SI (b := b) (u := u4) (rf := 0) (rl := 0) (As := [.int ((x6 >>> ((3 : Int32) &&& 31))), .int v4]) (rest := []) cx w hR hl.1 h (fun h => kn_L_below hG h) (fun v => va_cwS 2 hts gL_list_L_below rfl rfl rfl (by decide +kernel) ⟨(Nat.le_of_ble_eq_true rfl), (Nat.le_of_ble_eq_true rfl)⟩) rfl rfl (Nat.le_of_ble_eq_true rfl) dL_list_566 (fun u9 G7 M8 r10 H locs h hu xe cx w => ?_)
        obtain ⟨hL1, hK1⟩ := ext_wt xe hL1 hK1
        obtain ⟨v2L, v2K⟩ := ext_wt xe v2L v2K
        have hext := ext_tr hext xe
        clear xe
        have hG := cX_wt cx
        refine lv_istore (lv' := [(7, .int r10), (6, .int x6), (0, .ref (stX D)), (1, .ref a1), (2, .ref v2), (4, .int v4), (5, .int v5)]) hx hb dL_list_569 hl (by decide) rfl (fun ls hl => ?_)
        refine lv_iload hx hb dL_list_571 (lv_at hl 1 rfl) ?_
        refine lv_iconst (v := (4 : Int32)) hx hb dL_list_573 (by decide) ?_
        refine rb_SI (b := b) (u := u9) (rf := 0) (rl := 0) (As := [.int x6, .int ((4 : Int32))]) (rest := []) cx w hR hl.1 h (fun h => kn_L_below hG h) (fun v => va_cwS 2 hts gL_list_L_below rfl rfl rfl (by decide +kernel) ⟨(Nat.le_of_ble_eq_true rfl), (Nat.le_of_ble_eq_true rfl)⟩) rfl rfl (Nat.le_of_ble_eq_true rfl) dL_list_574 (fun u13 G11 M12 r14 H locs h hu xe cx w => ?_)
        obtain ⟨hL1, hK1⟩ := ext_wt xe hL1 hK1
        obtain ⟨v2L, v2K⟩ := ext_wt xe v2L v2K
        have hext := ext_tr hext xe
        clear xe
        have hG := cX_wt cx
        refine lv_istore (lv' := [(8, .int r14), (7, .int r10), (6, .int x6), (0, .ref (stX D)), (1, .ref a1), (2, .ref v2), (4, .int v4), (5, .int v5)]) hx hb dL_list_577 hl (by decide) rfl (fun ls hl => ?_)
        refine lv_bipush (v := (24 : Int32)) hx hb dL_list_579 (by decide) ?_
        refine lv_iload hx hb dL_list_581 (lv_at hl 2 rfl) ?_
        refine lv_iconst (v := (4 : Int32)) hx hb dL_list_583 (by decide) ?_
        refine lv_ishr hx hb dL_list_584 ?_
        refine lv_bipush (v := (16 : Int32)) hx hb dL_list_585 (by decide) ?_
        refine rb_SI (b := b) (u := u13) (rf := 0) (rl := 0) (As := [.int ((x6 >>> ((4 : Int32) &&& 31))), .int ((16 : Int32))]) (rest := [.int ((24 : Int32))]) cx w hR hl.1 h (fun h => kn_L_below hG h) (fun v => va_cwS 2 hts gL_list_L_below rfl rfl rfl (by decide +kernel) ⟨(Nat.le_of_ble_eq_true rfl), (Nat.le_of_ble_eq_true rfl)⟩) rfl rfl (Nat.le_of_ble_eq_true rfl) dL_list_587 (fun u17 G15 M16 r18 H locs h hu xe cx w => ?_)
        obtain ⟨hL1, hK1⟩ := ext_wt xe hL1 hK1
        obtain ⟨v2L, v2K⟩ := ext_wt xe v2L v2K
        have hext := ext_tr hext xe
        clear xe
        have hG := cX_wt cx
        refine lv_iadd hx hb dL_list_590 ?_
        obtain ⟨x19, ex19, h⟩ := w_bd h
        refine r_topI ex19 ?_
        refine lv_istore (lv' := [(9, .int x19), (8, .int r14), (7, .int r10), (6, .int x6), (0, .ref (stX D)), (1, .ref a1), (2, .ref v2), (4, .int v4), (5, .int v5)]) hx hb dL_list_591 hl (by decide) rfl (fun ls hl => ?_)
        refine lv_bipush (v := (6 : Int32)) hx hb dL_list_593 (by decide) ?_
        refine rb_newI (b := b) (u := u17) cx w hR (List.mem_of_getElem? (i := 4) rfl) h dL_list_595 (fun q20 u23 G21 M22 H h hu xe hLq20 hKq20 cx w => ?_)
        obtain ⟨hL1, hK1⟩ := ext_wt xe hL1 hK1
        obtain ⟨v2L, v2K⟩ := ext_wt xe v2L v2K
        have hext := ext_tr hext xe
        clear xe
        have hG := cX_wt cx
        refine lv_dup hx hb dL_list_597 rfl ?_
        refine lv_iconst (v := (0 : Int32)) hx hb dL_list_598 (by decide) ?_
        refine lv_iload hx hb dL_list_599 (lv_at hl 1 rfl) ?_
        obtain ⟨z24, h⟩ := w_ix h
        obtain ⟨M25, eM25, h⟩ := w_wI h
        refine r_iast cx w hLq20 hKq20 z24 dL_list_601 eM25 (fun H locs w => ?_)
        refine lv_dup hx hb dL_list_602 rfl ?_
        refine lv_iconst (v := (1 : Int32)) hx hb dL_list_603 (by decide) ?_
        refine lv_iload hx hb dL_list_604 (lv_at hl 1 rfl) ?_
        refine lv_if_ne (tgt := 614) hx hb dL_list_606 (by decide) (fun k26 => ?_) (fun k26 => ?_)
        · have h := w_f h k26
          refine lv_iload hx hb dL_list_614 (lv_at hl 2 rfl) ?_
          exact bn_L_list_616 hnm (hkb538 := fun u G M v2 v4 v5 H locs ls hL1 hK1 v2L v2K hext hu h cx w hl => by obtain ⟨k, hk, hI⟩ := h; exact ih k hk u G M v2 v4 v5 H locs ls hL1 hK1 v2L v2K hext hu hI cx w hl) u23 G21 M25 v2 v4 v5 x6 r14 x19 q20 q20 ((1 : Int32)) r10 H locs ls hL1 hK1 v2L v2K hLq20 hKq20 hLq20 hKq20 hext hu h cx w (lv_sub hl [4, 5, 6, 7, 8, 3, 1, 0] rfl)
        · have h := w_t h k26
          refine lv_iload hx hb dL_list_609 (lv_at hl 0 rfl) ?_
          refine lv_goto (tgt := 616) hx hb dL_list_611 (by decide) ?_
          exact bn_L_list_616 hnm (hkb538 := fun u G M v2 v4 v5 H locs ls hL1 hK1 v2L v2K hext hu h cx w hl => by obtain ⟨k, hk, hI⟩ := h; exact ih k hk u G M v2 v4 v5 H locs ls hL1 hK1 v2L v2K hext hu hI cx w hl) u23 G21 M25 v2 v4 v5 x6 r14 x19 q20 q20 ((1 : Int32)) x19 H locs ls hL1 hK1 v2L v2K hLq20 hKq20 hLq20 hKq20 hext hu h cx w (lv_sub hl [4, 5, 6, 7, 8, 3, 1, 0] rfl)
  exact key n u G M v2 v4 v5 H locs ls hL1 hK1 v2L v2K hext hu hI cx w hl
set_option maxHeartbeats 4000000 in
set_option maxRecDepth 100000 in
theorem bn_L_list_401 {p : Program} {l : Launch} {e : Env} {s : State} {m : MethodId} {args : Array Value} {below : List Frame} {meth : Method} {c : Code} {D : va_G} {cy : cyS} {b : uS} {G0 : gS} {sz : Nat} (hnm : meth.name = yL_list.name)  {a1 : Nat} {post : gS → mS → Nat → Prop} : ∀ (u : uS) (G : gS) (M : mS) (v2 : Nat) (v4 : Int32) (v5 : Int32) (H : Heap) (locs : List Loc) (ls : Array Slot), a1 ∈ gL G → gK G a1 = 11 → v2 ∈ gL G → gK G v2 = 9 → ext G0 G → uL u b → nl_L_list_401 D b a1 post u G M v2 v4 v5 → cX p s m args meth c cL_list RL 11 (some (.object "FlagAntsLaw$Sim")) wsL_list D cy G (pA G0 sz) → wd D cy G M (pA G0 sz) s.heap H locs → lv_has ls 11 [(0, .ref (stX D)), (1, .ref a1), (2, .ref v2), (4, .int v4), (5, .int v5)] → W p l e (rnL_list b) s m args below meth c H locs u.1 u.2 (MQ below (va_Qr (fun (u : gS × mS × Nat) => post u.1 u.2.1 u.2.2) (fun u x t => x = u.2.2 ∧ (x ∈ gL u.1 ∧ gK u.1 x = 9) ∧ va_P D vwCl (pl cy u.1 u.2.1) t.heap ∧ va_D (pA G0 sz) (pl cy u.1 u.2.1) ∧ wt u.1 ∧ ext G0 u.1) (pA G0 sz)) args s b.1 b.2 (pA G0 sz)) (F0 m 401 ls []) := by
  intro u G M v2 v4 v5 H locs ls hL1 hK1 v2L v2K hext hu h cx w hl
  obtain ⟨I, n, hI, hB⟩ := h
  have key : ∀ n : Nat, ∀ (u : uS) (G : gS) (M : mS) (v2 : Nat) (v4 : Int32) (v5 : Int32) (H : Heap) (locs : List Loc) (ls : Array Slot), a1 ∈ gL G → gK G a1 = 11 → v2 ∈ gL G → gK G v2 = 9 → ext G0 G → uL u b → I n u G M v2 v4 v5 → cX p s m args meth c cL_list RL 11 (some (.object "FlagAntsLaw$Sim")) wsL_list D cy G (pA G0 sz) → wd D cy G M (pA G0 sz) s.heap H locs → lv_has ls 11 [(0, .ref (stX D)), (1, .ref a1), (2, .ref v2), (4, .int v4), (5, .int v5)] → W p l e (rnL_list b) s m args below meth c H locs u.1 u.2 (MQ below (va_Qr (fun (u : gS × mS × Nat) => post u.1 u.2.1 u.2.2) (fun u x t => x = u.2.2 ∧ (x ∈ gL u.1 ∧ gK u.1 x = 9) ∧ va_P D vwCl (pl cy u.1 u.2.1) t.heap ∧ va_D (pA G0 sz) (pl cy u.1 u.2.1) ∧ wt u.1 ∧ ext G0 u.1) (pA G0 sz)) args s b.1 b.2 (pA G0 sz)) (F0 m 401 ls []) := by
    intro n
    induction n using Nat.strongRecOn with
    | ind n ih =>
      intro u G M v2 v4 v5 H locs ls hL1 hK1 v2L v2K hext hu hI cx w hl
      have h := hB n u G M v2 v4 v5 hI
      unfold nb_L_list_401 at h
      obtain ⟨hx, hb, hml, hown, hts, hr, hlocks, hK, hA, hG, hsx⟩ := id cx
      have hR : (rnL_list b).cells = b.1 ∧ (rnL_list b).slots = b.2 := ⟨rfl, rfl⟩
      refine lv_iload hx hb dL_list_401 (lv_at hl 4 rfl) ?_
      refine lv_if_le (tgt := 525) hx hb dL_list_403 (by decide) (fun k1 => ?_) (fun k1 => ?_)
      · have h := w_t h k1
        refine lv_aload_n hx hb dL_list_525 rfl (lv_at hl 0 rfl) ?_
        refine lv_bipush (v := (12 : Int32)) hx hb dL_list_526 (by decide) ?_
        refine rb_SI (b := b) (u := u) (rf := 0) (rl := 0) (As := [.ref (stX D), .int ((12 : Int32))]) (rest := []) cx w hR hl.1 h (fun h => kn_L_cell hG h) (fun v => va_cwS 2 hts gL_list_L_cell rfl rfl rfl (by decide +kernel) ⟨(Nat.le_of_ble_eq_true rfl), (Nat.le_of_ble_eq_true rfl)⟩) rfl rfl (Nat.le_of_ble_eq_true rfl) dL_list_528 (fun u4 G2 M3 r5 H locs h hu xe cx w => ?_)
        obtain ⟨hL1, hK1⟩ := ext_wt xe hL1 hK1
        obtain ⟨v2L, v2K⟩ := ext_wt xe v2L v2K
        have hext := ext_tr hext xe
        clear xe
        have hG := cX_wt cx
        refine lv_bipush (v := (6 : Int32)) hx hb dL_list_531 (by decide) ?_
        refine rb_SI (b := b) (u := u4) (rf := 0) (rl := 0) (As := [.int r5, .int ((6 : Int32))]) (rest := []) cx w hR hl.1 h (fun h => kn_L_below hG h) (fun v => va_cwS 2 hts gL_list_L_below rfl rfl rfl (by decide +kernel) ⟨(Nat.le_of_ble_eq_true rfl), (Nat.le_of_ble_eq_true rfl)⟩) rfl rfl (Nat.le_of_ble_eq_true rfl) dL_list_533 (fun u8 G6 M7 r9 H locs h hu xe cx w => ?_)
        obtain ⟨hL1, hK1⟩ := ext_wt xe hL1 hK1
        obtain ⟨v2L, v2K⟩ := ext_wt xe v2L v2K
        have hext := ext_tr hext xe
        clear xe
        have hG := cX_wt cx
        refine lv_istore (lv' := [(5, .int r9), (0, .ref (stX D)), (1, .ref a1), (2, .ref v2), (4, .int v4)]) hx hb dL_list_536 hl (by decide) rfl (fun ls hl => ?_)
        exact bn_L_list_538 hnm u8 G6 M7 v2 v4 r9 H locs ls hL1 hK1 v2L v2K hext hu h cx w (lv_sub hl [1, 2, 3, 4, 0] rfl)
      · have h := w_f h k1
        refine lv_aload_n hx hb dL_list_406 rfl (lv_at hl 0 rfl) ?_
        refine lv_bipush (v := (11 : Int32)) hx hb dL_list_407 (by decide) ?_
        refine rb_SI (b := b) (u := u) (rf := 0) (rl := 0) (As := [.ref (stX D), .int ((11 : Int32))]) (rest := []) cx w hR hl.1 h (fun h => kn_L_cell hG h) (fun v => va_cwS 2 hts gL_list_L_cell rfl rfl rfl (by decide +kernel) ⟨(Nat.le_of_ble_eq_true rfl), (Nat.le_of_ble_eq_true rfl)⟩) rfl rfl (Nat.le_of_ble_eq_true rfl) dL_list_409 (fun u12 G10 M11 r13 H locs h hu xe cx w => ?_)
        obtain ⟨hL1, hK1⟩ := ext_wt xe hL1 hK1
        obtain ⟨v2L, v2K⟩ := ext_wt xe v2L v2K
        have hext := ext_tr hext xe
        clear xe
        have hG := cX_wt cx
        refine lv_bipush (v := (97 : Int32)) hx hb dL_list_412 (by decide) ?_
        refine lv_iload hx hb dL_list_414 (lv_at hl 4 rfl) ?_
        refine lv_imul hx hb dL_list_416 ?_
        refine lv_iadd hx hb dL_list_417 ?_
        obtain ⟨x14, ex14, h⟩ := w_bd h
        refine r_topI ex14 ?_
        refine lv_istore (lv' := [(6, .int x14), (0, .ref (stX D)), (1, .ref a1), (2, .ref v2), (4, .int v4), (5, .int v5)]) hx hb dL_list_418 hl (by decide) rfl (fun ls hl => ?_)
        refine lv_bipush (v := (28 : Int32)) hx hb dL_list_420 (by decide) ?_
        refine lv_iload hx hb dL_list_422 (lv_at hl 0 rfl) ?_
        refine lv_iconst (v := (2 : Int32)) hx hb dL_list_424 (by decide) ?_
        refine lv_ishr hx hb dL_list_425 ?_
        refine lv_bipush (v := (12 : Int32)) hx hb dL_list_426 (by decide) ?_
        refine rb_SI (b := b) (u := u12) (rf := 0) (rl := 0) (As := [.int ((x14 >>> ((2 : Int32) &&& 31))), .int ((12 : Int32))]) (rest := [.int ((28 : Int32))]) cx w hR hl.1 h (fun h => kn_L_below hG h) (fun v => va_cwS 2 hts gL_list_L_below rfl rfl rfl (by decide +kernel) ⟨(Nat.le_of_ble_eq_true rfl), (Nat.le_of_ble_eq_true rfl)⟩) rfl rfl (Nat.le_of_ble_eq_true rfl) dL_list_428 (fun u17 G15 M16 r18 H locs h hu xe cx w => ?_)
        obtain ⟨hL1, hK1⟩ := ext_wt xe hL1 hK1
        obtain ⟨v2L, v2K⟩ := ext_wt xe v2L v2K
        have hext := ext_tr hext xe
        clear xe
        have hG := cX_wt cx
        refine lv_iadd hx hb dL_list_431 ?_
        refine lv_bipush (v := (64 : Int32)) hx hb dL_list_432 (by decide) ?_
        obtain ⟨z19, h⟩ := w_ck h
        refine lv_irem hx hb dL_list_434 z19 ?_
        obtain ⟨x20, ex20, h⟩ := w_bd h
        refine r_topI ex20 ?_
        refine lv_istore (lv' := [(7, .int x20), (6, .int x14), (0, .ref (stX D)), (1, .ref a1), (2, .ref v2), (4, .int v4), (5, .int v5)]) hx hb dL_list_435 hl (by decide) rfl (fun ls hl => ?_)
        refine lv_bipush (v := (28 : Int32)) hx hb dL_list_437 (by decide) ?_
        refine lv_iload hx hb dL_list_439 (lv_at hl 1 rfl) ?_
        refine lv_iconst (v := (5 : Int32)) hx hb dL_list_441 (by decide) ?_
        refine lv_ishr hx hb dL_list_442 ?_
        refine lv_bipush (v := (12 : Int32)) hx hb dL_list_443 (by decide) ?_
        refine rb_SI (b := b) (u := u17) (rf := 0) (rl := 0) (As := [.int ((x14 >>> ((5 : Int32) &&& 31))), .int ((12 : Int32))]) (rest := [.int ((28 : Int32))]) cx w hR hl.1 h (fun h => kn_L_below hG h) (fun v => va_cwS 2 hts gL_list_L_below rfl rfl rfl (by decide +kernel) ⟨(Nat.le_of_ble_eq_true rfl), (Nat.le_of_ble_eq_true rfl)⟩) rfl rfl (Nat.le_of_ble_eq_true rfl) dL_list_445 (fun u23 G21 M22 r24 H locs h hu xe cx w => ?_)
        obtain ⟨hL1, hK1⟩ := ext_wt xe hL1 hK1
        obtain ⟨v2L, v2K⟩ := ext_wt xe v2L v2K
        have hext := ext_tr hext xe
        clear xe
        have hG := cX_wt cx
        refine lv_iadd hx hb dL_list_448 ?_
        refine lv_bipush (v := (64 : Int32)) hx hb dL_list_449 (by decide) ?_
        obtain ⟨z25, h⟩ := w_ck h
        refine lv_irem hx hb dL_list_451 z25 ?_
        obtain ⟨x26, ex26, h⟩ := w_bd h
        refine r_topI ex26 ?_
        refine lv_istore (lv' := [(8, .int x26), (7, .int x20), (6, .int x14), (0, .ref (stX D)), (1, .ref a1), (2, .ref v2), (4, .int v4), (5, .int v5)]) hx hb dL_list_452 hl (by decide) rfl (fun ls hl => ?_)
        refine lv_aload_n hx hb dL_list_454 rfl (lv_at hl 5 rfl) ?_
        obtain ⟨q27, eq27, h⟩ := w_rf h
        obtain ⟨hLq27, hKq27⟩ := wt_q hG v2L v2K eq27
        have hKq27 : gK G21 q27 = 15 := hKq27
        refine r_getR (k := 5) cx w v2L v2K (by decide) rfl wb_L_list_X10 (by decide) rfl eq27 (List.mem_of_getElem? (i := 10) rfl) dL_list_455 ?_
        refine lv_iload hx hb dL_list_458 (lv_at hl 0 rfl) ?_
        obtain ⟨z28, h⟩ := w_ix h
        obtain ⟨q29, eq29, h⟩ := w_rf h
        obtain ⟨hLq29, hKq29⟩ := wt_q hG hLq27 hKq27 eq29
        have hKq29 : gK G21 q29 = 12 := hKq29
        refine r_aaldA cx w hLq27 hKq27 z28 eq29 dL_list_460 ?_
        refine lv_iload hx hb dL_list_461 (lv_at hl 1 rfl) ?_
        refine lv_iload hx hb dL_list_463 (lv_at hl 2 rfl) ?_
        refine lv_bipush (v := (7 : Int32)) hx hb dL_list_465 (by decide) ?_
        refine lv_ishr hx hb dL_list_467 ?_
        refine lv_bipush (v := (6 : Int32)) hx hb dL_list_468 (by decide) ?_
        refine rb_SI (b := b) (u := u23) (rf := 0) (rl := 0) (As := [.int ((x14 >>> ((7 : Int32) &&& 31))), .int ((6 : Int32))]) (rest := [.int x20, .ref q29]) cx w hR hl.1 h (fun h => kn_L_below hG h) (fun v => va_cwS 2 hts gL_list_L_below rfl rfl rfl (by decide +kernel) ⟨(Nat.le_of_ble_eq_true rfl), (Nat.le_of_ble_eq_true rfl)⟩) rfl rfl (Nat.le_of_ble_eq_true rfl) dL_list_470 (fun u32 G30 M31 r33 H locs h hu xe cx w => ?_)
        obtain ⟨hL1, hK1⟩ := ext_wt xe hL1 hK1
        obtain ⟨v2L, v2K⟩ := ext_wt xe v2L v2K
        obtain ⟨hLq29, hKq29⟩ := ext_wt xe hLq29 hKq29
        have hext := ext_tr hext xe
        clear xe
        have hG := cX_wt cx
        obtain ⟨z34, h⟩ := w_ix h
        obtain ⟨M35, eM35, h⟩ := w_wI h
        refine r_iast cx w hLq29 hKq29 z34 dL_list_473 eM35 (fun H locs w => ?_)
        refine lv_aload_n hx hb dL_list_474 rfl (lv_at hl 4 rfl) ?_
        refine r_ldcS (i := 28) cx w (by decide) rfl rfl dL_list_475 ?_
        refine rb_VR (kr := 11) (b := b) (u := u32) (rf := 5) (rl := 152) (As := [.ref (stK D 28)]) (rest := []) cx w hR hl.1 h (fun h => kn_J4_append_15ec4 hG hL1 hK1 (by decide : 28 < 36) h) (fun v => cwV 1 hts gL_list_J4_append_15ec4 rfl rfl rfl (by decide +kernel) ⟨(Nat.le_of_ble_eq_true rfl), (Nat.le_of_ble_eq_true rfl)⟩) hL1 hK1 (by decide) rfl rfl rfl (Nat.le_of_ble_eq_true rfl) dL_list_477 (fun u38 G36 M37 r39 H locs h hu xe hLr39 hKr39 cx w => ?_)
        obtain ⟨hL1, hK1⟩ := ext_wt xe hL1 hK1
        obtain ⟨v2L, v2K⟩ := ext_wt xe v2L v2K
        have hext := ext_tr hext xe
        clear xe
        have hG := cX_wt cx
        refine lv_iload hx hb dL_list_480 (lv_at hl 1 rfl) ?_
        refine rb_VR (kr := 11) (b := b) (u := u38) (rf := 5) (rl := 153) (As := [.int x20]) (rest := []) cx w hR hl.1 h (fun h => kn_J4_append_bf812 hG hLr39 hKr39 h) (fun v => cwV 1 hts gL_list_J4_append_bf812 rfl rfl rfl (by decide +kernel) ⟨(Nat.le_of_ble_eq_true rfl), (Nat.le_of_ble_eq_true rfl)⟩) hLr39 hKr39 (by decide) rfl rfl rfl (Nat.le_of_ble_eq_true rfl) dL_list_482 (fun u42 G40 M41 r43 H locs h hu xe hLr43 hKr43 cx w => ?_)
        obtain ⟨hL1, hK1⟩ := ext_wt xe hL1 hK1
        obtain ⟨v2L, v2K⟩ := ext_wt xe v2L v2K
        have hext := ext_tr hext xe
        clear xe
        have hG := cX_wt cx
        refine r_ldcS (i := 21) cx w (by decide) rfl rfl dL_list_485 ?_
        refine rb_VR (kr := 11) (b := b) (u := u42) (rf := 5) (rl := 152) (As := [.ref (stK D 21)]) (rest := []) cx w hR hl.1 h (fun h => kn_J4_append_15ec4 hG hLr43 hKr43 (by decide : 21 < 36) h) (fun v => cwV 1 hts gL_list_J4_append_15ec4 rfl rfl rfl (by decide +kernel) ⟨(Nat.le_of_ble_eq_true rfl), (Nat.le_of_ble_eq_true rfl)⟩) hLr43 hKr43 (by decide) rfl rfl rfl (Nat.le_of_ble_eq_true rfl) dL_list_487 (fun u46 G44 M45 r47 H locs h hu xe hLr47 hKr47 cx w => ?_)
        obtain ⟨hL1, hK1⟩ := ext_wt xe hL1 hK1
        obtain ⟨v2L, v2K⟩ := ext_wt xe v2L v2K
        have hext := ext_tr hext xe
        clear xe
        have hG := cX_wt cx
        refine lv_iload hx hb dL_list_490 (lv_at hl 0 rfl) ?_
        refine rb_VR (kr := 11) (b := b) (u := u46) (rf := 5) (rl := 153) (As := [.int x26]) (rest := []) cx w hR hl.1 h (fun h => kn_J4_append_bf812 hG hLr47 hKr47 h) (fun v => cwV 1 hts gL_list_J4_append_bf812 rfl rfl rfl (by decide +kernel) ⟨(Nat.le_of_ble_eq_true rfl), (Nat.le_of_ble_eq_true rfl)⟩) hLr47 hKr47 (by decide) rfl rfl rfl (Nat.le_of_ble_eq_true rfl) dL_list_492 (fun u50 G48 M49 r51 H locs h hu xe hLr51 hKr51 cx w => ?_)
        obtain ⟨hL1, hK1⟩ := ext_wt xe hL1 hK1
        obtain ⟨v2L, v2K⟩ := ext_wt xe v2L v2K
        have hext := ext_tr hext xe
        clear xe
        have hG := cX_wt cx
        refine r_ldcS (i := 21) cx w (by decide) rfl rfl dL_list_495 ?_
        refine rb_VR (kr := 11) (b := b) (u := u50) (rf := 5) (rl := 152) (As := [.ref (stK D 21)]) (rest := []) cx w hR hl.1 h (fun h => kn_J4_append_15ec4 hG hLr51 hKr51 (by decide : 21 < 36) h) (fun v => cwV 1 hts gL_list_J4_append_15ec4 rfl rfl rfl (by decide +kernel) ⟨(Nat.le_of_ble_eq_true rfl), (Nat.le_of_ble_eq_true rfl)⟩) hLr51 hKr51 (by decide) rfl rfl rfl (Nat.le_of_ble_eq_true rfl) dL_list_497 (fun u54 G52 M53 r55 H locs h hu xe hLr55 hKr55 cx w => ?_)
        obtain ⟨hL1, hK1⟩ := ext_wt xe hL1 hK1
        obtain ⟨v2L, v2K⟩ := ext_wt xe v2L v2K
        have hext := ext_tr hext xe
        clear xe
        have hG := cX_wt cx
        refine lv_aload_n hx hb dL_list_500 rfl (lv_at hl 5 rfl) ?_
        obtain ⟨q56, eq56, h⟩ := w_rf h
        obtain ⟨hLq56, hKq56⟩ := wt_q hG v2L v2K eq56
        have hKq56 : gK G52 q56 = 15 := hKq56
        refine r_getR (k := 5) cx w v2L v2K (by decide) rfl wb_L_list_X10 (by decide) rfl eq56 (List.mem_of_getElem? (i := 10) rfl) dL_list_501 ?_
        refine lv_iload hx hb dL_list_504 (lv_at hl 0 rfl) ?_
        obtain ⟨z57, h⟩ := w_ix h
        obtain ⟨q58, eq58, h⟩ := w_rf h
        obtain ⟨hLq58, hKq58⟩ := wt_q hG hLq56 hKq56 eq58
        have hKq58 : gK G52 q58 = 12 := hKq58
        refine r_aaldA cx w hLq56 hKq56 z57 eq58 dL_list_506 ?_
        refine lv_iload hx hb dL_list_507 (lv_at hl 1 rfl) ?_
        obtain ⟨z59, h⟩ := w_ix h
        refine r_iald cx w hLq58 hKq58 z59 dL_list_509 ?_
        refine rb_VR (kr := 11) (b := b) (u := u54) (rf := 5) (rl := 153) (As := [.int ((mI M53 q58 (Int32.toNatClampNeg x20)))]) (rest := []) cx w hR hl.1 h (fun h => kn_J4_append_bf812 hG hLr55 hKr55 h) (fun v => cwV 1 hts gL_list_J4_append_bf812 rfl rfl rfl (by decide +kernel) ⟨(Nat.le_of_ble_eq_true rfl), (Nat.le_of_ble_eq_true rfl)⟩) hLr55 hKr55 (by decide) rfl rfl rfl (Nat.le_of_ble_eq_true rfl) dL_list_510 (fun u62 G60 M61 r63 H locs h hu xe hLr63 hKr63 cx w => ?_)
        obtain ⟨hL1, hK1⟩ := ext_wt xe hL1 hK1
        obtain ⟨v2L, v2K⟩ := ext_wt xe v2L v2K
        have hext := ext_tr hext xe
        clear xe
        have hG := cX_wt cx
        refine r_ldcS (i := 22) cx w (by decide) rfl rfl dL_list_513 ?_
        refine rb_VR (kr := 11) (b := b) (u := u62) (rf := 5) (rl := 152) (As := [.ref (stK D 22)]) (rest := []) cx w hR hl.1 h (fun h => kn_J4_append_15ec4 hG hLr63 hKr63 (by decide : 22 < 36) h) (fun v => cwV 1 hts gL_list_J4_append_15ec4 rfl rfl rfl (by decide +kernel) ⟨(Nat.le_of_ble_eq_true rfl), (Nat.le_of_ble_eq_true rfl)⟩) hLr63 hKr63 (by decide) rfl rfl rfl (Nat.le_of_ble_eq_true rfl) dL_list_515 (fun u66 G64 M65 r67 H locs h hu xe hLr67 hKr67 cx w => ?_)
        obtain ⟨hL1, hK1⟩ := ext_wt xe hL1 hK1
        obtain ⟨v2L, v2K⟩ := ext_wt xe v2L v2K
        have hext := ext_tr hext xe
        clear xe
        have hG := cX_wt cx
        refine lv_pop hx hb dL_list_518 rfl ?_
        obtain ⟨x68, ex68, h⟩ := w_bd h
        refine lv_iinc (v := x68) (lv' := [(5, .int x68), (8, .int x26), (7, .int x20), (6, .int x14), (0, .ref (stX D)), (1, .ref a1), (2, .ref v2), (4, .int v4)]) hx hb dL_list_519 hl (k := 7) rfl (by rw [ex68]; rfl) (by decide) rfl (fun ls hl => ?_)
        refine lv_goto (tgt := 401) hx hb dL_list_522 (by decide) ?_
        obtain ⟨k, hk, hI⟩ := h
        exact ih k hk u66 G64 M65 v2 v4 x68 H locs ls hL1 hK1 v2L v2K hext hu hI cx w (lv_sub hl [4, 5, 6, 7, 0] rfl)
  exact key n u G M v2 v4 v5 H locs ls hL1 hK1 v2L v2K hext hu hI cx w hl
set_option maxHeartbeats 4000000 in
set_option maxRecDepth 100000 in
theorem bn_L_list_159 {p : Program} {l : Launch} {e : Env} {s : State} {m : MethodId} {args : Array Value} {below : List Frame} {meth : Method} {c : Code} {D : va_G} {cy : cyS} {b : uS} {G0 : gS} {sz : Nat} (hnm : meth.name = yL_list.name)  {a1 : Nat} {post : gS → mS → Nat → Prop} : ∀ (u : uS) (G : gS) (M : mS) (v2 : Nat) (v3 : Int32) (v4 : Int32) (v5 : Int32) (H : Heap) (locs : List Loc) (ls : Array Slot), a1 ∈ gL G → gK G a1 = 11 → v2 ∈ gL G → gK G v2 = 9 → ext G0 G → uL u b → nl_L_list_159 D b a1 post u G M v2 v3 v4 v5 → cX p s m args meth c cL_list RL 11 (some (.object "FlagAntsLaw$Sim")) wsL_list D cy G (pA G0 sz) → wd D cy G M (pA G0 sz) s.heap H locs → lv_has ls 11 [(0, .ref (stX D)), (1, .ref a1), (2, .ref v2), (3, .int v3), (4, .int v4), (5, .int v5)] → W p l e (rnL_list b) s m args below meth c H locs u.1 u.2 (MQ below (va_Qr (fun (u : gS × mS × Nat) => post u.1 u.2.1 u.2.2) (fun u x t => x = u.2.2 ∧ (x ∈ gL u.1 ∧ gK u.1 x = 9) ∧ va_P D vwCl (pl cy u.1 u.2.1) t.heap ∧ va_D (pA G0 sz) (pl cy u.1 u.2.1) ∧ wt u.1 ∧ ext G0 u.1) (pA G0 sz)) args s b.1 b.2 (pA G0 sz)) (F0 m 159 ls []) := by
  intro u G M v2 v3 v4 v5 H locs ls hL1 hK1 v2L v2K hext hu h cx w hl
  obtain ⟨I, n, hI, hB⟩ := h
  have key : ∀ n : Nat, ∀ (u : uS) (G : gS) (M : mS) (v2 : Nat) (v3 : Int32) (v4 : Int32) (v5 : Int32) (H : Heap) (locs : List Loc) (ls : Array Slot), a1 ∈ gL G → gK G a1 = 11 → v2 ∈ gL G → gK G v2 = 9 → ext G0 G → uL u b → I n u G M v2 v3 v4 v5 → cX p s m args meth c cL_list RL 11 (some (.object "FlagAntsLaw$Sim")) wsL_list D cy G (pA G0 sz) → wd D cy G M (pA G0 sz) s.heap H locs → lv_has ls 11 [(0, .ref (stX D)), (1, .ref a1), (2, .ref v2), (3, .int v3), (4, .int v4), (5, .int v5)] → W p l e (rnL_list b) s m args below meth c H locs u.1 u.2 (MQ below (va_Qr (fun (u : gS × mS × Nat) => post u.1 u.2.1 u.2.2) (fun u x t => x = u.2.2 ∧ (x ∈ gL u.1 ∧ gK u.1 x = 9) ∧ va_P D vwCl (pl cy u.1 u.2.1) t.heap ∧ va_D (pA G0 sz) (pl cy u.1 u.2.1) ∧ wt u.1 ∧ ext G0 u.1) (pA G0 sz)) args s b.1 b.2 (pA G0 sz)) (F0 m 159 ls []) := by
    intro n
    induction n using Nat.strongRecOn with
    | ind n ih =>
      intro u G M v2 v3 v4 v5 H locs ls hL1 hK1 v2L v2K hext hu hI cx w hl
      have h := hB n u G M v2 v3 v4 v5 hI
      unfold nb_L_list_159 at h
      obtain ⟨hx, hb, hml, hown, hts, hr, hlocks, hK, hA, hG, hsx⟩ := id cx
      have hR : (rnL_list b).cells = b.1 ∧ (rnL_list b).slots = b.2 := ⟨rfl, rfl⟩
      refine lv_iload hx hb dL_list_159 (lv_at hl 5 rfl) ?_
      refine lv_iload hx hb dL_list_161 (lv_at hl 4 rfl) ?_
      refine lv_icmp_ge (tgt := 388) hx hb dL_list_163 (by decide) (fun k1 => ?_) (fun k1 => ?_)
      · have h := w_t h k1
        refine lv_aload_n hx hb dL_list_388 rfl (lv_at hl 0 rfl) ?_
        refine lv_bipush (v := (10 : Int32)) hx hb dL_list_389 (by decide) ?_
        refine rb_SI (b := b) (u := u) (rf := 0) (rl := 0) (As := [.ref (stX D), .int ((10 : Int32))]) (rest := []) cx w hR hl.1 h (fun h => kn_L_cell hG h) (fun v => va_cwS 2 hts gL_list_L_cell rfl rfl rfl (by decide +kernel) ⟨(Nat.le_of_ble_eq_true rfl), (Nat.le_of_ble_eq_true rfl)⟩) rfl rfl (Nat.le_of_ble_eq_true rfl) dL_list_391 (fun u4 G2 M3 r5 H locs h hu xe cx w => ?_)
        obtain ⟨hL1, hK1⟩ := ext_wt xe hL1 hK1
        obtain ⟨v2L, v2K⟩ := ext_wt xe v2L v2K
        have hext := ext_tr hext xe
        clear xe
        have hG := cX_wt cx
        refine lv_bipush (v := (9 : Int32)) hx hb dL_list_394 (by decide) ?_
        refine rb_SI (b := b) (u := u4) (rf := 0) (rl := 0) (As := [.int r5, .int ((9 : Int32))]) (rest := []) cx w hR hl.1 h (fun h => kn_L_below hG h) (fun v => va_cwS 2 hts gL_list_L_below rfl rfl rfl (by decide +kernel) ⟨(Nat.le_of_ble_eq_true rfl), (Nat.le_of_ble_eq_true rfl)⟩) rfl rfl (Nat.le_of_ble_eq_true rfl) dL_list_396 (fun u8 G6 M7 r9 H locs h hu xe cx w => ?_)
        obtain ⟨hL1, hK1⟩ := ext_wt xe hL1 hK1
        obtain ⟨v2L, v2K⟩ := ext_wt xe v2L v2K
        have hext := ext_tr hext xe
        clear xe
        have hG := cX_wt cx
        refine lv_istore (lv' := [(5, .int r9), (0, .ref (stX D)), (1, .ref a1), (2, .ref v2), (3, .int v3), (4, .int v4)]) hx hb dL_list_399 hl (by decide) rfl (fun ls hl => ?_)
        exact bn_L_list_401 hnm u8 G6 M7 v2 v4 r9 H locs ls hL1 hK1 v2L v2K hext hu h cx w (lv_sub hl [1, 2, 3, 5, 0] rfl)
      · have h := w_f h k1
        refine lv_aload_n hx hb dL_list_166 rfl (lv_at hl 0 rfl) ?_
        refine lv_iconst (v := (5 : Int32)) hx hb dL_list_167 (by decide) ?_
        refine lv_iload hx hb dL_list_168 (lv_at hl 5 rfl) ?_
        refine lv_iadd hx hb dL_list_170 ?_
        refine rb_SI (b := b) (u := u) (rf := 0) (rl := 0) (As := [.ref (stX D), .int (((5 : Int32) + v5))]) (rest := []) cx w hR hl.1 h (fun h => kn_L_cell hG h) (fun v => va_cwS 2 hts gL_list_L_cell rfl rfl rfl (by decide +kernel) ⟨(Nat.le_of_ble_eq_true rfl), (Nat.le_of_ble_eq_true rfl)⟩) rfl rfl (Nat.le_of_ble_eq_true rfl) dL_list_171 (fun u12 G10 M11 r13 H locs h hu xe cx w => ?_)
        obtain ⟨hL1, hK1⟩ := ext_wt xe hL1 hK1
        obtain ⟨v2L, v2K⟩ := ext_wt xe v2L v2K
        have hext := ext_tr hext xe
        clear xe
        have hG := cX_wt cx
        refine lv_bipush (v := (7 : Int32)) hx hb dL_list_174 (by decide) ?_
        refine lv_iload hx hb dL_list_176 (lv_at hl 5 rfl) ?_
        refine lv_imul hx hb dL_list_178 ?_
        refine lv_iadd hx hb dL_list_179 ?_
        obtain ⟨x14, ex14, h⟩ := w_bd h
        refine r_topI ex14 ?_
        refine lv_istore (lv' := [(6, .int x14), (0, .ref (stX D)), (1, .ref a1), (2, .ref v2), (3, .int v3), (4, .int v4), (5, .int v5)]) hx hb dL_list_180 hl (by decide) rfl (fun ls hl => ?_)
        refine lv_bipush (v := (6 : Int32)) hx hb dL_list_182 (by decide) ?_
        refine rb_newI (b := b) (u := u12) cx w hR (List.mem_of_getElem? (i := 4) rfl) h dL_list_184 (fun q15 u18 G16 M17 H h hu xe hLq15 hKq15 cx w => ?_)
        obtain ⟨hL1, hK1⟩ := ext_wt xe hL1 hK1
        obtain ⟨v2L, v2K⟩ := ext_wt xe v2L v2K
        have hext := ext_tr hext xe
        clear xe
        have hG := cX_wt cx
        refine lv_dup hx hb dL_list_186 rfl ?_
        refine lv_iconst (v := (0 : Int32)) hx hb dL_list_187 (by decide) ?_
        refine lv_iload hx hb dL_list_188 (lv_at hl 0 rfl) ?_
        refine lv_iload_n hx hb dL_list_190 rfl (lv_at hl 4 rfl) ?_
        refine rb_SI (b := b) (u := u18) (rf := 0) (rl := 0) (As := [.int x14, .int v3]) (rest := [.int ((0 : Int32)), .ref q15, .ref q15]) cx w hR hl.1 h (fun h => kn_L_below hG h) (fun v => va_cwS 2 hts gL_list_L_below rfl rfl rfl (by decide +kernel) ⟨(Nat.le_of_ble_eq_true rfl), (Nat.le_of_ble_eq_true rfl)⟩) rfl rfl (Nat.le_of_ble_eq_true rfl) dL_list_191 (fun u21 G19 M20 r22 H locs h hu xe cx w => ?_)
        obtain ⟨hL1, hK1⟩ := ext_wt xe hL1 hK1
        obtain ⟨v2L, v2K⟩ := ext_wt xe v2L v2K
        obtain ⟨hLq15, hKq15⟩ := ext_wt xe hLq15 hKq15
        have hext := ext_tr hext xe
        clear xe
        have hG := cX_wt cx
        obtain ⟨z23, h⟩ := w_ix h
        obtain ⟨M24, eM24, h⟩ := w_wI h
        refine r_iast cx w hLq15 hKq15 z23 dL_list_194 eM24 (fun H locs w => ?_)
        refine lv_dup hx hb dL_list_195 rfl ?_
        refine lv_iconst (v := (1 : Int32)) hx hb dL_list_196 (by decide) ?_
        refine lv_bipush (v := (30 : Int32)) hx hb dL_list_197 (by decide) ?_
        refine lv_iload hx hb dL_list_199 (lv_at hl 0 rfl) ?_
        refine lv_iconst (v := (3 : Int32)) hx hb dL_list_201 (by decide) ?_
        refine lv_ishr hx hb dL_list_202 ?_
        refine lv_bipush (v := (8 : Int32)) hx hb dL_list_203 (by decide) ?_
        refine rb_SI (b := b) (u := u21) (rf := 0) (rl := 0) (As := [.int ((x14 >>> ((3 : Int32) &&& 31))), .int ((8 : Int32))]) (rest := [.int ((30 : Int32)), .int ((1 : Int32)), .ref q15, .ref q15]) cx w hR hl.1 h (fun h => kn_L_below hG h) (fun v => va_cwS 2 hts gL_list_L_below rfl rfl rfl (by decide +kernel) ⟨(Nat.le_of_ble_eq_true rfl), (Nat.le_of_ble_eq_true rfl)⟩) rfl rfl (Nat.le_of_ble_eq_true rfl) dL_list_205 (fun u27 G25 M26 r28 H locs h hu xe cx w => ?_)
        obtain ⟨hL1, hK1⟩ := ext_wt xe hL1 hK1
        obtain ⟨v2L, v2K⟩ := ext_wt xe v2L v2K
        obtain ⟨hLq15, hKq15⟩ := ext_wt xe hLq15 hKq15
        have hext := ext_tr hext xe
        clear xe
        have hG := cX_wt cx
        refine lv_iload hx hb dL_list_208 (lv_at hl 0 rfl) ?_
        refine lv_iconst (v := (3 : Int32)) hx hb dL_list_210 (by decide) ?_
        refine rb_SI (b := b) (u := u27) (rf := 0) (rl := 0) (As := [.int x14, .int ((3 : Int32))]) (rest := [.int r28, .int ((30 : Int32)), .int ((1 : Int32)), .ref q15, .ref q15]) cx w hR hl.1 h (fun h => kn_L_below hG h) (fun v => va_cwS 2 hts gL_list_L_below rfl rfl rfl (by decide +kernel) ⟨(Nat.le_of_ble_eq_true rfl), (Nat.le_of_ble_eq_true rfl)⟩) rfl rfl (Nat.le_of_ble_eq_true rfl) dL_list_211 (fun u31 G29 M30 r32 H locs h hu xe cx w => ?_)
        obtain ⟨hL1, hK1⟩ := ext_wt xe hL1 hK1
        obtain ⟨v2L, v2K⟩ := ext_wt xe v2L v2K
        obtain ⟨hLq15, hKq15⟩ := ext_wt xe hLq15 hKq15
        have hext := ext_tr hext xe
        clear xe
        have hG := cX_wt cx
        refine lv_if_ne (tgt := 222) hx hb dL_list_214 (by decide) (fun k33 => ?_) (fun k33 => ?_)
        · have h := w_f h k33
          refine lv_iconst (v := (1 : Int32)) hx hb dL_list_222 (by decide) ?_
          exact bn_L_list_223 hnm (hkb159 := fun u G M v2 v3 v4 v5 H locs ls hL1 hK1 v2L v2K hext hu h cx w hl => by obtain ⟨k, hk, hI⟩ := h; exact ih k hk u G M v2 v3 v4 v5 H locs ls hL1 hK1 v2L v2K hext hu hI cx w hl) u31 G29 M30 v2 v3 v4 v5 x14 q15 q15 ((1 : Int32)) ((30 : Int32)) r28 ((1 : Int32)) H locs ls hL1 hK1 v2L v2K hLq15 hKq15 hLq15 hKq15 hext hu h cx w (lv_sub hl [1, 2, 3, 4, 5, 6, 0] rfl)
        · have h := w_t h k33
          refine lv_bipush (v := (8 : Int32)) hx hb dL_list_217 (by decide) ?_
          refine lv_goto (tgt := 223) hx hb dL_list_219 (by decide) ?_
          exact bn_L_list_223 hnm (hkb159 := fun u G M v2 v3 v4 v5 H locs ls hL1 hK1 v2L v2K hext hu h cx w hl => by obtain ⟨k, hk, hI⟩ := h; exact ih k hk u G M v2 v3 v4 v5 H locs ls hL1 hK1 v2L v2K hext hu hI cx w hl) u31 G29 M30 v2 v3 v4 v5 x14 q15 q15 ((1 : Int32)) ((30 : Int32)) r28 ((8 : Int32)) H locs ls hL1 hK1 v2L v2K hLq15 hKq15 hLq15 hKq15 hext hu h cx w (lv_sub hl [1, 2, 3, 4, 5, 6, 0] rfl)
  exact key n u G M v2 v3 v4 v5 H locs ls hL1 hK1 v2L v2K hext hu hI cx w hl
set_option maxHeartbeats 4000000 in
set_option maxRecDepth 100000 in
theorem bn_L_list_23 {p : Program} {l : Launch} {e : Env} {s : State} {m : MethodId} {args : Array Value} {below : List Frame} {meth : Method} {c : Code} {D : va_G} {cy : cyS} {b : uS} {G0 : gS} {sz : Nat} (hnm : meth.name = yL_list.name)  {a1 : Nat} {post : gS → mS → Nat → Prop} : ∀ (u : uS) (G : gS) (M : mS) (v2 : Nat) (v3 : Int32) (v4 : Int32) (H : Heap) (locs : List Loc) (ls : Array Slot), a1 ∈ gL G → gK G a1 = 11 → v2 ∈ gL G → gK G v2 = 9 → ext G0 G → uL u b → nl_L_list_23 D b a1 post u G M v2 v3 v4 → cX p s m args meth c cL_list RL 11 (some (.object "FlagAntsLaw$Sim")) wsL_list D cy G (pA G0 sz) → wd D cy G M (pA G0 sz) s.heap H locs → lv_has ls 11 [(0, .ref (stX D)), (1, .ref a1), (2, .ref v2), (3, .int v3), (4, .int v4)] → W p l e (rnL_list b) s m args below meth c H locs u.1 u.2 (MQ below (va_Qr (fun (u : gS × mS × Nat) => post u.1 u.2.1 u.2.2) (fun u x t => x = u.2.2 ∧ (x ∈ gL u.1 ∧ gK u.1 x = 9) ∧ va_P D vwCl (pl cy u.1 u.2.1) t.heap ∧ va_D (pA G0 sz) (pl cy u.1 u.2.1) ∧ wt u.1 ∧ ext G0 u.1) (pA G0 sz)) args s b.1 b.2 (pA G0 sz)) (F0 m 23 ls []) := by
  intro u G M v2 v3 v4 H locs ls hL1 hK1 v2L v2K hext hu h cx w hl
  obtain ⟨I, n, hI, hB⟩ := h
  have key : ∀ n : Nat, ∀ (u : uS) (G : gS) (M : mS) (v2 : Nat) (v3 : Int32) (v4 : Int32) (H : Heap) (locs : List Loc) (ls : Array Slot), a1 ∈ gL G → gK G a1 = 11 → v2 ∈ gL G → gK G v2 = 9 → ext G0 G → uL u b → I n u G M v2 v3 v4 → cX p s m args meth c cL_list RL 11 (some (.object "FlagAntsLaw$Sim")) wsL_list D cy G (pA G0 sz) → wd D cy G M (pA G0 sz) s.heap H locs → lv_has ls 11 [(0, .ref (stX D)), (1, .ref a1), (2, .ref v2), (3, .int v3), (4, .int v4)] → W p l e (rnL_list b) s m args below meth c H locs u.1 u.2 (MQ below (va_Qr (fun (u : gS × mS × Nat) => post u.1 u.2.1 u.2.2) (fun u x t => x = u.2.2 ∧ (x ∈ gL u.1 ∧ gK u.1 x = 9) ∧ va_P D vwCl (pl cy u.1 u.2.1) t.heap ∧ va_D (pA G0 sz) (pl cy u.1 u.2.1) ∧ wt u.1 ∧ ext G0 u.1) (pA G0 sz)) args s b.1 b.2 (pA G0 sz)) (F0 m 23 ls []) := by
    intro n
    induction n using Nat.strongRecOn with
    | ind n ih =>
      intro u G M v2 v3 v4 H locs ls hL1 hK1 v2L v2K hext hu hI cx w hl
      have h := hB n u G M v2 v3 v4 hI
      unfold nb_L_list_23 at h
      obtain ⟨hx, hb, hml, hown, hts, hr, hlocks, hK, hA, hG, hsx⟩ := id cx
      have hR : (rnL_list b).cells = b.1 ∧ (rnL_list b).slots = b.2 := ⟨rfl, rfl⟩
      refine lv_iload hx hb dL_list_23 (lv_at hl 4 rfl) ?_
      refine lv_iload_n hx hb dL_list_25 rfl (lv_at hl 3 rfl) ?_
      refine lv_icmp_ge (tgt := 143) hx hb dL_list_26 (by decide) (fun k1 => ?_) (fun k1 => ?_)
      · have h := w_t h k1
        refine lv_iconst (v := (1 : Int32)) hx hb dL_list_143 (by decide) ?_
        refine lv_aload_n hx hb dL_list_144 rfl (lv_at hl 0 rfl) ?_
        refine lv_iconst (v := (4 : Int32)) hx hb dL_list_145 (by decide) ?_
        refine rb_SI (b := b) (u := u) (rf := 0) (rl := 0) (As := [.ref (stX D), .int ((4 : Int32))]) (rest := [.int ((1 : Int32))]) cx w hR hl.1 h (fun h => kn_L_cell hG h) (fun v => va_cwS 2 hts gL_list_L_cell rfl rfl rfl (by decide +kernel) ⟨(Nat.le_of_ble_eq_true rfl), (Nat.le_of_ble_eq_true rfl)⟩) rfl rfl (Nat.le_of_ble_eq_true rfl) dL_list_146 (fun u4 G2 M3 r5 H locs h hu xe cx w => ?_)
        obtain ⟨hL1, hK1⟩ := ext_wt xe hL1 hK1
        obtain ⟨v2L, v2K⟩ := ext_wt xe v2L v2K
        have hext := ext_tr hext xe
        clear xe
        have hG := cX_wt cx
        refine lv_iconst (v := (5 : Int32)) hx hb dL_list_149 (by decide) ?_
        refine rb_SI (b := b) (u := u4) (rf := 0) (rl := 0) (As := [.int r5, .int ((5 : Int32))]) (rest := [.int ((1 : Int32))]) cx w hR hl.1 h (fun h => kn_L_below hG h) (fun v => va_cwS 2 hts gL_list_L_below rfl rfl rfl (by decide +kernel) ⟨(Nat.le_of_ble_eq_true rfl), (Nat.le_of_ble_eq_true rfl)⟩) rfl rfl (Nat.le_of_ble_eq_true rfl) dL_list_150 (fun u8 G6 M7 r9 H locs h hu xe cx w => ?_)
        obtain ⟨hL1, hK1⟩ := ext_wt xe hL1 hK1
        obtain ⟨v2L, v2K⟩ := ext_wt xe v2L v2K
        have hext := ext_tr hext xe
        clear xe
        have hG := cX_wt cx
        refine lv_iadd hx hb dL_list_153 ?_
        obtain ⟨x10, ex10, h⟩ := w_bd h
        refine r_topI ex10 ?_
        refine lv_istore (lv' := [(4, .int x10), (0, .ref (stX D)), (1, .ref a1), (2, .ref v2), (3, .int v3)]) hx hb dL_list_154 hl (by decide) rfl (fun ls hl => ?_)
        refine lv_iconst (v := (0 : Int32)) hx hb dL_list_156 (by decide) ?_
        refine lv_istore (lv' := [(5, .int ((0 : Int32))), (4, .int x10), (0, .ref (stX D)), (1, .ref a1), (2, .ref v2), (3, .int v3)]) hx hb dL_list_157 hl (by decide) rfl (fun ls hl => ?_)
        exact bn_L_list_159 hnm u8 G6 M7 v2 v3 x10 ((0 : Int32)) H locs ls hL1 hK1 v2L v2K hext hu h cx w (lv_sub hl [2, 3, 4, 5, 1, 0] rfl)
      · have h := w_f h k1
        refine lv_aload_n hx hb dL_list_29 rfl (lv_at hl 0 rfl) ?_
        refine lv_iconst (v := (1 : Int32)) hx hb dL_list_30 (by decide) ?_
        refine lv_iload hx hb dL_list_31 (lv_at hl 4 rfl) ?_
        refine lv_iadd hx hb dL_list_33 ?_
        refine rb_SI (b := b) (u := u) (rf := 0) (rl := 0) (As := [.ref (stX D), .int (((1 : Int32) + v4))]) (rest := []) cx w hR hl.1 h (fun h => kn_L_cell hG h) (fun v => va_cwS 2 hts gL_list_L_cell rfl rfl rfl (by decide +kernel) ⟨(Nat.le_of_ble_eq_true rfl), (Nat.le_of_ble_eq_true rfl)⟩) rfl rfl (Nat.le_of_ble_eq_true rfl) dL_list_34 (fun u13 G11 M12 r14 H locs h hu xe cx w => ?_)
        obtain ⟨hL1, hK1⟩ := ext_wt xe hL1 hK1
        obtain ⟨v2L, v2K⟩ := ext_wt xe v2L v2K
        have hext := ext_tr hext xe
        clear xe
        have hG := cX_wt cx
        refine lv_istore (lv' := [(5, .int r14), (0, .ref (stX D)), (1, .ref a1), (2, .ref v2), (3, .int v3), (4, .int v4)]) hx hb dL_list_37 hl (by decide) rfl (fun ls hl => ?_)
        refine lv_iconst (v := (2 : Int32)) hx hb dL_list_39 (by decide) ?_
        refine lv_iload hx hb dL_list_40 (lv_at hl 0 rfl) ?_
        refine lv_iconst (v := (5 : Int32)) hx hb dL_list_42 (by decide) ?_
        refine rb_SI (b := b) (u := u13) (rf := 0) (rl := 0) (As := [.int r14, .int ((5 : Int32))]) (rest := [.int ((2 : Int32))]) cx w hR hl.1 h (fun h => kn_L_below hG h) (fun v => va_cwS 2 hts gL_list_L_below rfl rfl rfl (by decide +kernel) ⟨(Nat.le_of_ble_eq_true rfl), (Nat.le_of_ble_eq_true rfl)⟩) rfl rfl (Nat.le_of_ble_eq_true rfl) dL_list_43 (fun u17 G15 M16 r18 H locs h hu xe cx w => ?_)
        obtain ⟨hL1, hK1⟩ := ext_wt xe hL1 hK1
        obtain ⟨v2L, v2K⟩ := ext_wt xe v2L v2K
        have hext := ext_tr hext xe
        clear xe
        have hG := cX_wt cx
        refine lv_iadd hx hb dL_list_46 ?_
        refine rb_newI (b := b) (u := u17) cx w hR (List.mem_of_getElem? (i := 4) rfl) h dL_list_47 (fun q19 u22 G20 M21 H h hu xe hLq19 hKq19 cx w => ?_)
        obtain ⟨hL1, hK1⟩ := ext_wt xe hL1 hK1
        obtain ⟨v2L, v2K⟩ := ext_wt xe v2L v2K
        have hext := ext_tr hext xe
        clear xe
        have hG := cX_wt cx
        refine lv_astore (lv' := [(6, .ref q19), (5, .int r14), (0, .ref (stX D)), (1, .ref a1), (2, .ref v2), (3, .int v3), (4, .int v4)]) hx hb dL_list_49 hl (by decide) rfl (fun ls hl => ?_)
        refine lv_aload_n hx hb dL_list_51 rfl (lv_at hl 3 rfl) ?_
        refine r_ldcS (i := 20) cx w (by decide) rfl rfl dL_list_52 ?_
        refine rb_VR (kr := 11) (b := b) (u := u22) (rf := 5) (rl := 152) (As := [.ref (stK D 20)]) (rest := []) cx w hR hl.1 h (fun h => kn_J4_append_15ec4 hG hL1 hK1 (by decide : 20 < 36) h) (fun v => cwV 1 hts gL_list_J4_append_15ec4 rfl rfl rfl (by decide +kernel) ⟨(Nat.le_of_ble_eq_true rfl), (Nat.le_of_ble_eq_true rfl)⟩) hL1 hK1 (by decide) rfl rfl rfl (Nat.le_of_ble_eq_true rfl) dL_list_54 (fun u25 G23 M24 r26 H locs h hu xe hLr26 hKr26 cx w => ?_)
        obtain ⟨hL1, hK1⟩ := ext_wt xe hL1 hK1
        obtain ⟨v2L, v2K⟩ := ext_wt xe v2L v2K
        obtain ⟨hLq19, hKq19⟩ := ext_wt xe hLq19 hKq19
        have hext := ext_tr hext xe
        clear xe
        have hG := cX_wt cx
        refine lv_iload hx hb dL_list_57 (lv_at hl 6 rfl) ?_
        refine rb_VR (kr := 11) (b := b) (u := u25) (rf := 5) (rl := 153) (As := [.int v4]) (rest := []) cx w hR hl.1 h (fun h => kn_J4_append_bf812 hG hLr26 hKr26 h) (fun v => cwV 1 hts gL_list_J4_append_bf812 rfl rfl rfl (by decide +kernel) ⟨(Nat.le_of_ble_eq_true rfl), (Nat.le_of_ble_eq_true rfl)⟩) hLr26 hKr26 (by decide) rfl rfl rfl (Nat.le_of_ble_eq_true rfl) dL_list_59 (fun u29 G27 M28 r30 H locs h hu xe hLr30 hKr30 cx w => ?_)
        obtain ⟨hL1, hK1⟩ := ext_wt xe hL1 hK1
        obtain ⟨v2L, v2K⟩ := ext_wt xe v2L v2K
        obtain ⟨hLq19, hKq19⟩ := ext_wt xe hLq19 hKq19
        have hext := ext_tr hext xe
        clear xe
        have hG := cX_wt cx
        refine lv_pop hx hb dL_list_62 rfl ?_
        refine lv_iconst (v := (0 : Int32)) hx hb dL_list_63 (by decide) ?_
        refine lv_istore (lv' := [(7, .int ((0 : Int32))), (6, .ref q19), (5, .int r14), (0, .ref (stX D)), (1, .ref a1), (2, .ref v2), (3, .int v3), (4, .int v4)]) hx hb dL_list_64 hl (by decide) rfl (fun ls hl => ?_)
        exact bn_L_list_66 hnm (hkb23 := fun u G M v2 v3 v4 H locs ls hL1 hK1 v2L v2K hext hu h cx w hl => by obtain ⟨k, hk, hI⟩ := h; exact ih k hk u G M v2 v3 v4 H locs ls hL1 hK1 v2L v2K hext hu hI cx w hl) u29 G27 M28 v2 v3 v4 r14 q19 ((0 : Int32)) H locs ls hL1 hK1 v2L v2K hLq19 hKq19 hext hu h cx w (lv_sub hl [3, 4, 5, 6, 7, 2, 1, 0] rfl)
  exact key n u G M v2 v3 v4 H locs ls hL1 hK1 v2L v2K hext hu hI cx w hl
set_option maxHeartbeats 4000000 in
set_option maxRecDepth 100000 in
theorem kn_L_list {l : Launch} {D : va_G} {cy : cyS} {G : gS} {M : mS} {b : uS} {a1 : Nat} {post : gS → mS → Nat → Prop} (hG : wt G) (hL1 : a1 ∈ gL G) (hK1 : gK G a1 = 11) (h : n_L_list D b G M a1 post) : cbR 9 l yL_list wsL_list (rnL_list b) D cy G M [.ref (stX D), .ref a1] b post := by
  unfold n_L_list at h
  refine cbR_of (cc := cL_list) (nL := 11) (ret := (some (.object "FlagAntsLaw$Sim"))) (lv := [(0, .ref (stX D)), (1, .ref a1)]) hG (by decide) rfl (Nat.le_of_ble_eq_true rfl) rfl ?_
  intro p e s m args below meth c sz ls hnm cx w hl
  obtain ⟨hx, hb, hml, hown, hts, hr, hlocks, hK, hA, -, hsx⟩ := id cx
  have hext := ext_rf (G := G)
  have hu : uL (0, 0) b := ⟨Nat.zero_le _, Nat.zero_le _⟩
  have hR : (rnL_list b).cells = b.1 ∧ (rnL_list b).slots = b.2 := ⟨rfl, rfl⟩
  refine rb_newO (b := b) (u := (0, 0)) cx w hR tyX10 tyX10_ok rfl (by decide) wb_L_list_X10 (List.mem_of_getElem? (i := 1) rfl) (List.mem_of_getElem? (i := 2) rfl) (List.mem_of_getElem? (i := 3) rfl) df_9 h dL_list_0 (fun q1 u4 G2 M3 H h hu xe hLq1 hKq1 cx w => ?_)
  obtain ⟨hL1, hK1⟩ := ext_wt xe hL1 hK1
  have hext := ext_tr hext xe
  clear xe
  have hG := cX_wt cx
  refine lv_dup hx hb dL_list_3 rfl ?_
  refine rb_MV (b := b) (u := u4) (rf := 1) (rl := 60) (As := []) (rest := [.ref q1]) cx w hR hl.1 h (fun h => kn_X10_init hG hLq1 hKq1 h) (fun v => ⟨va_cnB 0 hts gL_list_X10_init_n72 rfl rfl rfl (nwM cx (q := (RL, 72, yX10_init, "FlagAntsLaw")) (List.mem_of_getElem? (i := 6) rfl)) (hts _ (List.mem_of_getElem? (i := 3) rfl)) (by decide +kernel) ⟨(Nat.le_of_ble_eq_true rfl), (Nat.le_of_ble_eq_true rfl)⟩, rfl, hts _ (List.mem_of_getElem? (i := 19) rfl)⟩) rfl rfl (Nat.le_of_ble_eq_true rfl) dL_list_4 (fun u7 G5 M6 r8 H locs h hu xe cx w => ?_)
  obtain ⟨hL1, hK1⟩ := ext_wt xe hL1 hK1
  obtain ⟨hLq1, hKq1⟩ := ext_wt xe hLq1 hKq1
  have hext := ext_tr hext xe
  clear xe
  have hG := cX_wt cx
  refine lv_astore_n (lv' := [(2, .ref q1), (0, .ref (stX D)), (1, .ref a1)]) hx hb dL_list_7 rfl hl (by decide) rfl (fun ls hl => ?_)
  refine lv_iconst (v := (1 : Int32)) hx hb dL_list_8 (by decide) ?_
  refine lv_aload_n hx hb dL_list_9 rfl (lv_at hl 1 rfl) ?_
  refine lv_iconst (v := (0 : Int32)) hx hb dL_list_10 (by decide) ?_
  refine rb_SI (b := b) (u := u7) (rf := 0) (rl := 0) (As := [.ref (stX D), .int ((0 : Int32))]) (rest := [.int ((1 : Int32))]) cx w hR hl.1 h (fun h => kn_L_cell hG h) (fun v => va_cwS 2 hts gL_list_L_cell rfl rfl rfl (by decide +kernel) ⟨(Nat.le_of_ble_eq_true rfl), (Nat.le_of_ble_eq_true rfl)⟩) rfl rfl (Nat.le_of_ble_eq_true rfl) dL_list_11 (fun u11 G9 M10 r12 H locs h hu xe cx w => ?_)
  obtain ⟨hL1, hK1⟩ := ext_wt xe hL1 hK1
  obtain ⟨hLq1, hKq1⟩ := ext_wt xe hLq1 hKq1
  have hext := ext_tr hext xe
  clear xe
  have hG := cX_wt cx
  refine lv_iconst (v := (3 : Int32)) hx hb dL_list_14 (by decide) ?_
  refine rb_SI (b := b) (u := u11) (rf := 0) (rl := 0) (As := [.int r12, .int ((3 : Int32))]) (rest := [.int ((1 : Int32))]) cx w hR hl.1 h (fun h => kn_L_below hG h) (fun v => va_cwS 2 hts gL_list_L_below rfl rfl rfl (by decide +kernel) ⟨(Nat.le_of_ble_eq_true rfl), (Nat.le_of_ble_eq_true rfl)⟩) rfl rfl (Nat.le_of_ble_eq_true rfl) dL_list_15 (fun u15 G13 M14 r16 H locs h hu xe cx w => ?_)
  obtain ⟨hL1, hK1⟩ := ext_wt xe hL1 hK1
  obtain ⟨hLq1, hKq1⟩ := ext_wt xe hLq1 hKq1
  have hext := ext_tr hext xe
  clear xe
  have hG := cX_wt cx
  refine lv_iadd hx hb dL_list_18 ?_
  obtain ⟨x17, ex17, h⟩ := w_bd h
  refine r_topI ex17 ?_
  refine lv_istore_n (lv' := [(3, .int x17), (2, .ref q1), (0, .ref (stX D)), (1, .ref a1)]) hx hb dL_list_19 rfl hl (by decide) rfl (fun ls hl => ?_)
  refine lv_iconst (v := (0 : Int32)) hx hb dL_list_20 (by decide) ?_
  refine lv_istore (lv' := [(4, .int ((0 : Int32))), (3, .int x17), (2, .ref q1), (0, .ref (stX D)), (1, .ref a1)]) hx hb dL_list_21 hl (by decide) rfl (fun ls hl => ?_)
  exact bn_L_list_23 hnm u15 G13 M14 q1 x17 ((0 : Int32)) H locs ls hL1 hK1 hLq1 hKq1 hext hu h cx w (lv_sub hl [3, 4, 2, 1, 0] rfl)
-- L_taught
abbrev rnL_taught (b : uS) : Room := { frames := 136, cells := b.1, slots := b.2, locals := 7859 }
def nb_L_taught_68 (D : va_G) (b : uS) (a0 : Nat) (a1 : Nat) (kb12 : uS → gS → mS → Nat → Int32 → Prop) (kb23 : uS → gS → mS → Nat → Int32 → Int32 → Prop) (post : gS → mS → Int32 → Prop) (u : uS) (G : gS) (M : mS) (v2 : Nat) (v3 : Int32) (v4 : Int32) (s0 : Nat) (s1 : Int32) (s2 : Int32) (s3 : Int32) : Prop := p_ix s1 (gN G s0) (p_wI M s0 (Int32.toNatClampNeg s1) (s2 ||| s3) (fun M2 => p_bd (v4 + 1 : Int32) (fun x3 => kb23 u G M2 v2 v3 x3)))
def nb_L_taught_23 (D : va_G) (b : uS) (a0 : Nat) (a1 : Nat) (kb12 : uS → gS → mS → Nat → Int32 → Prop) (post : gS → mS → Int32 → Prop) (back : uS → gS → mS → Nat → Int32 → Int32 → Prop) (u : uS) (G : gS) (M : mS) (v2 : Nat) (v3 : Int32) (v4 : Int32) : Prop := p_if ((20 : Int32) ≤ v4) (p_ix (0 : Int32) (gN G v2) (p_ix (1 : Int32) (gN G v2) (p_ix (2 : Int32) (gN G v2) (p_ix (3 : Int32) (gN G v2) (p_ix (4 : Int32) (gN G v2) (p_cl (m_X9_feed G M a0 (mI M v2 (Int32.toNatClampNeg (0 : Int32))) (mI M v2 (Int32.toNatClampNeg (1 : Int32))) (mI M v2 (Int32.toNatClampNeg (2 : Int32))) (mI M v2 (Int32.toNatClampNeg (3 : Int32))) (mI M v2 (Int32.toNatClampNeg (4 : Int32)))) (fun M7 r8 => p_bd (v3 + 20 : Int32) (fun x10 => kb12 u G M7 v2 x10)))))))) (p_ck (¬ (4 : Int32) = 0) (p_ck (¬ (4 : Int32) = 0) (p_ix (v4 / (4 : Int32)) (gN G v2) (q_ca b u (fun v => n_J0_length_8abf5p v G M a1) (fun u16 G14 M15 r17 => p_if (r17 ≤ (v3 + v4)) (nb_L_taught_68 D b a0 a1 kb12 back post u16 G14 M15 v2 v3 v4 v2 ((v4 / (4 : Int32))) (((mI M v2 (Int32.toNatClampNeg (v4 / (4 : Int32)))) <<< ((8 : Int32) &&& 31))) ((32 : Int32))) (q_ca b u16 (fun v => n_J0_charAt_5068ep v G14 M15 a1 (v3 + v4)) (fun u21 G19 M20 r22 => nb_L_taught_68 D b a0 a1 kb12 back post u21 G19 M20 v2 v3 v4 v2 ((v4 / (4 : Int32))) (((mI M v2 (Int32.toNatClampNeg (v4 / (4 : Int32)))) <<< ((8 : Int32) &&& 31))) r22)))))))
def nl_L_taught_23 (D : va_G) (b : uS) (a0 : Nat) (a1 : Nat) (kb12 : uS → gS → mS → Nat → Int32 → Prop) (post : gS → mS → Int32 → Prop) (u : uS) (G : gS) (M : mS) (v2 : Nat) (v3 : Int32) (v4 : Int32) : Prop := ∃ (I : Nat → uS → gS → mS → Nat → Int32 → Int32 → Prop) (n : Nat), I n u G M v2 v3 v4 ∧ ∀ (n : Nat) (u : uS) (G : gS) (M : mS) (v2 : Nat) (v3 : Int32) (v4 : Int32), I n u G M v2 v3 v4 → nb_L_taught_23 D b a0 a1 kb12 post (fun u G M v2 v3 v4 => ∃ k, k < n ∧ I k u G M v2 v3 v4) u G M v2 v3 v4
def nb_L_taught_12 (D : va_G) (b : uS) (a0 : Nat) (a1 : Nat) (post : gS → mS → Int32 → Prop) (back : uS → gS → mS → Nat → Int32 → Prop) (u : uS) (G : gS) (M : mS) (v2 : Nat) (v3 : Int32) : Prop := q_ca b u (fun v => n_J0_length_8abf5p v G M a1) (fun u3 G1 M2 r4 => p_if (r4 ≤ v3) (q_ca b u3 (fun v => n_J0_length_8abf5p v G1 M2 a1) (fun u8 G6 M7 r9 => p_cl (m_X9_trim G6 M7 a0 r9) (fun M10 r11 => p_cl (m_X9_teach G6 M10 a0) (fun M13 r14 => post G6 M13 r14)))) (nl_L_taught_23 D b a0 a1 back post u3 G1 M2 v2 v3 ((0 : Int32))))
def nl_L_taught_12 (D : va_G) (b : uS) (a0 : Nat) (a1 : Nat) (post : gS → mS → Int32 → Prop) (u : uS) (G : gS) (M : mS) (v2 : Nat) (v3 : Int32) : Prop := ∃ (I : Nat → uS → gS → mS → Nat → Int32 → Prop) (n : Nat), I n u G M v2 v3 ∧ ∀ (n : Nat) (u : uS) (G : gS) (M : mS) (v2 : Nat) (v3 : Int32), I n u G M v2 v3 → nb_L_taught_12 D b a0 a1 post (fun u G M v2 v3 => ∃ k, k < n ∧ I k u G M v2 v3) u G M v2 v3
def n_L_taught (D : va_G) (b : uS) (G : gS) (M : mS) (a0 : Nat) (a1 : Nat) (post : gS → mS → Int32 → Prop) : Prop := q_na b (0, 0) G M 12 (5 : Int32) (fun q1 u4 G2 M3 => p_cl (m_X9_trim G2 M3 a0 (0 : Int32)) (fun M5 r6 => nl_L_taught_12 D b a0 a1 post u4 G2 M5 q1 ((0 : Int32))))
set_option maxHeartbeats 4000000 in
set_option maxRecDepth 100000 in
theorem bn_L_taught_68 {p : Program} {l : Launch} {e : Env} {s : State} {m : MethodId} {args : Array Value} {below : List Frame} {meth : Method} {c : Code} {D : va_G} {cy : cyS} {b : uS} {G0 : gS} {sz : Nat} (hnm : meth.name = yL_taught.name)  {a0 : Nat} {a1 : Nat} {post : gS → mS → Int32 → Prop} {kb12 : uS → gS → mS → Nat → Int32 → Prop} (hkb12 : ∀ (u : uS) (G : gS) (M : mS) (v2 : Nat) (v3 : Int32) (H : Heap) (locs : List Loc) (ls : Array Slot), a0 ∈ gL G → gK G a0 = 8 → a1 ∈ gL G → gK G a1 = 10 → v2 ∈ gL G → gK G v2 = 12 → ext G0 G → uL u b → kb12 u G M v2 v3 → cX p s m args meth c cL_taught RL 5 (some .int) wsL_taught D cy G (pA G0 sz) → wd D cy G M (pA G0 sz) s.heap H locs → lv_has ls 5 [(0, .ref a0), (1, .ref a1), (2, .ref v2), (3, .int v3)] → W p l e (rnL_taught b) s m args below meth c H locs u.1 u.2 (MQ below (va_Qi (fun (r : Int32) (u : gS × mS) => post u.1 u.2 r) (fun u t => va_P D vwCl (pl cy u.1 u.2) t.heap ∧ va_D (pA G0 sz) (pl cy u.1 u.2) ∧ wt u.1 ∧ ext G0 u.1) (pA G0 sz)) args s b.1 b.2 (pA G0 sz)) (F0 m 12 ls [])) {kb23 : uS → gS → mS → Nat → Int32 → Int32 → Prop} (hkb23 : ∀ (u : uS) (G : gS) (M : mS) (v2 : Nat) (v3 : Int32) (v4 : Int32) (H : Heap) (locs : List Loc) (ls : Array Slot), a0 ∈ gL G → gK G a0 = 8 → a1 ∈ gL G → gK G a1 = 10 → v2 ∈ gL G → gK G v2 = 12 → ext G0 G → uL u b → kb23 u G M v2 v3 v4 → cX p s m args meth c cL_taught RL 5 (some .int) wsL_taught D cy G (pA G0 sz) → wd D cy G M (pA G0 sz) s.heap H locs → lv_has ls 5 [(0, .ref a0), (1, .ref a1), (2, .ref v2), (3, .int v3), (4, .int v4)] → W p l e (rnL_taught b) s m args below meth c H locs u.1 u.2 (MQ below (va_Qi (fun (r : Int32) (u : gS × mS) => post u.1 u.2 r) (fun u t => va_P D vwCl (pl cy u.1 u.2) t.heap ∧ va_D (pA G0 sz) (pl cy u.1 u.2) ∧ wt u.1 ∧ ext G0 u.1) (pA G0 sz)) args s b.1 b.2 (pA G0 sz)) (F0 m 23 ls [])) : ∀ (u : uS) (G : gS) (M : mS) (v2 : Nat) (v3 : Int32) (v4 : Int32) (s0 : Nat) (s1 : Int32) (s2 : Int32) (s3 : Int32) (H : Heap) (locs : List Loc) (ls : Array Slot), a0 ∈ gL G → gK G a0 = 8 → a1 ∈ gL G → gK G a1 = 10 → v2 ∈ gL G → gK G v2 = 12 → s0 ∈ gL G → gK G s0 = 12 → ext G0 G → uL u b → nb_L_taught_68 D b a0 a1 kb12 kb23 post u G M v2 v3 v4 s0 s1 s2 s3 → cX p s m args meth c cL_taught RL 5 (some .int) wsL_taught D cy G (pA G0 sz) → wd D cy G M (pA G0 sz) s.heap H locs → lv_has ls 5 [(0, .ref a0), (1, .ref a1), (2, .ref v2), (3, .int v3), (4, .int v4)] → W p l e (rnL_taught b) s m args below meth c H locs u.1 u.2 (MQ below (va_Qi (fun (r : Int32) (u : gS × mS) => post u.1 u.2 r) (fun u t => va_P D vwCl (pl cy u.1 u.2) t.heap ∧ va_D (pA G0 sz) (pl cy u.1 u.2) ∧ wt u.1 ∧ ext G0 u.1) (pA G0 sz)) args s b.1 b.2 (pA G0 sz)) (F0 m 68 ls [.int s3, .int s2, .int s1, .ref s0]) := by
  intro u G M v2 v3 v4 s0 s1 s2 s3 H locs ls hL0 hK0 hL1 hK1 v2L v2K s0L s0K hext hu h cx w hl
  unfold nb_L_taught_68 at h
  obtain ⟨hx, hb, hml, hown, hts, hr, hlocks, hK, hA, hG, hsx⟩ := id cx
  have hR : (rnL_taught b).cells = b.1 ∧ (rnL_taught b).slots = b.2 := ⟨rfl, rfl⟩
  refine lv_ior hx hb dL_taught_68 ?_
  obtain ⟨z1, h⟩ := w_ix h
  obtain ⟨M2, eM2, h⟩ := w_wI h
  refine r_iast cx w s0L s0K z1 dL_taught_69 eM2 (fun H locs w => ?_)
  obtain ⟨x3, ex3, h⟩ := w_bd h
  refine lv_iinc (v := x3) (lv' := [(4, .int x3), (0, .ref a0), (1, .ref a1), (2, .ref v2), (3, .int v3)]) hx hb dL_taught_70 hl (k := 4) rfl (by rw [ex3]; rfl) (by decide) rfl (fun ls hl => ?_)
  refine lv_goto (tgt := 23) hx hb dL_taught_73 (by decide) ?_
  exact hkb23 u G M2 v2 v3 x3 H locs ls hL0 hK0 hL1 hK1 v2L v2K hext hu h cx w (lv_sub hl [1, 2, 3, 4, 0] rfl)
set_option maxHeartbeats 4000000 in
set_option maxRecDepth 100000 in
theorem bn_L_taught_23 {p : Program} {l : Launch} {e : Env} {s : State} {m : MethodId} {args : Array Value} {below : List Frame} {meth : Method} {c : Code} {D : va_G} {cy : cyS} {b : uS} {G0 : gS} {sz : Nat} (hnm : meth.name = yL_taught.name)  {a0 : Nat} {a1 : Nat} {post : gS → mS → Int32 → Prop} {kb12 : uS → gS → mS → Nat → Int32 → Prop} (hkb12 : ∀ (u : uS) (G : gS) (M : mS) (v2 : Nat) (v3 : Int32) (H : Heap) (locs : List Loc) (ls : Array Slot), a0 ∈ gL G → gK G a0 = 8 → a1 ∈ gL G → gK G a1 = 10 → v2 ∈ gL G → gK G v2 = 12 → ext G0 G → uL u b → kb12 u G M v2 v3 → cX p s m args meth c cL_taught RL 5 (some .int) wsL_taught D cy G (pA G0 sz) → wd D cy G M (pA G0 sz) s.heap H locs → lv_has ls 5 [(0, .ref a0), (1, .ref a1), (2, .ref v2), (3, .int v3)] → W p l e (rnL_taught b) s m args below meth c H locs u.1 u.2 (MQ below (va_Qi (fun (r : Int32) (u : gS × mS) => post u.1 u.2 r) (fun u t => va_P D vwCl (pl cy u.1 u.2) t.heap ∧ va_D (pA G0 sz) (pl cy u.1 u.2) ∧ wt u.1 ∧ ext G0 u.1) (pA G0 sz)) args s b.1 b.2 (pA G0 sz)) (F0 m 12 ls [])) : ∀ (u : uS) (G : gS) (M : mS) (v2 : Nat) (v3 : Int32) (v4 : Int32) (H : Heap) (locs : List Loc) (ls : Array Slot), a0 ∈ gL G → gK G a0 = 8 → a1 ∈ gL G → gK G a1 = 10 → v2 ∈ gL G → gK G v2 = 12 → ext G0 G → uL u b → nl_L_taught_23 D b a0 a1 kb12 post u G M v2 v3 v4 → cX p s m args meth c cL_taught RL 5 (some .int) wsL_taught D cy G (pA G0 sz) → wd D cy G M (pA G0 sz) s.heap H locs → lv_has ls 5 [(0, .ref a0), (1, .ref a1), (2, .ref v2), (3, .int v3), (4, .int v4)] → W p l e (rnL_taught b) s m args below meth c H locs u.1 u.2 (MQ below (va_Qi (fun (r : Int32) (u : gS × mS) => post u.1 u.2 r) (fun u t => va_P D vwCl (pl cy u.1 u.2) t.heap ∧ va_D (pA G0 sz) (pl cy u.1 u.2) ∧ wt u.1 ∧ ext G0 u.1) (pA G0 sz)) args s b.1 b.2 (pA G0 sz)) (F0 m 23 ls []) := by
  intro u G M v2 v3 v4 H locs ls hL0 hK0 hL1 hK1 v2L v2K hext hu h cx w hl
  obtain ⟨I, n, hI, hB⟩ := h
  have key : ∀ n : Nat, ∀ (u : uS) (G : gS) (M : mS) (v2 : Nat) (v3 : Int32) (v4 : Int32) (H : Heap) (locs : List Loc) (ls : Array Slot), a0 ∈ gL G → gK G a0 = 8 → a1 ∈ gL G → gK G a1 = 10 → v2 ∈ gL G → gK G v2 = 12 → ext G0 G → uL u b → I n u G M v2 v3 v4 → cX p s m args meth c cL_taught RL 5 (some .int) wsL_taught D cy G (pA G0 sz) → wd D cy G M (pA G0 sz) s.heap H locs → lv_has ls 5 [(0, .ref a0), (1, .ref a1), (2, .ref v2), (3, .int v3), (4, .int v4)] → W p l e (rnL_taught b) s m args below meth c H locs u.1 u.2 (MQ below (va_Qi (fun (r : Int32) (u : gS × mS) => post u.1 u.2 r) (fun u t => va_P D vwCl (pl cy u.1 u.2) t.heap ∧ va_D (pA G0 sz) (pl cy u.1 u.2) ∧ wt u.1 ∧ ext G0 u.1) (pA G0 sz)) args s b.1 b.2 (pA G0 sz)) (F0 m 23 ls []) := by
    intro n
    induction n using Nat.strongRecOn with
    | ind n ih =>
      intro u G M v2 v3 v4 H locs ls hL0 hK0 hL1 hK1 v2L v2K hext hu hI cx w hl
      have h := hB n u G M v2 v3 v4 hI
      unfold nb_L_taught_23 at h
      obtain ⟨hx, hb, hml, hown, hts, hr, hlocks, hK, hA, hG, hsx⟩ := id cx
      have hR : (rnL_taught b).cells = b.1 ∧ (rnL_taught b).slots = b.2 := ⟨rfl, rfl⟩
      refine lv_iload hx hb dL_taught_23 (lv_at hl 4 rfl) ?_
      refine lv_bipush (v := (20 : Int32)) hx hb dL_taught_25 (by decide) ?_
      refine lv_icmp_ge (tgt := 76) hx hb dL_taught_27 (by decide) (fun k1 => ?_) (fun k1 => ?_)
      · have h := w_t h k1
        refine lv_aload_n hx hb dL_taught_76 rfl (lv_at hl 0 rfl) ?_
        refine lv_aload_n hx hb dL_taught_77 rfl (lv_at hl 2 rfl) ?_
        refine lv_iconst (v := (0 : Int32)) hx hb dL_taught_78 (by decide) ?_
        obtain ⟨z2, h⟩ := w_ix h
        refine r_iald cx w v2L v2K z2 dL_taught_79 ?_
        refine lv_aload_n hx hb dL_taught_80 rfl (lv_at hl 2 rfl) ?_
        refine lv_iconst (v := (1 : Int32)) hx hb dL_taught_81 (by decide) ?_
        obtain ⟨z3, h⟩ := w_ix h
        refine r_iald cx w v2L v2K z3 dL_taught_82 ?_
        refine lv_aload_n hx hb dL_taught_83 rfl (lv_at hl 2 rfl) ?_
        refine lv_iconst (v := (2 : Int32)) hx hb dL_taught_84 (by decide) ?_
        obtain ⟨z4, h⟩ := w_ix h
        refine r_iald cx w v2L v2K z4 dL_taught_85 ?_
        refine lv_aload_n hx hb dL_taught_86 rfl (lv_at hl 2 rfl) ?_
        refine lv_iconst (v := (3 : Int32)) hx hb dL_taught_87 (by decide) ?_
        obtain ⟨z5, h⟩ := w_ix h
        refine r_iald cx w v2L v2K z5 dL_taught_88 ?_
        refine lv_aload_n hx hb dL_taught_89 rfl (lv_at hl 2 rfl) ?_
        refine lv_iconst (v := (4 : Int32)) hx hb dL_taught_90 (by decide) ?_
        obtain ⟨z6, h⟩ := w_ix h
        refine r_iald cx w v2L v2K z6 dL_taught_91 ?_
        obtain ⟨M7, r8, y9, h⟩ := w_cl h
        refine r_callVi (As := [.int ((mI M v2 (Int32.toNatClampNeg (0 : Int32)))), .int ((mI M v2 (Int32.toNatClampNeg (1 : Int32)))), .int ((mI M v2 (Int32.toNatClampNeg (2 : Int32)))), .int ((mI M v2 (Int32.toNatClampNeg (3 : Int32)))), .int ((mI M v2 (Int32.toNatClampNeg (4 : Int32))))]) (rest := []) cx w hu hl.1 (k_X9_feed hG hL0 hK0 y9) (cwV 5 hts gL_taught_X9_feed rfl rfl rfl (by decide +kernel) ⟨(Nat.le_of_ble_eq_true rfl), (Nat.le_of_ble_eq_true rfl)⟩) hL0 hK0 (by decide) rfl rfl rfl (Nat.le_of_ble_eq_true rfl) dL_taught_92 (fun H locs w => ?_)
        refine lv_pop hx hb dL_taught_95 rfl ?_
        obtain ⟨x10, ex10, h⟩ := w_bd h
        refine lv_iinc (v := x10) (lv' := [(3, .int x10), (0, .ref a0), (1, .ref a1), (2, .ref v2), (4, .int v4)]) hx hb dL_taught_96 hl (k := 3) rfl (by rw [ex10]; rfl) (by decide) rfl (fun ls hl => ?_)
        refine lv_goto (tgt := 12) hx hb dL_taught_99 (by decide) ?_
        exact hkb12 u G M7 v2 x10 H locs ls hL0 hK0 hL1 hK1 v2L v2K hext hu h cx w (lv_sub hl [1, 2, 3, 0] rfl)
      · have h := w_f h k1
        refine lv_aload_n hx hb dL_taught_30 rfl (lv_at hl 2 rfl) ?_
        refine lv_iload hx hb dL_taught_31 (lv_at hl 4 rfl) ?_
        refine lv_iconst (v := (4 : Int32)) hx hb dL_taught_33 (by decide) ?_
        obtain ⟨z11, h⟩ := w_ck h
        refine lv_idiv hx hb dL_taught_34 z11 ?_
        refine lv_aload_n hx hb dL_taught_35 rfl (lv_at hl 2 rfl) ?_
        refine lv_iload hx hb dL_taught_36 (lv_at hl 4 rfl) ?_
        refine lv_iconst (v := (4 : Int32)) hx hb dL_taught_38 (by decide) ?_
        obtain ⟨z12, h⟩ := w_ck h
        refine lv_idiv hx hb dL_taught_39 z12 ?_
        obtain ⟨z13, h⟩ := w_ix h
        refine r_iald cx w v2L v2K z13 dL_taught_40 ?_
        refine lv_bipush (v := (8 : Int32)) hx hb dL_taught_41 (by decide) ?_
        refine lv_ishl hx hb dL_taught_43 ?_
        refine lv_iload_n hx hb dL_taught_44 rfl (lv_at hl 3 rfl) ?_
        refine lv_iload hx hb dL_taught_45 (lv_at hl 4 rfl) ?_
        refine lv_iadd hx hb dL_taught_47 ?_
        refine lv_aload_n hx hb dL_taught_48 rfl (lv_at hl 1 rfl) ?_
        refine rb_VI (b := b) (u := u) (rf := 1) (rl := 20) (As := []) (rest := [.int ((v3 + v4)), .int (((mI M v2 (Int32.toNatClampNeg (v4 / (4 : Int32)))) <<< ((8 : Int32) &&& 31))), .int ((v4 / (4 : Int32))), .ref v2]) cx w hR hl.1 h (fun h => kn_J0_length_8abf5p hG hL1 hK1 h) (fun v => cwV 0 hts gL_taught_J0_length_8abf5 rfl rfl rfl (by decide +kernel) ⟨(Nat.le_of_ble_eq_true rfl), (Nat.le_of_ble_eq_true rfl)⟩) hL1 hK1 (by decide) rfl rfl rfl (Nat.le_of_ble_eq_true rfl) dL_taught_49 (fun u16 G14 M15 r17 H locs h hu xe cx w => ?_)
        obtain ⟨hL0, hK0⟩ := ext_wt xe hL0 hK0
        obtain ⟨hL1, hK1⟩ := ext_wt xe hL1 hK1
        obtain ⟨v2L, v2K⟩ := ext_wt xe v2L v2K
        have hext := ext_tr hext xe
        clear xe
        have hG := cX_wt cx
        refine lv_icmp_ge (tgt := 66) hx hb dL_taught_52 (by decide) (fun k18 => ?_) (fun k18 => ?_)
        · have h := w_t h k18
          refine lv_bipush (v := (32 : Int32)) hx hb dL_taught_66 (by decide) ?_
          exact bn_L_taught_68 hnm (hkb12 := hkb12) (hkb23 := fun u G M v2 v3 v4 H locs ls hL0 hK0 hL1 hK1 v2L v2K hext hu h cx w hl => by obtain ⟨k, hk, hI⟩ := h; exact ih k hk u G M v2 v3 v4 H locs ls hL0 hK0 hL1 hK1 v2L v2K hext hu hI cx w hl) u16 G14 M15 v2 v3 v4 v2 ((v4 / (4 : Int32))) (((mI M v2 (Int32.toNatClampNeg (v4 / (4 : Int32)))) <<< ((8 : Int32) &&& 31))) ((32 : Int32)) H locs ls hL0 hK0 hL1 hK1 v2L v2K v2L v2K hext hu h cx w (lv_sub hl [0, 1, 2, 3, 4] rfl)
        · have h := w_f h k18
          refine lv_aload_n hx hb dL_taught_55 rfl (lv_at hl 1 rfl) ?_
          refine lv_iload_n hx hb dL_taught_56 rfl (lv_at hl 3 rfl) ?_
          refine lv_iload hx hb dL_taught_57 (lv_at hl 4 rfl) ?_
          refine lv_iadd hx hb dL_taught_59 ?_
          refine rb_VI (b := b) (u := u16) (rf := 3) (rl := 64) (As := [.int ((v3 + v4))]) (rest := [.int (((mI M v2 (Int32.toNatClampNeg (v4 / (4 : Int32)))) <<< ((8 : Int32) &&& 31))), .int ((v4 / (4 : Int32))), .ref v2]) cx w hR hl.1 h (fun h => kn_J0_charAt_5068ep hG hL1 hK1 h) (fun v => cwV 1 hts gL_taught_J0_charAt_5068e rfl rfl rfl (by decide +kernel) ⟨(Nat.le_of_ble_eq_true rfl), (Nat.le_of_ble_eq_true rfl)⟩) hL1 hK1 (by decide) rfl rfl rfl (Nat.le_of_ble_eq_true rfl) dL_taught_60 (fun u21 G19 M20 r22 H locs h hu xe cx w => ?_)
          obtain ⟨hL0, hK0⟩ := ext_wt xe hL0 hK0
          obtain ⟨hL1, hK1⟩ := ext_wt xe hL1 hK1
          obtain ⟨v2L, v2K⟩ := ext_wt xe v2L v2K
          have hext := ext_tr hext xe
          clear xe
          have hG := cX_wt cx
          refine lv_goto (tgt := 68) hx hb dL_taught_63 (by decide) ?_
          exact bn_L_taught_68 hnm (hkb12 := hkb12) (hkb23 := fun u G M v2 v3 v4 H locs ls hL0 hK0 hL1 hK1 v2L v2K hext hu h cx w hl => by obtain ⟨k, hk, hI⟩ := h; exact ih k hk u G M v2 v3 v4 H locs ls hL0 hK0 hL1 hK1 v2L v2K hext hu hI cx w hl) u21 G19 M20 v2 v3 v4 v2 ((v4 / (4 : Int32))) (((mI M v2 (Int32.toNatClampNeg (v4 / (4 : Int32)))) <<< ((8 : Int32) &&& 31))) r22 H locs ls hL0 hK0 hL1 hK1 v2L v2K v2L v2K hext hu h cx w (lv_sub hl [0, 1, 2, 3, 4] rfl)
  exact key n u G M v2 v3 v4 H locs ls hL0 hK0 hL1 hK1 v2L v2K hext hu hI cx w hl
set_option maxHeartbeats 4000000 in
set_option maxRecDepth 100000 in
theorem bn_L_taught_12 {p : Program} {l : Launch} {e : Env} {s : State} {m : MethodId} {args : Array Value} {below : List Frame} {meth : Method} {c : Code} {D : va_G} {cy : cyS} {b : uS} {G0 : gS} {sz : Nat} (hnm : meth.name = yL_taught.name)  {a0 : Nat} {a1 : Nat} {post : gS → mS → Int32 → Prop} : ∀ (u : uS) (G : gS) (M : mS) (v2 : Nat) (v3 : Int32) (H : Heap) (locs : List Loc) (ls : Array Slot), a0 ∈ gL G → gK G a0 = 8 → a1 ∈ gL G → gK G a1 = 10 → v2 ∈ gL G → gK G v2 = 12 → ext G0 G → uL u b → nl_L_taught_12 D b a0 a1 post u G M v2 v3 → cX p s m args meth c cL_taught RL 5 (some .int) wsL_taught D cy G (pA G0 sz) → wd D cy G M (pA G0 sz) s.heap H locs → lv_has ls 5 [(0, .ref a0), (1, .ref a1), (2, .ref v2), (3, .int v3)] → W p l e (rnL_taught b) s m args below meth c H locs u.1 u.2 (MQ below (va_Qi (fun (r : Int32) (u : gS × mS) => post u.1 u.2 r) (fun u t => va_P D vwCl (pl cy u.1 u.2) t.heap ∧ va_D (pA G0 sz) (pl cy u.1 u.2) ∧ wt u.1 ∧ ext G0 u.1) (pA G0 sz)) args s b.1 b.2 (pA G0 sz)) (F0 m 12 ls []) := by
  intro u G M v2 v3 H locs ls hL0 hK0 hL1 hK1 v2L v2K hext hu h cx w hl
  obtain ⟨I, n, hI, hB⟩ := h
  have key : ∀ n : Nat, ∀ (u : uS) (G : gS) (M : mS) (v2 : Nat) (v3 : Int32) (H : Heap) (locs : List Loc) (ls : Array Slot), a0 ∈ gL G → gK G a0 = 8 → a1 ∈ gL G → gK G a1 = 10 → v2 ∈ gL G → gK G v2 = 12 → ext G0 G → uL u b → I n u G M v2 v3 → cX p s m args meth c cL_taught RL 5 (some .int) wsL_taught D cy G (pA G0 sz) → wd D cy G M (pA G0 sz) s.heap H locs → lv_has ls 5 [(0, .ref a0), (1, .ref a1), (2, .ref v2), (3, .int v3)] → W p l e (rnL_taught b) s m args below meth c H locs u.1 u.2 (MQ below (va_Qi (fun (r : Int32) (u : gS × mS) => post u.1 u.2 r) (fun u t => va_P D vwCl (pl cy u.1 u.2) t.heap ∧ va_D (pA G0 sz) (pl cy u.1 u.2) ∧ wt u.1 ∧ ext G0 u.1) (pA G0 sz)) args s b.1 b.2 (pA G0 sz)) (F0 m 12 ls []) := by
    intro n
    induction n using Nat.strongRecOn with
    | ind n ih =>
      intro u G M v2 v3 H locs ls hL0 hK0 hL1 hK1 v2L v2K hext hu hI cx w hl
      have h := hB n u G M v2 v3 hI
      unfold nb_L_taught_12 at h
      obtain ⟨hx, hb, hml, hown, hts, hr, hlocks, hK, hA, hG, hsx⟩ := id cx
      have hR : (rnL_taught b).cells = b.1 ∧ (rnL_taught b).slots = b.2 := ⟨rfl, rfl⟩
      refine lv_iload_n hx hb dL_taught_12 rfl (lv_at hl 3 rfl) ?_
      refine lv_aload_n hx hb dL_taught_13 rfl (lv_at hl 1 rfl) ?_
      refine rb_VI (b := b) (u := u) (rf := 1) (rl := 20) (As := []) (rest := [.int v3]) cx w hR hl.1 h (fun h => kn_J0_length_8abf5p hG hL1 hK1 h) (fun v => cwV 0 hts gL_taught_J0_length_8abf5 rfl rfl rfl (by decide +kernel) ⟨(Nat.le_of_ble_eq_true rfl), (Nat.le_of_ble_eq_true rfl)⟩) hL1 hK1 (by decide) rfl rfl rfl (Nat.le_of_ble_eq_true rfl) dL_taught_14 (fun u3 G1 M2 r4 H locs h hu xe cx w => ?_)
      obtain ⟨hL0, hK0⟩ := ext_wt xe hL0 hK0
      obtain ⟨hL1, hK1⟩ := ext_wt xe hL1 hK1
      obtain ⟨v2L, v2K⟩ := ext_wt xe v2L v2K
      have hext := ext_tr hext xe
      clear xe
      have hG := cX_wt cx
      refine lv_icmp_ge (tgt := 102) hx hb dL_taught_17 (by decide) (fun k5 => ?_) (fun k5 => ?_)
      · have h := w_t h k5
        refine lv_aload_n hx hb dL_taught_102 rfl (lv_at hl 0 rfl) ?_
        refine lv_aload_n hx hb dL_taught_103 rfl (lv_at hl 1 rfl) ?_
        refine rb_VI (b := b) (u := u3) (rf := 1) (rl := 20) (As := []) (rest := [.ref a0]) cx w hR hl.1 h (fun h => kn_J0_length_8abf5p hG hL1 hK1 h) (fun v => cwV 0 hts gL_taught_J0_length_8abf5 rfl rfl rfl (by decide +kernel) ⟨(Nat.le_of_ble_eq_true rfl), (Nat.le_of_ble_eq_true rfl)⟩) hL1 hK1 (by decide) rfl rfl rfl (Nat.le_of_ble_eq_true rfl) dL_taught_104 (fun u8 G6 M7 r9 H locs h hu xe cx w => ?_)
        obtain ⟨hL0, hK0⟩ := ext_wt xe hL0 hK0
        obtain ⟨hL1, hK1⟩ := ext_wt xe hL1 hK1
        obtain ⟨v2L, v2K⟩ := ext_wt xe v2L v2K
        have hext := ext_tr hext xe
        clear xe
        have hG := cX_wt cx
        obtain ⟨M10, r11, y12, h⟩ := w_cl h
        refine r_callVi (As := [.int r9]) (rest := []) cx w hu hl.1 (k_X9_trim hG hL0 hK0 y12) (cwV 1 hts gL_taught_X9_trim rfl rfl rfl (by decide +kernel) ⟨(Nat.le_of_ble_eq_true rfl), (Nat.le_of_ble_eq_true rfl)⟩) hL0 hK0 (by decide) rfl rfl rfl (Nat.le_of_ble_eq_true rfl) dL_taught_107 (fun H locs w => ?_)
        refine lv_pop hx hb dL_taught_110 rfl ?_
        refine lv_aload_n hx hb dL_taught_111 rfl (lv_at hl 0 rfl) ?_
        obtain ⟨M13, r14, y15, h⟩ := w_cl h
        refine r_callVi (As := []) (rest := []) cx w hu hl.1 (k_X9_teach hG hL0 hK0 y15) (cwV 0 hts gL_taught_X9_teach rfl rfl rfl (by decide +kernel) ⟨(Nat.le_of_ble_eq_true rfl), (Nat.le_of_ble_eq_true rfl)⟩) hL0 hK0 (by decide) rfl rfl rfl (Nat.le_of_ble_eq_true rfl) dL_taught_112 (fun H locs w => ?_)
        exact rb_iret h cx w hext hu dL_taught_115
      · have h := w_f h k5
        refine lv_iconst (v := (0 : Int32)) hx hb dL_taught_20 (by decide) ?_
        refine lv_istore (lv' := [(4, .int ((0 : Int32))), (0, .ref a0), (1, .ref a1), (2, .ref v2), (3, .int v3)]) hx hb dL_taught_21 hl (by decide) rfl (fun ls hl => ?_)
        exact bn_L_taught_23 hnm (hkb12 := fun u G M v2 v3 H locs ls hL0 hK0 hL1 hK1 v2L v2K hext hu h cx w hl => by obtain ⟨k, hk, hI⟩ := h; exact ih k hk u G M v2 v3 H locs ls hL0 hK0 hL1 hK1 v2L v2K hext hu hI cx w hl) u3 G1 M2 v2 v3 ((0 : Int32)) H locs ls hL0 hK0 hL1 hK1 v2L v2K hext hu h cx w (lv_sub hl [1, 2, 3, 4, 0] rfl)
  exact key n u G M v2 v3 H locs ls hL0 hK0 hL1 hK1 v2L v2K hext hu hI cx w hl
set_option maxHeartbeats 4000000 in
set_option maxRecDepth 100000 in
theorem kn_L_taught {l : Launch} {D : va_G} {cy : cyS} {G : gS} {M : mS} {b : uS} {a0 : Nat} {a1 : Nat} {post : gS → mS → Int32 → Prop} (hG : wt G) (hL0 : a0 ∈ gL G) (hK0 : gK G a0 = 8) (hL1 : a1 ∈ gL G) (hK1 : gK G a1 = 10) (h : n_L_taught D b G M a0 a1 post) : cbI l yL_taught wsL_taught (rnL_taught b) D cy G M [.ref a0, .ref a1] b post := by
  unfold n_L_taught at h
  refine cbI_of (cc := cL_taught) (nL := 5) (ret := (some .int)) (lv := [(0, .ref a0), (1, .ref a1)]) hG (by decide) rfl (Nat.le_of_ble_eq_true rfl) rfl ?_
  intro p e s m args below meth c sz ls hnm cx w hl
  obtain ⟨hx, hb, hml, hown, hts, hr, hlocks, hK, hA, -, hsx⟩ := id cx
  have hext := ext_rf (G := G)
  have hu : uL (0, 0) b := ⟨Nat.zero_le _, Nat.zero_le _⟩
  have hR : (rnL_taught b).cells = b.1 ∧ (rnL_taught b).slots = b.2 := ⟨rfl, rfl⟩
  refine lv_iconst (v := (5 : Int32)) hx hb dL_taught_0 (by decide) ?_
  refine rb_newI (b := b) (u := (0, 0)) cx w hR (List.mem_of_getElem? (i := 1) rfl) h dL_taught_1 (fun q1 u4 G2 M3 H h hu xe hLq1 hKq1 cx w => ?_)
  obtain ⟨hL0, hK0⟩ := ext_wt xe hL0 hK0
  obtain ⟨hL1, hK1⟩ := ext_wt xe hL1 hK1
  have hext := ext_tr hext xe
  clear xe
  have hG := cX_wt cx
  refine lv_astore_n (lv' := [(2, .ref q1), (0, .ref a0), (1, .ref a1)]) hx hb dL_taught_3 rfl hl (by decide) rfl (fun ls hl => ?_)
  refine lv_aload_n hx hb dL_taught_4 rfl (lv_at hl 1 rfl) ?_
  refine lv_iconst (v := (0 : Int32)) hx hb dL_taught_5 (by decide) ?_
  obtain ⟨M5, r6, y7, h⟩ := w_cl h
  refine r_callVi (As := [.int ((0 : Int32))]) (rest := []) cx w hu hl.1 (k_X9_trim hG hL0 hK0 y7) (cwV 1 hts gL_taught_X9_trim rfl rfl rfl (by decide +kernel) ⟨(Nat.le_of_ble_eq_true rfl), (Nat.le_of_ble_eq_true rfl)⟩) hL0 hK0 (by decide) rfl rfl rfl (Nat.le_of_ble_eq_true rfl) dL_taught_6 (fun H locs w => ?_)
  refine lv_pop hx hb dL_taught_9 rfl ?_
  refine lv_iconst (v := (0 : Int32)) hx hb dL_taught_10 (by decide) ?_
  refine lv_istore_n (lv' := [(3, .int ((0 : Int32))), (2, .ref q1), (0, .ref a0), (1, .ref a1)]) hx hb dL_taught_11 rfl hl (by decide) rfl (fun ls hl => ?_)
  exact bn_L_taught_12 hnm u4 G2 M5 q1 ((0 : Int32)) H locs ls hL0 hK0 hL1 hK1 hLq1 hKq1 hext hu h cx w (lv_sub hl [2, 3, 1, 0] rfl)
-- L_act
theorem wb_L_act_X10 : ∀ w ∈ wsX100, w ∈ wsL_act := by decide +kernel
abbrev rnL_act (b : uS) : Room := { frames := 8, cells := b.1, slots := b.2, locals := 200 }
def nb_L_act_431 (D : va_G) (b : uS) (a0 : Nat) (a1 : Nat) (c2 : Int32) (post : gS → mS → Int32 → Prop) (u : uS) (G : gS) (M : mS) (s0 : Int32) : Prop := p_ck (s0 = 0 ∨ s0 = 1) (post G M s0)
def nb_L_act_393 (D : va_G) (b : uS) (a0 : Nat) (a1 : Nat) (c2 : Int32) (post : gS → mS → Int32 → Prop) (back : uS → gS → mS → Int32 → Int32 → Int32 → Prop) (u : uS) (G : gS) (M : mS) (v5 : Int32) (v6 : Int32) (v7 : Int32) : Prop := p_if (v5 ≤ v7) (p_cl (m_X9_pass G M a0 v5) (fun M2 r3 => q_ca b u (fun v => n_X10_dark v G M2 a1) (fun u7 G5 M6 r8 => p_if (r3 = (r8 - v6)) (nb_L_act_431 D b a0 a1 c2 post u7 G5 M6 ((1 : Int32))) (nb_L_act_431 D b a0 a1 c2 post u7 G5 M6 ((0 : Int32)))))) (q_ca b u (fun v => n_X10_go v G M a1) (fun u12 G10 M11 r13 => p_bd (v7 + 1 : Int32) (fun x14 => back u12 G10 M11 v5 v6 x14)))
def nl_L_act_393 (D : va_G) (b : uS) (a0 : Nat) (a1 : Nat) (c2 : Int32) (post : gS → mS → Int32 → Prop) (u : uS) (G : gS) (M : mS) (v5 : Int32) (v6 : Int32) (v7 : Int32) : Prop := ∃ (I : Nat → uS → gS → mS → Int32 → Int32 → Int32 → Prop) (n : Nat), I n u G M v5 v6 v7 ∧ ∀ (n : Nat) (u : uS) (G : gS) (M : mS) (v5 : Int32) (v6 : Int32) (v7 : Int32), I n u G M v5 v6 v7 → nb_L_act_393 D b a0 a1 c2 post (fun u G M v5 v6 v7 => ∃ k, k < n ∧ I k u G M v5 v6 v7) u G M v5 v6 v7
def nb_L_act_378 (D : va_G) (b : uS) (a0 : Nat) (a1 : Nat) (c2 : Int32) (post : gS → mS → Int32 → Prop) (u : uS) (G : gS) (M : mS) (s0 : Int32) (s1 : Int32) (s2 : Int32) : Prop := q_ca b u (fun v => n_L_below D v G M s1 s2) (fun u3 G1 M2 r4 => p_bd ((s0 + r4)) (fun x5 => q_ca b u3 (fun v => n_X10_dark v G1 M2 a1) (fun u8 G6 M7 r9 => nl_L_act_393 D b a0 a1 c2 post u8 G6 M7 x5 r9 ((0 : Int32)))))
def nb_L_act_355 (D : va_G) (b : uS) (a0 : Nat) (a1 : Nat) (c2 : Int32) (post : gS → mS → Int32 → Prop) (u : uS) (G : gS) (M : mS) (s0 : Int32) : Prop := p_ck (s0 = 0 ∨ s0 = 1) (post G M s0)
def nb_L_act_283 (D : va_G) (b : uS) (a0 : Nat) (a1 : Nat) (c2 : Int32) (post : gS → mS → Int32 → Prop) (u : uS) (G : gS) (M : mS) (s0 : Int32) : Prop := p_ck (s0 = 0 ∨ s0 = 1) (post G M s0)
def nb_L_act_275 (D : va_G) (b : uS) (a0 : Nat) (a1 : Nat) (c2 : Int32) (post : gS → mS → Int32 → Prop) (u : uS) (G : gS) (M : mS) (s0 : Int32) (s1 : Int32) : Prop := p_if (s0 = s1) (nb_L_act_283 D b a0 a1 c2 post u G M ((1 : Int32))) (nb_L_act_283 D b a0 a1 c2 post u G M ((0 : Int32)))
def nb_L_act_246 (D : va_G) (b : uS) (a0 : Nat) (a1 : Nat) (c2 : Int32) (post : gS → mS → Int32 → Prop) (u : uS) (G : gS) (M : mS) (s0 : Int32) : Prop := p_ck (s0 = 0 ∨ s0 = 1) (post G M s0)
def nb_L_act_200 (D : va_G) (b : uS) (a0 : Nat) (a1 : Nat) (c2 : Int32) (post : gS → mS → Int32 → Prop) (u : uS) (G : gS) (M : mS) (s0 : Int32) : Prop := p_ck (s0 = 0 ∨ s0 = 1) (post G M s0)
def nb_L_act_143 (D : va_G) (b : uS) (a0 : Nat) (a1 : Nat) (c2 : Int32) (post : gS → mS → Int32 → Prop) (u : uS) (G : gS) (M : mS) (s0 : Int32) : Prop := p_ck (s0 = 0 ∨ s0 = 1) (post G M s0)
def n_L_act (D : va_G) (b : uS) (G : gS) (M : mS) (a0 : Nat) (a1 : Nat) (c2 : Int32) (post : gS → mS → Int32 → Prop) : Prop := p_rf (gP G a1 6) (fun q1 => q_ca b (0, 0) (fun v => n_L_below D v G M (c2 >>> ((3 : Int32) &&& 31)) (Int32.ofNat (gN G q1))) (fun u4 G2 M3 r5 => p_rf (gP G2 a1 6) (fun q6 => p_ix r5 (gN G2 q6) (p_rf (gP G2 q6 (Int32.toNatClampNeg r5)) (fun q8 => q_ca b u4 (fun v => n_L_below D v G2 M3 c2 (9 : Int32)) (fun u11 G9 M10 r12 => p_if (r12 = 0) (q_ca b u11 (fun v => n_L_below D v G9 M10 (c2 >>> ((4 : Int32) &&& 31)) (64 : Int32)) (fun u16 G14 M15 r17 => q_ca b u16 (fun v => n_L_below D v G14 M15 (c2 >>> ((6 : Int32) &&& 31)) (14 : Int32)) (fun u20 G18 M19 r21 => p_bd (((26 : Int32) + r21)) (fun x22 => p_rf (gP G18 a1 5) (fun q23 => p_ix x22 (gN G18 q23) (p_rf (gP G18 q23 (Int32.toNatClampNeg x22)) (fun q25 => p_ix r17 (gN G18 q25) (p_bd ((mI M19 q25 (Int32.toNatClampNeg r17))) (fun x27 => p_rf (gP G18 a1 5) (fun q28 => p_ix x22 (gN G18 q28) (p_rf (gP G18 q28 (Int32.toNatClampNeg x22)) (fun q30 => q_ca b u20 (fun v => n_L_below D v G18 M19 (c2 >>> ((8 : Int32) &&& 31)) (6 : Int32)) (fun u33 G31 M32 r34 => p_ix r17 (gN G31 q30) (p_wI M32 q30 (Int32.toNatClampNeg r17) r34 (fun M36 => p_rf (gP G31 a1 5) (fun q37 => p_ix x22 (gN G31 q37) (p_rf (gP G31 q37 (Int32.toNatClampNeg x22)) (fun q39 => p_ix r17 (gN G31 q39) (p_cl (m_X9_paint G31 M36 a0 r17 x22 (mI M36 q39 (Int32.toNatClampNeg r17))) (fun M41 r42 => p_if (r42 = x27) (nb_L_act_143 D b a0 a1 c2 post u33 G31 M41 ((1 : Int32))) (nb_L_act_143 D b a0 a1 c2 post u33 G31 M41 ((0 : Int32))))))))))))))))))))))) (p_if (r12 = 1) (q_ca b u11 (fun v => n_L_below D v G9 M10 (c2 >>> ((4 : Int32) &&& 31)) (30 : Int32)) (fun u48 G46 M47 r49 => p_bd (((20 : Int32) + r49)) (fun x50 => q_ca b u48 (fun v => n_L_below D v G46 M47 (c2 >>> ((7 : Int32) &&& 31)) (12 : Int32)) (fun u53 G51 M52 r54 => p_bd ((if (x50 + r54) < (63 : Int32) then (x50 + r54) else (63 : Int32))) (fun x55 => p_cl (m_X9_wash G51 M52 a0 x50 x55) (fun M56 r57 => q_ca b u53 (fun v => n_X10_wash v G51 M56 a1 x50 x55) (fun u61 G59 M60 r62 => p_if (r57 = r62) (nb_L_act_200 D b a0 a1 c2 post u61 G59 M60 ((1 : Int32))) (nb_L_act_200 D b a0 a1 c2 post u61 G59 M60 ((0 : Int32)))))))))) (p_if (r12 = 2) (p_ix (3 : Int32) (gN G9 q8) (p_bd ((mI M10 q8 (Int32.toNatClampNeg (3 : Int32)))) (fun x66 => q_ca b u11 (fun v => n_L_below D v G9 M10 (c2 >>> ((5 : Int32) &&& 31)) (4 : Int32)) (fun u69 G67 M68 r70 => p_ix (3 : Int32) (gN G67 q8) (p_wI M68 q8 (Int32.toNatClampNeg (3 : Int32)) r70 (fun M72 => p_rf (gP G67 a1 7) (fun q73 => q_na b u69 G67 M72 12 (0 : Int32) (fun q74 u77 G75 M76 => p_ix r5 (gN G75 q73) (p_sR G75 q73 (Int32.toNatClampNeg r5) q74 (fun G78 => p_ix (3 : Int32) (gN G78 q8) (p_cl (m_X9_face G78 M76 a0 r5 (mI M76 q8 (Int32.toNatClampNeg (3 : Int32)))) (fun M80 r81 => p_if (r81 = x66) (nb_L_act_246 D b a0 a1 c2 post u77 G78 M80 ((1 : Int32))) (nb_L_act_246 D b a0 a1 c2 post u77 G78 M80 ((0 : Int32))))))))))))))) (p_if (r12 = 3) (p_ix (4 : Int32) (gN G9 q8) (p_ix (4 : Int32) (gN G9 q8) (p_wI M10 q8 (Int32.toNatClampNeg (4 : Int32)) ((1 : Int32) - (mI M10 q8 (Int32.toNatClampNeg (4 : Int32)))) (fun M87 => p_cl (m_X9_halt G9 M87 a0 r5) (fun M88 r89 => p_ix (4 : Int32) (gN G9 q8) (p_if ((mI M88 q8 (Int32.toNatClampNeg (4 : Int32))) = (1 : Int32)) (nb_L_act_275 D b a0 a1 c2 post u11 G9 M88 r89 ((1 : Int32))) (nb_L_act_275 D b a0 a1 c2 post u11 G9 M88 r89 ((0 : Int32))))))))) (p_if (r12 = 4) (p_ix (2 : Int32) (gN G9 q8) (p_ix (1 : Int32) (gN G9 q8) (p_bd ((((64 : Int32) * (mI M10 q8 (Int32.toNatClampNeg (2 : Int32)))) + (mI M10 q8 (Int32.toNatClampNeg (1 : Int32))))) (fun x96 => q_ca b u11 (fun v => n_L_below D v G9 M10 (c2 >>> ((4 : Int32) &&& 31)) (64 : Int32)) (fun u99 G97 M98 r100 => p_ix (1 : Int32) (gN G97 q8) (p_wI M98 q8 (Int32.toNatClampNeg (1 : Int32)) r100 (fun M102 => q_ca b u99 (fun v => n_L_below D v G97 M102 (c2 >>> ((6 : Int32) &&& 31)) (64 : Int32)) (fun u105 G103 M104 r106 => p_ix (2 : Int32) (gN G103 q8) (p_wI M104 q8 (Int32.toNatClampNeg (2 : Int32)) r106 (fun M108 => p_rf (gP G103 a1 7) (fun q109 => q_na b u105 G103 M108 12 (0 : Int32) (fun q110 u113 G111 M112 => p_ix r5 (gN G111 q109) (p_sR G111 q109 (Int32.toNatClampNeg r5) q110 (fun G114 => p_ix (1 : Int32) (gN G114 q8) (p_ix (2 : Int32) (gN G114 q8) (p_cl (m_X9_place G114 M112 a0 r5 (mI M112 q8 (Int32.toNatClampNeg (1 : Int32))) (mI M112 q8 (Int32.toNatClampNeg (2 : Int32)))) (fun M117 r118 => p_if (r118 = x96) (nb_L_act_355 D b a0 a1 c2 post u113 G114 M117 ((1 : Int32))) (nb_L_act_355 D b a0 a1 c2 post u113 G114 M117 ((0 : Int32)))))))))))))))))))) (q_ca b u11 (fun v => n_L_below D v G9 M10 (c2 >>> ((8 : Int32) &&& 31)) (3 : Int32)) (fun u123 G121 M122 r124 => p_if (r124 = 0) (nb_L_act_378 D b a0 a1 c2 post u123 G121 M122 ((1 : Int32)) ((c2 >>> ((4 : Int32) &&& 31))) ((60 : Int32))) (nb_L_act_378 D b a0 a1 c2 post u123 G121 M122 ((1 : Int32)) ((c2 >>> ((4 : Int32) &&& 31))) ((9 : Int32)))))))))))))))
set_option maxHeartbeats 4000000 in
set_option maxRecDepth 100000 in
theorem bn_L_act_431 {p : Program} {l : Launch} {e : Env} {s : State} {m : MethodId} {args : Array Value} {below : List Frame} {meth : Method} {c : Code} {D : va_G} {cy : cyS} {b : uS} {G0 : gS} {sz : Nat} (hnm : meth.name = yL_act.name)  {a0 : Nat} {a1 : Nat} {c2 : Int32} {post : gS → mS → Int32 → Prop} : ∀ (u : uS) (G : gS) (M : mS) (s0 : Int32) (H : Heap) (locs : List Loc) (ls : Array Slot), a0 ∈ gL G → gK G a0 = 8 → a1 ∈ gL G → gK G a1 = 9 → ext G0 G → uL u b → nb_L_act_431 D b a0 a1 c2 post u G M s0 → cX p s m args meth c cL_act RL 8 (some .boolean) wsL_act D cy G (pA G0 sz) → wd D cy G M (pA G0 sz) s.heap H locs → lv_has ls 8 [] → W p l e (rnL_act b) s m args below meth c H locs u.1 u.2 (MQ below (va_Qi (fun (r : Int32) (u : gS × mS) => post u.1 u.2 r) (fun u t => va_P D vwCl (pl cy u.1 u.2) t.heap ∧ va_D (pA G0 sz) (pl cy u.1 u.2) ∧ wt u.1 ∧ ext G0 u.1) (pA G0 sz)) args s b.1 b.2 (pA G0 sz)) (F0 m 431 ls [.int s0]) := by
  intro u G M s0 H locs ls hL0 hK0 hL1 hK1 hext hu h cx w hl
  unfold nb_L_act_431 at h
  obtain ⟨hx, hb, hml, hown, hts, hr, hlocks, hK, hA, hG, hsx⟩ := id cx
  have hR : (rnL_act b).cells = b.1 ∧ (rnL_act b).slots = b.2 := ⟨rfl, rfl⟩
  obtain ⟨z1, h⟩ := w_ck h
  exact rb_nret (z_nar z1) h cx w hext hu dL_act_431
set_option maxHeartbeats 4000000 in
set_option maxRecDepth 100000 in
theorem bn_L_act_393 {p : Program} {l : Launch} {e : Env} {s : State} {m : MethodId} {args : Array Value} {below : List Frame} {meth : Method} {c : Code} {D : va_G} {cy : cyS} {b : uS} {G0 : gS} {sz : Nat} (hnm : meth.name = yL_act.name)  {a0 : Nat} {a1 : Nat} {c2 : Int32} {post : gS → mS → Int32 → Prop} : ∀ (u : uS) (G : gS) (M : mS) (v5 : Int32) (v6 : Int32) (v7 : Int32) (H : Heap) (locs : List Loc) (ls : Array Slot), a0 ∈ gL G → gK G a0 = 8 → a1 ∈ gL G → gK G a1 = 9 → ext G0 G → uL u b → nl_L_act_393 D b a0 a1 c2 post u G M v5 v6 v7 → cX p s m args meth c cL_act RL 8 (some .boolean) wsL_act D cy G (pA G0 sz) → wd D cy G M (pA G0 sz) s.heap H locs → lv_has ls 8 [(0, .ref a0), (1, .ref a1), (5, .int v5), (6, .int v6), (7, .int v7)] → W p l e (rnL_act b) s m args below meth c H locs u.1 u.2 (MQ below (va_Qi (fun (r : Int32) (u : gS × mS) => post u.1 u.2 r) (fun u t => va_P D vwCl (pl cy u.1 u.2) t.heap ∧ va_D (pA G0 sz) (pl cy u.1 u.2) ∧ wt u.1 ∧ ext G0 u.1) (pA G0 sz)) args s b.1 b.2 (pA G0 sz)) (F0 m 393 ls []) := by
  intro u G M v5 v6 v7 H locs ls hL0 hK0 hL1 hK1 hext hu h cx w hl
  obtain ⟨I, n, hI, hB⟩ := h
  have key : ∀ n : Nat, ∀ (u : uS) (G : gS) (M : mS) (v5 : Int32) (v6 : Int32) (v7 : Int32) (H : Heap) (locs : List Loc) (ls : Array Slot), a0 ∈ gL G → gK G a0 = 8 → a1 ∈ gL G → gK G a1 = 9 → ext G0 G → uL u b → I n u G M v5 v6 v7 → cX p s m args meth c cL_act RL 8 (some .boolean) wsL_act D cy G (pA G0 sz) → wd D cy G M (pA G0 sz) s.heap H locs → lv_has ls 8 [(0, .ref a0), (1, .ref a1), (5, .int v5), (6, .int v6), (7, .int v7)] → W p l e (rnL_act b) s m args below meth c H locs u.1 u.2 (MQ below (va_Qi (fun (r : Int32) (u : gS × mS) => post u.1 u.2 r) (fun u t => va_P D vwCl (pl cy u.1 u.2) t.heap ∧ va_D (pA G0 sz) (pl cy u.1 u.2) ∧ wt u.1 ∧ ext G0 u.1) (pA G0 sz)) args s b.1 b.2 (pA G0 sz)) (F0 m 393 ls []) := by
    intro n
    induction n using Nat.strongRecOn with
    | ind n ih =>
      intro u G M v5 v6 v7 H locs ls hL0 hK0 hL1 hK1 hext hu hI cx w hl
      have h := hB n u G M v5 v6 v7 hI
      unfold nb_L_act_393 at h
      obtain ⟨hx, hb, hml, hown, hts, hr, hlocks, hK, hA, hG, hsx⟩ := id cx
      have hR : (rnL_act b).cells = b.1 ∧ (rnL_act b).slots = b.2 := ⟨rfl, rfl⟩
      refine lv_iload hx hb dL_act_393 (lv_at hl 4 rfl) ?_
      refine lv_iload hx hb dL_act_395 (lv_at hl 2 rfl) ?_
      refine lv_icmp_ge (tgt := 410) hx hb dL_act_397 (by decide) (fun k1 => ?_) (fun k1 => ?_)
      · have h := w_t h k1
        refine lv_aload_n hx hb dL_act_410 rfl (lv_at hl 0 rfl) ?_
        refine lv_iload hx hb dL_act_411 (lv_at hl 2 rfl) ?_
        obtain ⟨M2, r3, y4, h⟩ := w_cl h
        refine r_callVi (As := [.int v5]) (rest := []) cx w hu hl.1 (k_X9_pass hG hL0 hK0 y4) (cwV 1 hts gL_act_X9_pass rfl rfl rfl (by decide +kernel) ⟨(Nat.le_of_ble_eq_true rfl), (Nat.le_of_ble_eq_true rfl)⟩) hL0 hK0 (by decide) rfl rfl rfl (Nat.le_of_ble_eq_true rfl) dL_act_413 (fun H locs w => ?_)
        refine lv_aload_n hx hb dL_act_416 rfl (lv_at hl 1 rfl) ?_
        refine rb_VI (b := b) (u := u) (rf := 1) (rl := 26) (As := []) (rest := [.int r3]) cx w hR hl.1 h (fun h => kn_X10_dark hG hL1 hK1 h) (fun v => cwV 0 hts gL_act_X10_dark rfl rfl rfl (by decide +kernel) ⟨(Nat.le_of_ble_eq_true rfl), (Nat.le_of_ble_eq_true rfl)⟩) hL1 hK1 (by decide) rfl rfl rfl (Nat.le_of_ble_eq_true rfl) dL_act_417 (fun u7 G5 M6 r8 H locs h hu xe cx w => ?_)
        obtain ⟨hL0, hK0⟩ := ext_wt xe hL0 hK0
        obtain ⟨hL1, hK1⟩ := ext_wt xe hL1 hK1
        have hext := ext_tr hext xe
        clear xe
        have hG := cX_wt cx
        refine lv_iload hx hb dL_act_420 (lv_at hl 3 rfl) ?_
        refine lv_isub hx hb dL_act_422 ?_
        refine lv_icmp_ne (tgt := 430) hx hb dL_act_423 (by decide) (fun k9 => ?_) (fun k9 => ?_)
        · have h := w_f h k9
          refine lv_iconst (v := (0 : Int32)) hx hb dL_act_430 (by decide) ?_
          exact bn_L_act_431 hnm u7 G5 M6 ((0 : Int32)) H locs ls hL0 hK0 hL1 hK1 hext hu h cx w (lv_sub hl [] rfl)
        · have h := w_t h k9
          refine lv_iconst (v := (1 : Int32)) hx hb dL_act_426 (by decide) ?_
          refine lv_goto (tgt := 431) hx hb dL_act_427 (by decide) ?_
          exact bn_L_act_431 hnm u7 G5 M6 ((1 : Int32)) H locs ls hL0 hK0 hL1 hK1 hext hu h cx w (lv_sub hl [] rfl)
      · have h := w_f h k1
        refine lv_aload_n hx hb dL_act_400 rfl (lv_at hl 1 rfl) ?_
        refine rb_VV (b := b) (u := u) (rf := 3) (rl := 74) (As := []) (rest := []) cx w hR hl.1 h (fun h => kn_X10_go hG hL1 hK1 h) (fun v => cwV 0 hts gL_act_X10_go rfl rfl rfl (by decide +kernel) ⟨(Nat.le_of_ble_eq_true rfl), (Nat.le_of_ble_eq_true rfl)⟩) hL1 hK1 (by decide) rfl rfl rfl (Nat.le_of_ble_eq_true rfl) dL_act_401 (fun u12 G10 M11 r13 H locs h hu xe cx w => ?_)
        obtain ⟨hL0, hK0⟩ := ext_wt xe hL0 hK0
        obtain ⟨hL1, hK1⟩ := ext_wt xe hL1 hK1
        have hext := ext_tr hext xe
        clear xe
        have hG := cX_wt cx
        obtain ⟨x14, ex14, h⟩ := w_bd h
        refine lv_iinc (v := x14) (lv' := [(7, .int x14), (0, .ref a0), (1, .ref a1), (5, .int v5), (6, .int v6)]) hx hb dL_act_404 hl (k := 4) rfl (by rw [ex14]; rfl) (by decide) rfl (fun ls hl => ?_)
        refine lv_goto (tgt := 393) hx hb dL_act_407 (by decide) ?_
        obtain ⟨k, hk, hI⟩ := h
        exact ih k hk u12 G10 M11 v5 v6 x14 H locs ls hL0 hK0 hL1 hK1 hext hu hI cx w (lv_sub hl [1, 2, 3, 4, 0] rfl)
  exact key n u G M v5 v6 v7 H locs ls hL0 hK0 hL1 hK1 hext hu hI cx w hl
set_option maxHeartbeats 4000000 in
set_option maxRecDepth 100000 in
theorem bn_L_act_378 {p : Program} {l : Launch} {e : Env} {s : State} {m : MethodId} {args : Array Value} {below : List Frame} {meth : Method} {c : Code} {D : va_G} {cy : cyS} {b : uS} {G0 : gS} {sz : Nat} (hnm : meth.name = yL_act.name)  {a0 : Nat} {a1 : Nat} {c2 : Int32} {post : gS → mS → Int32 → Prop} : ∀ (u : uS) (G : gS) (M : mS) (s0 : Int32) (s1 : Int32) (s2 : Int32) (H : Heap) (locs : List Loc) (ls : Array Slot), a0 ∈ gL G → gK G a0 = 8 → a1 ∈ gL G → gK G a1 = 9 → ext G0 G → uL u b → nb_L_act_378 D b a0 a1 c2 post u G M s0 s1 s2 → cX p s m args meth c cL_act RL 8 (some .boolean) wsL_act D cy G (pA G0 sz) → wd D cy G M (pA G0 sz) s.heap H locs → lv_has ls 8 [(0, .ref a0), (1, .ref a1)] → W p l e (rnL_act b) s m args below meth c H locs u.1 u.2 (MQ below (va_Qi (fun (r : Int32) (u : gS × mS) => post u.1 u.2 r) (fun u t => va_P D vwCl (pl cy u.1 u.2) t.heap ∧ va_D (pA G0 sz) (pl cy u.1 u.2) ∧ wt u.1 ∧ ext G0 u.1) (pA G0 sz)) args s b.1 b.2 (pA G0 sz)) (F0 m 378 ls [.int s2, .int s1, .int s0]) := by
  intro u G M s0 s1 s2 H locs ls hL0 hK0 hL1 hK1 hext hu h cx w hl
  unfold nb_L_act_378 at h
  obtain ⟨hx, hb, hml, hown, hts, hr, hlocks, hK, hA, hG, hsx⟩ := id cx
  have hR : (rnL_act b).cells = b.1 ∧ (rnL_act b).slots = b.2 := ⟨rfl, rfl⟩
  refine rb_SI (b := b) (u := u) (rf := 0) (rl := 0) (As := [.int s1, .int s2]) (rest := [.int s0]) cx w hR hl.1 h (fun h => kn_L_below hG h) (fun v => va_cwS 2 hts gL_act_L_below rfl rfl rfl (by decide +kernel) ⟨(Nat.le_of_ble_eq_true rfl), (Nat.le_of_ble_eq_true rfl)⟩) rfl rfl (Nat.le_of_ble_eq_true rfl) dL_act_378 (fun u3 G1 M2 r4 H locs h hu xe cx w => ?_)
  obtain ⟨hL0, hK0⟩ := ext_wt xe hL0 hK0
  obtain ⟨hL1, hK1⟩ := ext_wt xe hL1 hK1
  have hext := ext_tr hext xe
  clear xe
  have hG := cX_wt cx
  refine lv_iadd hx hb dL_act_381 ?_
  obtain ⟨x5, ex5, h⟩ := w_bd h
  refine r_topI ex5 ?_
  refine lv_istore (lv' := [(5, .int x5), (0, .ref a0), (1, .ref a1)]) hx hb dL_act_382 hl (by decide) rfl (fun ls hl => ?_)
  refine lv_aload_n hx hb dL_act_384 rfl (lv_at hl 2 rfl) ?_
  refine rb_VI (b := b) (u := u3) (rf := 1) (rl := 26) (As := []) (rest := []) cx w hR hl.1 h (fun h => kn_X10_dark hG hL1 hK1 h) (fun v => cwV 0 hts gL_act_X10_dark rfl rfl rfl (by decide +kernel) ⟨(Nat.le_of_ble_eq_true rfl), (Nat.le_of_ble_eq_true rfl)⟩) hL1 hK1 (by decide) rfl rfl rfl (Nat.le_of_ble_eq_true rfl) dL_act_385 (fun u8 G6 M7 r9 H locs h hu xe cx w => ?_)
  obtain ⟨hL0, hK0⟩ := ext_wt xe hL0 hK0
  obtain ⟨hL1, hK1⟩ := ext_wt xe hL1 hK1
  have hext := ext_tr hext xe
  clear xe
  have hG := cX_wt cx
  refine lv_istore (lv' := [(6, .int r9), (5, .int x5), (0, .ref a0), (1, .ref a1)]) hx hb dL_act_388 hl (by decide) rfl (fun ls hl => ?_)
  refine lv_iconst (v := (0 : Int32)) hx hb dL_act_390 (by decide) ?_
  refine lv_istore (lv' := [(7, .int ((0 : Int32))), (6, .int r9), (5, .int x5), (0, .ref a0), (1, .ref a1)]) hx hb dL_act_391 hl (by decide) rfl (fun ls hl => ?_)
  exact bn_L_act_393 hnm u8 G6 M7 x5 r9 ((0 : Int32)) H locs ls hL0 hK0 hL1 hK1 hext hu h cx w (lv_sub hl [3, 4, 2, 1, 0] rfl)
set_option maxHeartbeats 4000000 in
set_option maxRecDepth 100000 in
theorem bn_L_act_355 {p : Program} {l : Launch} {e : Env} {s : State} {m : MethodId} {args : Array Value} {below : List Frame} {meth : Method} {c : Code} {D : va_G} {cy : cyS} {b : uS} {G0 : gS} {sz : Nat} (hnm : meth.name = yL_act.name)  {a0 : Nat} {a1 : Nat} {c2 : Int32} {post : gS → mS → Int32 → Prop} : ∀ (u : uS) (G : gS) (M : mS) (s0 : Int32) (H : Heap) (locs : List Loc) (ls : Array Slot), a0 ∈ gL G → gK G a0 = 8 → a1 ∈ gL G → gK G a1 = 9 → ext G0 G → uL u b → nb_L_act_355 D b a0 a1 c2 post u G M s0 → cX p s m args meth c cL_act RL 8 (some .boolean) wsL_act D cy G (pA G0 sz) → wd D cy G M (pA G0 sz) s.heap H locs → lv_has ls 8 [] → W p l e (rnL_act b) s m args below meth c H locs u.1 u.2 (MQ below (va_Qi (fun (r : Int32) (u : gS × mS) => post u.1 u.2 r) (fun u t => va_P D vwCl (pl cy u.1 u.2) t.heap ∧ va_D (pA G0 sz) (pl cy u.1 u.2) ∧ wt u.1 ∧ ext G0 u.1) (pA G0 sz)) args s b.1 b.2 (pA G0 sz)) (F0 m 355 ls [.int s0]) := by
  intro u G M s0 H locs ls hL0 hK0 hL1 hK1 hext hu h cx w hl
  unfold nb_L_act_355 at h
  obtain ⟨hx, hb, hml, hown, hts, hr, hlocks, hK, hA, hG, hsx⟩ := id cx
  have hR : (rnL_act b).cells = b.1 ∧ (rnL_act b).slots = b.2 := ⟨rfl, rfl⟩
  obtain ⟨z1, h⟩ := w_ck h
  exact rb_nret (z_nar z1) h cx w hext hu dL_act_355
set_option maxHeartbeats 4000000 in
set_option maxRecDepth 100000 in
theorem bn_L_act_283 {p : Program} {l : Launch} {e : Env} {s : State} {m : MethodId} {args : Array Value} {below : List Frame} {meth : Method} {c : Code} {D : va_G} {cy : cyS} {b : uS} {G0 : gS} {sz : Nat} (hnm : meth.name = yL_act.name)  {a0 : Nat} {a1 : Nat} {c2 : Int32} {post : gS → mS → Int32 → Prop} : ∀ (u : uS) (G : gS) (M : mS) (s0 : Int32) (H : Heap) (locs : List Loc) (ls : Array Slot), a0 ∈ gL G → gK G a0 = 8 → a1 ∈ gL G → gK G a1 = 9 → ext G0 G → uL u b → nb_L_act_283 D b a0 a1 c2 post u G M s0 → cX p s m args meth c cL_act RL 8 (some .boolean) wsL_act D cy G (pA G0 sz) → wd D cy G M (pA G0 sz) s.heap H locs → lv_has ls 8 [] → W p l e (rnL_act b) s m args below meth c H locs u.1 u.2 (MQ below (va_Qi (fun (r : Int32) (u : gS × mS) => post u.1 u.2 r) (fun u t => va_P D vwCl (pl cy u.1 u.2) t.heap ∧ va_D (pA G0 sz) (pl cy u.1 u.2) ∧ wt u.1 ∧ ext G0 u.1) (pA G0 sz)) args s b.1 b.2 (pA G0 sz)) (F0 m 283 ls [.int s0]) := by
  intro u G M s0 H locs ls hL0 hK0 hL1 hK1 hext hu h cx w hl
  unfold nb_L_act_283 at h
  obtain ⟨hx, hb, hml, hown, hts, hr, hlocks, hK, hA, hG, hsx⟩ := id cx
  have hR : (rnL_act b).cells = b.1 ∧ (rnL_act b).slots = b.2 := ⟨rfl, rfl⟩
  obtain ⟨z1, h⟩ := w_ck h
  exact rb_nret (z_nar z1) h cx w hext hu dL_act_283
set_option maxHeartbeats 4000000 in
set_option maxRecDepth 100000 in
theorem bn_L_act_275 {p : Program} {l : Launch} {e : Env} {s : State} {m : MethodId} {args : Array Value} {below : List Frame} {meth : Method} {c : Code} {D : va_G} {cy : cyS} {b : uS} {G0 : gS} {sz : Nat} (hnm : meth.name = yL_act.name)  {a0 : Nat} {a1 : Nat} {c2 : Int32} {post : gS → mS → Int32 → Prop} : ∀ (u : uS) (G : gS) (M : mS) (s0 : Int32) (s1 : Int32) (H : Heap) (locs : List Loc) (ls : Array Slot), a0 ∈ gL G → gK G a0 = 8 → a1 ∈ gL G → gK G a1 = 9 → ext G0 G → uL u b → nb_L_act_275 D b a0 a1 c2 post u G M s0 s1 → cX p s m args meth c cL_act RL 8 (some .boolean) wsL_act D cy G (pA G0 sz) → wd D cy G M (pA G0 sz) s.heap H locs → lv_has ls 8 [] → W p l e (rnL_act b) s m args below meth c H locs u.1 u.2 (MQ below (va_Qi (fun (r : Int32) (u : gS × mS) => post u.1 u.2 r) (fun u t => va_P D vwCl (pl cy u.1 u.2) t.heap ∧ va_D (pA G0 sz) (pl cy u.1 u.2) ∧ wt u.1 ∧ ext G0 u.1) (pA G0 sz)) args s b.1 b.2 (pA G0 sz)) (F0 m 275 ls [.int s1, .int s0]) := by
  intro u G M s0 s1 H locs ls hL0 hK0 hL1 hK1 hext hu h cx w hl
  unfold nb_L_act_275 at h
  obtain ⟨hx, hb, hml, hown, hts, hr, hlocks, hK, hA, hG, hsx⟩ := id cx
  have hR : (rnL_act b).cells = b.1 ∧ (rnL_act b).slots = b.2 := ⟨rfl, rfl⟩
  refine lv_icmp_ne (tgt := 282) hx hb dL_act_275 (by decide) (fun k1 => ?_) (fun k1 => ?_)
  · have h := w_f h k1
    refine lv_iconst (v := (0 : Int32)) hx hb dL_act_282 (by decide) ?_
    exact bn_L_act_283 hnm u G M ((0 : Int32)) H locs ls hL0 hK0 hL1 hK1 hext hu h cx w (lv_sub hl [] rfl)
  · have h := w_t h k1
    refine lv_iconst (v := (1 : Int32)) hx hb dL_act_278 (by decide) ?_
    refine lv_goto (tgt := 283) hx hb dL_act_279 (by decide) ?_
    exact bn_L_act_283 hnm u G M ((1 : Int32)) H locs ls hL0 hK0 hL1 hK1 hext hu h cx w (lv_sub hl [] rfl)
set_option maxHeartbeats 4000000 in
set_option maxRecDepth 100000 in
theorem bn_L_act_246 {p : Program} {l : Launch} {e : Env} {s : State} {m : MethodId} {args : Array Value} {below : List Frame} {meth : Method} {c : Code} {D : va_G} {cy : cyS} {b : uS} {G0 : gS} {sz : Nat} (hnm : meth.name = yL_act.name)  {a0 : Nat} {a1 : Nat} {c2 : Int32} {post : gS → mS → Int32 → Prop} : ∀ (u : uS) (G : gS) (M : mS) (s0 : Int32) (H : Heap) (locs : List Loc) (ls : Array Slot), a0 ∈ gL G → gK G a0 = 8 → a1 ∈ gL G → gK G a1 = 9 → ext G0 G → uL u b → nb_L_act_246 D b a0 a1 c2 post u G M s0 → cX p s m args meth c cL_act RL 8 (some .boolean) wsL_act D cy G (pA G0 sz) → wd D cy G M (pA G0 sz) s.heap H locs → lv_has ls 8 [] → W p l e (rnL_act b) s m args below meth c H locs u.1 u.2 (MQ below (va_Qi (fun (r : Int32) (u : gS × mS) => post u.1 u.2 r) (fun u t => va_P D vwCl (pl cy u.1 u.2) t.heap ∧ va_D (pA G0 sz) (pl cy u.1 u.2) ∧ wt u.1 ∧ ext G0 u.1) (pA G0 sz)) args s b.1 b.2 (pA G0 sz)) (F0 m 246 ls [.int s0]) := by
  intro u G M s0 H locs ls hL0 hK0 hL1 hK1 hext hu h cx w hl
  unfold nb_L_act_246 at h
  obtain ⟨hx, hb, hml, hown, hts, hr, hlocks, hK, hA, hG, hsx⟩ := id cx
  have hR : (rnL_act b).cells = b.1 ∧ (rnL_act b).slots = b.2 := ⟨rfl, rfl⟩
  obtain ⟨z1, h⟩ := w_ck h
  exact rb_nret (z_nar z1) h cx w hext hu dL_act_246
set_option maxHeartbeats 4000000 in
set_option maxRecDepth 100000 in
theorem bn_L_act_200 {p : Program} {l : Launch} {e : Env} {s : State} {m : MethodId} {args : Array Value} {below : List Frame} {meth : Method} {c : Code} {D : va_G} {cy : cyS} {b : uS} {G0 : gS} {sz : Nat} (hnm : meth.name = yL_act.name)  {a0 : Nat} {a1 : Nat} {c2 : Int32} {post : gS → mS → Int32 → Prop} : ∀ (u : uS) (G : gS) (M : mS) (s0 : Int32) (H : Heap) (locs : List Loc) (ls : Array Slot), a0 ∈ gL G → gK G a0 = 8 → a1 ∈ gL G → gK G a1 = 9 → ext G0 G → uL u b → nb_L_act_200 D b a0 a1 c2 post u G M s0 → cX p s m args meth c cL_act RL 8 (some .boolean) wsL_act D cy G (pA G0 sz) → wd D cy G M (pA G0 sz) s.heap H locs → lv_has ls 8 [] → W p l e (rnL_act b) s m args below meth c H locs u.1 u.2 (MQ below (va_Qi (fun (r : Int32) (u : gS × mS) => post u.1 u.2 r) (fun u t => va_P D vwCl (pl cy u.1 u.2) t.heap ∧ va_D (pA G0 sz) (pl cy u.1 u.2) ∧ wt u.1 ∧ ext G0 u.1) (pA G0 sz)) args s b.1 b.2 (pA G0 sz)) (F0 m 200 ls [.int s0]) := by
  intro u G M s0 H locs ls hL0 hK0 hL1 hK1 hext hu h cx w hl
  unfold nb_L_act_200 at h
  obtain ⟨hx, hb, hml, hown, hts, hr, hlocks, hK, hA, hG, hsx⟩ := id cx
  have hR : (rnL_act b).cells = b.1 ∧ (rnL_act b).slots = b.2 := ⟨rfl, rfl⟩
  obtain ⟨z1, h⟩ := w_ck h
  exact rb_nret (z_nar z1) h cx w hext hu dL_act_200
set_option maxHeartbeats 4000000 in
set_option maxRecDepth 100000 in
theorem bn_L_act_143 {p : Program} {l : Launch} {e : Env} {s : State} {m : MethodId} {args : Array Value} {below : List Frame} {meth : Method} {c : Code} {D : va_G} {cy : cyS} {b : uS} {G0 : gS} {sz : Nat} (hnm : meth.name = yL_act.name)  {a0 : Nat} {a1 : Nat} {c2 : Int32} {post : gS → mS → Int32 → Prop} : ∀ (u : uS) (G : gS) (M : mS) (s0 : Int32) (H : Heap) (locs : List Loc) (ls : Array Slot), a0 ∈ gL G → gK G a0 = 8 → a1 ∈ gL G → gK G a1 = 9 → ext G0 G → uL u b → nb_L_act_143 D b a0 a1 c2 post u G M s0 → cX p s m args meth c cL_act RL 8 (some .boolean) wsL_act D cy G (pA G0 sz) → wd D cy G M (pA G0 sz) s.heap H locs → lv_has ls 8 [] → W p l e (rnL_act b) s m args below meth c H locs u.1 u.2 (MQ below (va_Qi (fun (r : Int32) (u : gS × mS) => post u.1 u.2 r) (fun u t => va_P D vwCl (pl cy u.1 u.2) t.heap ∧ va_D (pA G0 sz) (pl cy u.1 u.2) ∧ wt u.1 ∧ ext G0 u.1) (pA G0 sz)) args s b.1 b.2 (pA G0 sz)) (F0 m 143 ls [.int s0]) := by
  intro u G M s0 H locs ls hL0 hK0 hL1 hK1 hext hu h cx w hl
  unfold nb_L_act_143 at h
  obtain ⟨hx, hb, hml, hown, hts, hr, hlocks, hK, hA, hG, hsx⟩ := id cx
  have hR : (rnL_act b).cells = b.1 ∧ (rnL_act b).slots = b.2 := ⟨rfl, rfl⟩
  obtain ⟨z1, h⟩ := w_ck h
  exact rb_nret (z_nar z1) h cx w hext hu dL_act_143
set_option maxHeartbeats 4000000 in
set_option maxRecDepth 100000 in
theorem kn_L_act {l : Launch} {D : va_G} {cy : cyS} {G : gS} {M : mS} {b : uS} {a0 : Nat} {a1 : Nat} {c2 : Int32} {post : gS → mS → Int32 → Prop} (hG : wt G) (hL0 : a0 ∈ gL G) (hK0 : gK G a0 = 8) (hL1 : a1 ∈ gL G) (hK1 : gK G a1 = 9) (h : n_L_act D b G M a0 a1 c2 post) : cbI l yL_act wsL_act (rnL_act b) D cy G M [.ref a0, .ref a1, .int c2] b post := by
  unfold n_L_act at h
  refine cbI_of (cc := cL_act) (nL := 8) (ret := (some .boolean)) (lv := [(0, .ref a0), (1, .ref a1), (2, .int c2)]) hG (by decide) rfl (Nat.le_of_ble_eq_true rfl) rfl ?_
  intro p e s m args below meth c sz ls hnm cx w hl
  obtain ⟨hx, hb, hml, hown, hts, hr, hlocks, hK, hA, -, hsx⟩ := id cx
  have hext := ext_rf (G := G)
  have hu : uL (0, 0) b := ⟨Nat.zero_le _, Nat.zero_le _⟩
  have hR : (rnL_act b).cells = b.1 ∧ (rnL_act b).slots = b.2 := ⟨rfl, rfl⟩
  refine lv_iload_n hx hb dL_act_0 rfl (lv_at hl 2 rfl) ?_
  refine lv_iconst (v := (3 : Int32)) hx hb dL_act_1 (by decide) ?_
  refine lv_ishr hx hb dL_act_2 ?_
  refine lv_aload_n hx hb dL_act_3 rfl (lv_at hl 1 rfl) ?_
  obtain ⟨q1, eq1, h⟩ := w_rf h
  obtain ⟨hLq1, hKq1⟩ := wt_q hG hL1 hK1 eq1
  have hKq1 : gK G q1 = 15 := hKq1
  refine r_getR (k := 6) cx w hL1 hK1 (by decide) rfl wb_L_act_X10 (by decide) rfl eq1 (List.mem_of_getElem? (i := 1) rfl) dL_act_4 ?_
  refine r_alen cx w hLq1 hKq1 (by decide) dL_act_7 ?_
  refine rb_SI (b := b) (u := (0, 0)) (rf := 0) (rl := 0) (As := [.int ((c2 >>> ((3 : Int32) &&& 31))), .int ((Int32.ofNat (gN G q1)))]) (rest := []) cx w hR hl.1 h (fun h => kn_L_below hG h) (fun v => va_cwS 2 hts gL_act_L_below rfl rfl rfl (by decide +kernel) ⟨(Nat.le_of_ble_eq_true rfl), (Nat.le_of_ble_eq_true rfl)⟩) rfl rfl (Nat.le_of_ble_eq_true rfl) dL_act_8 (fun u4 G2 M3 r5 H locs h hu xe cx w => ?_)
  obtain ⟨hL0, hK0⟩ := ext_wt xe hL0 hK0
  obtain ⟨hL1, hK1⟩ := ext_wt xe hL1 hK1
  have hext := ext_tr hext xe
  clear xe
  have hG := cX_wt cx
  refine lv_istore_n (lv' := [(3, .int r5), (0, .ref a0), (1, .ref a1), (2, .int c2)]) hx hb dL_act_11 rfl hl (by decide) rfl (fun ls hl => ?_)
  refine lv_aload_n hx hb dL_act_12 rfl (lv_at hl 2 rfl) ?_
  obtain ⟨q6, eq6, h⟩ := w_rf h
  obtain ⟨hLq6, hKq6⟩ := wt_q hG hL1 hK1 eq6
  have hKq6 : gK G2 q6 = 15 := hKq6
  refine r_getR (k := 6) cx w hL1 hK1 (by decide) rfl wb_L_act_X10 (by decide) rfl eq6 (List.mem_of_getElem? (i := 1) rfl) dL_act_13 ?_
  refine lv_iload_n hx hb dL_act_16 rfl (lv_at hl 0 rfl) ?_
  obtain ⟨z7, h⟩ := w_ix h
  obtain ⟨q8, eq8, h⟩ := w_rf h
  obtain ⟨hLq8, hKq8⟩ := wt_q hG hLq6 hKq6 eq8
  have hKq8 : gK G2 q8 = 12 := hKq8
  refine r_aaldA cx w hLq6 hKq6 z7 eq8 dL_act_17 ?_
  refine lv_astore (lv' := [(4, .ref q8), (3, .int r5), (0, .ref a0), (1, .ref a1), (2, .int c2)]) hx hb dL_act_18 hl (by decide) rfl (fun ls hl => ?_)
  refine lv_iload_n hx hb dL_act_20 rfl (lv_at hl 4 rfl) ?_
  refine lv_bipush (v := (9 : Int32)) hx hb dL_act_21 (by decide) ?_
  refine rb_SI (b := b) (u := u4) (rf := 0) (rl := 0) (As := [.int c2, .int ((9 : Int32))]) (rest := []) cx w hR hl.1 h (fun h => kn_L_below hG h) (fun v => va_cwS 2 hts gL_act_L_below rfl rfl rfl (by decide +kernel) ⟨(Nat.le_of_ble_eq_true rfl), (Nat.le_of_ble_eq_true rfl)⟩) rfl rfl (Nat.le_of_ble_eq_true rfl) dL_act_23 (fun u11 G9 M10 r12 H locs h hu xe cx w => ?_)
  obtain ⟨hL0, hK0⟩ := ext_wt xe hL0 hK0
  obtain ⟨hL1, hK1⟩ := ext_wt xe hL1 hK1
  obtain ⟨hLq8, hKq8⟩ := ext_wt xe hLq8 hKq8
  have hext := ext_tr hext xe
  clear xe
  have hG := cX_wt cx
  rcases Decidable.em (r12 = 0) with k13 | k13
  · have h := w_t h k13
    rw [k13]
    refine lv_tableIn (tgt := 60) hx hb dL_act_26 (by decide) (by decide) rfl (by decide) ?_
    refine lv_iload_n hx hb dL_act_60 rfl (lv_at hl 4 rfl) ?_
    refine lv_iconst (v := (4 : Int32)) hx hb dL_act_61 (by decide) ?_
    refine lv_ishr hx hb dL_act_62 ?_
    refine lv_bipush (v := (64 : Int32)) hx hb dL_act_63 (by decide) ?_
    refine rb_SI (b := b) (u := u11) (rf := 0) (rl := 0) (As := [.int ((c2 >>> ((4 : Int32) &&& 31))), .int ((64 : Int32))]) (rest := []) cx w hR hl.1 h (fun h => kn_L_below hG h) (fun v => va_cwS 2 hts gL_act_L_below rfl rfl rfl (by decide +kernel) ⟨(Nat.le_of_ble_eq_true rfl), (Nat.le_of_ble_eq_true rfl)⟩) rfl rfl (Nat.le_of_ble_eq_true rfl) dL_act_65 (fun u16 G14 M15 r17 H locs h hu xe cx w => ?_)
    obtain ⟨hL0, hK0⟩ := ext_wt xe hL0 hK0
    obtain ⟨hL1, hK1⟩ := ext_wt xe hL1 hK1
    obtain ⟨hLq8, hKq8⟩ := ext_wt xe hLq8 hKq8
    have hext := ext_tr hext xe
    clear xe
    have hG := cX_wt cx
    refine lv_istore (lv' := [(5, .int r17), (4, .ref q8), (3, .int r5), (0, .ref a0), (1, .ref a1), (2, .int c2)]) hx hb dL_act_68 hl (by decide) rfl (fun ls hl => ?_)
    refine lv_bipush (v := (26 : Int32)) hx hb dL_act_70 (by decide) ?_
    refine lv_iload_n hx hb dL_act_72 rfl (lv_at hl 5 rfl) ?_
    refine lv_bipush (v := (6 : Int32)) hx hb dL_act_73 (by decide) ?_
    refine lv_ishr hx hb dL_act_75 ?_
    refine lv_bipush (v := (14 : Int32)) hx hb dL_act_76 (by decide) ?_
    refine rb_SI (b := b) (u := u16) (rf := 0) (rl := 0) (As := [.int ((c2 >>> ((6 : Int32) &&& 31))), .int ((14 : Int32))]) (rest := [.int ((26 : Int32))]) cx w hR hl.1 h (fun h => kn_L_below hG h) (fun v => va_cwS 2 hts gL_act_L_below rfl rfl rfl (by decide +kernel) ⟨(Nat.le_of_ble_eq_true rfl), (Nat.le_of_ble_eq_true rfl)⟩) rfl rfl (Nat.le_of_ble_eq_true rfl) dL_act_78 (fun u20 G18 M19 r21 H locs h hu xe cx w => ?_)
    obtain ⟨hL0, hK0⟩ := ext_wt xe hL0 hK0
    obtain ⟨hL1, hK1⟩ := ext_wt xe hL1 hK1
    obtain ⟨hLq8, hKq8⟩ := ext_wt xe hLq8 hKq8
    have hext := ext_tr hext xe
    clear xe
    have hG := cX_wt cx
    refine lv_iadd hx hb dL_act_81 ?_
    obtain ⟨x22, ex22, h⟩ := w_bd h
    refine r_topI ex22 ?_
    refine lv_istore (lv' := [(6, .int x22), (5, .int r17), (4, .ref q8), (3, .int r5), (0, .ref a0), (1, .ref a1), (2, .int c2)]) hx hb dL_act_82 hl (by decide) rfl (fun ls hl => ?_)
    refine lv_aload_n hx hb dL_act_84 rfl (lv_at hl 5 rfl) ?_
    obtain ⟨q23, eq23, h⟩ := w_rf h
    obtain ⟨hLq23, hKq23⟩ := wt_q hG hL1 hK1 eq23
    have hKq23 : gK G18 q23 = 15 := hKq23
    refine r_getR (k := 5) cx w hL1 hK1 (by decide) rfl wb_L_act_X10 (by decide) rfl eq23 (List.mem_of_getElem? (i := 2) rfl) dL_act_85 ?_
    refine lv_iload hx hb dL_act_88 (lv_at hl 0 rfl) ?_
    obtain ⟨z24, h⟩ := w_ix h
    obtain ⟨q25, eq25, h⟩ := w_rf h
    obtain ⟨hLq25, hKq25⟩ := wt_q hG hLq23 hKq23 eq25
    have hKq25 : gK G18 q25 = 12 := hKq25
    refine r_aaldA cx w hLq23 hKq23 z24 eq25 dL_act_90 ?_
    refine lv_iload hx hb dL_act_91 (lv_at hl 1 rfl) ?_
    obtain ⟨z26, h⟩ := w_ix h
    refine r_iald cx w hLq25 hKq25 z26 dL_act_93 ?_
    obtain ⟨x27, ex27, h⟩ := w_bd h
    refine r_topI ex27 ?_
    refine lv_istore (lv' := [(7, .int x27), (6, .int x22), (5, .int r17), (4, .ref q8), (3, .int r5), (0, .ref a0), (1, .ref a1), (2, .int c2)]) hx hb dL_act_94 hl (by decide) rfl (fun ls hl => ?_)
    refine lv_aload_n hx hb dL_act_96 rfl (lv_at hl 6 rfl) ?_
    obtain ⟨q28, eq28, h⟩ := w_rf h
    obtain ⟨hLq28, hKq28⟩ := wt_q hG hL1 hK1 eq28
    have hKq28 : gK G18 q28 = 15 := hKq28
    refine r_getR (k := 5) cx w hL1 hK1 (by decide) rfl wb_L_act_X10 (by decide) rfl eq28 (List.mem_of_getElem? (i := 2) rfl) dL_act_97 ?_
    refine lv_iload hx hb dL_act_100 (lv_at hl 1 rfl) ?_
    obtain ⟨z29, h⟩ := w_ix h
    obtain ⟨q30, eq30, h⟩ := w_rf h
    obtain ⟨hLq30, hKq30⟩ := wt_q hG hLq28 hKq28 eq30
    have hKq30 : gK G18 q30 = 12 := hKq30
    refine r_aaldA cx w hLq28 hKq28 z29 eq30 dL_act_102 ?_
    refine lv_iload hx hb dL_act_103 (lv_at hl 2 rfl) ?_
    refine lv_iload_n hx hb dL_act_105 rfl (lv_at hl 7 rfl) ?_
    refine lv_bipush (v := (8 : Int32)) hx hb dL_act_106 (by decide) ?_
    refine lv_ishr hx hb dL_act_108 ?_
    refine lv_bipush (v := (6 : Int32)) hx hb dL_act_109 (by decide) ?_
    refine rb_SI (b := b) (u := u20) (rf := 0) (rl := 0) (As := [.int ((c2 >>> ((8 : Int32) &&& 31))), .int ((6 : Int32))]) (rest := [.int r17, .ref q30]) cx w hR hl.1 h (fun h => kn_L_below hG h) (fun v => va_cwS 2 hts gL_act_L_below rfl rfl rfl (by decide +kernel) ⟨(Nat.le_of_ble_eq_true rfl), (Nat.le_of_ble_eq_true rfl)⟩) rfl rfl (Nat.le_of_ble_eq_true rfl) dL_act_111 (fun u33 G31 M32 r34 H locs h hu xe cx w => ?_)
    obtain ⟨hL0, hK0⟩ := ext_wt xe hL0 hK0
    obtain ⟨hL1, hK1⟩ := ext_wt xe hL1 hK1
    obtain ⟨hLq8, hKq8⟩ := ext_wt xe hLq8 hKq8
    obtain ⟨hLq30, hKq30⟩ := ext_wt xe hLq30 hKq30
    have hext := ext_tr hext xe
    clear xe
    have hG := cX_wt cx
    obtain ⟨z35, h⟩ := w_ix h
    obtain ⟨M36, eM36, h⟩ := w_wI h
    refine r_iast cx w hLq30 hKq30 z35 dL_act_114 eM36 (fun H locs w => ?_)
    refine lv_aload_n hx hb dL_act_115 rfl (lv_at hl 5 rfl) ?_
    refine lv_iload hx hb dL_act_116 (lv_at hl 2 rfl) ?_
    refine lv_iload hx hb dL_act_118 (lv_at hl 1 rfl) ?_
    refine lv_aload_n hx hb dL_act_120 rfl (lv_at hl 6 rfl) ?_
    obtain ⟨q37, eq37, h⟩ := w_rf h
    obtain ⟨hLq37, hKq37⟩ := wt_q hG hL1 hK1 eq37
    have hKq37 : gK G31 q37 = 15 := hKq37
    refine r_getR (k := 5) cx w hL1 hK1 (by decide) rfl wb_L_act_X10 (by decide) rfl eq37 (List.mem_of_getElem? (i := 2) rfl) dL_act_121 ?_
    refine lv_iload hx hb dL_act_124 (lv_at hl 1 rfl) ?_
    obtain ⟨z38, h⟩ := w_ix h
    obtain ⟨q39, eq39, h⟩ := w_rf h
    obtain ⟨hLq39, hKq39⟩ := wt_q hG hLq37 hKq37 eq39
    have hKq39 : gK G31 q39 = 12 := hKq39
    refine r_aaldA cx w hLq37 hKq37 z38 eq39 dL_act_126 ?_
    refine lv_iload hx hb dL_act_127 (lv_at hl 2 rfl) ?_
    obtain ⟨z40, h⟩ := w_ix h
    refine r_iald cx w hLq39 hKq39 z40 dL_act_129 ?_
    obtain ⟨M41, r42, y43, h⟩ := w_cl h
    refine r_callVi (As := [.int r17, .int x22, .int ((mI M36 q39 (Int32.toNatClampNeg r17)))]) (rest := []) cx w hu hl.1 (k_X9_paint hG hL0 hK0 y43) (cwV 3 hts gL_act_X9_paint rfl rfl rfl (by decide +kernel) ⟨(Nat.le_of_ble_eq_true rfl), (Nat.le_of_ble_eq_true rfl)⟩) hL0 hK0 (by decide) rfl rfl rfl (Nat.le_of_ble_eq_true rfl) dL_act_130 (fun H locs w => ?_)
    refine lv_iload hx hb dL_act_133 (lv_at hl 0 rfl) ?_
    refine lv_icmp_ne (tgt := 142) hx hb dL_act_135 (by decide) (fun k44 => ?_) (fun k44 => ?_)
    · have h := w_f h k44
      refine lv_iconst (v := (0 : Int32)) hx hb dL_act_142 (by decide) ?_
      exact bn_L_act_143 hnm u33 G31 M41 ((0 : Int32)) H locs ls hL0 hK0 hL1 hK1 hext hu h cx w (lv_sub hl [] rfl)
    · have h := w_t h k44
      refine lv_iconst (v := (1 : Int32)) hx hb dL_act_138 (by decide) ?_
      refine lv_goto (tgt := 143) hx hb dL_act_139 (by decide) ?_
      exact bn_L_act_143 hnm u33 G31 M41 ((1 : Int32)) H locs ls hL0 hK0 hL1 hK1 hext hu h cx w (lv_sub hl [] rfl)
  · have h := w_f h k13
    rcases Decidable.em (r12 = 1) with k45 | k45
    · have h := w_t h k45
      rw [k45]
      refine lv_tableIn (tgt := 144) hx hb dL_act_26 (by decide) (by decide) rfl (by decide) ?_
      refine lv_bipush (v := (20 : Int32)) hx hb dL_act_144 (by decide) ?_
      refine lv_iload_n hx hb dL_act_146 rfl (lv_at hl 4 rfl) ?_
      refine lv_iconst (v := (4 : Int32)) hx hb dL_act_147 (by decide) ?_
      refine lv_ishr hx hb dL_act_148 ?_
      refine lv_bipush (v := (30 : Int32)) hx hb dL_act_149 (by decide) ?_
      refine rb_SI (b := b) (u := u11) (rf := 0) (rl := 0) (As := [.int ((c2 >>> ((4 : Int32) &&& 31))), .int ((30 : Int32))]) (rest := [.int ((20 : Int32))]) cx w hR hl.1 h (fun h => kn_L_below hG h) (fun v => va_cwS 2 hts gL_act_L_below rfl rfl rfl (by decide +kernel) ⟨(Nat.le_of_ble_eq_true rfl), (Nat.le_of_ble_eq_true rfl)⟩) rfl rfl (Nat.le_of_ble_eq_true rfl) dL_act_151 (fun u48 G46 M47 r49 H locs h hu xe cx w => ?_)
      obtain ⟨hL0, hK0⟩ := ext_wt xe hL0 hK0
      obtain ⟨hL1, hK1⟩ := ext_wt xe hL1 hK1
      obtain ⟨hLq8, hKq8⟩ := ext_wt xe hLq8 hKq8
      have hext := ext_tr hext xe
      clear xe
      have hG := cX_wt cx
      refine lv_iadd hx hb dL_act_154 ?_
      obtain ⟨x50, ex50, h⟩ := w_bd h
      refine r_topI ex50 ?_
      refine lv_istore (lv' := [(5, .int x50), (4, .ref q8), (3, .int r5), (0, .ref a0), (1, .ref a1), (2, .int c2)]) hx hb dL_act_155 hl (by decide) rfl (fun ls hl => ?_)
      refine lv_bipush (v := (63 : Int32)) hx hb dL_act_157 (by decide) ?_
      refine lv_iload hx hb dL_act_159 (lv_at hl 0 rfl) ?_
      refine lv_iload_n hx hb dL_act_161 rfl (lv_at hl 5 rfl) ?_
      refine lv_bipush (v := (7 : Int32)) hx hb dL_act_162 (by decide) ?_
      refine lv_ishr hx hb dL_act_164 ?_
      refine lv_bipush (v := (12 : Int32)) hx hb dL_act_165 (by decide) ?_
      refine rb_SI (b := b) (u := u48) (rf := 0) (rl := 0) (As := [.int ((c2 >>> ((7 : Int32) &&& 31))), .int ((12 : Int32))]) (rest := [.int x50, .int ((63 : Int32))]) cx w hR hl.1 h (fun h => kn_L_below hG h) (fun v => va_cwS 2 hts gL_act_L_below rfl rfl rfl (by decide +kernel) ⟨(Nat.le_of_ble_eq_true rfl), (Nat.le_of_ble_eq_true rfl)⟩) rfl rfl (Nat.le_of_ble_eq_true rfl) dL_act_167 (fun u53 G51 M52 r54 H locs h hu xe cx w => ?_)
      obtain ⟨hL0, hK0⟩ := ext_wt xe hL0 hK0
      obtain ⟨hL1, hK1⟩ := ext_wt xe hL1 hK1
      obtain ⟨hLq8, hKq8⟩ := ext_wt xe hLq8 hKq8
      have hext := ext_tr hext xe
      clear xe
      have hG := cX_wt cx
      refine lv_iadd hx hb dL_act_170 ?_
      refine va_mmin hx hb (hml.trans hl.1.symm) hown (hts _ (List.mem_of_getElem? (i := 3) rfl)) (hts _ (List.mem_of_getElem? (i := 4) rfl)) (hts _ (List.mem_of_getElem? (i := 5) rfl)) (hts _ (List.mem_of_getElem? (i := 6) rfl)) (Nat.le_of_ble_eq_true rfl) (Nat.le_of_ble_eq_true rfl) hu.1 hu.2 dL_act_171 ?_
      obtain ⟨x55, ex55, h⟩ := w_bd h
      refine r_topI ex55 ?_
      refine lv_istore (lv' := [(6, .int x55), (5, .int x50), (4, .ref q8), (3, .int r5), (0, .ref a0), (1, .ref a1), (2, .int c2)]) hx hb dL_act_174 hl (by decide) rfl (fun ls hl => ?_)
      refine lv_aload_n hx hb dL_act_176 rfl (lv_at hl 4 rfl) ?_
      refine lv_iload hx hb dL_act_177 (lv_at hl 1 rfl) ?_
      refine lv_iload hx hb dL_act_179 (lv_at hl 0 rfl) ?_
      obtain ⟨M56, r57, y58, h⟩ := w_cl h
      refine r_callVi (As := [.int x50, .int x55]) (rest := []) cx w hu hl.1 (k_X9_wash hG hL0 hK0 y58) (cwV 2 hts gL_act_X9_wash rfl rfl rfl (by decide +kernel) ⟨(Nat.le_of_ble_eq_true rfl), (Nat.le_of_ble_eq_true rfl)⟩) hL0 hK0 (by decide) rfl rfl rfl (Nat.le_of_ble_eq_true rfl) dL_act_181 (fun H locs w => ?_)
      refine lv_aload_n hx hb dL_act_184 rfl (lv_at hl 5 rfl) ?_
      refine lv_iload hx hb dL_act_185 (lv_at hl 1 rfl) ?_
      refine lv_iload hx hb dL_act_187 (lv_at hl 0 rfl) ?_
      refine rb_VI (b := b) (u := u53) (rf := 1) (rl := 26) (As := [.int x50, .int x55]) (rest := [.int r57]) cx w hR hl.1 h (fun h => kn_X10_wash hG hL1 hK1 h) (fun v => cwV 2 hts gL_act_X10_wash rfl rfl rfl (by decide +kernel) ⟨(Nat.le_of_ble_eq_true rfl), (Nat.le_of_ble_eq_true rfl)⟩) hL1 hK1 (by decide) rfl rfl rfl (Nat.le_of_ble_eq_true rfl) dL_act_189 (fun u61 G59 M60 r62 H locs h hu xe cx w => ?_)
      obtain ⟨hL0, hK0⟩ := ext_wt xe hL0 hK0
      obtain ⟨hL1, hK1⟩ := ext_wt xe hL1 hK1
      obtain ⟨hLq8, hKq8⟩ := ext_wt xe hLq8 hKq8
      have hext := ext_tr hext xe
      clear xe
      have hG := cX_wt cx
      refine lv_icmp_ne (tgt := 199) hx hb dL_act_192 (by decide) (fun k63 => ?_) (fun k63 => ?_)
      · have h := w_f h k63
        refine lv_iconst (v := (0 : Int32)) hx hb dL_act_199 (by decide) ?_
        exact bn_L_act_200 hnm u61 G59 M60 ((0 : Int32)) H locs ls hL0 hK0 hL1 hK1 hext hu h cx w (lv_sub hl [] rfl)
      · have h := w_t h k63
        refine lv_iconst (v := (1 : Int32)) hx hb dL_act_195 (by decide) ?_
        refine lv_goto (tgt := 200) hx hb dL_act_196 (by decide) ?_
        exact bn_L_act_200 hnm u61 G59 M60 ((1 : Int32)) H locs ls hL0 hK0 hL1 hK1 hext hu h cx w (lv_sub hl [] rfl)
    · have h := w_f h k45
      rcases Decidable.em (r12 = 2) with k64 | k64
      · have h := w_t h k64
        rw [k64]
        refine lv_tableIn (tgt := 201) hx hb dL_act_26 (by decide) (by decide) rfl (by decide) ?_
        refine lv_aload hx hb dL_act_201 (lv_at hl 0 rfl) ?_
        refine lv_iconst (v := (3 : Int32)) hx hb dL_act_203 (by decide) ?_
        obtain ⟨z65, h⟩ := w_ix h
        refine r_iald cx w hLq8 hKq8 z65 dL_act_204 ?_
        obtain ⟨x66, ex66, h⟩ := w_bd h
        refine r_topI ex66 ?_
        refine lv_istore (lv' := [(5, .int x66), (4, .ref q8), (3, .int r5), (0, .ref a0), (1, .ref a1), (2, .int c2)]) hx hb dL_act_205 hl (by decide) rfl (fun ls hl => ?_)
        refine lv_aload hx hb dL_act_207 (lv_at hl 1 rfl) ?_
        refine lv_iconst (v := (3 : Int32)) hx hb dL_act_209 (by decide) ?_
        refine lv_iload_n hx hb dL_act_210 rfl (lv_at hl 5 rfl) ?_
        refine lv_iconst (v := (5 : Int32)) hx hb dL_act_211 (by decide) ?_
        refine lv_ishr hx hb dL_act_212 ?_
        refine lv_iconst (v := (4 : Int32)) hx hb dL_act_213 (by decide) ?_
        refine rb_SI (b := b) (u := u11) (rf := 0) (rl := 0) (As := [.int ((c2 >>> ((5 : Int32) &&& 31))), .int ((4 : Int32))]) (rest := [.int ((3 : Int32)), .ref q8]) cx w hR hl.1 h (fun h => kn_L_below hG h) (fun v => va_cwS 2 hts gL_act_L_below rfl rfl rfl (by decide +kernel) ⟨(Nat.le_of_ble_eq_true rfl), (Nat.le_of_ble_eq_true rfl)⟩) rfl rfl (Nat.le_of_ble_eq_true rfl) dL_act_214 (fun u69 G67 M68 r70 H locs h hu xe cx w => ?_)
        obtain ⟨hL0, hK0⟩ := ext_wt xe hL0 hK0
        obtain ⟨hL1, hK1⟩ := ext_wt xe hL1 hK1
        obtain ⟨hLq8, hKq8⟩ := ext_wt xe hLq8 hKq8
        have hext := ext_tr hext xe
        clear xe
        have hG := cX_wt cx
        obtain ⟨z71, h⟩ := w_ix h
        obtain ⟨M72, eM72, h⟩ := w_wI h
        refine r_iast cx w hLq8 hKq8 z71 dL_act_217 eM72 (fun H locs w => ?_)
        refine lv_aload_n hx hb dL_act_218 rfl (lv_at hl 4 rfl) ?_
        obtain ⟨q73, eq73, h⟩ := w_rf h
        obtain ⟨hLq73, hKq73⟩ := wt_q hG hL1 hK1 eq73
        have hKq73 : gK G67 q73 = 15 := hKq73
        refine r_getR (k := 7) cx w hL1 hK1 (by decide) rfl wb_L_act_X10 (by decide) rfl eq73 (List.mem_of_getElem? (i := 7) rfl) dL_act_219 ?_
        refine lv_iload_n hx hb dL_act_222 rfl (lv_at hl 2 rfl) ?_
        refine lv_iconst (v := (0 : Int32)) hx hb dL_act_223 (by decide) ?_
        refine rb_newI (b := b) (u := u69) cx w hR (List.mem_of_getElem? (i := 8) rfl) h dL_act_224 (fun q74 u77 G75 M76 H h hu xe hLq74 hKq74 cx w => ?_)
        obtain ⟨hL0, hK0⟩ := ext_wt xe hL0 hK0
        obtain ⟨hL1, hK1⟩ := ext_wt xe hL1 hK1
        obtain ⟨hLq8, hKq8⟩ := ext_wt xe hLq8 hKq8
        obtain ⟨hLq73, hKq73⟩ := ext_wt xe hLq73 hKq73
        have hext := ext_tr hext xe
        clear xe
        have hG := cX_wt cx
        refine rb_astA cx w hLq73 hKq73 hLq74 hKq74 h dL_act_226 (fun G78 H locs h xe cx w => ?_)
        obtain ⟨hL0, hK0⟩ := ext_wt xe hL0 hK0
        obtain ⟨hL1, hK1⟩ := ext_wt xe hL1 hK1
        obtain ⟨hLq8, hKq8⟩ := ext_wt xe hLq8 hKq8
        have hext := ext_tr hext xe
        clear xe
        have hG := cX_wt cx
        refine lv_aload_n hx hb dL_act_227 rfl (lv_at hl 3 rfl) ?_
        refine lv_iload_n hx hb dL_act_228 rfl (lv_at hl 2 rfl) ?_
        refine lv_aload hx hb dL_act_229 (lv_at hl 1 rfl) ?_
        refine lv_iconst (v := (3 : Int32)) hx hb dL_act_231 (by decide) ?_
        obtain ⟨z79, h⟩ := w_ix h
        refine r_iald cx w hLq8 hKq8 z79 dL_act_232 ?_
        obtain ⟨M80, r81, y82, h⟩ := w_cl h
        refine r_callVi (As := [.int r5, .int ((mI M76 q8 (Int32.toNatClampNeg (3 : Int32))))]) (rest := []) cx w hu hl.1 (k_X9_face hG hL0 hK0 y82) (cwV 2 hts gL_act_X9_face rfl rfl rfl (by decide +kernel) ⟨(Nat.le_of_ble_eq_true rfl), (Nat.le_of_ble_eq_true rfl)⟩) hL0 hK0 (by decide) rfl rfl rfl (Nat.le_of_ble_eq_true rfl) dL_act_233 (fun H locs w => ?_)
        refine lv_iload hx hb dL_act_236 (lv_at hl 0 rfl) ?_
        refine lv_icmp_ne (tgt := 245) hx hb dL_act_238 (by decide) (fun k83 => ?_) (fun k83 => ?_)
        · have h := w_f h k83
          refine lv_iconst (v := (0 : Int32)) hx hb dL_act_245 (by decide) ?_
          exact bn_L_act_246 hnm u77 G78 M80 ((0 : Int32)) H locs ls hL0 hK0 hL1 hK1 hext hu h cx w (lv_sub hl [] rfl)
        · have h := w_t h k83
          refine lv_iconst (v := (1 : Int32)) hx hb dL_act_241 (by decide) ?_
          refine lv_goto (tgt := 246) hx hb dL_act_242 (by decide) ?_
          exact bn_L_act_246 hnm u77 G78 M80 ((1 : Int32)) H locs ls hL0 hK0 hL1 hK1 hext hu h cx w (lv_sub hl [] rfl)
      · have h := w_f h k64
        rcases Decidable.em (r12 = 3) with k84 | k84
        · have h := w_t h k84
          rw [k84]
          refine lv_tableIn (tgt := 247) hx hb dL_act_26 (by decide) (by decide) rfl (by decide) ?_
          refine lv_aload hx hb dL_act_247 (lv_at hl 0 rfl) ?_
          refine lv_iconst (v := (4 : Int32)) hx hb dL_act_249 (by decide) ?_
          refine lv_iconst (v := (1 : Int32)) hx hb dL_act_250 (by decide) ?_
          refine lv_aload hx hb dL_act_251 (lv_at hl 0 rfl) ?_
          refine lv_iconst (v := (4 : Int32)) hx hb dL_act_253 (by decide) ?_
          obtain ⟨z85, h⟩ := w_ix h
          refine r_iald cx w hLq8 hKq8 z85 dL_act_254 ?_
          refine lv_isub hx hb dL_act_255 ?_
          obtain ⟨z86, h⟩ := w_ix h
          obtain ⟨M87, eM87, h⟩ := w_wI h
          refine r_iast cx w hLq8 hKq8 z86 dL_act_256 eM87 (fun H locs w => ?_)
          refine lv_aload_n hx hb dL_act_257 rfl (lv_at hl 2 rfl) ?_
          refine lv_iload_n hx hb dL_act_258 rfl (lv_at hl 1 rfl) ?_
          obtain ⟨M88, r89, y90, h⟩ := w_cl h
          refine r_callVi (As := [.int r5]) (rest := []) cx w hu hl.1 (k_X9_halt hG hL0 hK0 y90) (cwV 1 hts gL_act_X9_halt rfl rfl rfl (by decide +kernel) ⟨(Nat.le_of_ble_eq_true rfl), (Nat.le_of_ble_eq_true rfl)⟩) hL0 hK0 (by decide) rfl rfl rfl (Nat.le_of_ble_eq_true rfl) dL_act_259 (fun H locs w => ?_)
          refine lv_aload hx hb dL_act_262 (lv_at hl 0 rfl) ?_
          refine lv_iconst (v := (4 : Int32)) hx hb dL_act_264 (by decide) ?_
          obtain ⟨z91, h⟩ := w_ix h
          refine r_iald cx w hLq8 hKq8 z91 dL_act_265 ?_
          refine lv_iconst (v := (1 : Int32)) hx hb dL_act_266 (by decide) ?_
          refine lv_icmp_ne (tgt := 274) hx hb dL_act_267 (by decide) (fun k92 => ?_) (fun k92 => ?_)
          · have h := w_f h k92
            refine lv_iconst (v := (0 : Int32)) hx hb dL_act_274 (by decide) ?_
            exact bn_L_act_275 hnm u11 G9 M88 r89 ((0 : Int32)) H locs ls hL0 hK0 hL1 hK1 hext hu h cx w (lv_sub hl [] rfl)
          · have h := w_t h k92
            refine lv_iconst (v := (1 : Int32)) hx hb dL_act_270 (by decide) ?_
            refine lv_goto (tgt := 275) hx hb dL_act_271 (by decide) ?_
            exact bn_L_act_275 hnm u11 G9 M88 r89 ((1 : Int32)) H locs ls hL0 hK0 hL1 hK1 hext hu h cx w (lv_sub hl [] rfl)
        · have h := w_f h k84
          rcases Decidable.em (r12 = 4) with k93 | k93
          · have h := w_t h k93
            rw [k93]
            refine lv_tableIn (tgt := 284) hx hb dL_act_26 (by decide) (by decide) rfl (by decide) ?_
            refine lv_bipush (v := (64 : Int32)) hx hb dL_act_284 (by decide) ?_
            refine lv_aload hx hb dL_act_286 (lv_at hl 0 rfl) ?_
            refine lv_iconst (v := (2 : Int32)) hx hb dL_act_288 (by decide) ?_
            obtain ⟨z94, h⟩ := w_ix h
            refine r_iald cx w hLq8 hKq8 z94 dL_act_289 ?_
            refine lv_imul hx hb dL_act_290 ?_
            refine lv_aload hx hb dL_act_291 (lv_at hl 0 rfl) ?_
            refine lv_iconst (v := (1 : Int32)) hx hb dL_act_293 (by decide) ?_
            obtain ⟨z95, h⟩ := w_ix h
            refine r_iald cx w hLq8 hKq8 z95 dL_act_294 ?_
            refine lv_iadd hx hb dL_act_295 ?_
            obtain ⟨x96, ex96, h⟩ := w_bd h
            refine r_topI ex96 ?_
            refine lv_istore (lv' := [(5, .int x96), (4, .ref q8), (3, .int r5), (0, .ref a0), (1, .ref a1), (2, .int c2)]) hx hb dL_act_296 hl (by decide) rfl (fun ls hl => ?_)
            refine lv_aload hx hb dL_act_298 (lv_at hl 1 rfl) ?_
            refine lv_iconst (v := (1 : Int32)) hx hb dL_act_300 (by decide) ?_
            refine lv_iload_n hx hb dL_act_301 rfl (lv_at hl 5 rfl) ?_
            refine lv_iconst (v := (4 : Int32)) hx hb dL_act_302 (by decide) ?_
            refine lv_ishr hx hb dL_act_303 ?_
            refine lv_bipush (v := (64 : Int32)) hx hb dL_act_304 (by decide) ?_
            refine rb_SI (b := b) (u := u11) (rf := 0) (rl := 0) (As := [.int ((c2 >>> ((4 : Int32) &&& 31))), .int ((64 : Int32))]) (rest := [.int ((1 : Int32)), .ref q8]) cx w hR hl.1 h (fun h => kn_L_below hG h) (fun v => va_cwS 2 hts gL_act_L_below rfl rfl rfl (by decide +kernel) ⟨(Nat.le_of_ble_eq_true rfl), (Nat.le_of_ble_eq_true rfl)⟩) rfl rfl (Nat.le_of_ble_eq_true rfl) dL_act_306 (fun u99 G97 M98 r100 H locs h hu xe cx w => ?_)
            obtain ⟨hL0, hK0⟩ := ext_wt xe hL0 hK0
            obtain ⟨hL1, hK1⟩ := ext_wt xe hL1 hK1
            obtain ⟨hLq8, hKq8⟩ := ext_wt xe hLq8 hKq8
            have hext := ext_tr hext xe
            clear xe
            have hG := cX_wt cx
            obtain ⟨z101, h⟩ := w_ix h
            obtain ⟨M102, eM102, h⟩ := w_wI h
            refine r_iast cx w hLq8 hKq8 z101 dL_act_309 eM102 (fun H locs w => ?_)
            refine lv_aload hx hb dL_act_310 (lv_at hl 1 rfl) ?_
            refine lv_iconst (v := (2 : Int32)) hx hb dL_act_312 (by decide) ?_
            refine lv_iload_n hx hb dL_act_313 rfl (lv_at hl 5 rfl) ?_
            refine lv_bipush (v := (6 : Int32)) hx hb dL_act_314 (by decide) ?_
            refine lv_ishr hx hb dL_act_316 ?_
            refine lv_bipush (v := (64 : Int32)) hx hb dL_act_317 (by decide) ?_
            refine rb_SI (b := b) (u := u99) (rf := 0) (rl := 0) (As := [.int ((c2 >>> ((6 : Int32) &&& 31))), .int ((64 : Int32))]) (rest := [.int ((2 : Int32)), .ref q8]) cx w hR hl.1 h (fun h => kn_L_below hG h) (fun v => va_cwS 2 hts gL_act_L_below rfl rfl rfl (by decide +kernel) ⟨(Nat.le_of_ble_eq_true rfl), (Nat.le_of_ble_eq_true rfl)⟩) rfl rfl (Nat.le_of_ble_eq_true rfl) dL_act_319 (fun u105 G103 M104 r106 H locs h hu xe cx w => ?_)
            obtain ⟨hL0, hK0⟩ := ext_wt xe hL0 hK0
            obtain ⟨hL1, hK1⟩ := ext_wt xe hL1 hK1
            obtain ⟨hLq8, hKq8⟩ := ext_wt xe hLq8 hKq8
            have hext := ext_tr hext xe
            clear xe
            have hG := cX_wt cx
            obtain ⟨z107, h⟩ := w_ix h
            obtain ⟨M108, eM108, h⟩ := w_wI h
            refine r_iast cx w hLq8 hKq8 z107 dL_act_322 eM108 (fun H locs w => ?_)
            refine lv_aload_n hx hb dL_act_323 rfl (lv_at hl 4 rfl) ?_
            obtain ⟨q109, eq109, h⟩ := w_rf h
            obtain ⟨hLq109, hKq109⟩ := wt_q hG hL1 hK1 eq109
            have hKq109 : gK G103 q109 = 15 := hKq109
            refine r_getR (k := 7) cx w hL1 hK1 (by decide) rfl wb_L_act_X10 (by decide) rfl eq109 (List.mem_of_getElem? (i := 7) rfl) dL_act_324 ?_
            refine lv_iload_n hx hb dL_act_327 rfl (lv_at hl 2 rfl) ?_
            refine lv_iconst (v := (0 : Int32)) hx hb dL_act_328 (by decide) ?_
            refine rb_newI (b := b) (u := u105) cx w hR (List.mem_of_getElem? (i := 8) rfl) h dL_act_329 (fun q110 u113 G111 M112 H h hu xe hLq110 hKq110 cx w => ?_)
            obtain ⟨hL0, hK0⟩ := ext_wt xe hL0 hK0
            obtain ⟨hL1, hK1⟩ := ext_wt xe hL1 hK1
            obtain ⟨hLq8, hKq8⟩ := ext_wt xe hLq8 hKq8
            obtain ⟨hLq109, hKq109⟩ := ext_wt xe hLq109 hKq109
            have hext := ext_tr hext xe
            clear xe
            have hG := cX_wt cx
            refine rb_astA cx w hLq109 hKq109 hLq110 hKq110 h dL_act_331 (fun G114 H locs h xe cx w => ?_)
            obtain ⟨hL0, hK0⟩ := ext_wt xe hL0 hK0
            obtain ⟨hL1, hK1⟩ := ext_wt xe hL1 hK1
            obtain ⟨hLq8, hKq8⟩ := ext_wt xe hLq8 hKq8
            have hext := ext_tr hext xe
            clear xe
            have hG := cX_wt cx
            refine lv_aload_n hx hb dL_act_332 rfl (lv_at hl 3 rfl) ?_
            refine lv_iload_n hx hb dL_act_333 rfl (lv_at hl 2 rfl) ?_
            refine lv_aload hx hb dL_act_334 (lv_at hl 1 rfl) ?_
            refine lv_iconst (v := (1 : Int32)) hx hb dL_act_336 (by decide) ?_
            obtain ⟨z115, h⟩ := w_ix h
            refine r_iald cx w hLq8 hKq8 z115 dL_act_337 ?_
            refine lv_aload hx hb dL_act_338 (lv_at hl 1 rfl) ?_
            refine lv_iconst (v := (2 : Int32)) hx hb dL_act_340 (by decide) ?_
            obtain ⟨z116, h⟩ := w_ix h
            refine r_iald cx w hLq8 hKq8 z116 dL_act_341 ?_
            obtain ⟨M117, r118, y119, h⟩ := w_cl h
            refine r_callVi (As := [.int r5, .int ((mI M112 q8 (Int32.toNatClampNeg (1 : Int32)))), .int ((mI M112 q8 (Int32.toNatClampNeg (2 : Int32))))]) (rest := []) cx w hu hl.1 (k_X9_place hG hL0 hK0 y119) (cwV 3 hts gL_act_X9_place rfl rfl rfl (by decide +kernel) ⟨(Nat.le_of_ble_eq_true rfl), (Nat.le_of_ble_eq_true rfl)⟩) hL0 hK0 (by decide) rfl rfl rfl (Nat.le_of_ble_eq_true rfl) dL_act_342 (fun H locs w => ?_)
            refine lv_iload hx hb dL_act_345 (lv_at hl 0 rfl) ?_
            refine lv_icmp_ne (tgt := 354) hx hb dL_act_347 (by decide) (fun k120 => ?_) (fun k120 => ?_)
            · have h := w_f h k120
              refine lv_iconst (v := (0 : Int32)) hx hb dL_act_354 (by decide) ?_
              exact bn_L_act_355 hnm u113 G114 M117 ((0 : Int32)) H locs ls hL0 hK0 hL1 hK1 hext hu h cx w (lv_sub hl [] rfl)
            · have h := w_t h k120
              refine lv_iconst (v := (1 : Int32)) hx hb dL_act_350 (by decide) ?_
              refine lv_goto (tgt := 355) hx hb dL_act_351 (by decide) ?_
              exact bn_L_act_355 hnm u113 G114 M117 ((1 : Int32)) H locs ls hL0 hK0 hL1 hK1 hext hu h cx w (lv_sub hl [] rfl)
          · have h := w_f h k93
            refine lv_tableOut (tgt := 356) hx hb dL_act_26 (by have nk13 : Int32.toInt r12 ≠ 0 := fun hh => k13 (Int32.toInt_inj.mp hh); have nk45 : Int32.toInt r12 ≠ 1 := fun hh => k45 (Int32.toInt_inj.mp hh); have nk64 : Int32.toInt r12 ≠ 2 := fun hh => k64 (Int32.toInt_inj.mp hh); have nk84 : Int32.toInt r12 ≠ 3 := fun hh => k84 (Int32.toInt_inj.mp hh); have nk93 : Int32.toInt r12 ≠ 4 := fun hh => k93 (Int32.toInt_inj.mp hh); omega) (by decide) ?_
            refine lv_iconst (v := (1 : Int32)) hx hb dL_act_356 (by decide) ?_
            refine lv_iload_n hx hb dL_act_357 rfl (lv_at hl 4 rfl) ?_
            refine lv_iconst (v := (4 : Int32)) hx hb dL_act_358 (by decide) ?_
            refine lv_ishr hx hb dL_act_359 ?_
            refine lv_iload_n hx hb dL_act_360 rfl (lv_at hl 4 rfl) ?_
            refine lv_bipush (v := (8 : Int32)) hx hb dL_act_361 (by decide) ?_
            refine lv_ishr hx hb dL_act_363 ?_
            refine lv_iconst (v := (3 : Int32)) hx hb dL_act_364 (by decide) ?_
            refine rb_SI (b := b) (u := u11) (rf := 0) (rl := 0) (As := [.int ((c2 >>> ((8 : Int32) &&& 31))), .int ((3 : Int32))]) (rest := [.int ((c2 >>> ((4 : Int32) &&& 31))), .int ((1 : Int32))]) cx w hR hl.1 h (fun h => kn_L_below hG h) (fun v => va_cwS 2 hts gL_act_L_below rfl rfl rfl (by decide +kernel) ⟨(Nat.le_of_ble_eq_true rfl), (Nat.le_of_ble_eq_true rfl)⟩) rfl rfl (Nat.le_of_ble_eq_true rfl) dL_act_365 (fun u123 G121 M122 r124 H locs h hu xe cx w => ?_)
            obtain ⟨hL0, hK0⟩ := ext_wt xe hL0 hK0
            obtain ⟨hL1, hK1⟩ := ext_wt xe hL1 hK1
            obtain ⟨hLq8, hKq8⟩ := ext_wt xe hLq8 hKq8
            have hext := ext_tr hext xe
            clear xe
            have hG := cX_wt cx
            refine lv_if_ne (tgt := 376) hx hb dL_act_368 (by decide) (fun k125 => ?_) (fun k125 => ?_)
            · have h := w_f h k125
              refine lv_bipush (v := (9 : Int32)) hx hb dL_act_376 (by decide) ?_
              exact bn_L_act_378 hnm u123 G121 M122 ((1 : Int32)) ((c2 >>> ((4 : Int32) &&& 31))) ((9 : Int32)) H locs ls hL0 hK0 hL1 hK1 hext hu h cx w (lv_sub hl [2, 3] rfl)
            · have h := w_t h k125
              refine lv_bipush (v := (60 : Int32)) hx hb dL_act_371 (by decide) ?_
              refine lv_goto (tgt := 378) hx hb dL_act_373 (by decide) ?_
              exact bn_L_act_378 hnm u123 G121 M122 ((1 : Int32)) ((c2 >>> ((4 : Int32) &&& 31))) ((60 : Int32)) H locs ls hL0 hK0 hL1 hK1 hext hu h cx w (lv_sub hl [2, 3] rfl)
