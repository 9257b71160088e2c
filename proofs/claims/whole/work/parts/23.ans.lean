-- X12_feed, with what it makes
theorem wi_X12_feed_X12 : ∀ w ∈ wsX120, w ∈ wsX12_feed := by decide +kernel
abbrev rmX12_feed : Room := { frames := 1, cells := 1, slots := 5, locals := 21 }
def m_X12_feed_51 (G : gS) (a0 : Nat) (c1 : Int32) (c2 : Int32) (c3 : Int32) (c4 : Int32) (c5 : Int32)  : Nat → mS → Nat → Int32 → Option (mS × Int32)
  | 0, _, _, _ => none
  | n + 1, M, v6, v7 => (if (20 : Int32) ≤ v7 then o_wI M a0 2 ((mI M a0 2) + (20 : Int32)) (fun M2 => some (M2, (mI M2 a0 2))) else o_rf (gP G a0 1) (fun q3 => o_ck (¬ (4 : Int32) = 0) (o_ix (v7 / (4 : Int32)) (gN G v6) (o_ck (¬ (4 : Int32) = 0) (o_ix ((mI M a0 2) + v7) (gN G q3) (o_wI M q3 (Int32.toNatClampNeg ((mI M a0 2) + v7)) (((mI M v6 (Int32.toNatClampNeg (v7 / (4 : Int32)))) >>> (((24 : Int32) - ((8 : Int32) * (v7 - v7 / (4 : Int32) * (4 : Int32)))) &&& 31)) &&& (255 : Int32)) (fun M8 => o_bd (v7 + 1 : Int32) (fun x9 => m_X12_feed_51 G a0 c1 c2 c3 c4 c5 n M8 v6 x9))))))))
set_option maxHeartbeats 4000000 in
set_option maxRecDepth 100000 in
theorem b_X12_feed_51 {p : Program} {e : Env} {s : State} {m : MethodId} {args : Array Value} {below : List Frame} {meth : Method} {c : Code} {A : Nat → Prop} {l : Launch} {D : va_G} {cy : cyS} {G : gS} (cx : cX p s m args meth c cX12_feed RX12 8 (some .int) wsX12_feed D cy G A) {k0 n0 : Nat} (hkn : k0 ≤ (rmX12_feed).cells ∧ n0 ≤ (rmX12_feed).slots) {M' : mS} {r : Int32} {a0 : Nat} {c1 : Int32} {c2 : Int32} {c3 : Int32} {c4 : Int32} {c5 : Int32} (hL0 : a0 ∈ gL G) (hK0 : gK G a0 = 11)  : ∀ (n : Nat), ∀ (M : mS) (v6 : Nat) (v7 : Int32) (H : Heap) (locs : List Loc) (ls : Array Slot), v6 ∈ gL G → gK G v6 = 12 → m_X12_feed_51 G a0 c1 c2 c3 c4 c5 n M v6 v7 = some (M', r) → wd D cy G M A s.heap H locs → lv_has ls 8 [(0, .ref a0), (6, .ref v6), (7, .int v7)] → W p l e rmX12_feed s m args below meth c H locs k0 n0 (MQ below (va_Qi (fun (r' : Int32) (_ : Unit) => r' = r) (fun _ t => wOut D cy G M' t) A) args s k0 n0 A) (F0 m 51 ls []) := by
  obtain ⟨hx, hb, hml, hown, hts, hr, hlocks, hK, hA, hG, hsx⟩ := id cx
  intro n
  induction n with
  | zero =>
    intro M v6 v7 H locs ls gL6 gK6 h w hl
    have h : none = some _ := h
    cases h
  | succ n ih =>
    intro M v6 v7 H locs ls gL6 gK6 h w hl
    rw [m_X12_feed_51] at h
    refine lv_iload hx hb dX12_feed_51 (lv_at hl 2 rfl) ?_
    refine lv_bipush (v := (20 : Int32)) hx hb dX12_feed_53 (by decide) ?_
    refine lv_icmp_ge (tgt := 98) hx hb dX12_feed_55 (by decide) (fun k1 => ?_) (fun k1 => ?_)
    · have h := x_t h k1
      refine lv_aload_n hx hb dX12_feed_98 rfl (lv_at hl 0 rfl) ?_
      refine lv_dup hx hb dX12_feed_99 rfl ?_
      refine r_getI (k := 2) (v := .int (mI M a0 2)) cx w hL0 hK0 (by decide) rfl wi_X12_feed_X12 (by decide) rfl (List.mem_of_getElem? (i := 2) rfl) dX12_feed_100 ?_
      refine lv_bipush (v := (20 : Int32)) hx hb dX12_feed_103 (by decide) ?_
      refine lv_iadd hx hb dX12_feed_105 ?_
      obtain ⟨M2, eM2, h⟩ := x_wI h
      refine r_putI (k := 2) (ty := .int) cx w tyX12 tyX12_ok nmX12 hL0 hK0 (by decide) rfl wi_X12_feed_X12 (by decide) rfl rfl rfl rfl st_11_2 (ln_11 _ _ (by decide)) (List.mem_of_getElem? (i := 2) rfl) dX12_feed_106 eM2 (fun H locs w => ?_)
      refine lv_aload_n hx hb dX12_feed_109 rfl (lv_at hl 0 rfl) ?_
      refine r_getI (k := 2) (v := .int (mI M2 a0 2)) cx w hL0 hK0 (by decide) rfl wi_X12_feed_X12 (by decide) rfl (List.mem_of_getElem? (i := 2) rfl) dX12_feed_110 ?_
      exact r_iret cx w h dX12_feed_113
    · have h := x_f h k1
      refine lv_aload_n hx hb dX12_feed_58 rfl (lv_at hl 0 rfl) ?_
      obtain ⟨q3, eq3, h⟩ := x_rf h
      obtain ⟨hLq3, hKq3⟩ := wt_q hG hL0 hK0 eq3
      have hKq3 : gK G q3 = 12 := hKq3
      refine r_getR (k := 1) cx w hL0 hK0 (by decide) rfl wi_X12_feed_X12 (by decide) rfl eq3 (List.mem_of_getElem? (i := 4) rfl) dX12_feed_59 ?_
      refine lv_aload_n hx hb dX12_feed_62 rfl (lv_at hl 0 rfl) ?_
      refine r_getI (k := 2) (v := .int (mI M a0 2)) cx w hL0 hK0 (by decide) rfl wi_X12_feed_X12 (by decide) rfl (List.mem_of_getElem? (i := 2) rfl) dX12_feed_63 ?_
      refine lv_iload hx hb dX12_feed_66 (lv_at hl 2 rfl) ?_
      refine lv_iadd hx hb dX12_feed_68 ?_
      refine lv_aload hx hb dX12_feed_69 (lv_at hl 1 rfl) ?_
      refine lv_iload hx hb dX12_feed_71 (lv_at hl 2 rfl) ?_
      refine lv_iconst (v := (4 : Int32)) hx hb dX12_feed_73 (by decide) ?_
      obtain ⟨z4, h⟩ := x_ck h
      refine lv_idiv hx hb dX12_feed_74 z4 ?_
      obtain ⟨z5, h⟩ := x_ix h
      refine r_iald cx w gL6 gK6 z5 dX12_feed_75 ?_
      refine lv_bipush (v := (24 : Int32)) hx hb dX12_feed_76 (by decide) ?_
      refine lv_bipush (v := (8 : Int32)) hx hb dX12_feed_78 (by decide) ?_
      refine lv_iload hx hb dX12_feed_80 (lv_at hl 2 rfl) ?_
      refine lv_iconst (v := (4 : Int32)) hx hb dX12_feed_82 (by decide) ?_
      obtain ⟨z6, h⟩ := x_ck h
      refine lv_irem hx hb dX12_feed_83 z6 ?_
      refine lv_imul hx hb dX12_feed_84 ?_
      refine lv_isub hx hb dX12_feed_85 ?_
      refine lv_ishr hx hb dX12_feed_86 ?_
      refine lv_sipush (v := (255 : Int32)) hx hb dX12_feed_87 (by decide) ?_
      refine lv_iand hx hb dX12_feed_90 ?_
      obtain ⟨z7, h⟩ := x_ix h
      obtain ⟨M8, eM8, h⟩ := x_wI h
      refine r_iast cx w hLq3 hKq3 z7 dX12_feed_91 eM8 (fun H locs w => ?_)
      obtain ⟨x9, ex9, h⟩ := x_bd h
      refine lv_iinc (v := x9) (lv' := [(7, .int x9), (0, .ref a0), (6, .ref v6)]) hx hb dX12_feed_92 hl (k := 2) rfl (by rw [ex9]; rfl) (by decide) rfl (fun ls hl => ?_)
      refine lv_goto (tgt := 51) hx hb dX12_feed_95 (by decide) ?_
      exact ih M8 v6 x9 H locs ls gL6 gK6 h w (lv_sub hl [1, 2, 0] rfl)
def n_X12_feed (G : gS) (M : mS) (a0 : Nat) (c1 : Int32) (c2 : Int32) (c3 : Int32) (c4 : Int32) (c5 : Int32) (post : gS → mS → Int32 → Prop) : Prop := p_wI M a0 0 (0 : Int32) (fun M1 => (p_if ((mI M1 a0 2) ≤ (1980 : Int32)) (p_nw G M1 12 5 (fun q3 G M => p_ix (0 : Int32) (gN G q3) (p_wI M q3 (Int32.toNatClampNeg (0 : Int32)) c1 (fun M5 => p_ix (1 : Int32) (gN G q3) (p_wI M5 q3 (Int32.toNatClampNeg (1 : Int32)) c2 (fun M7 => p_ix (2 : Int32) (gN G q3) (p_wI M7 q3 (Int32.toNatClampNeg (2 : Int32)) c3 (fun M9 => p_ix (3 : Int32) (gN G q3) (p_wI M9 q3 (Int32.toNatClampNeg (3 : Int32)) c4 (fun M11 => p_ix (4 : Int32) (gN G q3) (p_wI M11 q3 (Int32.toNatClampNeg (4 : Int32)) c5 (fun M13 => p_cl (m_X12_feed_51 G a0 c1 c2 c3 c4 c5 fu M13 q3 ((0 : Int32))) (fun M r => post G M r))))))))))))) (p_cl (m_X12_no G M1 a0 (1 : Int32)) (fun M14 r15 => post G M14 r15))))
set_option maxHeartbeats 4000000 in
set_option maxRecDepth 100000 in
theorem kn_X12_feed {l : Launch} {D : va_G} {cy : cyS} {G : gS} {M : mS} {post : gS → mS → Int32 → Prop} {a0 : Nat} {c1 : Int32} {c2 : Int32} {c3 : Int32} {c4 : Int32} {c5 : Int32} (hG : wt G) (hL0 : a0 ∈ gL G) (hK0 : gK G a0 = 11) (h : n_X12_feed G M a0 c1 c2 c3 c4 c5 post) : ctNI l yX12_feed wsX12_feed rmX12_feed D cy G M [.ref a0, .int c1, .int c2, .int c3, .int c4, .int c5] 1 5 post := by
  unfold n_X12_feed at h
  refine ctNI_of (cc := cX12_feed) (nL := 8) (ret := (some .int)) (lv := [(0, .ref a0), (1, .int c1), (2, .int c2), (3, .int c3), (4, .int c4), (5, .int c5)]) hG (by decide) rfl (Nat.le_of_ble_eq_true rfl) rfl ?_
  intro p e s m args below meth c sz ls cx w hl
  obtain ⟨hx, hb, hml, hown, hts, hr, hlocks, hK, hA, -, hsx⟩ := id cx
  have hext := ext_rf (G := G)
  have hkn : ∀ {a b : Nat}, a ≤ 1 → b ≤ 5 → a ≤ (rmX12_feed).cells ∧ b ≤ (rmX12_feed).slots := fun h1 h2 => ⟨h1, h2⟩
  refine lv_aload_n hx hb dX12_feed_0 rfl (lv_at hl 0 rfl) ?_
  refine lv_iconst (v := (0 : Int32)) hx hb dX12_feed_1 (by decide) ?_
  obtain ⟨M1, eM1, h⟩ := w_wI h
  refine r_putI (k := 0) (ty := .int) cx w tyX12 tyX12_ok nmX12 hL0 hK0 (by decide) rfl wi_X12_feed_X12 (by decide) rfl rfl rfl rfl st_11_0 (ln_11 _ _ (by decide)) (List.mem_of_getElem? (i := 1) rfl) dX12_feed_2 eM1 (fun H locs w => ?_)
  refine lv_aload_n hx hb dX12_feed_5 rfl (lv_at hl 0 rfl) ?_
  refine r_getI (k := 2) (v := .int (mI M1 a0 2)) cx w hL0 hK0 (by decide) rfl wi_X12_feed_X12 (by decide) rfl (List.mem_of_getElem? (i := 2) rfl) dX12_feed_6 ?_
  refine lv_sipush (v := (1980 : Int32)) hx hb dX12_feed_9 (by decide) ?_
  refine lv_icmp_le (tgt := 21) hx hb dX12_feed_12 (by decide) (fun k2 => ?_) (fun k2 => ?_)
  · have h := w_t h k2
    refine lv_iconst (v := (5 : Int32)) hx hb dX12_feed_21 (by decide) ?_
    refine r_newI (N := 5) cx w (List.mem_of_getElem? (i := 3) rfl) (by decide) (by decide) (Nat.le_of_ble_eq_true rfl) (Nat.le_of_ble_eq_true rfl) (Nat.le_of_ble_eq_true rfl) dX12_feed_22 (fun q3 H nq3 w cx => ?_)
    have h := w_nw h nq3
    obtain ⟨G1, eG1⟩ : ∃ z, z = gNw G q3 12 5 := ⟨_, rfl⟩
    rw [← eG1] at cx w h
    have xe := ext_nw eG1 nq3
    have hLq3 := nw_Lq eG1
    have hKq3 := nw_Kq eG1
    have hK0 := ext_K xe hL0 hK0
    have hL0 := ext_L xe hL0
    have hext := ext_tr hext xe
    have hG := cX_wt cx
    clear eG1
    obtain ⟨M1, eM1⟩ : ∃ z, z = wZ M1 q3 := ⟨_, rfl⟩
    rw [← eM1] at w h
    clear xe
    obtain ⟨G, eG⟩ : ∃ z, z = G1 := ⟨_, rfl⟩
    obtain ⟨M, eM⟩ : ∃ z, z = M1 := ⟨_, rfl⟩
    subst eG
    subst eM
    refine lv_dup hx hb dX12_feed_24 rfl ?_
    refine lv_iconst (v := (0 : Int32)) hx hb dX12_feed_25 (by decide) ?_
    refine lv_iload_n hx hb dX12_feed_26 rfl (lv_at hl 1 rfl) ?_
    obtain ⟨z4, h⟩ := w_ix h
    obtain ⟨M5, eM5, h⟩ := w_wI h
    refine r_iast cx w hLq3 hKq3 z4 dX12_feed_27 eM5 (fun H locs w => ?_)
    refine lv_dup hx hb dX12_feed_28 rfl ?_
    refine lv_iconst (v := (1 : Int32)) hx hb dX12_feed_29 (by decide) ?_
    refine lv_iload_n hx hb dX12_feed_30 rfl (lv_at hl 2 rfl) ?_
    obtain ⟨z6, h⟩ := w_ix h
    obtain ⟨M7, eM7, h⟩ := w_wI h
    refine r_iast cx w hLq3 hKq3 z6 dX12_feed_31 eM7 (fun H locs w => ?_)
    refine lv_dup hx hb dX12_feed_32 rfl ?_
    refine lv_iconst (v := (2 : Int32)) hx hb dX12_feed_33 (by decide) ?_
    refine lv_iload_n hx hb dX12_feed_34 rfl (lv_at hl 3 rfl) ?_
    obtain ⟨z8, h⟩ := w_ix h
    obtain ⟨M9, eM9, h⟩ := w_wI h
    refine r_iast cx w hLq3 hKq3 z8 dX12_feed_35 eM9 (fun H locs w => ?_)
    refine lv_dup hx hb dX12_feed_36 rfl ?_
    refine lv_iconst (v := (3 : Int32)) hx hb dX12_feed_37 (by decide) ?_
    refine lv_iload hx hb dX12_feed_38 (lv_at hl 4 rfl) ?_
    obtain ⟨z10, h⟩ := w_ix h
    obtain ⟨M11, eM11, h⟩ := w_wI h
    refine r_iast cx w hLq3 hKq3 z10 dX12_feed_40 eM11 (fun H locs w => ?_)
    refine lv_dup hx hb dX12_feed_41 rfl ?_
    refine lv_iconst (v := (4 : Int32)) hx hb dX12_feed_42 (by decide) ?_
    refine lv_iload hx hb dX12_feed_43 (lv_at hl 5 rfl) ?_
    obtain ⟨z12, h⟩ := w_ix h
    obtain ⟨M13, eM13, h⟩ := w_wI h
    refine r_iast cx w hLq3 hKq3 z12 dX12_feed_45 eM13 (fun H locs w => ?_)
    refine lv_astore (lv' := [(6, .ref q3), (0, .ref a0), (1, .int c1), (2, .int c2), (3, .int c3), (4, .int c4), (5, .int c5)]) hx hb dX12_feed_46 hl (by decide) rfl (fun ls hl => ?_)
    refine lv_iconst (v := (0 : Int32)) hx hb dX12_feed_48 (by decide) ?_
    refine lv_istore (lv' := [(7, .int ((0 : Int32))), (6, .ref q3), (0, .ref a0), (1, .int c1), (2, .int c2), (3, .int c3), (4, .int c4), (5, .int c5)]) hx hb dX12_feed_49 hl (by decide) rfl (fun ls hl => ?_)
    obtain ⟨M9, r9, hB, h⟩ := w_cl h
    refine toI w hG hext h (Nat.le_of_ble_eq_true rfl) (Nat.le_of_ble_eq_true rfl) ?_
    exact b_X12_feed_51 cx ⟨Nat.le_of_ble_eq_true rfl, Nat.le_of_ble_eq_true rfl⟩ hL0 hK0 fu M13 q3 ((0 : Int32)) H locs ls hLq3 hKq3 hB w (lv_sub hl [2, 1, 0] rfl)
  · have h := w_f h k2
    refine lv_aload_n hx hb dX12_feed_15 rfl (lv_at hl 0 rfl) ?_
    refine lv_iconst (v := (1 : Int32)) hx hb dX12_feed_16 (by decide) ?_
    obtain ⟨M14, r15, y16, h⟩ := w_cl h
    refine r_callVi (As := [.int ((1 : Int32))]) (rest := []) cx w (hkn (Nat.le_of_ble_eq_true rfl) (Nat.le_of_ble_eq_true rfl)) hl.1 (k_X12_no hG hL0 hK0 y16) (cwV 1 hts gX12_feed_X12_no rfl rfl rfl (by decide +kernel) ⟨Nat.le_of_ble_eq_true rfl, Nat.le_of_ble_eq_true rfl⟩) hL0 hK0 (by decide) rfl rfl rfl (Nat.le_of_ble_eq_true rfl) dX12_feed_17 (fun H locs w => ?_)
    refine toI (M' := M14) (r := r15) w hG hext h (Nat.le_of_ble_eq_true rfl) (Nat.le_of_ble_eq_true rfl) ?_
    exact r_iret cx w rfl dX12_feed_20
-- X12_counted, with what it makes
theorem wi_X12_counted_X10 : ∀ w ∈ wsX100, w ∈ wsX12_counted := by decide +kernel
theorem wi_X12_counted_X11 : ∀ w ∈ wsX110, w ∈ wsX12_counted := by decide +kernel
theorem wi_X12_counted_X12 : ∀ w ∈ wsX120, w ∈ wsX12_counted := by decide +kernel
abbrev rmX12_counted : Room := { frames := 2, cells := 1, slots := 4, locals := 46 }
def n_X12_counted (G : gS) (M : mS) (a0 : Nat) (c1 : Int32) (post : gS → mS → Int32 → Prop) : Prop := p_cl (m_X12_isIn G M c1 (4 : Int32) (9 : Int32)) (fun M1 r2 => (p_if (r2 = 0) (p_nw G M1 12 4 (fun q5 G M => p_rf (gP G a0 13) (fun q6 => p_ix (0 : Int32) (gN G q5) (p_wI M q5 (Int32.toNatClampNeg (0 : Int32)) (mI M q6 0) (fun M8 => p_rf (gP G a0 11) (fun q9 => p_ix (1 : Int32) (gN G q5) (p_wI M8 q5 (Int32.toNatClampNeg (1 : Int32)) (mI M8 q9 0) (fun M11 => p_rf (gP G a0 11) (fun q12 => p_ix (2 : Int32) (gN G q5) (p_wI M11 q5 (Int32.toNatClampNeg (2 : Int32)) (mI M11 q12 3) (fun M14 => p_rf (gP G a0 11) (fun q15 => p_ix (3 : Int32) (gN G q5) (p_wI M14 q5 (Int32.toNatClampNeg (3 : Int32)) (mI M14 q15 11) (fun M17 => (p_if ((4 : Int32) ≤ c1) (post G M17 (mI M17 a0 2)) (p_ix c1 (gN G q5) (post G M17 (mI M17 q5 (Int32.toNatClampNeg c1))))))))))))))))))) (p_rf (gP G a0 13) (fun q20 => p_cl (m_X11_counted G M1 q20 c1) (fun M21 r22 => post G M21 r22)))))
set_option maxHeartbeats 4000000 in
set_option maxRecDepth 100000 in
theorem kn_X12_counted {l : Launch} {D : va_G} {cy : cyS} {G : gS} {M : mS} {post : gS → mS → Int32 → Prop} {a0 : Nat} {c1 : Int32} (hG : wt G) (hL0 : a0 ∈ gL G) (hK0 : gK G a0 = 11) (h : n_X12_counted G M a0 c1 post) : ctNI l yX12_counted wsX12_counted rmX12_counted D cy G M [.ref a0, .int c1] 1 4 post := by
  unfold n_X12_counted at h
  refine ctNI_of (cc := cX12_counted) (nL := 3) (ret := (some .int)) (lv := [(0, .ref a0), (1, .int c1)]) hG (by decide) rfl (Nat.le_of_ble_eq_true rfl) rfl ?_
  intro p e s m args below meth c sz ls cx w hl
  obtain ⟨hx, hb, hml, hown, hts, hr, hlocks, hK, hA, -, hsx⟩ := id cx
  have hext := ext_rf (G := G)
  have hkn : ∀ {a b : Nat}, a ≤ 1 → b ≤ 4 → a ≤ (rmX12_counted).cells ∧ b ≤ (rmX12_counted).slots := fun h1 h2 => ⟨h1, h2⟩
  refine lv_iload_n hx hb dX12_counted_0 rfl (lv_at hl 1 rfl) ?_
  refine lv_iconst (v := (4 : Int32)) hx hb dX12_counted_1 (by decide) ?_
  refine lv_bipush (v := (9 : Int32)) hx hb dX12_counted_2 (by decide) ?_
  obtain ⟨M1, r2, y3, h⟩ := w_cl h
  refine r_callSi (As := [.int c1, .int ((4 : Int32)), .int ((9 : Int32))]) (rest := []) cx w (hkn (Nat.le_of_ble_eq_true rfl) (Nat.le_of_ble_eq_true rfl)) hl.1 (k_X12_isIn hG y3) (va_cwS 3 hts gX12_counted_X12_isIn rfl rfl rfl (by decide +kernel) ⟨Nat.le_of_ble_eq_true rfl, Nat.le_of_ble_eq_true rfl⟩) rfl rfl (Nat.le_of_ble_eq_true rfl) dX12_counted_4 (fun H locs w => ?_)
  refine lv_if_eq (tgt := 19) hx hb dX12_counted_7 (by decide) (fun k4 => ?_) (fun k4 => ?_)
  · have h := w_t h k4
    refine lv_iconst (v := (4 : Int32)) hx hb dX12_counted_19 (by decide) ?_
    refine r_newI (N := 4) cx w (List.mem_of_getElem? (i := 2) rfl) (by decide) (by decide) (Nat.le_of_ble_eq_true rfl) (Nat.le_of_ble_eq_true rfl) (Nat.le_of_ble_eq_true rfl) dX12_counted_20 (fun q5 H nq5 w cx => ?_)
    have h := w_nw h nq5
    obtain ⟨G1, eG1⟩ : ∃ z, z = gNw G q5 12 4 := ⟨_, rfl⟩
    rw [← eG1] at cx w h
    have xe := ext_nw eG1 nq5
    have hLq5 := nw_Lq eG1
    have hKq5 := nw_Kq eG1
    have hK0 := ext_K xe hL0 hK0
    have hL0 := ext_L xe hL0
    have hext := ext_tr hext xe
    have hG := cX_wt cx
    clear eG1
    obtain ⟨M1, eM1⟩ : ∃ z, z = wZ M1 q5 := ⟨_, rfl⟩
    rw [← eM1] at w h
    clear xe
    obtain ⟨G, eG⟩ : ∃ z, z = G1 := ⟨_, rfl⟩
    obtain ⟨M, eM⟩ : ∃ z, z = M1 := ⟨_, rfl⟩
    subst eG
    subst eM
    refine lv_dup hx hb dX12_counted_22 rfl ?_
    refine lv_iconst (v := (0 : Int32)) hx hb dX12_counted_23 (by decide) ?_
    refine lv_aload_n hx hb dX12_counted_24 rfl (lv_at hl 0 rfl) ?_
    obtain ⟨q6, eq6, h⟩ := w_rf h
    obtain ⟨hLq6, hKq6⟩ := wt_q hG hL0 hK0 eq6
    have hKq6 : gK G q6 = 10 := hKq6
    refine r_getR (k := 13) cx w hL0 hK0 (by decide) rfl wi_X12_counted_X12 (by decide) rfl eq6 (List.mem_of_getElem? (i := 1) rfl) dX12_counted_25 ?_
    refine r_getIN (k := 0) (v := .int (mI M q6 0)) cx w hLq6 hKq6 (by decide) rfl wi_X12_counted_X11 (by decide) rfl (nwF cx (q := (RX12, 314, "FlagAntsModel$State", "step", "I", "FlagAntsModel")) (List.mem_of_getElem? (i := 22) rfl)) dX12_counted_28 ?_
    obtain ⟨z7, h⟩ := w_ix h
    obtain ⟨M8, eM8, h⟩ := w_wI h
    refine r_iast cx w hLq5 hKq5 z7 dX12_counted_31 eM8 (fun H locs w => ?_)
    refine lv_dup hx hb dX12_counted_32 rfl ?_
    refine lv_iconst (v := (1 : Int32)) hx hb dX12_counted_33 (by decide) ?_
    refine lv_aload_n hx hb dX12_counted_34 rfl (lv_at hl 0 rfl) ?_
    obtain ⟨q9, eq9, h⟩ := w_rf h
    obtain ⟨hLq9, hKq9⟩ := wt_q hG hL0 hK0 eq9
    have hKq9 : gK G q9 = 9 := hKq9
    refine r_getR (k := 11) cx w hL0 hK0 (by decide) rfl wi_X12_counted_X12 (by decide) rfl eq9 (List.mem_of_getElem? (i := 3) rfl) dX12_counted_35 ?_
    refine r_getIN (k := 0) (v := .int (mI M8 q9 0)) cx w hLq9 hKq9 (by decide) rfl wi_X12_counted_X10 (by decide) rfl (nwF cx (q := (RX12, 220, "FlagAntsModel$Plan", "rules", "I", "FlagAntsModel")) (List.mem_of_getElem? (i := 8) rfl)) dX12_counted_38 ?_
    obtain ⟨z10, h⟩ := w_ix h
    obtain ⟨M11, eM11, h⟩ := w_wI h
    refine r_iast cx w hLq5 hKq5 z10 dX12_counted_41 eM11 (fun H locs w => ?_)
    refine lv_dup hx hb dX12_counted_42 rfl ?_
    refine lv_iconst (v := (2 : Int32)) hx hb dX12_counted_43 (by decide) ?_
    refine lv_aload_n hx hb dX12_counted_44 rfl (lv_at hl 0 rfl) ?_
    obtain ⟨q12, eq12, h⟩ := w_rf h
    obtain ⟨hLq12, hKq12⟩ := wt_q hG hL0 hK0 eq12
    have hKq12 : gK G q12 = 9 := hKq12
    refine r_getR (k := 11) cx w hL0 hK0 (by decide) rfl wi_X12_counted_X12 (by decide) rfl eq12 (List.mem_of_getElem? (i := 3) rfl) dX12_counted_45 ?_
    refine r_getIN (k := 3) (v := .int (mI M11 q12 3)) cx w hLq12 hKq12 (by decide) rfl wi_X12_counted_X10 (by decide) rfl (nwF cx (q := (RX12, 64, "FlagAntsModel$Plan", "ants", "I", "FlagAntsModel")) (List.mem_of_getElem? (i := 0) rfl)) dX12_counted_48 ?_
    obtain ⟨z13, h⟩ := w_ix h
    obtain ⟨M14, eM14, h⟩ := w_wI h
    refine r_iast cx w hLq5 hKq5 z13 dX12_counted_51 eM14 (fun H locs w => ?_)
    refine lv_dup hx hb dX12_counted_52 rfl ?_
    refine lv_iconst (v := (3 : Int32)) hx hb dX12_counted_53 (by decide) ?_
    refine lv_aload_n hx hb dX12_counted_54 rfl (lv_at hl 0 rfl) ?_
    obtain ⟨q15, eq15, h⟩ := w_rf h
    obtain ⟨hLq15, hKq15⟩ := wt_q hG hL0 hK0 eq15
    have hKq15 : gK G q15 = 9 := hKq15
    refine r_getR (k := 11) cx w hL0 hK0 (by decide) rfl wi_X12_counted_X12 (by decide) rfl eq15 (List.mem_of_getElem? (i := 3) rfl) dX12_counted_55 ?_
    refine r_getIN (k := 11) (v := .int (mI M14 q15 11)) cx w hLq15 hKq15 (by decide) rfl wi_X12_counted_X10 (by decide) rfl (nwF cx (q := (RX12, 235, "FlagAntsModel$Plan", "orders", "I", "FlagAntsModel")) (List.mem_of_getElem? (i := 12) rfl)) dX12_counted_58 ?_
    obtain ⟨z16, h⟩ := w_ix h
    obtain ⟨M17, eM17, h⟩ := w_wI h
    refine r_iast cx w hLq5 hKq5 z16 dX12_counted_61 eM17 (fun H locs w => ?_)
    refine lv_astore_n (lv' := [(2, .ref q5), (0, .ref a0), (1, .int c1)]) hx hb dX12_counted_62 rfl hl (by decide) rfl (fun ls hl => ?_)
    refine lv_iload_n hx hb dX12_counted_63 rfl (lv_at hl 2 rfl) ?_
    refine lv_iconst (v := (4 : Int32)) hx hb dX12_counted_64 (by decide) ?_
    refine lv_icmp_ge (tgt := 74) hx hb dX12_counted_65 (by decide) (fun k18 => ?_) (fun k18 => ?_)
    · have h := w_t h k18
      refine lv_aload_n hx hb dX12_counted_74 rfl (lv_at hl 1 rfl) ?_
      refine r_getI (k := 2) (v := .int (mI M17 a0 2)) cx w hL0 hK0 (by decide) rfl wi_X12_counted_X12 (by decide) rfl (List.mem_of_getElem? (i := 4) rfl) dX12_counted_75 ?_
      refine toI (M' := M17) (r := (mI M17 a0 2)) w hG hext h (Nat.le_of_ble_eq_true rfl) (Nat.le_of_ble_eq_true rfl) ?_
      exact r_iret cx w rfl dX12_counted_78
    · have h := w_f h k18
      refine lv_aload_n hx hb dX12_counted_68 rfl (lv_at hl 0 rfl) ?_
      refine lv_iload_n hx hb dX12_counted_69 rfl (lv_at hl 2 rfl) ?_
      obtain ⟨z19, h⟩ := w_ix h
      refine r_iald cx w hLq5 hKq5 z19 dX12_counted_70 ?_
      refine lv_goto (tgt := 78) hx hb dX12_counted_71 (by decide) ?_
      refine toI (M' := M17) (r := (mI M17 q5 (Int32.toNatClampNeg c1))) w hG hext h (Nat.le_of_ble_eq_true rfl) (Nat.le_of_ble_eq_true rfl) ?_
      exact r_iret cx w rfl dX12_counted_78
  · have h := w_f h k4
    refine lv_aload_n hx hb dX12_counted_10 rfl (lv_at hl 0 rfl) ?_
    obtain ⟨q20, eq20, h⟩ := w_rf h
    obtain ⟨hLq20, hKq20⟩ := wt_q hG hL0 hK0 eq20
    have hKq20 : gK G q20 = 10 := hKq20
    refine r_getR (k := 13) cx w hL0 hK0 (by decide) rfl wi_X12_counted_X12 (by decide) rfl eq20 (List.mem_of_getElem? (i := 1) rfl) dX12_counted_11 ?_
    refine lv_iload_n hx hb dX12_counted_14 rfl (lv_at hl 1 rfl) ?_
    obtain ⟨M21, r22, y23, h⟩ := w_cl h
    refine r_callVi (As := [.int c1]) (rest := []) cx w (hkn (Nat.le_of_ble_eq_true rfl) (Nat.le_of_ble_eq_true rfl)) hl.1 (k_X11_counted hG hLq20 hKq20 y23) (cwV 1 hts gX12_counted_X11_counted rfl rfl rfl (by decide +kernel) ⟨Nat.le_of_ble_eq_true rfl, Nat.le_of_ble_eq_true rfl⟩) hLq20 hKq20 (by decide) rfl rfl rfl (Nat.le_of_ble_eq_true rfl) dX12_counted_15 (fun H locs w => ?_)
    refine toI (M' := M21) (r := r22) w hG hext h (Nat.le_of_ble_eq_true rfl) (Nat.le_of_ble_eq_true rfl) ?_
    exact r_iret cx w rfl dX12_counted_18
-- X12_count, with what it makes
theorem wi_X12_count_X12 : ∀ w ∈ wsX120, w ∈ wsX12_count := by decide +kernel
abbrev rmX12_count : Room := { frames := 3, cells := 1, slots := 4, locals := 68 }
def n_X12_count (G : gS) (M : mS) (a0 : Nat) (c1 : Int32) (post : gS → mS → Int32 → Prop) : Prop := p_wI M a0 0 (0 : Int32) (fun M1 => p_cl (m_X12_isIn G M1 c1 (0 : Int32) (10 : Int32)) (fun M2 r3 => (p_if (r3 = 0) (p_cl (m_X12_no G M2 a0 (1 : Int32)) (fun M6 r7 => post G M6 r7)) (n_X12_counted G M2 a0 c1 (fun G M r9 => post G M r9)))))
set_option maxHeartbeats 4000000 in
set_option maxRecDepth 100000 in
theorem kn_X12_count {l : Launch} {D : va_G} {cy : cyS} {G : gS} {M : mS} {post : gS → mS → Int32 → Prop} {a0 : Nat} {c1 : Int32} (hG : wt G) (hL0 : a0 ∈ gL G) (hK0 : gK G a0 = 11) (h : n_X12_count G M a0 c1 post) : ctNI l yX12_count wsX12_count rmX12_count D cy G M [.ref a0, .int c1] 1 4 post := by
  unfold n_X12_count at h
  refine ctNI_of (cc := cX12_count) (nL := 2) (ret := (some .int)) (lv := [(0, .ref a0), (1, .int c1)]) hG (by decide) rfl (Nat.le_of_ble_eq_true rfl) rfl ?_
  intro p e s m args below meth c sz ls cx w hl
  obtain ⟨hx, hb, hml, hown, hts, hr, hlocks, hK, hA, -, hsx⟩ := id cx
  have hext := ext_rf (G := G)
  have hkn : ∀ {a b : Nat}, a ≤ 1 → b ≤ 4 → a ≤ (rmX12_count).cells ∧ b ≤ (rmX12_count).slots := fun h1 h2 => ⟨h1, h2⟩
  refine lv_aload_n hx hb dX12_count_0 rfl (lv_at hl 0 rfl) ?_
  refine lv_iconst (v := (0 : Int32)) hx hb dX12_count_1 (by decide) ?_
  obtain ⟨M1, eM1, h⟩ := w_wI h
  refine r_putI (k := 0) (ty := .int) cx w tyX12 tyX12_ok nmX12 hL0 hK0 (by decide) rfl wi_X12_count_X12 (by decide) rfl rfl rfl rfl st_11_0 (ln_11 _ _ (by decide)) (List.mem_of_getElem? (i := 1) rfl) dX12_count_2 eM1 (fun H locs w => ?_)
  refine lv_iload_n hx hb dX12_count_5 rfl (lv_at hl 1 rfl) ?_
  refine lv_iconst (v := (0 : Int32)) hx hb dX12_count_6 (by decide) ?_
  refine lv_bipush (v := (10 : Int32)) hx hb dX12_count_7 (by decide) ?_
  obtain ⟨M2, r3, y4, h⟩ := w_cl h
  refine r_callSi (As := [.int c1, .int ((0 : Int32)), .int ((10 : Int32))]) (rest := []) cx w (hkn (Nat.le_of_ble_eq_true rfl) (Nat.le_of_ble_eq_true rfl)) hl.1 (k_X12_isIn hG y4) (va_cwS 3 hts gX12_count_X12_isIn rfl rfl rfl (by decide +kernel) ⟨Nat.le_of_ble_eq_true rfl, Nat.le_of_ble_eq_true rfl⟩) rfl rfl (Nat.le_of_ble_eq_true rfl) dX12_count_9 (fun H locs w => ?_)
  refine lv_if_eq (tgt := 23) hx hb dX12_count_12 (by decide) (fun k5 => ?_) (fun k5 => ?_)
  · have h := w_t h k5
    refine lv_aload_n hx hb dX12_count_23 rfl (lv_at hl 0 rfl) ?_
    refine lv_iconst (v := (1 : Int32)) hx hb dX12_count_24 (by decide) ?_
    obtain ⟨M6, r7, y8, h⟩ := w_cl h
    refine r_callVi (As := [.int ((1 : Int32))]) (rest := []) cx w (hkn (Nat.le_of_ble_eq_true rfl) (Nat.le_of_ble_eq_true rfl)) hl.1 (k_X12_no hG hL0 hK0 y8) (cwV 1 hts gX12_count_X12_no rfl rfl rfl (by decide +kernel) ⟨Nat.le_of_ble_eq_true rfl, Nat.le_of_ble_eq_true rfl⟩) hL0 hK0 (by decide) rfl rfl rfl (Nat.le_of_ble_eq_true rfl) dX12_count_25 (fun H locs w => ?_)
    refine toI (M' := M6) (r := r7) w hG hext h (Nat.le_of_ble_eq_true rfl) (Nat.le_of_ble_eq_true rfl) ?_
    exact r_iret cx w rfl dX12_count_28
  · have h := w_f h k5
    refine lv_aload_n hx hb dX12_count_15 rfl (lv_at hl 0 rfl) ?_
    refine lv_iload_n hx hb dX12_count_16 rfl (lv_at hl 1 rfl) ?_
    refine r_callNVI (As := [.int c1]) (rest := []) cx w ⟨Nat.le_of_ble_eq_true rfl, Nat.le_of_ble_eq_true rfl⟩ hl.1 (kn_X12_counted hG hL0 hK0 h) (cwV 1 hts gX12_count_X12_counted rfl rfl rfl (by decide +kernel) ⟨Nat.le_of_ble_eq_true rfl, Nat.le_of_ble_eq_true rfl⟩) hL0 hK0 (by decide) rfl rfl rfl (Nat.le_of_ble_eq_true rfl) dX12_count_17 (fun G1 M1 r9 H locs h xe cx w => ?_)
    have hK0 := ext_K xe hL0 hK0
    have hL0 := ext_L xe hL0
    have hext := ext_tr hext xe
    have hG := cX_wt cx
    clear xe
    obtain ⟨G, eG⟩ : ∃ z, z = G1 := ⟨_, rfl⟩
    obtain ⟨M, eM⟩ : ∃ z, z = M1 := ⟨_, rfl⟩
    subst eG
    subst eM
    refine lv_goto (tgt := 28) hx hb dX12_count_20 (by decide) ?_
    refine toI (M' := M) (r := r9) w hG hext h (Nat.le_of_ble_eq_true rfl) (Nat.le_of_ble_eq_true rfl) ?_
    exact r_iret cx w rfl dX12_count_28
-- X12_digest, with what it makes
theorem wi_X12_digest_X10 : ∀ w ∈ wsX100, w ∈ wsX12_digest := by decide +kernel
theorem wi_X12_digest_X11 : ∀ w ∈ wsX110, w ∈ wsX12_digest := by decide +kernel
theorem wi_X12_digest_X12 : ∀ w ∈ wsX120, w ∈ wsX12_digest := by decide +kernel
abbrev rmX12_digest : Room := { frames := 3, cells := 11, slots := 44, locals := 70 }
def m_X12_digest_52 (G : gS) (a0 : Nat) (kb38 : mS → Int64 → Int32 → Option (mS × Int64)) : Nat → mS → Int64 → Int32 → Int32 → Option (mS × Int64)
  | 0, _, _, _, _ => none
  | n + 1, M, v1, v3, v4 => (if (5 : Int32) < v4 then o_bd (v3 + 1 : Int32) (fun x2 => kb38 M v1 x2) else o_rf (gP G a0 11) (fun q3 => o_rf (gP G q3 2) (fun q4 => o_rf (gP G a0 11) (fun q5 => o_rf (gP G q5 1) (fun q6 => o_ix v3 (gN G q6) (o_ck (¬ (mI M q6 (Int32.toNatClampNeg v3)) = 0) (o_ix (((6 : Int32) * v3) + (v4 - v4 / (mI M q6 (Int32.toNatClampNeg v3)) * (mI M q6 (Int32.toNatClampNeg v3)))) (gN G q4) (o_bd (((v1 * (31 : Int64)) + (Int32.toInt64 (mI M q4 (Int32.toNatClampNeg (((6 : Int32) * v3) + (v4 - v4 / (mI M q6 (Int32.toNatClampNeg v3)) * (mI M q6 (Int32.toNatClampNeg v3))))))))) (fun x10 => o_bd (v4 + 1 : Int32) (fun x11 => m_X12_digest_52 G a0 kb38 n M x10 v3 x11))))))))))
def m_X12_digest_119 (G : gS) (a0 : Nat) (kb105 : mS → Int64 → Int32 → Option (mS × Int64)) : Nat → mS → Int64 → Int32 → Int32 → Option (mS × Int64)
  | 0, _, _, _, _ => none
  | n + 1, M, v1, v3, v4 => (if (8 : Int32) < v4 then o_bd (v3 + 1 : Int32) (fun x2 => kb105 M v1 x2) else o_cl (m_X12_antTold G M a0 v3 v4) (fun M3 r4 => o_bd (((v1 * (31 : Int64)) + (Int32.toInt64 r4))) (fun x6 => o_bd (v4 + 1 : Int32) (fun x7 => m_X12_digest_119 G a0 kb105 n M3 x6 v3 x7))))
def m_X12_digest_168 (G : gS) (a0 : Nat)  : Nat → mS → Int64 → Nat → Int32 → Int32 → Option (mS × Int64)
  | 0, _, _, _, _, _ => none
  | n + 1, M, v1, v3, v4, v5 => (if v4 ≤ v5 then some (M, v1) else o_ix v5 (gN G v3) (o_bd ((mI M v3 (Int32.toNatClampNeg v5))) (fun x3 => o_bd (((v1 * (31 : Int64)) + (Int32.toInt64 x3))) (fun x4 => o_bd (v5 + 1 : Int32) (fun x5 => m_X12_digest_168 G a0 n M x4 v3 v4 x5)))))
def m_X12_digest_105 (G : gS) (a0 : Nat)  : Nat → mS → Int64 → Int32 → Option (mS × Int64)
  | 0, _, _, _ => none
  | n + 1, M, v1, v3 => o_rf (gP G a0 11) (fun q1 => (if (mI M q1 3) ≤ v3 then o_rf (gP G a0 13) (fun q3 => o_rf (gP G q3 4) (fun q4 => o_bd ((Int32.ofNat (gN G q4))) (fun x5 => m_X12_digest_168 G a0 fu M v1 q4 x5 ((0 : Int32))))) else m_X12_digest_119 G a0 (fun M v1 v3 => m_X12_digest_105 G a0 n M v1 v3) fu M v1 v3 ((0 : Int32))))
def m_X12_digest_38 (G : gS) (a0 : Nat)  : Nat → mS → Int64 → Int32 → Option (mS × Int64)
  | 0, _, _, _ => none
  | n + 1, M, v1, v3 => o_rf (gP G a0 11) (fun q1 => (if (mI M q1 0) ≤ v3 then m_X12_digest_105 G a0 fu M v1 ((0 : Int32)) else m_X12_digest_52 G a0 (fun M v1 v3 => m_X12_digest_38 G a0 n M v1 v3) fu M v1 v3 ((0 : Int32))))
set_option maxHeartbeats 4000000 in
set_option maxRecDepth 100000 in
theorem b_X12_digest_52 {p : Program} {e : Env} {s : State} {m : MethodId} {args : Array Value} {below : List Frame} {meth : Method} {c : Code} {A : Nat → Prop} {l : Launch} {D : va_G} {cy : cyS} {G : gS} (cx : cX p s m args meth c cX12_digest RX12 7 (some .long) wsX12_digest D cy G A) {k0 n0 : Nat} (hkn : k0 ≤ (rmX12_digest).cells ∧ n0 ≤ (rmX12_digest).slots) {M' : mS} {r : Int64} {a0 : Nat} (hL0 : a0 ∈ gL G) (hK0 : gK G a0 = 11) {kb38 : mS → Int64 → Int32 → Option (mS × Int64)} (hkb38 : ∀ (M : mS) (v1 : Int64) (v3 : Int32) (H : Heap) (locs : List Loc) (ls : Array Slot), kb38 M v1 v3 = some (M', r) → wd D cy G M A s.heap H locs → lv_has ls 7 [(0, .ref a0), (1, .long v1), (3, .int v3)] → W p l e rmX12_digest s m args below meth c H locs k0 n0 (MQ below (va_Ql (fun (r' : Int64) (_ : Unit) => r' = r) (fun _ t => wOut D cy G M' t) A) args s k0 n0 A) (F0 m 38 ls [])) : ∀ (n : Nat), ∀ (M : mS) (v1 : Int64) (v3 : Int32) (v4 : Int32) (H : Heap) (locs : List Loc) (ls : Array Slot), m_X12_digest_52 G a0 kb38 n M v1 v3 v4 = some (M', r) → wd D cy G M A s.heap H locs → lv_has ls 7 [(0, .ref a0), (1, .long v1), (3, .int v3), (4, .int v4)] → W p l e rmX12_digest s m args below meth c H locs k0 n0 (MQ below (va_Ql (fun (r' : Int64) (_ : Unit) => r' = r) (fun _ t => wOut D cy G M' t) A) args s k0 n0 A) (F0 m 52 ls []) := by
  obtain ⟨hx, hb, hml, hown, hts, hr, hlocks, hK, hA, hG, hsx⟩ := id cx
  intro n
  induction n with
  | zero =>
    intro M v1 v3 v4 H locs ls h w hl
    have h : none = some _ := h
    cases h
  | succ n ih =>
    intro M v1 v3 v4 H locs ls h w hl
    rw [m_X12_digest_52] at h
    refine lv_iload hx hb dX12_digest_52 (lv_at hl 3 rfl) ?_
    refine lv_iconst (v := (5 : Int32)) hx hb dX12_digest_54 (by decide) ?_
    refine lv_icmp_gt (tgt := 97) hx hb dX12_digest_55 (by decide) (fun k1 => ?_) (fun k1 => ?_)
    · have h := x_t h k1
      obtain ⟨x2, ex2, h⟩ := x_bd h
      refine lv_iinc (v := x2) (lv' := [(3, .int x2), (0, .ref a0), (1, .long v1), (4, .int v4)]) hx hb dX12_digest_97 hl (k := 2) rfl (by rw [ex2]; rfl) (by decide) rfl (fun ls hl => ?_)
      refine lv_goto (tgt := 38) hx hb dX12_digest_100 (by decide) ?_
      exact hkb38 M v1 x2 H locs ls h w (lv_sub hl [1, 2, 0] rfl)
    · have h := x_f h k1
      refine lv_lload_n hx hb dX12_digest_58 rfl (lv_at hl 1 rfl) ?_
      refine lv_ldc2 (v := 31) hx hb hown (hts (.constantLong RX12 382 (31)) (List.mem_of_getElem? (i := 3) rfl)) dX12_digest_59 ?_
      refine lv_lmul hx hb dX12_digest_62 ?_
      refine lv_aload_n hx hb dX12_digest_63 rfl (lv_at hl 0 rfl) ?_
      obtain ⟨q3, eq3, h⟩ := x_rf h
      obtain ⟨hLq3, hKq3⟩ := wt_q hG hL0 hK0 eq3
      have hKq3 : gK G q3 = 9 := hKq3
      refine r_getR (k := 11) cx w hL0 hK0 (by decide) rfl wi_X12_digest_X12 (by decide) rfl eq3 (List.mem_of_getElem? (i := 4) rfl) dX12_digest_64 ?_
      obtain ⟨q4, eq4, h⟩ := x_rf h
      obtain ⟨hLq4, hKq4⟩ := wt_q hG hLq3 hKq3 eq4
      have hKq4 : gK G q4 = 12 := hKq4
      refine r_getRN (k := 2) cx w hLq3 hKq3 (by decide) rfl wi_X12_digest_X10 (by decide) rfl eq4 (nwF cx (q := (RX12, 230, "FlagAntsModel$Plan", "turn", "[I", "FlagAntsModel")) (List.mem_of_getElem? (i := 10) rfl)) dX12_digest_67 ?_
      refine lv_bipush (v := (6 : Int32)) hx hb dX12_digest_70 (by decide) ?_
      refine lv_iload_n hx hb dX12_digest_72 rfl (lv_at hl 2 rfl) ?_
      refine lv_imul hx hb dX12_digest_73 ?_
      refine lv_iload hx hb dX12_digest_74 (lv_at hl 3 rfl) ?_
      refine lv_aload_n hx hb dX12_digest_76 rfl (lv_at hl 0 rfl) ?_
      obtain ⟨q5, eq5, h⟩ := x_rf h
      obtain ⟨hLq5, hKq5⟩ := wt_q hG hL0 hK0 eq5
      have hKq5 : gK G q5 = 9 := hKq5
      refine r_getR (k := 11) cx w hL0 hK0 (by decide) rfl wi_X12_digest_X12 (by decide) rfl eq5 (List.mem_of_getElem? (i := 4) rfl) dX12_digest_77 ?_
      obtain ⟨q6, eq6, h⟩ := x_rf h
      obtain ⟨hLq6, hKq6⟩ := wt_q hG hLq5 hKq5 eq6
      have hKq6 : gK G q6 = 12 := hKq6
      refine r_getRN (k := 1) cx w hLq5 hKq5 (by decide) rfl wi_X12_digest_X10 (by decide) rfl eq6 (nwF cx (q := (RX12, 227, "FlagAntsModel$Plan", "turns", "[I", "FlagAntsModel")) (List.mem_of_getElem? (i := 9) rfl)) dX12_digest_80 ?_
      refine lv_iload_n hx hb dX12_digest_83 rfl (lv_at hl 2 rfl) ?_
      obtain ⟨z7, h⟩ := x_ix h
      refine r_iald cx w hLq6 hKq6 z7 dX12_digest_84 ?_
      obtain ⟨z8, h⟩ := x_ck h
      refine lv_irem hx hb dX12_digest_85 z8 ?_
      refine lv_iadd hx hb dX12_digest_86 ?_
      obtain ⟨z9, h⟩ := x_ix h
      refine r_iald cx w hLq4 hKq4 z9 dX12_digest_87 ?_
      refine lv_i2l (v := (Int32.toInt64 (mI M q4 (Int32.toNatClampNeg (((6 : Int32) * v3) + (v4 - v4 / (mI M q6 (Int32.toNatClampNeg v3)) * (mI M q6 (Int32.toNatClampNeg v3)))))))) hx hb dX12_digest_88 rfl ?_
      refine lv_ladd hx hb dX12_digest_89 ?_
      obtain ⟨x10, ex10, h⟩ := x_bd h
      refine r_topJ ex10 ?_
      refine lv_lstore_n (lv' := [(1, .long x10), (0, .ref a0), (3, .int v3), (4, .int v4)]) hx hb dX12_digest_90 rfl hl (by decide) rfl (fun ls hl => ?_)
      obtain ⟨x11, ex11, h⟩ := x_bd h
      refine lv_iinc (v := x11) (lv' := [(4, .int x11), (1, .long x10), (0, .ref a0), (3, .int v3)]) hx hb dX12_digest_91 hl (k := 3) rfl (by rw [ex11]; rfl) (by decide) rfl (fun ls hl => ?_)
      refine lv_goto (tgt := 52) hx hb dX12_digest_94 (by decide) ?_
      exact ih M x10 v3 x11 H locs ls h w (lv_sub hl [2, 1, 3, 0] rfl)
set_option maxHeartbeats 4000000 in
set_option maxRecDepth 100000 in
theorem b_X12_digest_119 {p : Program} {e : Env} {s : State} {m : MethodId} {args : Array Value} {below : List Frame} {meth : Method} {c : Code} {A : Nat → Prop} {l : Launch} {D : va_G} {cy : cyS} {G : gS} (cx : cX p s m args meth c cX12_digest RX12 7 (some .long) wsX12_digest D cy G A) {k0 n0 : Nat} (hkn : k0 ≤ (rmX12_digest).cells ∧ n0 ≤ (rmX12_digest).slots) {M' : mS} {r : Int64} {a0 : Nat} (hL0 : a0 ∈ gL G) (hK0 : gK G a0 = 11) {kb105 : mS → Int64 → Int32 → Option (mS × Int64)} (hkb105 : ∀ (M : mS) (v1 : Int64) (v3 : Int32) (H : Heap) (locs : List Loc) (ls : Array Slot), kb105 M v1 v3 = some (M', r) → wd D cy G M A s.heap H locs → lv_has ls 7 [(0, .ref a0), (1, .long v1), (3, .int v3)] → W p l e rmX12_digest s m args below meth c H locs k0 n0 (MQ below (va_Ql (fun (r' : Int64) (_ : Unit) => r' = r) (fun _ t => wOut D cy G M' t) A) args s k0 n0 A) (F0 m 105 ls [])) : ∀ (n : Nat), ∀ (M : mS) (v1 : Int64) (v3 : Int32) (v4 : Int32) (H : Heap) (locs : List Loc) (ls : Array Slot), m_X12_digest_119 G a0 kb105 n M v1 v3 v4 = some (M', r) → wd D cy G M A s.heap H locs → lv_has ls 7 [(0, .ref a0), (1, .long v1), (3, .int v3), (4, .int v4)] → W p l e rmX12_digest s m args below meth c H locs k0 n0 (MQ below (va_Ql (fun (r' : Int64) (_ : Unit) => r' = r) (fun _ t => wOut D cy G M' t) A) args s k0 n0 A) (F0 m 119 ls []) := by
  obtain ⟨hx, hb, hml, hown, hts, hr, hlocks, hK, hA, hG, hsx⟩ := id cx
  intro n
  induction n with
  | zero =>
    intro M v1 v3 v4 H locs ls h w hl
    have h : none = some _ := h
    cases h
  | succ n ih =>
    intro M v1 v3 v4 H locs ls h w hl
    rw [m_X12_digest_119] at h
    refine lv_iload hx hb dX12_digest_119 (lv_at hl 3 rfl) ?_
    refine lv_bipush (v := (8 : Int32)) hx hb dX12_digest_121 (by decide) ?_
    refine lv_icmp_gt (tgt := 147) hx hb dX12_digest_123 (by decide) (fun k1 => ?_) (fun k1 => ?_)
    · have h := x_t h k1
      obtain ⟨x2, ex2, h⟩ := x_bd h
      refine lv_iinc (v := x2) (lv' := [(3, .int x2), (0, .ref a0), (1, .long v1), (4, .int v4)]) hx hb dX12_digest_147 hl (k := 2) rfl (by rw [ex2]; rfl) (by decide) rfl (fun ls hl => ?_)
      refine lv_goto (tgt := 105) hx hb dX12_digest_150 (by decide) ?_
      exact hkb105 M v1 x2 H locs ls h w (lv_sub hl [1, 2, 0] rfl)
    · have h := x_f h k1
      refine lv_lload_n hx hb dX12_digest_126 rfl (lv_at hl 1 rfl) ?_
      refine lv_ldc2 (v := 31) hx hb hown (hts (.constantLong RX12 382 (31)) (List.mem_of_getElem? (i := 3) rfl)) dX12_digest_127 ?_
      refine lv_lmul hx hb dX12_digest_130 ?_
      refine lv_aload_n hx hb dX12_digest_131 rfl (lv_at hl 0 rfl) ?_
      refine lv_iload_n hx hb dX12_digest_132 rfl (lv_at hl 2 rfl) ?_
      refine lv_iload hx hb dX12_digest_133 (lv_at hl 3 rfl) ?_
      obtain ⟨M3, r4, y5, h⟩ := x_cl h
      refine r_callVi (As := [.int v3, .int v4]) (rest := [.long ((v1 * (31 : Int64)))]) cx w hkn hl.1 (k_X12_antTold hG hL0 hK0 y5) (cwV 2 hts gX12_digest_X12_antTold rfl rfl rfl (by decide +kernel) ⟨Nat.le_of_ble_eq_true rfl, Nat.le_of_ble_eq_true rfl⟩) hL0 hK0 (by decide) rfl rfl rfl (Nat.le_of_ble_eq_true rfl) dX12_digest_135 (fun H locs w => ?_)
      refine lv_i2l (v := (Int32.toInt64 r4)) hx hb dX12_digest_138 rfl ?_
      refine lv_ladd hx hb dX12_digest_139 ?_
      obtain ⟨x6, ex6, h⟩ := x_bd h
      refine r_topJ ex6 ?_
      refine lv_lstore_n (lv' := [(1, .long x6), (0, .ref a0), (3, .int v3), (4, .int v4)]) hx hb dX12_digest_140 rfl hl (by decide) rfl (fun ls hl => ?_)
      obtain ⟨x7, ex7, h⟩ := x_bd h
      refine lv_iinc (v := x7) (lv' := [(4, .int x7), (1, .long x6), (0, .ref a0), (3, .int v3)]) hx hb dX12_digest_141 hl (k := 3) rfl (by rw [ex7]; rfl) (by decide) rfl (fun ls hl => ?_)
      refine lv_goto (tgt := 119) hx hb dX12_digest_144 (by decide) ?_
      exact ih M3 x6 v3 x7 H locs ls h w (lv_sub hl [2, 1, 3, 0] rfl)
set_option maxHeartbeats 4000000 in
set_option maxRecDepth 100000 in
theorem b_X12_digest_168 {p : Program} {e : Env} {s : State} {m : MethodId} {args : Array Value} {below : List Frame} {meth : Method} {c : Code} {A : Nat → Prop} {l : Launch} {D : va_G} {cy : cyS} {G : gS} (cx : cX p s m args meth c cX12_digest RX12 7 (some .long) wsX12_digest D cy G A) {k0 n0 : Nat} (hkn : k0 ≤ (rmX12_digest).cells ∧ n0 ≤ (rmX12_digest).slots) {M' : mS} {r : Int64} {a0 : Nat} (hL0 : a0 ∈ gL G) (hK0 : gK G a0 = 11)  : ∀ (n : Nat), ∀ (M : mS) (v1 : Int64) (v3 : Nat) (v4 : Int32) (v5 : Int32) (H : Heap) (locs : List Loc) (ls : Array Slot), v3 ∈ gL G → gK G v3 = 12 → m_X12_digest_168 G a0 n M v1 v3 v4 v5 = some (M', r) → wd D cy G M A s.heap H locs → lv_has ls 7 [(1, .long v1), (3, .ref v3), (4, .int v4), (5, .int v5)] → W p l e rmX12_digest s m args below meth c H locs k0 n0 (MQ below (va_Ql (fun (r' : Int64) (_ : Unit) => r' = r) (fun _ t => wOut D cy G M' t) A) args s k0 n0 A) (F0 m 168 ls []) := by
  obtain ⟨hx, hb, hml, hown, hts, hr, hlocks, hK, hA, hG, hsx⟩ := id cx
  intro n
  induction n with
  | zero =>
    intro M v1 v3 v4 v5 H locs ls gL3 gK3 h w hl
    have h : none = some _ := h
    cases h
  | succ n ih =>
    intro M v1 v3 v4 v5 H locs ls gL3 gK3 h w hl
    rw [m_X12_digest_168] at h
    refine lv_iload hx hb dX12_digest_168 (lv_at hl 3 rfl) ?_
    refine lv_iload hx hb dX12_digest_170 (lv_at hl 2 rfl) ?_
    refine lv_icmp_ge (tgt := 197) hx hb dX12_digest_172 (by decide) (fun k1 => ?_) (fun k1 => ?_)
    · have h := x_t h k1
      refine lv_lload_n hx hb dX12_digest_197 rfl (lv_at hl 0 rfl) ?_
      exact r_lret cx w h dX12_digest_198
    · have h := x_f h k1
      refine lv_aload_n hx hb dX12_digest_175 rfl (lv_at hl 1 rfl) ?_
      refine lv_iload hx hb dX12_digest_176 (lv_at hl 3 rfl) ?_
      obtain ⟨z2, h⟩ := x_ix h
      refine r_iald cx w gL3 gK3 z2 dX12_digest_178 ?_
      obtain ⟨x3, ex3, h⟩ := x_bd h
      refine r_topI ex3 ?_
      refine lv_istore (lv' := [(6, .int x3), (1, .long v1), (3, .ref v3), (4, .int v4), (5, .int v5)]) hx hb dX12_digest_179 hl (by decide) rfl (fun ls hl => ?_)
      refine lv_lload_n hx hb dX12_digest_181 rfl (lv_at hl 1 rfl) ?_
      refine lv_ldc2 (v := 31) hx hb hown (hts (.constantLong RX12 382 (31)) (List.mem_of_getElem? (i := 3) rfl)) dX12_digest_182 ?_
      refine lv_lmul hx hb dX12_digest_185 ?_
      refine lv_iload hx hb dX12_digest_186 (lv_at hl 0 rfl) ?_
      refine lv_i2l (v := (Int32.toInt64 x3)) hx hb dX12_digest_188 rfl ?_
      refine lv_ladd hx hb dX12_digest_189 ?_
      obtain ⟨x4, ex4, h⟩ := x_bd h
      refine r_topJ ex4 ?_
      refine lv_lstore_n (lv' := [(1, .long x4), (6, .int x3), (3, .ref v3), (4, .int v4), (5, .int v5)]) hx hb dX12_digest_190 rfl hl (by decide) rfl (fun ls hl => ?_)
      obtain ⟨x5, ex5, h⟩ := x_bd h
      refine lv_iinc (v := x5) (lv' := [(5, .int x5), (1, .long x4), (6, .int x3), (3, .ref v3), (4, .int v4)]) hx hb dX12_digest_191 hl (k := 4) rfl (by rw [ex5]; rfl) (by decide) rfl (fun ls hl => ?_)
      refine lv_goto (tgt := 168) hx hb dX12_digest_194 (by decide) ?_
      exact ih M x4 v3 v4 x5 H locs ls gL3 gK3 h w (lv_sub hl [1, 3, 4, 0] rfl)
set_option maxHeartbeats 4000000 in
set_option maxRecDepth 100000 in
theorem b_X12_digest_105 {p : Program} {e : Env} {s : State} {m : MethodId} {args : Array Value} {below : List Frame} {meth : Method} {c : Code} {A : Nat → Prop} {l : Launch} {D : va_G} {cy : cyS} {G : gS} (cx : cX p s m args meth c cX12_digest RX12 7 (some .long) wsX12_digest D cy G A) {k0 n0 : Nat} (hkn : k0 ≤ (rmX12_digest).cells ∧ n0 ≤ (rmX12_digest).slots) {M' : mS} {r : Int64} {a0 : Nat} (hL0 : a0 ∈ gL G) (hK0 : gK G a0 = 11)  : ∀ (n : Nat), ∀ (M : mS) (v1 : Int64) (v3 : Int32) (H : Heap) (locs : List Loc) (ls : Array Slot), m_X12_digest_105 G a0 n M v1 v3 = some (M', r) → wd D cy G M A s.heap H locs → lv_has ls 7 [(0, .ref a0), (1, .long v1), (3, .int v3)] → W p l e rmX12_digest s m args below meth c H locs k0 n0 (MQ below (va_Ql (fun (r' : Int64) (_ : Unit) => r' = r) (fun _ t => wOut D cy G M' t) A) args s k0 n0 A) (F0 m 105 ls []) := by
  obtain ⟨hx, hb, hml, hown, hts, hr, hlocks, hK, hA, hG, hsx⟩ := id cx
  intro n
  induction n with
  | zero =>
    intro M v1 v3 H locs ls h w hl
    have h : none = some _ := h
    cases h
  | succ n ih =>
    intro M v1 v3 H locs ls h w hl
    rw [m_X12_digest_105] at h
    refine lv_iload_n hx hb dX12_digest_105 rfl (lv_at hl 2 rfl) ?_
    refine lv_aload_n hx hb dX12_digest_106 rfl (lv_at hl 0 rfl) ?_
    obtain ⟨q1, eq1, h⟩ := x_rf h
    obtain ⟨hLq1, hKq1⟩ := wt_q hG hL0 hK0 eq1
    have hKq1 : gK G q1 = 9 := hKq1
    refine r_getR (k := 11) cx w hL0 hK0 (by decide) rfl wi_X12_digest_X12 (by decide) rfl eq1 (List.mem_of_getElem? (i := 4) rfl) dX12_digest_107 ?_
    refine r_getIN (k := 3) (v := .int (mI M q1 3)) cx w hLq1 hKq1 (by decide) rfl wi_X12_digest_X10 (by decide) rfl (nwF cx (q := (RX12, 64, "FlagAntsModel$Plan", "ants", "I", "FlagAntsModel")) (List.mem_of_getElem? (i := 0) rfl)) dX12_digest_110 ?_
    refine lv_icmp_ge (tgt := 153) hx hb dX12_digest_113 (by decide) (fun k2 => ?_) (fun k2 => ?_)
    · have h := x_t h k2
      refine lv_aload_n hx hb dX12_digest_153 rfl (lv_at hl 0 rfl) ?_
      obtain ⟨q3, eq3, h⟩ := x_rf h
      obtain ⟨hLq3, hKq3⟩ := wt_q hG hL0 hK0 eq3
      have hKq3 : gK G q3 = 10 := hKq3
      refine r_getR (k := 13) cx w hL0 hK0 (by decide) rfl wi_X12_digest_X12 (by decide) rfl eq3 (List.mem_of_getElem? (i := 5) rfl) dX12_digest_154 ?_
      obtain ⟨q4, eq4, h⟩ := x_rf h
      obtain ⟨hLq4, hKq4⟩ := wt_q hG hLq3 hKq3 eq4
      have hKq4 : gK G q4 = 12 := hKq4
      refine r_getRN (k := 4) cx w hLq3 hKq3 (by decide) rfl wi_X12_digest_X11 (by decide) rfl eq4 (nwF cx (q := (RX12, 321, "FlagAntsModel$State", "colours", "[I", "FlagAntsModel")) (List.mem_of_getElem? (i := 23) rfl)) dX12_digest_157 ?_
      refine lv_astore_n (lv' := [(3, .ref q4), (0, .ref a0), (1, .long v1)]) hx hb dX12_digest_160 rfl hl (by decide) rfl (fun ls hl => ?_)
      refine lv_aload_n hx hb dX12_digest_161 rfl (lv_at hl 0 rfl) ?_
      refine r_alen cx w hLq4 hKq4 (by decide) dX12_digest_162 ?_
      obtain ⟨x5, ex5, h⟩ := x_bd h
      refine r_topI ex5 ?_
      refine lv_istore (lv' := [(4, .int x5), (3, .ref q4), (0, .ref a0), (1, .long v1)]) hx hb dX12_digest_163 hl (by decide) rfl (fun ls hl => ?_)
      refine lv_iconst (v := (0 : Int32)) hx hb dX12_digest_165 (by decide) ?_
      refine lv_istore (lv' := [(5, .int ((0 : Int32))), (4, .int x5), (3, .ref q4), (0, .ref a0), (1, .long v1)]) hx hb dX12_digest_166 hl (by decide) rfl (fun ls hl => ?_)
      exact b_X12_digest_168 cx hkn hL0 hK0 fu M v1 q4 x5 ((0 : Int32)) H locs ls hLq4 hKq4 h w (lv_sub hl [4, 2, 1, 0] rfl)
    · have h := x_f h k2
      refine lv_iconst (v := (0 : Int32)) hx hb dX12_digest_116 (by decide) ?_
      refine lv_istore (lv' := [(4, .int ((0 : Int32))), (0, .ref a0), (1, .long v1), (3, .int v3)]) hx hb dX12_digest_117 hl (by decide) rfl (fun ls hl => ?_)
      exact b_X12_digest_119 cx hkn hL0 hK0 (hkb105 := ih) fu M v1 v3 ((0 : Int32)) H locs ls h w (lv_sub hl [1, 2, 3, 0] rfl)
set_option maxHeartbeats 4000000 in
set_option maxRecDepth 100000 in
theorem b_X12_digest_38 {p : Program} {e : Env} {s : State} {m : MethodId} {args : Array Value} {below : List Frame} {meth : Method} {c : Code} {A : Nat → Prop} {l : Launch} {D : va_G} {cy : cyS} {G : gS} (cx : cX p s m args meth c cX12_digest RX12 7 (some .long) wsX12_digest D cy G A) {k0 n0 : Nat} (hkn : k0 ≤ (rmX12_digest).cells ∧ n0 ≤ (rmX12_digest).slots) {M' : mS} {r : Int64} {a0 : Nat} (hL0 : a0 ∈ gL G) (hK0 : gK G a0 = 11)  : ∀ (n : Nat), ∀ (M : mS) (v1 : Int64) (v3 : Int32) (H : Heap) (locs : List Loc) (ls : Array Slot), m_X12_digest_38 G a0 n M v1 v3 = some (M', r) → wd D cy G M A s.heap H locs → lv_has ls 7 [(0, .ref a0), (1, .long v1), (3, .int v3)] → W p l e rmX12_digest s m args below meth c H locs k0 n0 (MQ below (va_Ql (fun (r' : Int64) (_ : Unit) => r' = r) (fun _ t => wOut D cy G M' t) A) args s k0 n0 A) (F0 m 38 ls []) := by
  obtain ⟨hx, hb, hml, hown, hts, hr, hlocks, hK, hA, hG, hsx⟩ := id cx
  intro n
  induction n with
  | zero =>
    intro M v1 v3 H locs ls h w hl
    have h : none = some _ := h
    cases h
  | succ n ih =>
    intro M v1 v3 H locs ls h w hl
    rw [m_X12_digest_38] at h
    refine lv_iload_n hx hb dX12_digest_38 rfl (lv_at hl 2 rfl) ?_
    refine lv_aload_n hx hb dX12_digest_39 rfl (lv_at hl 0 rfl) ?_
    obtain ⟨q1, eq1, h⟩ := x_rf h
    obtain ⟨hLq1, hKq1⟩ := wt_q hG hL0 hK0 eq1
    have hKq1 : gK G q1 = 9 := hKq1
    refine r_getR (k := 11) cx w hL0 hK0 (by decide) rfl wi_X12_digest_X12 (by decide) rfl eq1 (List.mem_of_getElem? (i := 4) rfl) dX12_digest_40 ?_
    refine r_getIN (k := 0) (v := .int (mI M q1 0)) cx w hLq1 hKq1 (by decide) rfl wi_X12_digest_X10 (by decide) rfl (nwF cx (q := (RX12, 220, "FlagAntsModel$Plan", "rules", "I", "FlagAntsModel")) (List.mem_of_getElem? (i := 8) rfl)) dX12_digest_43 ?_
    refine lv_icmp_ge (tgt := 103) hx hb dX12_digest_46 (by decide) (fun k2 => ?_) (fun k2 => ?_)
    · have h := x_t h k2
      refine lv_iconst (v := (0 : Int32)) hx hb dX12_digest_103 (by decide) ?_
      refine lv_istore_n (lv' := [(3, .int ((0 : Int32))), (0, .ref a0), (1, .long v1)]) hx hb dX12_digest_104 rfl hl (by decide) rfl (fun ls hl => ?_)
      exact b_X12_digest_105 cx hkn hL0 hK0 fu M v1 ((0 : Int32)) H locs ls h w (lv_sub hl [1, 2, 0] rfl)
    · have h := x_f h k2
      refine lv_iconst (v := (0 : Int32)) hx hb dX12_digest_49 (by decide) ?_
      refine lv_istore (lv' := [(4, .int ((0 : Int32))), (0, .ref a0), (1, .long v1), (3, .int v3)]) hx hb dX12_digest_50 hl (by decide) rfl (fun ls hl => ?_)
      exact b_X12_digest_52 cx hkn hL0 hK0 (hkb38 := ih) fu M v1 v3 ((0 : Int32)) H locs ls h w (lv_sub hl [1, 2, 3, 0] rfl)
def n_X12_digest (G : gS) (M : mS) (a0 : Nat) (post : gS → mS → Int64 → Prop) : Prop := p_wI M a0 0 (0 : Int32) (fun M1 => n_X12_counted G M1 a0 (0 : Int32) (fun G M r2 => p_bd ((((911 : Int64) * (31 : Int64)) + (Int32.toInt64 r2))) (fun x3 => n_X12_counted G M a0 (1 : Int32) (fun G M r4 => p_bd (((x3 * (31 : Int64)) + (Int32.toInt64 r4))) (fun x5 => n_X12_counted G M a0 (2 : Int32) (fun G M r6 => p_bd (((x5 * (31 : Int64)) + (Int32.toInt64 r6))) (fun x7 => n_X12_counted G M a0 (3 : Int32) (fun G M r8 => p_bd (((x7 * (31 : Int64)) + (Int32.toInt64 r8))) (fun x9 => n_X12_counted G M a0 (4 : Int32) (fun G M r10 => p_bd (((x9 * (31 : Int64)) + (Int32.toInt64 r10))) (fun x11 => n_X12_counted G M a0 (5 : Int32) (fun G M r12 => p_bd (((x11 * (31 : Int64)) + (Int32.toInt64 r12))) (fun x13 => n_X12_counted G M a0 (6 : Int32) (fun G M r14 => p_bd (((x13 * (31 : Int64)) + (Int32.toInt64 r14))) (fun x15 => n_X12_counted G M a0 (7 : Int32) (fun G M r16 => p_bd (((x15 * (31 : Int64)) + (Int32.toInt64 r16))) (fun x17 => n_X12_counted G M a0 (8 : Int32) (fun G M r18 => p_bd (((x17 * (31 : Int64)) + (Int32.toInt64 r18))) (fun x19 => n_X12_counted G M a0 (9 : Int32) (fun G M r20 => p_bd (((x19 * (31 : Int64)) + (Int32.toInt64 r20))) (fun x21 => n_X12_counted G M a0 (10 : Int32) (fun G M r22 => p_bd (((x21 * (31 : Int64)) + (Int32.toInt64 r22))) (fun x23 => p_cl (m_X12_digest_38 G a0 fu M x23 ((0 : Int32))) (fun M r => post G M r))))))))))))))))))))))))
set_option maxHeartbeats 4000000 in
set_option maxRecDepth 100000 in
theorem kn_X12_digest {l : Launch} {D : va_G} {cy : cyS} {G : gS} {M : mS} {post : gS → mS → Int64 → Prop} {a0 : Nat} (hG : wt G) (hL0 : a0 ∈ gL G) (hK0 : gK G a0 = 11) (h : n_X12_digest G M a0 post) : ctNL l yX12_digest wsX12_digest rmX12_digest D cy G M [.ref a0] 11 44 post := by
  unfold n_X12_digest at h
  refine ctNL_of (cc := cX12_digest) (nL := 7) (ret := (some .long)) (lv := [(0, .ref a0)]) hG (by decide) rfl (Nat.le_of_ble_eq_true rfl) rfl ?_
  intro p e s m args below meth c sz ls cx w hl
  obtain ⟨hx, hb, hml, hown, hts, hr, hlocks, hK, hA, -, hsx⟩ := id cx
  have hext := ext_rf (G := G)
  have hkn : ∀ {a b : Nat}, a ≤ 11 → b ≤ 44 → a ≤ (rmX12_digest).cells ∧ b ≤ (rmX12_digest).slots := fun h1 h2 => ⟨h1, h2⟩
  refine lv_aload_n hx hb dX12_digest_0 rfl (lv_at hl 0 rfl) ?_
  refine lv_iconst (v := (0 : Int32)) hx hb dX12_digest_1 (by decide) ?_
  obtain ⟨M1, eM1, h⟩ := w_wI h
  refine r_putI (k := 0) (ty := .int) cx w tyX12 tyX12_ok nmX12 hL0 hK0 (by decide) rfl wi_X12_digest_X12 (by decide) rfl rfl rfl rfl st_11_0 (ln_11 _ _ (by decide)) (List.mem_of_getElem? (i := 1) rfl) dX12_digest_2 eM1 (fun H locs w => ?_)
  refine lv_ldc2 (v := 911) hx hb hown (hts (.constantLong RX12 380 (911)) (List.mem_of_getElem? (i := 2) rfl)) dX12_digest_5 ?_
  refine lv_lstore_n (lv' := [(1, .long ((911 : Int64))), (0, .ref a0)]) hx hb dX12_digest_8 rfl hl (by decide) rfl (fun ls hl => ?_)
  refine lv_iconst (v := (0 : Int32)) hx hb dX12_digest_9 (by decide) ?_
  refine lv_istore_n (lv' := [(3, .int ((0 : Int32))), (1, .long ((911 : Int64))), (0, .ref a0)]) hx hb dX12_digest_10 rfl hl (by decide) rfl (fun ls hl => ?_)
  refine lv_iload_n hx hb dX12_digest_11 rfl (lv_at hl 0 rfl) ?_
  refine lv_bipush (v := (10 : Int32)) hx hb dX12_digest_12 (by decide) ?_
  refine lv_icmp_gt (tgt := 36) hx hb dX12_digest_14 (by decide) (fun k => absurd k (by decide)) (fun _ => ?_)
  refine lv_lload_n hx hb dX12_digest_17 rfl (lv_at hl 1 rfl) ?_
  refine lv_ldc2 (v := 31) hx hb hown (hts (.constantLong RX12 382 (31)) (List.mem_of_getElem? (i := 3) rfl)) dX12_digest_18 ?_
  refine lv_lmul hx hb dX12_digest_21 ?_
  refine lv_aload_n hx hb dX12_digest_22 rfl (lv_at hl 2 rfl) ?_
  refine lv_iload_n hx hb dX12_digest_23 rfl (lv_at hl 0 rfl) ?_
  refine r_callNVI (As := [.int ((0 : Int32))]) (rest := [.long (((911 : Int64) * (31 : Int64)))]) cx w ⟨Nat.le_of_ble_eq_true rfl, Nat.le_of_ble_eq_true rfl⟩ hl.1 (kn_X12_counted hG hL0 hK0 h) (cwV 1 hts gX12_digest_X12_counted rfl rfl rfl (by decide +kernel) ⟨Nat.le_of_ble_eq_true rfl, Nat.le_of_ble_eq_true rfl⟩) hL0 hK0 (by decide) rfl rfl rfl (Nat.le_of_ble_eq_true rfl) dX12_digest_24 (fun G1 M1 r2 H locs h xe cx w => ?_)
  have hK0 := ext_K xe hL0 hK0
  have hL0 := ext_L xe hL0
  have hext := ext_tr hext xe
  have hG := cX_wt cx
  clear xe
  obtain ⟨G, eG⟩ : ∃ z, z = G1 := ⟨_, rfl⟩
  obtain ⟨M, eM⟩ : ∃ z, z = M1 := ⟨_, rfl⟩
  subst eG
  subst eM
  refine lv_i2l (v := (Int32.toInt64 r2)) hx hb dX12_digest_27 rfl ?_
  refine lv_ladd hx hb dX12_digest_28 ?_
  obtain ⟨x3, ex3, h⟩ := w_bd h
  refine r_topJ ex3 ?_
  refine lv_lstore_n (lv' := [(1, .long x3), (3, .int ((0 : Int32))), (0, .ref a0)]) hx hb dX12_digest_29 rfl hl (by decide) rfl (fun ls hl => ?_)
  refine lv_iinc (v := (1 : Int32)) (lv' := [(3, .int ((1 : Int32))), (1, .long x3), (0, .ref a0)]) hx hb dX12_digest_30 hl (k := 1) rfl (by decide) (by decide) rfl (fun ls hl => ?_)
  refine lv_goto (tgt := 11) hx hb dX12_digest_33 (by decide) ?_
  refine lv_iload_n hx hb dX12_digest_11 rfl (lv_at hl 0 rfl) ?_
  refine lv_bipush (v := (10 : Int32)) hx hb dX12_digest_12 (by decide) ?_
  refine lv_icmp_gt (tgt := 36) hx hb dX12_digest_14 (by decide) (fun k => absurd k (by decide)) (fun _ => ?_)
  refine lv_lload_n hx hb dX12_digest_17 rfl (lv_at hl 1 rfl) ?_
  refine lv_ldc2 (v := 31) hx hb hown (hts (.constantLong RX12 382 (31)) (List.mem_of_getElem? (i := 3) rfl)) dX12_digest_18 ?_
  refine lv_lmul hx hb dX12_digest_21 ?_
  refine lv_aload_n hx hb dX12_digest_22 rfl (lv_at hl 2 rfl) ?_
  refine lv_iload_n hx hb dX12_digest_23 rfl (lv_at hl 0 rfl) ?_
  refine r_callNVI (As := [.int ((1 : Int32))]) (rest := [.long ((x3 * (31 : Int64)))]) cx w ⟨Nat.le_of_ble_eq_true rfl, Nat.le_of_ble_eq_true rfl⟩ hl.1 (kn_X12_counted hG hL0 hK0 h) (cwV 1 hts gX12_digest_X12_counted rfl rfl rfl (by decide +kernel) ⟨Nat.le_of_ble_eq_true rfl, Nat.le_of_ble_eq_true rfl⟩) hL0 hK0 (by decide) rfl rfl rfl (Nat.le_of_ble_eq_true rfl) dX12_digest_24 (fun G1 M1 r4 H locs h xe cx w => ?_)
  have hK0 := ext_K xe hL0 hK0
  have hL0 := ext_L xe hL0
  have hext := ext_tr hext xe
  have hG := cX_wt cx
  clear xe
  obtain ⟨G, eG⟩ : ∃ z, z = G1 := ⟨_, rfl⟩
  obtain ⟨M, eM⟩ : ∃ z, z = M1 := ⟨_, rfl⟩
  subst eG
  subst eM
  refine lv_i2l (v := (Int32.toInt64 r4)) hx hb dX12_digest_27 rfl ?_
  refine lv_ladd hx hb dX12_digest_28 ?_
  obtain ⟨x5, ex5, h⟩ := w_bd h
  refine r_topJ ex5 ?_
  refine lv_lstore_n (lv' := [(1, .long x5), (3, .int ((1 : Int32))), (0, .ref a0)]) hx hb dX12_digest_29 rfl hl (by decide) rfl (fun ls hl => ?_)
  refine lv_iinc (v := (2 : Int32)) (lv' := [(3, .int ((2 : Int32))), (1, .long x5), (0, .ref a0)]) hx hb dX12_digest_30 hl (k := 1) rfl (by decide) (by decide) rfl (fun ls hl => ?_)
  refine lv_goto (tgt := 11) hx hb dX12_digest_33 (by decide) ?_
  refine lv_iload_n hx hb dX12_digest_11 rfl (lv_at hl 0 rfl) ?_
  refine lv_bipush (v := (10 : Int32)) hx hb dX12_digest_12 (by decide) ?_
  refine lv_icmp_gt (tgt := 36) hx hb dX12_digest_14 (by decide) (fun k => absurd k (by decide)) (fun _ => ?_)
  refine lv_lload_n hx hb dX12_digest_17 rfl (lv_at hl 1 rfl) ?_
  refine lv_ldc2 (v := 31) hx hb hown (hts (.constantLong RX12 382 (31)) (List.mem_of_getElem? (i := 3) rfl)) dX12_digest_18 ?_
  refine lv_lmul hx hb dX12_digest_21 ?_
  refine lv_aload_n hx hb dX12_digest_22 rfl (lv_at hl 2 rfl) ?_
  refine lv_iload_n hx hb dX12_digest_23 rfl (lv_at hl 0 rfl) ?_
  refine r_callNVI (As := [.int ((2 : Int32))]) (rest := [.long ((x5 * (31 : Int64)))]) cx w ⟨Nat.le_of_ble_eq_true rfl, Nat.le_of_ble_eq_true rfl⟩ hl.1 (kn_X12_counted hG hL0 hK0 h) (cwV 1 hts gX12_digest_X12_counted rfl rfl rfl (by decide +kernel) ⟨Nat.le_of_ble_eq_true rfl, Nat.le_of_ble_eq_true rfl⟩) hL0 hK0 (by decide) rfl rfl rfl (Nat.le_of_ble_eq_true rfl) dX12_digest_24 (fun G1 M1 r6 H locs h xe cx w => ?_)
  have hK0 := ext_K xe hL0 hK0
  have hL0 := ext_L xe hL0
  have hext := ext_tr hext xe
  have hG := cX_wt cx
  clear xe
  obtain ⟨G, eG⟩ : ∃ z, z = G1 := ⟨_, rfl⟩
  obtain ⟨M, eM⟩ : ∃ z, z = M1 := ⟨_, rfl⟩
  subst eG
  subst eM
  refine lv_i2l (v := (Int32.toInt64 r6)) hx hb dX12_digest_27 rfl ?_
  refine lv_ladd hx hb dX12_digest_28 ?_
  obtain ⟨x7, ex7, h⟩ := w_bd h
  refine r_topJ ex7 ?_
  refine lv_lstore_n (lv' := [(1, .long x7), (3, .int ((2 : Int32))), (0, .ref a0)]) hx hb dX12_digest_29 rfl hl (by decide) rfl (fun ls hl => ?_)
  refine lv_iinc (v := (3 : Int32)) (lv' := [(3, .int ((3 : Int32))), (1, .long x7), (0, .ref a0)]) hx hb dX12_digest_30 hl (k := 1) rfl (by decide) (by decide) rfl (fun ls hl => ?_)
  refine lv_goto (tgt := 11) hx hb dX12_digest_33 (by decide) ?_
  refine lv_iload_n hx hb dX12_digest_11 rfl (lv_at hl 0 rfl) ?_
  refine lv_bipush (v := (10 : Int32)) hx hb dX12_digest_12 (by decide) ?_
  refine lv_icmp_gt (tgt := 36) hx hb dX12_digest_14 (by decide) (fun k => absurd k (by decide)) (fun _ => ?_)
  refine lv_lload_n hx hb dX12_digest_17 rfl (lv_at hl 1 rfl) ?_
  refine lv_ldc2 (v := 31) hx hb hown (hts (.constantLong RX12 382 (31)) (List.mem_of_getElem? (i := 3) rfl)) dX12_digest_18 ?_
  refine lv_lmul hx hb dX12_digest_21 ?_
  refine lv_aload_n hx hb dX12_digest_22 rfl (lv_at hl 2 rfl) ?_
  refine lv_iload_n hx hb dX12_digest_23 rfl (lv_at hl 0 rfl) ?_
  refine r_callNVI (As := [.int ((3 : Int32))]) (rest := [.long ((x7 * (31 : Int64)))]) cx w ⟨Nat.le_of_ble_eq_true rfl, Nat.le_of_ble_eq_true rfl⟩ hl.1 (kn_X12_counted hG hL0 hK0 h) (cwV 1 hts gX12_digest_X12_counted rfl rfl rfl (by decide +kernel) ⟨Nat.le_of_ble_eq_true rfl, Nat.le_of_ble_eq_true rfl⟩) hL0 hK0 (by decide) rfl rfl rfl (Nat.le_of_ble_eq_true rfl) dX12_digest_24 (fun G1 M1 r8 H locs h xe cx w => ?_)
  have hK0 := ext_K xe hL0 hK0
  have hL0 := ext_L xe hL0
  have hext := ext_tr hext xe
  have hG := cX_wt cx
  clear xe
  obtain ⟨G, eG⟩ : ∃ z, z = G1 := ⟨_, rfl⟩
  obtain ⟨M, eM⟩ : ∃ z, z = M1 := ⟨_, rfl⟩
  subst eG
  subst eM
  refine lv_i2l (v := (Int32.toInt64 r8)) hx hb dX12_digest_27 rfl ?_
  refine lv_ladd hx hb dX12_digest_28 ?_
  obtain ⟨x9, ex9, h⟩ := w_bd h
  refine r_topJ ex9 ?_
  refine lv_lstore_n (lv' := [(1, .long x9), (3, .int ((3 : Int32))), (0, .ref a0)]) hx hb dX12_digest_29 rfl hl (by decide) rfl (fun ls hl => ?_)
  refine lv_iinc (v := (4 : Int32)) (lv' := [(3, .int ((4 : Int32))), (1, .long x9), (0, .ref a0)]) hx hb dX12_digest_30 hl (k := 1) rfl (by decide) (by decide) rfl (fun ls hl => ?_)
  refine lv_goto (tgt := 11) hx hb dX12_digest_33 (by decide) ?_
  refine lv_iload_n hx hb dX12_digest_11 rfl (lv_at hl 0 rfl) ?_
  refine lv_bipush (v := (10 : Int32)) hx hb dX12_digest_12 (by decide) ?_
  refine lv_icmp_gt (tgt := 36) hx hb dX12_digest_14 (by decide) (fun k => absurd k (by decide)) (fun _ => ?_)
  refine lv_lload_n hx hb dX12_digest_17 rfl (lv_at hl 1 rfl) ?_
  refine lv_ldc2 (v := 31) hx hb hown (hts (.constantLong RX12 382 (31)) (List.mem_of_getElem? (i := 3) rfl)) dX12_digest_18 ?_
  refine lv_lmul hx hb dX12_digest_21 ?_
  refine lv_aload_n hx hb dX12_digest_22 rfl (lv_at hl 2 rfl) ?_
  refine lv_iload_n hx hb dX12_digest_23 rfl (lv_at hl 0 rfl) ?_
  refine r_callNVI (As := [.int ((4 : Int32))]) (rest := [.long ((x9 * (31 : Int64)))]) cx w ⟨Nat.le_of_ble_eq_true rfl, Nat.le_of_ble_eq_true rfl⟩ hl.1 (kn_X12_counted hG hL0 hK0 h) (cwV 1 hts gX12_digest_X12_counted rfl rfl rfl (by decide +kernel) ⟨Nat.le_of_ble_eq_true rfl, Nat.le_of_ble_eq_true rfl⟩) hL0 hK0 (by decide) rfl rfl rfl (Nat.le_of_ble_eq_true rfl) dX12_digest_24 (fun G1 M1 r10 H locs h xe cx w => ?_)
  have hK0 := ext_K xe hL0 hK0
  have hL0 := ext_L xe hL0
  have hext := ext_tr hext xe
  have hG := cX_wt cx
  clear xe
  obtain ⟨G, eG⟩ : ∃ z, z = G1 := ⟨_, rfl⟩
  obtain ⟨M, eM⟩ : ∃ z, z = M1 := ⟨_, rfl⟩
  subst eG
  subst eM
  refine lv_i2l (v := (Int32.toInt64 r10)) hx hb dX12_digest_27 rfl ?_
  refine lv_ladd hx hb dX12_digest_28 ?_
  obtain ⟨x11, ex11, h⟩ := w_bd h
  refine r_topJ ex11 ?_
  refine lv_lstore_n (lv' := [(1, .long x11), (3, .int ((4 : Int32))), (0, .ref a0)]) hx hb dX12_digest_29 rfl hl (by decide) rfl (fun ls hl => ?_)
  refine lv_iinc (v := (5 : Int32)) (lv' := [(3, .int ((5 : Int32))), (1, .long x11), (0, .ref a0)]) hx hb dX12_digest_30 hl (k := 1) rfl (by decide) (by decide) rfl (fun ls hl => ?_)
  refine lv_goto (tgt := 11) hx hb dX12_digest_33 (by decide) ?_
  refine lv_iload_n hx hb dX12_digest_11 rfl (lv_at hl 0 rfl) ?_
  refine lv_bipush (v := (10 : Int32)) hx hb dX12_digest_12 (by decide) ?_
  refine lv_icmp_gt (tgt := 36) hx hb dX12_digest_14 (by decide) (fun k => absurd k (by decide)) (fun _ => ?_)
  refine lv_lload_n hx hb dX12_digest_17 rfl (lv_at hl 1 rfl) ?_
  refine lv_ldc2 (v := 31) hx hb hown (hts (.constantLong RX12 382 (31)) (List.mem_of_getElem? (i := 3) rfl)) dX12_digest_18 ?_
  refine lv_lmul hx hb dX12_digest_21 ?_
  refine lv_aload_n hx hb dX12_digest_22 rfl (lv_at hl 2 rfl) ?_
  refine lv_iload_n hx hb dX12_digest_23 rfl (lv_at hl 0 rfl) ?_
  refine r_callNVI (As := [.int ((5 : Int32))]) (rest := [.long ((x11 * (31 : Int64)))]) cx w ⟨Nat.le_of_ble_eq_true rfl, Nat.le_of_ble_eq_true rfl⟩ hl.1 (kn_X12_counted hG hL0 hK0 h) (cwV 1 hts gX12_digest_X12_counted rfl rfl rfl (by decide +kernel) ⟨Nat.le_of_ble_eq_true rfl, Nat.le_of_ble_eq_true rfl⟩) hL0 hK0 (by decide) rfl rfl rfl (Nat.le_of_ble_eq_true rfl) dX12_digest_24 (fun G1 M1 r12 H locs h xe cx w => ?_)
  have hK0 := ext_K xe hL0 hK0
  have hL0 := ext_L xe hL0
  have hext := ext_tr hext xe
  have hG := cX_wt cx
  clear xe
  obtain ⟨G, eG⟩ : ∃ z, z = G1 := ⟨_, rfl⟩
  obtain ⟨M, eM⟩ : ∃ z, z = M1 := ⟨_, rfl⟩
  subst eG
  subst eM
  refine lv_i2l (v := (Int32.toInt64 r12)) hx hb dX12_digest_27 rfl ?_
  refine lv_ladd hx hb dX12_digest_28 ?_
  obtain ⟨x13, ex13, h⟩ := w_bd h
  refine r_topJ ex13 ?_
  refine lv_lstore_n (lv' := [(1, .long x13), (3, .int ((5 : Int32))), (0, .ref a0)]) hx hb dX12_digest_29 rfl hl (by decide) rfl (fun ls hl => ?_)
  refine lv_iinc (v := (6 : Int32)) (lv' := [(3, .int ((6 : Int32))), (1, .long x13), (0, .ref a0)]) hx hb dX12_digest_30 hl (k := 1) rfl (by decide) (by decide) rfl (fun ls hl => ?_)
  refine lv_goto (tgt := 11) hx hb dX12_digest_33 (by decide) ?_
  refine lv_iload_n hx hb dX12_digest_11 rfl (lv_at hl 0 rfl) ?_
  refine lv_bipush (v := (10 : Int32)) hx hb dX12_digest_12 (by decide) ?_
  refine lv_icmp_gt (tgt := 36) hx hb dX12_digest_14 (by decide) (fun k => absurd k (by decide)) (fun _ => ?_)
  refine lv_lload_n hx hb dX12_digest_17 rfl (lv_at hl 1 rfl) ?_
  refine lv_ldc2 (v := 31) hx hb hown (hts (.constantLong RX12 382 (31)) (List.mem_of_getElem? (i := 3) rfl)) dX12_digest_18 ?_
  refine lv_lmul hx hb dX12_digest_21 ?_
  refine lv_aload_n hx hb dX12_digest_22 rfl (lv_at hl 2 rfl) ?_
  refine lv_iload_n hx hb dX12_digest_23 rfl (lv_at hl 0 rfl) ?_
  refine r_callNVI (As := [.int ((6 : Int32))]) (rest := [.long ((x13 * (31 : Int64)))]) cx w ⟨Nat.le_of_ble_eq_true rfl, Nat.le_of_ble_eq_true rfl⟩ hl.1 (kn_X12_counted hG hL0 hK0 h) (cwV 1 hts gX12_digest_X12_counted rfl rfl rfl (by decide +kernel) ⟨Nat.le_of_ble_eq_true rfl, Nat.le_of_ble_eq_true rfl⟩) hL0 hK0 (by decide) rfl rfl rfl (Nat.le_of_ble_eq_true rfl) dX12_digest_24 (fun G1 M1 r14 H locs h xe cx w => ?_)
  have hK0 := ext_K xe hL0 hK0
  have hL0 := ext_L xe hL0
  have hext := ext_tr hext xe
  have hG := cX_wt cx
  clear xe
  obtain ⟨G, eG⟩ : ∃ z, z = G1 := ⟨_, rfl⟩
  obtain ⟨M, eM⟩ : ∃ z, z = M1 := ⟨_, rfl⟩
  subst eG
  subst eM
  refine lv_i2l (v := (Int32.toInt64 r14)) hx hb dX12_digest_27 rfl ?_
  refine lv_ladd hx hb dX12_digest_28 ?_
  obtain ⟨x15, ex15, h⟩ := w_bd h
  refine r_topJ ex15 ?_
  refine lv_lstore_n (lv' := [(1, .long x15), (3, .int ((6 : Int32))), (0, .ref a0)]) hx hb dX12_digest_29 rfl hl (by decide) rfl (fun ls hl => ?_)
  refine lv_iinc (v := (7 : Int32)) (lv' := [(3, .int ((7 : Int32))), (1, .long x15), (0, .ref a0)]) hx hb dX12_digest_30 hl (k := 1) rfl (by decide) (by decide) rfl (fun ls hl => ?_)
  refine lv_goto (tgt := 11) hx hb dX12_digest_33 (by decide) ?_
  refine lv_iload_n hx hb dX12_digest_11 rfl (lv_at hl 0 rfl) ?_
  refine lv_bipush (v := (10 : Int32)) hx hb dX12_digest_12 (by decide) ?_
  refine lv_icmp_gt (tgt := 36) hx hb dX12_digest_14 (by decide) (fun k => absurd k (by decide)) (fun _ => ?_)
  refine lv_lload_n hx hb dX12_digest_17 rfl (lv_at hl 1 rfl) ?_
  refine lv_ldc2 (v := 31) hx hb hown (hts (.constantLong RX12 382 (31)) (List.mem_of_getElem? (i := 3) rfl)) dX12_digest_18 ?_
  refine lv_lmul hx hb dX12_digest_21 ?_
  refine lv_aload_n hx hb dX12_digest_22 rfl (lv_at hl 2 rfl) ?_
  refine lv_iload_n hx hb dX12_digest_23 rfl (lv_at hl 0 rfl) ?_
  refine r_callNVI (As := [.int ((7 : Int32))]) (rest := [.long ((x15 * (31 : Int64)))]) cx w ⟨Nat.le_of_ble_eq_true rfl, Nat.le_of_ble_eq_true rfl⟩ hl.1 (kn_X12_counted hG hL0 hK0 h) (cwV 1 hts gX12_digest_X12_counted rfl rfl rfl (by decide +kernel) ⟨Nat.le_of_ble_eq_true rfl, Nat.le_of_ble_eq_true rfl⟩) hL0 hK0 (by decide) rfl rfl rfl (Nat.le_of_ble_eq_true rfl) dX12_digest_24 (fun G1 M1 r16 H locs h xe cx w => ?_)
  have hK0 := ext_K xe hL0 hK0
  have hL0 := ext_L xe hL0
  have hext := ext_tr hext xe
  have hG := cX_wt cx
  clear xe
  obtain ⟨G, eG⟩ : ∃ z, z = G1 := ⟨_, rfl⟩
  obtain ⟨M, eM⟩ : ∃ z, z = M1 := ⟨_, rfl⟩
  subst eG
  subst eM
  refine lv_i2l (v := (Int32.toInt64 r16)) hx hb dX12_digest_27 rfl ?_
  refine lv_ladd hx hb dX12_digest_28 ?_
  obtain ⟨x17, ex17, h⟩ := w_bd h
  refine r_topJ ex17 ?_
  refine lv_lstore_n (lv' := [(1, .long x17), (3, .int ((7 : Int32))), (0, .ref a0)]) hx hb dX12_digest_29 rfl hl (by decide) rfl (fun ls hl => ?_)
  refine lv_iinc (v := (8 : Int32)) (lv' := [(3, .int ((8 : Int32))), (1, .long x17), (0, .ref a0)]) hx hb dX12_digest_30 hl (k := 1) rfl (by decide) (by decide) rfl (fun ls hl => ?_)
  refine lv_goto (tgt := 11) hx hb dX12_digest_33 (by decide) ?_
  refine lv_iload_n hx hb dX12_digest_11 rfl (lv_at hl 0 rfl) ?_
  refine lv_bipush (v := (10 : Int32)) hx hb dX12_digest_12 (by decide) ?_
  refine lv_icmp_gt (tgt := 36) hx hb dX12_digest_14 (by decide) (fun k => absurd k (by decide)) (fun _ => ?_)
  refine lv_lload_n hx hb dX12_digest_17 rfl (lv_at hl 1 rfl) ?_
  refine lv_ldc2 (v := 31) hx hb hown (hts (.constantLong RX12 382 (31)) (List.mem_of_getElem? (i := 3) rfl)) dX12_digest_18 ?_
  refine lv_lmul hx hb dX12_digest_21 ?_
  refine lv_aload_n hx hb dX12_digest_22 rfl (lv_at hl 2 rfl) ?_
  refine lv_iload_n hx hb dX12_digest_23 rfl (lv_at hl 0 rfl) ?_
  refine r_callNVI (As := [.int ((8 : Int32))]) (rest := [.long ((x17 * (31 : Int64)))]) cx w ⟨Nat.le_of_ble_eq_true rfl, Nat.le_of_ble_eq_true rfl⟩ hl.1 (kn_X12_counted hG hL0 hK0 h) (cwV 1 hts gX12_digest_X12_counted rfl rfl rfl (by decide +kernel) ⟨Nat.le_of_ble_eq_true rfl, Nat.le_of_ble_eq_true rfl⟩) hL0 hK0 (by decide) rfl rfl rfl (Nat.le_of_ble_eq_true rfl) dX12_digest_24 (fun G1 M1 r18 H locs h xe cx w => ?_)
  have hK0 := ext_K xe hL0 hK0
  have hL0 := ext_L xe hL0
  have hext := ext_tr hext xe
  have hG := cX_wt cx
  clear xe
  obtain ⟨G, eG⟩ : ∃ z, z = G1 := ⟨_, rfl⟩
  obtain ⟨M, eM⟩ : ∃ z, z = M1 := ⟨_, rfl⟩
  subst eG
  subst eM
  refine lv_i2l (v := (Int32.toInt64 r18)) hx hb dX12_digest_27 rfl ?_
  refine lv_ladd hx hb dX12_digest_28 ?_
  obtain ⟨x19, ex19, h⟩ := w_bd h
  refine r_topJ ex19 ?_
  refine lv_lstore_n (lv' := [(1, .long x19), (3, .int ((8 : Int32))), (0, .ref a0)]) hx hb dX12_digest_29 rfl hl (by decide) rfl (fun ls hl => ?_)
  refine lv_iinc (v := (9 : Int32)) (lv' := [(3, .int ((9 : Int32))), (1, .long x19), (0, .ref a0)]) hx hb dX12_digest_30 hl (k := 1) rfl (by decide) (by decide) rfl (fun ls hl => ?_)
  refine lv_goto (tgt := 11) hx hb dX12_digest_33 (by decide) ?_
  refine lv_iload_n hx hb dX12_digest_11 rfl (lv_at hl 0 rfl) ?_
  refine lv_bipush (v := (10 : Int32)) hx hb dX12_digest_12 (by decide) ?_
  refine lv_icmp_gt (tgt := 36) hx hb dX12_digest_14 (by decide) (fun k => absurd k (by decide)) (fun _ => ?_)
  refine lv_lload_n hx hb dX12_digest_17 rfl (lv_at hl 1 rfl) ?_
  refine lv_ldc2 (v := 31) hx hb hown (hts (.constantLong RX12 382 (31)) (List.mem_of_getElem? (i := 3) rfl)) dX12_digest_18 ?_
  refine lv_lmul hx hb dX12_digest_21 ?_
  refine lv_aload_n hx hb dX12_digest_22 rfl (lv_at hl 2 rfl) ?_
  refine lv_iload_n hx hb dX12_digest_23 rfl (lv_at hl 0 rfl) ?_
  refine r_callNVI (As := [.int ((9 : Int32))]) (rest := [.long ((x19 * (31 : Int64)))]) cx w ⟨Nat.le_of_ble_eq_true rfl, Nat.le_of_ble_eq_true rfl⟩ hl.1 (kn_X12_counted hG hL0 hK0 h) (cwV 1 hts gX12_digest_X12_counted rfl rfl rfl (by decide +kernel) ⟨Nat.le_of_ble_eq_true rfl, Nat.le_of_ble_eq_true rfl⟩) hL0 hK0 (by decide) rfl rfl rfl (Nat.le_of_ble_eq_true rfl) dX12_digest_24 (fun G1 M1 r20 H locs h xe cx w => ?_)
  have hK0 := ext_K xe hL0 hK0
  have hL0 := ext_L xe hL0
  have hext := ext_tr hext xe
  have hG := cX_wt cx
  clear xe
  obtain ⟨G, eG⟩ : ∃ z, z = G1 := ⟨_, rfl⟩
  obtain ⟨M, eM⟩ : ∃ z, z = M1 := ⟨_, rfl⟩
  subst eG
  subst eM
  refine lv_i2l (v := (Int32.toInt64 r20)) hx hb dX12_digest_27 rfl ?_
  refine lv_ladd hx hb dX12_digest_28 ?_
  obtain ⟨x21, ex21, h⟩ := w_bd h
  refine r_topJ ex21 ?_
  refine lv_lstore_n (lv' := [(1, .long x21), (3, .int ((9 : Int32))), (0, .ref a0)]) hx hb dX12_digest_29 rfl hl (by decide) rfl (fun ls hl => ?_)
  refine lv_iinc (v := (10 : Int32)) (lv' := [(3, .int ((10 : Int32))), (1, .long x21), (0, .ref a0)]) hx hb dX12_digest_30 hl (k := 1) rfl (by decide) (by decide) rfl (fun ls hl => ?_)
  refine lv_goto (tgt := 11) hx hb dX12_digest_33 (by decide) ?_
  refine lv_iload_n hx hb dX12_digest_11 rfl (lv_at hl 0 rfl) ?_
  refine lv_bipush (v := (10 : Int32)) hx hb dX12_digest_12 (by decide) ?_
  refine lv_icmp_gt (tgt := 36) hx hb dX12_digest_14 (by decide) (fun k => absurd k (by decide)) (fun _ => ?_)
  refine lv_lload_n hx hb dX12_digest_17 rfl (lv_at hl 1 rfl) ?_
  refine lv_ldc2 (v := 31) hx hb hown (hts (.constantLong RX12 382 (31)) (List.mem_of_getElem? (i := 3) rfl)) dX12_digest_18 ?_
  refine lv_lmul hx hb dX12_digest_21 ?_
  refine lv_aload_n hx hb dX12_digest_22 rfl (lv_at hl 2 rfl) ?_
  refine lv_iload_n hx hb dX12_digest_23 rfl (lv_at hl 0 rfl) ?_
  refine r_callNVI (As := [.int ((10 : Int32))]) (rest := [.long ((x21 * (31 : Int64)))]) cx w ⟨Nat.le_of_ble_eq_true rfl, Nat.le_of_ble_eq_true rfl⟩ hl.1 (kn_X12_counted hG hL0 hK0 h) (cwV 1 hts gX12_digest_X12_counted rfl rfl rfl (by decide +kernel) ⟨Nat.le_of_ble_eq_true rfl, Nat.le_of_ble_eq_true rfl⟩) hL0 hK0 (by decide) rfl rfl rfl (Nat.le_of_ble_eq_true rfl) dX12_digest_24 (fun G1 M1 r22 H locs h xe cx w => ?_)
  have hK0 := ext_K xe hL0 hK0
  have hL0 := ext_L xe hL0
  have hext := ext_tr hext xe
  have hG := cX_wt cx
  clear xe
  obtain ⟨G, eG⟩ : ∃ z, z = G1 := ⟨_, rfl⟩
  obtain ⟨M, eM⟩ : ∃ z, z = M1 := ⟨_, rfl⟩
  subst eG
  subst eM
  refine lv_i2l (v := (Int32.toInt64 r22)) hx hb dX12_digest_27 rfl ?_
  refine lv_ladd hx hb dX12_digest_28 ?_
  obtain ⟨x23, ex23, h⟩ := w_bd h
  refine r_topJ ex23 ?_
  refine lv_lstore_n (lv' := [(1, .long x23), (3, .int ((10 : Int32))), (0, .ref a0)]) hx hb dX12_digest_29 rfl hl (by decide) rfl (fun ls hl => ?_)
  refine lv_iinc (v := (11 : Int32)) (lv' := [(3, .int ((11 : Int32))), (1, .long x23), (0, .ref a0)]) hx hb dX12_digest_30 hl (k := 1) rfl (by decide) (by decide) rfl (fun ls hl => ?_)
  refine lv_goto (tgt := 11) hx hb dX12_digest_33 (by decide) ?_
  refine lv_iload_n hx hb dX12_digest_11 rfl (lv_at hl 0 rfl) ?_
  refine lv_bipush (v := (10 : Int32)) hx hb dX12_digest_12 (by decide) ?_
  refine lv_icmp_gt (tgt := 36) hx hb dX12_digest_14 (by decide) (fun _ => ?_) (fun k => absurd (by decide) k)
  refine lv_iconst (v := (0 : Int32)) hx hb dX12_digest_36 (by decide) ?_
  refine lv_istore_n (lv' := [(3, .int ((0 : Int32))), (1, .long x23), (0, .ref a0)]) hx hb dX12_digest_37 rfl hl (by decide) rfl (fun ls hl => ?_)
  obtain ⟨M9, r9, hB, h⟩ := w_cl h
  refine toL w hG hext h (Nat.le_of_ble_eq_true rfl) (Nat.le_of_ble_eq_true rfl) ?_
  exact b_X12_digest_38 cx ⟨Nat.le_of_ble_eq_true rfl, Nat.le_of_ble_eq_true rfl⟩ hL0 hK0 fu M x23 ((0 : Int32)) H locs ls hB w (lv_sub hl [2, 1, 0] rfl)
-- X12_read, with what it makes
theorem wi_X12_read_X10 : ∀ w ∈ wsX100, w ∈ wsX12_read := by decide +kernel
theorem wi_X12_read_X12 : ∀ w ∈ wsX120, w ∈ wsX12_read := by decide +kernel
abbrev rmX12_read : Room := { frames := 137, cells := 16, slots := 5482, locals := 7872 }
def m_X12_read_111 (G : gS) (a0 : Nat)  : Nat → mS → Int32 → Option (mS × Int32)
  | 0, _, _ => none
  | n + 1, M, v2 => o_rf (gP G a0 12) (fun q1 => (if (mI M q1 21) ≤ v2 then some (M, (0 : Int32)) else o_rf (gP G a0 12) (fun q3 => o_rf (gP G q3 18) (fun q4 => o_rf (gP G a0 12) (fun q5 => o_rf (gP G q5 20) (fun q6 => o_ix v2 (gN G q6) (o_rf (gP G a0 8) (fun q8 => o_rf (gP G a0 12) (fun q9 => o_rf (gP G q9 18) (fun q10 => o_rf (gP G a0 12) (fun q11 => o_rf (gP G q11 20) (fun q12 => o_ix v2 (gN G q12) (o_ix (mI M q12 (Int32.toNatClampNeg v2)) (gN G q10) (o_ix (mI M q10 (Int32.toNatClampNeg (mI M q12 (Int32.toNatClampNeg v2)))) (gN G q8) (o_ix (mI M q6 (Int32.toNatClampNeg v2)) (gN G q4) (o_wI M q4 (Int32.toNatClampNeg (mI M q6 (Int32.toNatClampNeg v2))) (mI M q8 (Int32.toNatClampNeg (mI M q10 (Int32.toNatClampNeg (mI M q12 (Int32.toNatClampNeg v2)))))) (fun M17 => o_bd (v2 + 1 : Int32) (fun x18 => m_X12_read_111 G a0 n M17 x18))))))))))))))))))
def m_X12_read_57 (G : gS) (a0 : Nat)  : Nat → mS → Int32 → Option (mS × Int32)
  | 0, _, _ => none
  | n + 1, M, v1 => (if v1 ≤ (mI M a0 9) then m_X12_read_111 G a0 fu M ((0 : Int32)) else o_cl (m_X12_errorOf G M a0 (mI M a0 9)) (fun M2 r3 => (if r3 = 0 then o_wI M2 a0 9 ((mI M2 a0 9) + (1 : Int32)) (fun M9 => m_X12_read_57 G a0 n M9 v1) else o_rf (gP G a0 5) (fun q6 => o_ix (mI M2 a0 9) (gN G q6) (o_wI M2 a0 3 (mI M2 q6 (Int32.toNatClampNeg (mI M2 a0 9))) (fun M8 => some (M8, r3)))))))
set_option maxHeartbeats 4000000 in
set_option maxRecDepth 100000 in
theorem b_X12_read_111 {p : Program} {e : Env} {s : State} {m : MethodId} {args : Array Value} {below : List Frame} {meth : Method} {c : Code} {A : Nat → Prop} {l : Launch} {D : va_G} {cy : cyS} {G : gS} (cx : cX p s m args meth c cX12_read RX12 3 (some .int) wsX12_read D cy G A) {k0 n0 : Nat} (hkn : k0 ≤ (rmX12_read).cells ∧ n0 ≤ (rmX12_read).slots) {M' : mS} {r : Int32} {a0 : Nat} (hL0 : a0 ∈ gL G) (hK0 : gK G a0 = 11)  : ∀ (n : Nat), ∀ (M : mS) (v2 : Int32) (H : Heap) (locs : List Loc) (ls : Array Slot), m_X12_read_111 G a0 n M v2 = some (M', r) → wd D cy G M A s.heap H locs → lv_has ls 3 [(0, .ref a0), (2, .int v2)] → W p l e rmX12_read s m args below meth c H locs k0 n0 (MQ below (va_Qi (fun (r' : Int32) (_ : Unit) => r' = r) (fun _ t => wOut D cy G M' t) A) args s k0 n0 A) (F0 m 111 ls []) := by
  obtain ⟨hx, hb, hml, hown, hts, hr, hlocks, hK, hA, hG, hsx⟩ := id cx
  intro n
  induction n with
  | zero =>
    intro M v2 H locs ls h w hl
    have h : none = some _ := h
    cases h
  | succ n ih =>
    intro M v2 H locs ls h w hl
    rw [m_X12_read_111] at h
    refine lv_iload_n hx hb dX12_read_111 rfl (lv_at hl 1 rfl) ?_
    refine lv_aload_n hx hb dX12_read_112 rfl (lv_at hl 0 rfl) ?_
    obtain ⟨q1, eq1, h⟩ := x_rf h
    obtain ⟨hLq1, hKq1⟩ := wt_q hG hL0 hK0 eq1
    have hKq1 : gK G q1 = 9 := hKq1
    refine r_getR (k := 12) cx w hL0 hK0 (by decide) rfl wi_X12_read_X12 (by decide) rfl eq1 (List.mem_of_getElem? (i := 4) rfl) dX12_read_113 ?_
    refine r_getIN (k := 21) (v := .int (mI M q1 21)) cx w hLq1 hKq1 (by decide) rfl wi_X12_read_X10 (by decide) rfl (nwF cx (q := (RX12, 183, "FlagAntsModel$Plan", "opens", "I", "FlagAntsModel")) (List.mem_of_getElem? (i := 7) rfl)) dX12_read_116 ?_
    refine lv_icmp_ge (tgt := 167) hx hb dX12_read_119 (by decide) (fun k2 => ?_) (fun k2 => ?_)
    · have h := x_t h k2
      refine lv_iconst (v := (0 : Int32)) hx hb dX12_read_167 (by decide) ?_
      exact r_iret cx w h dX12_read_168
    · have h := x_f h k2
      refine lv_aload_n hx hb dX12_read_122 rfl (lv_at hl 0 rfl) ?_
      obtain ⟨q3, eq3, h⟩ := x_rf h
      obtain ⟨hLq3, hKq3⟩ := wt_q hG hL0 hK0 eq3
      have hKq3 : gK G q3 = 9 := hKq3
      refine r_getR (k := 12) cx w hL0 hK0 (by decide) rfl wi_X12_read_X12 (by decide) rfl eq3 (List.mem_of_getElem? (i := 4) rfl) dX12_read_123 ?_
      obtain ⟨q4, eq4, h⟩ := x_rf h
      obtain ⟨hLq4, hKq4⟩ := wt_q hG hLq3 hKq3 eq4
      have hKq4 : gK G q4 = 12 := hKq4
      refine r_getRN (k := 18) cx w hLq3 hKq3 (by decide) rfl wi_X12_read_X10 (by decide) rfl eq4 (nwF cx (q := (RX12, 124, "FlagAntsModel$Plan", "code", "[I", "FlagAntsModel")) (List.mem_of_getElem? (i := 1) rfl)) dX12_read_126 ?_
      refine lv_aload_n hx hb dX12_read_129 rfl (lv_at hl 0 rfl) ?_
      obtain ⟨q5, eq5, h⟩ := x_rf h
      obtain ⟨hLq5, hKq5⟩ := wt_q hG hL0 hK0 eq5
      have hKq5 : gK G q5 = 9 := hKq5
      refine r_getR (k := 12) cx w hL0 hK0 (by decide) rfl wi_X12_read_X12 (by decide) rfl eq5 (List.mem_of_getElem? (i := 4) rfl) dX12_read_130 ?_
      obtain ⟨q6, eq6, h⟩ := x_rf h
      obtain ⟨hLq6, hKq6⟩ := wt_q hG hLq5 hKq5 eq6
      have hKq6 : gK G q6 = 12 := hKq6
      refine r_getRN (k := 20) cx w hLq5 hKq5 (by decide) rfl wi_X12_read_X10 (by decide) rfl eq6 (nwF cx (q := (RX12, 180, "FlagAntsModel$Plan", "open", "[I", "FlagAntsModel")) (List.mem_of_getElem? (i := 6) rfl)) dX12_read_133 ?_
      refine lv_iload_n hx hb dX12_read_136 rfl (lv_at hl 1 rfl) ?_
      obtain ⟨z7, h⟩ := x_ix h
      refine r_iald cx w hLq6 hKq6 z7 dX12_read_137 ?_
      refine lv_aload_n hx hb dX12_read_138 rfl (lv_at hl 0 rfl) ?_
      obtain ⟨q8, eq8, h⟩ := x_rf h
      obtain ⟨hLq8, hKq8⟩ := wt_q hG hL0 hK0 eq8
      have hKq8 : gK G q8 = 12 := hKq8
      refine r_getR (k := 8) cx w hL0 hK0 (by decide) rfl wi_X12_read_X12 (by decide) rfl eq8 (List.mem_of_getElem? (i := 9) rfl) dX12_read_139 ?_
      refine lv_aload_n hx hb dX12_read_142 rfl (lv_at hl 0 rfl) ?_
      obtain ⟨q9, eq9, h⟩ := x_rf h
      obtain ⟨hLq9, hKq9⟩ := wt_q hG hL0 hK0 eq9
      have hKq9 : gK G q9 = 9 := hKq9
      refine r_getR (k := 12) cx w hL0 hK0 (by decide) rfl wi_X12_read_X12 (by decide) rfl eq9 (List.mem_of_getElem? (i := 4) rfl) dX12_read_143 ?_
      obtain ⟨q10, eq10, h⟩ := x_rf h
      obtain ⟨hLq10, hKq10⟩ := wt_q hG hLq9 hKq9 eq10
      have hKq10 : gK G q10 = 12 := hKq10
      refine r_getRN (k := 18) cx w hLq9 hKq9 (by decide) rfl wi_X12_read_X10 (by decide) rfl eq10 (nwF cx (q := (RX12, 124, "FlagAntsModel$Plan", "code", "[I", "FlagAntsModel")) (List.mem_of_getElem? (i := 1) rfl)) dX12_read_146 ?_
      refine lv_aload_n hx hb dX12_read_149 rfl (lv_at hl 0 rfl) ?_
      obtain ⟨q11, eq11, h⟩ := x_rf h
      obtain ⟨hLq11, hKq11⟩ := wt_q hG hL0 hK0 eq11
      have hKq11 : gK G q11 = 9 := hKq11
      refine r_getR (k := 12) cx w hL0 hK0 (by decide) rfl wi_X12_read_X12 (by decide) rfl eq11 (List.mem_of_getElem? (i := 4) rfl) dX12_read_150 ?_
      obtain ⟨q12, eq12, h⟩ := x_rf h
      obtain ⟨hLq12, hKq12⟩ := wt_q hG hLq11 hKq11 eq12
      have hKq12 : gK G q12 = 12 := hKq12
      refine r_getRN (k := 20) cx w hLq11 hKq11 (by decide) rfl wi_X12_read_X10 (by decide) rfl eq12 (nwF cx (q := (RX12, 180, "FlagAntsModel$Plan", "open", "[I", "FlagAntsModel")) (List.mem_of_getElem? (i := 6) rfl)) dX12_read_153 ?_
      refine lv_iload_n hx hb dX12_read_156 rfl (lv_at hl 1 rfl) ?_
      obtain ⟨z13, h⟩ := x_ix h
      refine r_iald cx w hLq12 hKq12 z13 dX12_read_157 ?_
      obtain ⟨z14, h⟩ := x_ix h
      refine r_iald cx w hLq10 hKq10 z14 dX12_read_158 ?_
      obtain ⟨z15, h⟩ := x_ix h
      refine r_iald cx w hLq8 hKq8 z15 dX12_read_159 ?_
      obtain ⟨z16, h⟩ := x_ix h
      obtain ⟨M17, eM17, h⟩ := x_wI h
      refine r_iast cx w hLq4 hKq4 z16 dX12_read_160 eM17 (fun H locs w => ?_)
      obtain ⟨x18, ex18, h⟩ := x_bd h
      refine lv_iinc (v := x18) (lv' := [(2, .int x18), (0, .ref a0)]) hx hb dX12_read_161 hl (k := 1) rfl (by rw [ex18]; rfl) (by decide) rfl (fun ls hl => ?_)
      refine lv_goto (tgt := 111) hx hb dX12_read_164 (by decide) ?_
      exact ih M17 x18 H locs ls h w (lv_sub hl [1, 0] rfl)
set_option maxHeartbeats 4000000 in
set_option maxRecDepth 100000 in
theorem b_X12_read_57 {p : Program} {e : Env} {s : State} {m : MethodId} {args : Array Value} {below : List Frame} {meth : Method} {c : Code} {A : Nat → Prop} {l : Launch} {D : va_G} {cy : cyS} {G : gS} (cx : cX p s m args meth c cX12_read RX12 3 (some .int) wsX12_read D cy G A) {k0 n0 : Nat} (hkn : k0 ≤ (rmX12_read).cells ∧ n0 ≤ (rmX12_read).slots) {M' : mS} {r : Int32} {a0 : Nat} (hL0 : a0 ∈ gL G) (hK0 : gK G a0 = 11)  : ∀ (n : Nat), ∀ (M : mS) (v1 : Int32) (H : Heap) (locs : List Loc) (ls : Array Slot), m_X12_read_57 G a0 n M v1 = some (M', r) → wd D cy G M A s.heap H locs → lv_has ls 3 [(0, .ref a0), (1, .int v1)] → W p l e rmX12_read s m args below meth c H locs k0 n0 (MQ below (va_Qi (fun (r' : Int32) (_ : Unit) => r' = r) (fun _ t => wOut D cy G M' t) A) args s k0 n0 A) (F0 m 57 ls []) := by
  obtain ⟨hx, hb, hml, hown, hts, hr, hlocks, hK, hA, hG, hsx⟩ := id cx
  intro n
  induction n with
  | zero =>
    intro M v1 H locs ls h w hl
    have h : none = some _ := h
    cases h
  | succ n ih =>
    intro M v1 H locs ls h w hl
    rw [m_X12_read_57] at h
    refine lv_aload_n hx hb dX12_read_57 rfl (lv_at hl 0 rfl) ?_
    refine r_getI (k := 9) (v := .int (mI M a0 9)) cx w hL0 hK0 (by decide) rfl wi_X12_read_X12 (by decide) rfl (List.mem_of_getElem? (i := 5) rfl) dX12_read_58 ?_
    refine lv_iload_n hx hb dX12_read_61 rfl (lv_at hl 1 rfl) ?_
    refine lv_icmp_ge (tgt := 109) hx hb dX12_read_62 (by decide) (fun k1 => ?_) (fun k1 => ?_)
    · have h := x_t h k1
      refine lv_iconst (v := (0 : Int32)) hx hb dX12_read_109 (by decide) ?_
      refine lv_istore_n (lv' := [(2, .int ((0 : Int32))), (0, .ref a0), (1, .int v1)]) hx hb dX12_read_110 rfl hl (by decide) rfl (fun ls hl => ?_)
      exact b_X12_read_111 cx hkn hL0 hK0 fu M ((0 : Int32)) H locs ls h w (lv_sub hl [1, 0] rfl)
    · have h := x_f h k1
      refine lv_aload_n hx hb dX12_read_65 rfl (lv_at hl 0 rfl) ?_
      refine lv_aload_n hx hb dX12_read_66 rfl (lv_at hl 0 rfl) ?_
      refine r_getI (k := 9) (v := .int (mI M a0 9)) cx w hL0 hK0 (by decide) rfl wi_X12_read_X12 (by decide) rfl (List.mem_of_getElem? (i := 5) rfl) dX12_read_67 ?_
      obtain ⟨M2, r3, y4, h⟩ := x_cl h
      refine r_callVi (As := [.int ((mI M a0 9))]) (rest := []) cx w hkn hl.1 (k_X12_errorOf hG hL0 hK0 y4) (cwV 1 hts gX12_read_X12_errorOf rfl rfl rfl (by decide +kernel) ⟨Nat.le_of_ble_eq_true rfl, Nat.le_of_ble_eq_true rfl⟩) hL0 hK0 (by decide) rfl rfl rfl (Nat.le_of_ble_eq_true rfl) dX12_read_70 (fun H locs w => ?_)
      refine lv_istore_n (lv' := [(2, .int r3), (0, .ref a0), (1, .int v1)]) hx hb dX12_read_73 rfl hl (by decide) rfl (fun ls hl => ?_)
      refine lv_iload_n hx hb dX12_read_74 rfl (lv_at hl 0 rfl) ?_
      refine lv_if_ne (tgt := 81) hx hb dX12_read_75 (by decide) (fun k5 => ?_) (fun k5 => ?_)
      · have h := x_f h k5
        refine lv_aload_n hx hb dX12_read_81 rfl (lv_at hl 1 rfl) ?_
        refine lv_aload_n hx hb dX12_read_82 rfl (lv_at hl 1 rfl) ?_
        obtain ⟨q6, eq6, h⟩ := x_rf h
        obtain ⟨hLq6, hKq6⟩ := wt_q hG hL0 hK0 eq6
        have hKq6 : gK G q6 = 12 := hKq6
        refine r_getR (k := 5) cx w hL0 hK0 (by decide) rfl wi_X12_read_X12 (by decide) rfl eq6 (List.mem_of_getElem? (i := 7) rfl) dX12_read_83 ?_
        refine lv_aload_n hx hb dX12_read_86 rfl (lv_at hl 1 rfl) ?_
        refine r_getI (k := 9) (v := .int (mI M2 a0 9)) cx w hL0 hK0 (by decide) rfl wi_X12_read_X12 (by decide) rfl (List.mem_of_getElem? (i := 5) rfl) dX12_read_87 ?_
        obtain ⟨z7, h⟩ := x_ix h
        refine r_iald cx w hLq6 hKq6 z7 dX12_read_90 ?_
        obtain ⟨M8, eM8, h⟩ := x_wI h
        refine r_putI (k := 3) (ty := .int) cx w tyX12 tyX12_ok nmX12 hL0 hK0 (by decide) rfl wi_X12_read_X12 (by decide) rfl rfl rfl rfl st_11_3 (ln_11 _ _ (by decide)) (List.mem_of_getElem? (i := 8) rfl) dX12_read_91 eM8 (fun H locs w => ?_)
        refine lv_iload_n hx hb dX12_read_94 rfl (lv_at hl 0 rfl) ?_
        exact r_iret cx w h dX12_read_95
      · have h := x_t h k5
        refine lv_goto (tgt := 96) hx hb dX12_read_78 (by decide) ?_
        refine lv_aload_n hx hb dX12_read_96 rfl (lv_at hl 1 rfl) ?_
        refine lv_dup hx hb dX12_read_97 rfl ?_
        refine r_getI (k := 9) (v := .int (mI M2 a0 9)) cx w hL0 hK0 (by decide) rfl wi_X12_read_X12 (by decide) rfl (List.mem_of_getElem? (i := 5) rfl) dX12_read_98 ?_
        refine lv_iconst (v := (1 : Int32)) hx hb dX12_read_101 (by decide) ?_
        refine lv_iadd hx hb dX12_read_102 ?_
        obtain ⟨M9, eM9, h⟩ := x_wI h
        refine r_putI (k := 9) (ty := .int) cx w tyX12 tyX12_ok nmX12 hL0 hK0 (by decide) rfl wi_X12_read_X12 (by decide) rfl rfl rfl rfl st_11_9 (ln_11 _ _ (by decide)) (List.mem_of_getElem? (i := 5) rfl) dX12_read_103 eM9 (fun H locs w => ?_)
        refine lv_goto (tgt := 57) hx hb dX12_read_106 (by decide) ?_
        exact ih M9 v1 H locs ls h w (lv_sub hl [1, 2] rfl)
def n_X12_read (G : gS) (M : mS) (a0 : Nat) (post : gS → mS → Int32 → Prop) : Prop := p_nw G M 9 0 (fun q1 G M => n_X10_init G M q1 (fun G M => p_sR G a0 12 q1 (fun G => p_cl (m_X12_cut G M a0) (fun M2 r3 => p_wI M2 a0 9 (0 : Int32) (fun M5 => p_wI M5 a0 10 (0 : Int32) (fun M6 => p_cl (m_X12_isPlan G M6 a0) (fun M7 r8 => (p_if (r8 = 0) (p_rf (gP G a0 5) (fun q13 => p_ix (mI M7 a0 9) (gN G q13) (p_wI M7 a0 3 (mI M7 q13 (Int32.toNatClampNeg (mI M7 a0 9))) (fun M15 => post G M15 (1 : Int32))))) (p_bd ((mI M7 a0 9)) (fun x11 => p_wI M7 a0 9 (0 : Int32) (fun M12 => p_cl (m_X12_read_57 G a0 fu M12 x11) (fun M r => post G M r))))))))))))
set_option maxHeartbeats 4000000 in
set_option maxRecDepth 100000 in
theorem kn_X12_read {l : Launch} {D : va_G} {cy : cyS} {G : gS} {M : mS} {post : gS → mS → Int32 → Prop} {a0 : Nat} (hG : wt G) (hL0 : a0 ∈ gL G) (hK0 : gK G a0 = 11) (h : n_X12_read G M a0 post) : ctNI l yX12_read wsX12_read rmX12_read D cy G M [.ref a0] 16 5482 post := by
  unfold n_X12_read at h
  refine ctNI_of (cc := cX12_read) (nL := 3) (ret := (some .int)) (lv := [(0, .ref a0)]) hG (by decide) rfl (Nat.le_of_ble_eq_true rfl) rfl ?_
  intro p e s m args below meth c sz ls cx w hl
  obtain ⟨hx, hb, hml, hown, hts, hr, hlocks, hK, hA, -, hsx⟩ := id cx
  have hext := ext_rf (G := G)
  have hkn : ∀ {a b : Nat}, a ≤ 16 → b ≤ 5482 → a ≤ (rmX12_read).cells ∧ b ≤ (rmX12_read).slots := fun h1 h2 => ⟨h1, h2⟩
  refine lv_aload_n hx hb dX12_read_0 rfl (lv_at hl 0 rfl) ?_
  refine r_newO cx w tyX10 tyX10_ok rfl (by decide) wi_X12_read_X10 (List.mem_of_getElem? (i := 1) rfl) (List.mem_of_getElem? (i := 2) rfl) (List.mem_of_getElem? (i := 3) rfl) df_9 (Nat.le_of_ble_eq_true rfl) (Nat.le_of_ble_eq_true rfl) dX12_read_1 (fun q1 H nq1 w cx => ?_)
  have h := w_nw h nq1
  obtain ⟨G1, eG1⟩ : ∃ z, z = gNw G q1 9 0 := ⟨_, rfl⟩
  rw [← eG1] at cx w h
  have xe := ext_nw eG1 nq1
  have hLq1 := nw_Lq eG1
  have hKq1 := nw_Kq eG1
  have hK0 := ext_K xe hL0 hK0
  have hL0 := ext_L xe hL0
  have hext := ext_tr hext xe
  have hG := cX_wt cx
  clear eG1
  obtain ⟨M1, eM1⟩ : ∃ z, z = wZ M q1 := ⟨_, rfl⟩
  rw [← eM1] at w h
  clear xe
  obtain ⟨G, eG⟩ : ∃ z, z = G1 := ⟨_, rfl⟩
  obtain ⟨M, eM⟩ : ∃ z, z = M1 := ⟨_, rfl⟩
  subst eG
  subst eM
  refine lv_dup hx hb dX12_read_4 rfl ?_
  refine r_callNN (As := []) (rest := [.ref q1, .ref a0]) cx w ⟨Nat.le_of_ble_eq_true rfl, Nat.le_of_ble_eq_true rfl⟩ hl.1 (kn_X10_init hG hLq1 hKq1 h) ⟨va_cnB 0 hts gX12_read_X10_init_n34 rfl rfl rfl (nwM cx (q := (RX12, 34, yX10_init, "FlagAntsModel")) (List.mem_of_getElem? (i := 6) rfl)) (hts _ (List.mem_of_getElem? (i := 3) rfl)) (by decide +kernel) ⟨Nat.le_of_ble_eq_true rfl, Nat.le_of_ble_eq_true rfl⟩, rfl, hts _ (List.mem_of_getElem? (i := 10) rfl)⟩ rfl rfl (Nat.le_of_ble_eq_true rfl) dX12_read_5 (fun G1 M1 H locs h xe cx w => ?_)
  have hK0 := ext_K xe hL0 hK0
  have hL0 := ext_L xe hL0
  have hKq1 := ext_K xe hLq1 hKq1
  have hLq1 := ext_L xe hLq1
  have hext := ext_tr hext xe
  have hG := cX_wt cx
  clear xe
  obtain ⟨G, eG⟩ : ∃ z, z = G1 := ⟨_, rfl⟩
  obtain ⟨M, eM⟩ : ∃ z, z = M1 := ⟨_, rfl⟩
  subst eG
  subst eM
  refine r_putR (k := 12) cx w tyX12 tyX12_ok nmX12 hL0 hK0 (by decide) rfl wi_X12_read_X12 (by decide) rfl (tyX12_ok 12 (by decide)) rfl rfl sr_11_12 (ln_11 _ _ (by decide)) hLq1 (by rw [hKq1]; rfl) (List.mem_of_getElem? (i := 4) rfl) dX12_read_8 (fun H locs w cx => ?_)
  have h := w_sR h
  obtain ⟨G1, eG1⟩ : ∃ z, z = gSt G a0 12 q1 := ⟨_, rfl⟩
  rw [← eG1] at cx w h
  have xe := ext_st eG1
  have hK0 := ext_K xe hL0 hK0
  have hL0 := ext_L xe hL0
  have hKq1 := ext_K xe hLq1 hKq1
  have hLq1 := ext_L xe hLq1
  have hext := ext_tr hext xe
  have hG := cX_wt cx
  clear eG1
  clear xe
  obtain ⟨G, eG⟩ : ∃ z, z = G1 := ⟨_, rfl⟩
  subst eG
  refine lv_aload_n hx hb dX12_read_11 rfl (lv_at hl 0 rfl) ?_
  obtain ⟨M2, r3, y4, h⟩ := w_cl h
  refine r_callVv (As := []) (rest := []) cx w (hkn (Nat.le_of_ble_eq_true rfl) (Nat.le_of_ble_eq_true rfl)) hl.1 (k_X12_cut hG hL0 hK0 y4) (cwV 0 hts gX12_read_X12_cut rfl rfl rfl (by decide +kernel) ⟨Nat.le_of_ble_eq_true rfl, Nat.le_of_ble_eq_true rfl⟩) hL0 hK0 (by decide) rfl rfl rfl (Nat.le_of_ble_eq_true rfl) dX12_read_12 (fun H locs w => ?_)
  refine lv_aload_n hx hb dX12_read_15 rfl (lv_at hl 0 rfl) ?_
  refine lv_iconst (v := (0 : Int32)) hx hb dX12_read_16 (by decide) ?_
  obtain ⟨M5, eM5, h⟩ := w_wI h
  refine r_putI (k := 9) (ty := .int) cx w tyX12 tyX12_ok nmX12 hL0 hK0 (by decide) rfl wi_X12_read_X12 (by decide) rfl rfl rfl rfl st_11_9 (ln_11 _ _ (by decide)) (List.mem_of_getElem? (i := 5) rfl) dX12_read_17 eM5 (fun H locs w => ?_)
  refine lv_aload_n hx hb dX12_read_20 rfl (lv_at hl 0 rfl) ?_
  refine lv_iconst (v := (0 : Int32)) hx hb dX12_read_21 (by decide) ?_
  obtain ⟨M6, eM6, h⟩ := w_wI h
  refine r_putI (k := 10) (ty := .int) cx w tyX12 tyX12_ok nmX12 hL0 hK0 (by decide) rfl wi_X12_read_X12 (by decide) rfl rfl rfl rfl st_11_10 (ln_11 _ _ (by decide)) (List.mem_of_getElem? (i := 6) rfl) dX12_read_22 eM6 (fun H locs w => ?_)
  refine lv_aload_n hx hb dX12_read_25 rfl (lv_at hl 0 rfl) ?_
  obtain ⟨M7, r8, y9, h⟩ := w_cl h
  refine r_callVi (As := []) (rest := []) cx w (hkn (Nat.le_of_ble_eq_true rfl) (Nat.le_of_ble_eq_true rfl)) hl.1 (k_X12_isPlan hG hL0 hK0 y9) (cwV 0 hts gX12_read_X12_isPlan rfl rfl rfl (by decide +kernel) ⟨Nat.le_of_ble_eq_true rfl, Nat.le_of_ble_eq_true rfl⟩) hL0 hK0 (by decide) rfl rfl rfl (Nat.le_of_ble_eq_true rfl) dX12_read_26 (fun H locs w => ?_)
  refine lv_if_ne (tgt := 47) hx hb dX12_read_29 (by decide) (fun k10 => ?_) (fun k10 => ?_)
  · have h := w_f h k10
    refine lv_aload_n hx hb dX12_read_47 rfl (lv_at hl 0 rfl) ?_
    refine r_getI (k := 9) (v := .int (mI M7 a0 9)) cx w hL0 hK0 (by decide) rfl wi_X12_read_X12 (by decide) rfl (List.mem_of_getElem? (i := 5) rfl) dX12_read_48 ?_
    obtain ⟨x11, ex11, h⟩ := w_bd h
    refine r_topI ex11 ?_
    refine lv_istore_n (lv' := [(1, .int x11), (0, .ref a0)]) hx hb dX12_read_51 rfl hl (by decide) rfl (fun ls hl => ?_)
    refine lv_aload_n hx hb dX12_read_52 rfl (lv_at hl 1 rfl) ?_
    refine lv_iconst (v := (0 : Int32)) hx hb dX12_read_53 (by decide) ?_
    obtain ⟨M12, eM12, h⟩ := w_wI h
    refine r_putI (k := 9) (ty := .int) cx w tyX12 tyX12_ok nmX12 hL0 hK0 (by decide) rfl wi_X12_read_X12 (by decide) rfl rfl rfl rfl st_11_9 (ln_11 _ _ (by decide)) (List.mem_of_getElem? (i := 5) rfl) dX12_read_54 eM12 (fun H locs w => ?_)
    obtain ⟨M9, r9, hB, h⟩ := w_cl h
    refine toI w hG hext h (Nat.le_of_ble_eq_true rfl) (Nat.le_of_ble_eq_true rfl) ?_
    exact b_X12_read_57 cx ⟨Nat.le_of_ble_eq_true rfl, Nat.le_of_ble_eq_true rfl⟩ hL0 hK0 fu M12 x11 H locs ls hB w (lv_sub hl [1, 0] rfl)
  · have h := w_t h k10
    refine lv_aload_n hx hb dX12_read_32 rfl (lv_at hl 0 rfl) ?_
    refine lv_aload_n hx hb dX12_read_33 rfl (lv_at hl 0 rfl) ?_
    obtain ⟨q13, eq13, h⟩ := w_rf h
    obtain ⟨hLq13, hKq13⟩ := wt_q hG hL0 hK0 eq13
    have hKq13 : gK G q13 = 12 := hKq13
    refine r_getR (k := 5) cx w hL0 hK0 (by decide) rfl wi_X12_read_X12 (by decide) rfl eq13 (List.mem_of_getElem? (i := 7) rfl) dX12_read_34 ?_
    refine lv_aload_n hx hb dX12_read_37 rfl (lv_at hl 0 rfl) ?_
    refine r_getI (k := 9) (v := .int (mI M7 a0 9)) cx w hL0 hK0 (by decide) rfl wi_X12_read_X12 (by decide) rfl (List.mem_of_getElem? (i := 5) rfl) dX12_read_38 ?_
    obtain ⟨z14, h⟩ := w_ix h
    refine r_iald cx w hLq13 hKq13 z14 dX12_read_41 ?_
    obtain ⟨M15, eM15, h⟩ := w_wI h
    refine r_putI (k := 3) (ty := .int) cx w tyX12 tyX12_ok nmX12 hL0 hK0 (by decide) rfl wi_X12_read_X12 (by decide) rfl rfl rfl rfl st_11_3 (ln_11 _ _ (by decide)) (List.mem_of_getElem? (i := 8) rfl) dX12_read_42 eM15 (fun H locs w => ?_)
    refine lv_iconst (v := (1 : Int32)) hx hb dX12_read_45 (by decide) ?_
    refine toI (M' := M15) (r := (1 : Int32)) w hG hext h (Nat.le_of_ble_eq_true rfl) (Nat.le_of_ble_eq_true rfl) ?_
    exact r_iret cx w rfl dX12_read_46
-- X12_teach, with what it makes
theorem wi_X12_teach_X12 : ∀ w ∈ wsX120, w ∈ wsX12_teach := by decide +kernel
abbrev rmX12_teach : Room := { frames := 138, cells := 16, slots := 5482, locals := 7894 }
def n_X12_teach (G : gS) (M : mS) (a0 : Nat) (post : gS → mS → Int32 → Prop) : Prop := p_wI M a0 0 (0 : Int32) (fun M1 => p_wI M1 a0 3 (-1 : Int32) (fun M2 => n_X12_read G M2 a0 (fun G M r3 => p_wI M a0 2 (0 : Int32) (fun M4 => (p_if (r3 ≤ 0) (p_rf (gP G a0 12) (fun q6 => p_sR G a0 11 q6 (fun G => p_rf (gP G a0 13) (fun q7 => p_cl (m_X11_begin G M4 q7) (fun M8 r9 => post G M8 (0 : Int32)))))) (post G M4 r3))))))
set_option maxHeartbeats 4000000 in
set_option maxRecDepth 100000 in
theorem kn_X12_teach {l : Launch} {D : va_G} {cy : cyS} {G : gS} {M : mS} {post : gS → mS → Int32 → Prop} {a0 : Nat} (hG : wt G) (hL0 : a0 ∈ gL G) (hK0 : gK G a0 = 11) (h : n_X12_teach G M a0 post) : ctNI l yX12_teach wsX12_teach rmX12_teach D cy G M [.ref a0] 16 5482 post := by
  unfold n_X12_teach at h
  refine ctNI_of (cc := cX12_teach) (nL := 2) (ret := (some .int)) (lv := [(0, .ref a0)]) hG (by decide) rfl (Nat.le_of_ble_eq_true rfl) rfl ?_
  intro p e s m args below meth c sz ls cx w hl
  obtain ⟨hx, hb, hml, hown, hts, hr, hlocks, hK, hA, -, hsx⟩ := id cx
  have hext := ext_rf (G := G)
  have hkn : ∀ {a b : Nat}, a ≤ 16 → b ≤ 5482 → a ≤ (rmX12_teach).cells ∧ b ≤ (rmX12_teach).slots := fun h1 h2 => ⟨h1, h2⟩
  refine lv_aload_n hx hb dX12_teach_0 rfl (lv_at hl 0 rfl) ?_
  refine lv_iconst (v := (0 : Int32)) hx hb dX12_teach_1 (by decide) ?_
  obtain ⟨M1, eM1, h⟩ := w_wI h
  refine r_putI (k := 0) (ty := .int) cx w tyX12 tyX12_ok nmX12 hL0 hK0 (by decide) rfl wi_X12_teach_X12 (by decide) rfl rfl rfl rfl st_11_0 (ln_11 _ _ (by decide)) (List.mem_of_getElem? (i := 1) rfl) dX12_teach_2 eM1 (fun H locs w => ?_)
  refine lv_aload_n hx hb dX12_teach_5 rfl (lv_at hl 0 rfl) ?_
  refine lv_iconst (v := (-1 : Int32)) hx hb dX12_teach_6 (by decide) ?_
  obtain ⟨M2, eM2, h⟩ := w_wI h
  refine r_putI (k := 3) (ty := .int) cx w tyX12 tyX12_ok nmX12 hL0 hK0 (by decide) rfl wi_X12_teach_X12 (by decide) rfl rfl rfl rfl st_11_3 (ln_11 _ _ (by decide)) (List.mem_of_getElem? (i := 2) rfl) dX12_teach_7 eM2 (fun H locs w => ?_)
  refine lv_aload_n hx hb dX12_teach_10 rfl (lv_at hl 0 rfl) ?_
  refine r_callNVI (As := []) (rest := []) cx w ⟨Nat.le_of_ble_eq_true rfl, Nat.le_of_ble_eq_true rfl⟩ hl.1 (kn_X12_read hG hL0 hK0 h) (cwV 0 hts gX12_teach_X12_read rfl rfl rfl (by decide +kernel) ⟨Nat.le_of_ble_eq_true rfl, Nat.le_of_ble_eq_true rfl⟩) hL0 hK0 (by decide) rfl rfl rfl (Nat.le_of_ble_eq_true rfl) dX12_teach_11 (fun G1 M1 r3 H locs h xe cx w => ?_)
  have hK0 := ext_K xe hL0 hK0
  have hL0 := ext_L xe hL0
  have hext := ext_tr hext xe
  have hG := cX_wt cx
  clear xe
  obtain ⟨G, eG⟩ : ∃ z, z = G1 := ⟨_, rfl⟩
  obtain ⟨M, eM⟩ : ∃ z, z = M1 := ⟨_, rfl⟩
  subst eG
  subst eM
  refine lv_istore_n (lv' := [(1, .int r3), (0, .ref a0)]) hx hb dX12_teach_14 rfl hl (by decide) rfl (fun ls hl => ?_)
  refine lv_aload_n hx hb dX12_teach_15 rfl (lv_at hl 1 rfl) ?_
  refine lv_iconst (v := (0 : Int32)) hx hb dX12_teach_16 (by decide) ?_
  obtain ⟨M4, eM4, h⟩ := w_wI h
  refine r_putI (k := 2) (ty := .int) cx w tyX12 tyX12_ok nmX12 hL0 hK0 (by decide) rfl wi_X12_teach_X12 (by decide) rfl rfl rfl rfl st_11_2 (ln_11 _ _ (by decide)) (List.mem_of_getElem? (i := 3) rfl) dX12_teach_17 eM4 (fun H locs w => ?_)
  refine lv_iload_n hx hb dX12_teach_20 rfl (lv_at hl 0 rfl) ?_
  refine lv_if_le (tgt := 26) hx hb dX12_teach_21 (by decide) (fun k5 => ?_) (fun k5 => ?_)
  · have h := w_t h k5
    refine lv_aload_n hx hb dX12_teach_26 rfl (lv_at hl 1 rfl) ?_
    refine lv_aload_n hx hb dX12_teach_27 rfl (lv_at hl 1 rfl) ?_
    obtain ⟨q6, eq6, h⟩ := w_rf h
    obtain ⟨hLq6, hKq6⟩ := wt_q hG hL0 hK0 eq6
    have hKq6 : gK G q6 = 9 := hKq6
    refine r_getR (k := 12) cx w hL0 hK0 (by decide) rfl wi_X12_teach_X12 (by decide) rfl eq6 (List.mem_of_getElem? (i := 4) rfl) dX12_teach_28 ?_
    refine r_putR (k := 11) cx w tyX12 tyX12_ok nmX12 hL0 hK0 (by decide) rfl wi_X12_teach_X12 (by decide) rfl (tyX12_ok 11 (by decide)) rfl rfl sr_11_11 (ln_11 _ _ (by decide)) hLq6 (by rw [hKq6]; rfl) (List.mem_of_getElem? (i := 5) rfl) dX12_teach_31 (fun H locs w cx => ?_)
    have h := w_sR h
    obtain ⟨G1, eG1⟩ : ∃ z, z = gSt G a0 11 q6 := ⟨_, rfl⟩
    rw [← eG1] at cx w h
    have xe := ext_st eG1
    have hK0 := ext_K xe hL0 hK0
    have hL0 := ext_L xe hL0
    have hKq6 := ext_K xe hLq6 hKq6
    have hLq6 := ext_L xe hLq6
    have hext := ext_tr hext xe
    have hG := cX_wt cx
    clear eG1
    clear xe
    obtain ⟨G, eG⟩ : ∃ z, z = G1 := ⟨_, rfl⟩
    subst eG
    refine lv_aload_n hx hb dX12_teach_34 rfl (lv_at hl 1 rfl) ?_
    obtain ⟨q7, eq7, h⟩ := w_rf h
    obtain ⟨hLq7, hKq7⟩ := wt_q hG hL0 hK0 eq7
    have hKq7 : gK G q7 = 10 := hKq7
    refine r_getR (k := 13) cx w hL0 hK0 (by decide) rfl wi_X12_teach_X12 (by decide) rfl eq7 (List.mem_of_getElem? (i := 6) rfl) dX12_teach_35 ?_
    obtain ⟨M8, r9, y10, h⟩ := w_cl h
    refine r_callVv (As := []) (rest := []) cx w (hkn (Nat.le_of_ble_eq_true rfl) (Nat.le_of_ble_eq_true rfl)) hl.1 (k_X11_begin hG hLq7 hKq7 y10) (cwV 0 hts gX12_teach_X11_begin rfl rfl rfl (by decide +kernel) ⟨Nat.le_of_ble_eq_true rfl, Nat.le_of_ble_eq_true rfl⟩) hLq7 hKq7 (by decide) rfl rfl rfl (Nat.le_of_ble_eq_true rfl) dX12_teach_38 (fun H locs w => ?_)
    refine lv_iconst (v := (0 : Int32)) hx hb dX12_teach_41 (by decide) ?_
    refine toI (M' := M8) (r := (0 : Int32)) w hG hext h (Nat.le_of_ble_eq_true rfl) (Nat.le_of_ble_eq_true rfl) ?_
    exact r_iret cx w rfl dX12_teach_42
  · have h := w_f h k5
    refine lv_iload_n hx hb dX12_teach_24 rfl (lv_at hl 0 rfl) ?_
    refine toI (M' := M4) (r := r3) w hG hext h (Nat.le_of_ble_eq_true rfl) (Nat.le_of_ble_eq_true rfl) ?_
    exact r_iret cx w rfl dX12_teach_25
