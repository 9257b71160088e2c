-- X10_init
theorem wb_X10_init_X10 : ∀ w ∈ wsX100, w ∈ wsX10_init := by decide +kernel
abbrev rnX10_init (b : uS) : Room := { frames := 1, cells := b.1, slots := b.2, locals := 60 }
def n_X10_init (b : uS) (G : gS) (M : mS) (a0 : Nat) (post : gS → mS → Unit → Prop) : Prop := q_na b (0, 0) G M 15 (0 : Int32) (fun q1 u4 G2 M3 => p_sR G2 a0 4 q1 (fun G5 => q_mn b u4 G5 M3 (64 : Int32) (64 : Int32) (fun q6 u9 G7 M8 => p_sR G7 a0 5 q6 (fun G10 => q_na b u9 G10 M8 15 (0 : Int32) (fun q11 u14 G12 M13 => p_sR G12 a0 6 q11 (fun G15 => q_na b u14 G15 M13 15 (0 : Int32) (fun q16 u19 G17 M18 => p_sR G17 a0 7 q16 (fun G20 => q_na b u19 G20 M18 15 (0 : Int32) (fun q21 u24 G22 M23 => p_sR G22 a0 8 q21 (fun G25 => post G25 M23 ()))))))))))
set_option maxHeartbeats 4000000 in
set_option maxRecDepth 100000 in
theorem kn_X10_init {l : Launch} {D : va_G} {cy : cyS} {G : gS} {M : mS} {b : uS} {a0 : Nat} {post : gS → mS → Unit → Prop} (hG : wt G) (hL0 : a0 ∈ gL G) (hK0 : gK G a0 = 9) (h : n_X10_init b G M a0 post) : cbV l yX10_init wsX10_init (rnX10_init b) D cy G M [.ref a0] b post := by
  unfold n_X10_init at h
  refine cbV_of (cc := cX10_init) (nL := 1) (lv := [(0, .ref a0)]) hG (by decide) rfl (Nat.le_of_ble_eq_true rfl) rfl ?_
  intro p e s m args below meth c sz ls hnm cx w hl
  obtain ⟨hx, hb, hml, hown, hts, hr, hlocks, hK, hA, -, hsx⟩ := id cx
  have hext := ext_rf (G := G)
  have hu : uL (0, 0) b := ⟨Nat.zero_le _, Nat.zero_le _⟩
  have hR : (rnX10_init b).cells = b.1 ∧ (rnX10_init b).slots = b.2 := ⟨rfl, rfl⟩
  refine lv_aload_n hx hb dX10_init_0 rfl (lv_at hl 0 rfl) ?_
  refine W.objInit hx hb hown (hts (.methodLink RX10 1 objectInit) (List.mem_of_getElem? (i := 1) rfl)) (hts (.instanceMethod objectInit) (List.mem_of_getElem? (i := 2) rfl)) (hts _ (List.mem_of_getElem? (i := 3) rfl)) rfl (by rw [hml]; exact hl.1) rfl dX10_init_1 (Nat.le_of_ble_eq_true rfl) (Nat.le_of_ble_eq_true rfl) ?_
  refine W.eq (g2 := F0 m 4 ls []) rfl ?_
  refine lv_aload_n hx hb dX10_init_4 rfl (lv_at hl 0 rfl) ?_
  refine lv_iconst (v := (0 : Int32)) hx hb dX10_init_5 (by decide) ?_
  refine rb_newA (b := b) (u := (0, 0)) cx w hR (List.mem_of_getElem? (i := 4) rfl) h dX10_init_6 (fun q1 u4 G2 M3 H h hu xe hLq1 hKq1 cx w => ?_)
  obtain ⟨hL0, hK0⟩ := ext_wt xe hL0 hK0
  have hext := ext_tr hext xe
  clear xe
  have hG := cX_wt cx
  refine rb_putR (k0 := 4) cx w tyX10 tyX10_ok nmX10 hL0 hK0 (by decide) rfl wb_X10_init_X10 (by decide) rfl (tyX10_ok 4 (by decide)) rfl rfl sr_9_4 (ln_9 _ _ (by decide)) hLq1 hKq1 (List.mem_of_getElem? (i := 5) rfl) h dX10_init_9 (fun G5 H locs h xe cx w => ?_)
  obtain ⟨hL0, hK0⟩ := ext_wt xe hL0 hK0
  have hext := ext_tr hext xe
  clear xe
  have hG := cX_wt cx
  refine lv_aload_n hx hb dX10_init_12 rfl (lv_at hl 0 rfl) ?_
  refine lv_bipush (v := (64 : Int32)) hx hb dX10_init_13 (by decide) ?_
  refine lv_bipush (v := (64 : Int32)) hx hb dX10_init_15 (by decide) ?_
  refine rb_mn (b := b) (u := u4) cx w hR (List.mem_of_getElem? (i := 6) rfl) (List.mem_of_getElem? (i := 7) rfl) h dX10_init_17 (fun q6 u9 G7 M8 H h hu xe hLq6 hKq6 cx w => ?_)
  obtain ⟨hL0, hK0⟩ := ext_wt xe hL0 hK0
  have hext := ext_tr hext xe
  clear xe
  have hG := cX_wt cx
  refine rb_putR (k0 := 5) cx w tyX10 tyX10_ok nmX10 hL0 hK0 (by decide) rfl wb_X10_init_X10 (by decide) rfl (tyX10_ok 5 (by decide)) rfl rfl sr_9_5 (ln_9 _ _ (by decide)) hLq6 hKq6 (List.mem_of_getElem? (i := 8) rfl) h dX10_init_21 (fun G10 H locs h xe cx w => ?_)
  obtain ⟨hL0, hK0⟩ := ext_wt xe hL0 hK0
  have hext := ext_tr hext xe
  clear xe
  have hG := cX_wt cx
  refine lv_aload_n hx hb dX10_init_24 rfl (lv_at hl 0 rfl) ?_
  refine lv_iconst (v := (0 : Int32)) hx hb dX10_init_25 (by decide) ?_
  refine rb_newA (b := b) (u := u9) cx w hR (List.mem_of_getElem? (i := 4) rfl) h dX10_init_26 (fun q11 u14 G12 M13 H h hu xe hLq11 hKq11 cx w => ?_)
  obtain ⟨hL0, hK0⟩ := ext_wt xe hL0 hK0
  have hext := ext_tr hext xe
  clear xe
  have hG := cX_wt cx
  refine rb_putR (k0 := 6) cx w tyX10 tyX10_ok nmX10 hL0 hK0 (by decide) rfl wb_X10_init_X10 (by decide) rfl (tyX10_ok 6 (by decide)) rfl rfl sr_9_6 (ln_9 _ _ (by decide)) hLq11 hKq11 (List.mem_of_getElem? (i := 9) rfl) h dX10_init_29 (fun G15 H locs h xe cx w => ?_)
  obtain ⟨hL0, hK0⟩ := ext_wt xe hL0 hK0
  have hext := ext_tr hext xe
  clear xe
  have hG := cX_wt cx
  refine lv_aload_n hx hb dX10_init_32 rfl (lv_at hl 0 rfl) ?_
  refine lv_iconst (v := (0 : Int32)) hx hb dX10_init_33 (by decide) ?_
  refine rb_newA (b := b) (u := u14) cx w hR (List.mem_of_getElem? (i := 4) rfl) h dX10_init_34 (fun q16 u19 G17 M18 H h hu xe hLq16 hKq16 cx w => ?_)
  obtain ⟨hL0, hK0⟩ := ext_wt xe hL0 hK0
  have hext := ext_tr hext xe
  clear xe
  have hG := cX_wt cx
  refine rb_putR (k0 := 7) cx w tyX10 tyX10_ok nmX10 hL0 hK0 (by decide) rfl wb_X10_init_X10 (by decide) rfl (tyX10_ok 7 (by decide)) rfl rfl sr_9_7 (ln_9 _ _ (by decide)) hLq16 hKq16 (List.mem_of_getElem? (i := 10) rfl) h dX10_init_37 (fun G20 H locs h xe cx w => ?_)
  obtain ⟨hL0, hK0⟩ := ext_wt xe hL0 hK0
  have hext := ext_tr hext xe
  clear xe
  have hG := cX_wt cx
  refine lv_aload_n hx hb dX10_init_40 rfl (lv_at hl 0 rfl) ?_
  refine lv_iconst (v := (0 : Int32)) hx hb dX10_init_41 (by decide) ?_
  refine rb_newA (b := b) (u := u19) cx w hR (List.mem_of_getElem? (i := 4) rfl) h dX10_init_42 (fun q21 u24 G22 M23 H h hu xe hLq21 hKq21 cx w => ?_)
  obtain ⟨hL0, hK0⟩ := ext_wt xe hL0 hK0
  have hext := ext_tr hext xe
  clear xe
  have hG := cX_wt cx
  refine rb_putR (k0 := 8) cx w tyX10 tyX10_ok nmX10 hL0 hK0 (by decide) rfl wb_X10_init_X10 (by decide) rfl (tyX10_ok 8 (by decide)) rfl rfl sr_9_8 (ln_9 _ _ (by decide)) hLq21 hKq21 (List.mem_of_getElem? (i := 11) rfl) h dX10_init_45 (fun G25 H locs h xe cx w => ?_)
  obtain ⟨hL0, hK0⟩ := ext_wt xe hL0 hK0
  have hext := ext_tr hext xe
  clear xe
  have hG := cX_wt cx
  exact rb_vret h cx w hext hu dX10_init_48
-- X10_with
abbrev rnX10_with (b : uS) : Room := { frames := 0, cells := b.1, slots := b.2, locals := 0 }
def nb_X10_with_10 (b : uS) (a0 : Nat) (a1 : Nat) (post : gS → mS → Nat → Prop) (back : uS → gS → mS → Nat → Int32 → Prop) (u : uS) (G : gS) (M : mS) (v2 : Nat) (v3 : Int32) : Prop := p_if ((Int32.ofNat (gN G a0)) ≤ v3) (p_ix (Int32.ofNat (gN G a0)) (gN G v2) (p_sR G v2 (Int32.toNatClampNeg (Int32.ofNat (gN G a0))) a1 (fun G2 => post G2 M v2))) (p_ix v3 (gN G a0) (p_rf (gP G a0 (Int32.toNatClampNeg v3)) (fun q4 => p_ix v3 (gN G v2) (p_sR G v2 (Int32.toNatClampNeg v3) q4 (fun G5 => p_bd (v3 + 1 : Int32) (fun x6 => back u G5 M v2 x6))))))
def nl_X10_with_10 (b : uS) (a0 : Nat) (a1 : Nat) (post : gS → mS → Nat → Prop) (u : uS) (G : gS) (M : mS) (v2 : Nat) (v3 : Int32) : Prop := ∃ (I : Nat → uS → gS → mS → Nat → Int32 → Prop) (n : Nat), I n u G M v2 v3 ∧ ∀ (n : Nat) (u : uS) (G : gS) (M : mS) (v2 : Nat) (v3 : Int32), I n u G M v2 v3 → nb_X10_with_10 b a0 a1 post (fun u G M v2 v3 => ∃ k, k < n ∧ I k u G M v2 v3) u G M v2 v3
def n_X10_with (b : uS) (G : gS) (M : mS) (a0 : Nat) (a1 : Nat) (post : gS → mS → Nat → Prop) : Prop := q_na b (0, 0) G M 15 ((Int32.ofNat (gN G a0)) + (1 : Int32)) (fun q1 u4 G2 M3 => nl_X10_with_10 b a0 a1 post u4 G2 M3 q1 ((0 : Int32)))
set_option maxHeartbeats 4000000 in
set_option maxRecDepth 100000 in
theorem bn_X10_with_10 {p : Program} {l : Launch} {e : Env} {s : State} {m : MethodId} {args : Array Value} {below : List Frame} {meth : Method} {c : Code} {D : va_G} {cy : cyS} {b : uS} {G0 : gS} {sz : Nat} (hnm : meth.name = yX10_with.name)  {a0 : Nat} {a1 : Nat} {post : gS → mS → Nat → Prop} : ∀ (u : uS) (G : gS) (M : mS) (v2 : Nat) (v3 : Int32) (H : Heap) (locs : List Loc) (ls : Array Slot), a0 ∈ gL G → gK G a0 = 15 → a1 ∈ gL G → gK G a1 = 12 → v2 ∈ gL G → gK G v2 = 15 → ext G0 G → uL u b → nl_X10_with_10 b a0 a1 post u G M v2 v3 → cX p s m args meth c cX10_with RX10 4 (some (.array (.array .int))) wsX10_with D cy G (pA G0 sz) → wd D cy G M (pA G0 sz) s.heap H locs → lv_has ls 4 [(0, .ref a0), (1, .ref a1), (2, .ref v2), (3, .int v3)] → W p l e (rnX10_with b) s m args below meth c H locs u.1 u.2 (MQ below (va_Qr (fun (u : gS × mS × Nat) => post u.1 u.2.1 u.2.2) (fun u x t => x = u.2.2 ∧ (x ∈ gL u.1 ∧ gK u.1 x = 15) ∧ va_P D vwCl (pl cy u.1 u.2.1) t.heap ∧ va_D (pA G0 sz) (pl cy u.1 u.2.1) ∧ wt u.1 ∧ ext G0 u.1) (pA G0 sz)) args s b.1 b.2 (pA G0 sz)) (F0 m 10 ls []) := by
  intro u G M v2 v3 H locs ls hL0 hK0 hL1 hK1 v2L v2K hext hu h cx w hl
  obtain ⟨I, n, hI, hB⟩ := h
  have key : ∀ n : Nat, ∀ (u : uS) (G : gS) (M : mS) (v2 : Nat) (v3 : Int32) (H : Heap) (locs : List Loc) (ls : Array Slot), a0 ∈ gL G → gK G a0 = 15 → a1 ∈ gL G → gK G a1 = 12 → v2 ∈ gL G → gK G v2 = 15 → ext G0 G → uL u b → I n u G M v2 v3 → cX p s m args meth c cX10_with RX10 4 (some (.array (.array .int))) wsX10_with D cy G (pA G0 sz) → wd D cy G M (pA G0 sz) s.heap H locs → lv_has ls 4 [(0, .ref a0), (1, .ref a1), (2, .ref v2), (3, .int v3)] → W p l e (rnX10_with b) s m args below meth c H locs u.1 u.2 (MQ below (va_Qr (fun (u : gS × mS × Nat) => post u.1 u.2.1 u.2.2) (fun u x t => x = u.2.2 ∧ (x ∈ gL u.1 ∧ gK u.1 x = 15) ∧ va_P D vwCl (pl cy u.1 u.2.1) t.heap ∧ va_D (pA G0 sz) (pl cy u.1 u.2.1) ∧ wt u.1 ∧ ext G0 u.1) (pA G0 sz)) args s b.1 b.2 (pA G0 sz)) (F0 m 10 ls []) := by
    intro n
    induction n using Nat.strongRecOn with
    | ind n ih =>
      intro u G M v2 v3 H locs ls hL0 hK0 hL1 hK1 v2L v2K hext hu hI cx w hl
      have h := hB n u G M v2 v3 hI
      unfold nb_X10_with_10 at h
      obtain ⟨hx, hb, hml, hown, hts, hr, hlocks, hK, hA, hG, hsx⟩ := id cx
      have hR : (rnX10_with b).cells = b.1 ∧ (rnX10_with b).slots = b.2 := ⟨rfl, rfl⟩
      refine lv_iload_n hx hb dX10_with_10 rfl (lv_at hl 3 rfl) ?_
      refine lv_aload_n hx hb dX10_with_11 rfl (lv_at hl 0 rfl) ?_
      refine r_alen cx w hL0 hK0 (by decide) dX10_with_12 ?_
      refine lv_icmp_ge (tgt := 28) hx hb dX10_with_13 (by decide) (fun k1 => ?_) (fun k1 => ?_)
      · have h := w_t h k1
        refine lv_aload_n hx hb dX10_with_28 rfl (lv_at hl 2 rfl) ?_
        refine lv_aload_n hx hb dX10_with_29 rfl (lv_at hl 0 rfl) ?_
        refine r_alen cx w hL0 hK0 (by decide) dX10_with_30 ?_
        refine lv_aload_n hx hb dX10_with_31 rfl (lv_at hl 1 rfl) ?_
        refine rb_astA cx w v2L v2K hL1 hK1 h dX10_with_32 (fun G2 H locs h xe cx w => ?_)
        obtain ⟨hL0, hK0⟩ := ext_wt xe hL0 hK0
        obtain ⟨hL1, hK1⟩ := ext_wt xe hL1 hK1
        obtain ⟨v2L, v2K⟩ := ext_wt xe v2L v2K
        have hext := ext_tr hext xe
        clear xe
        have hG := cX_wt cx
        refine lv_aload_n hx hb dX10_with_33 rfl (lv_at hl 2 rfl) ?_
        exact rb_aret (Or.inr ⟨_, rfl⟩) v2L v2K h cx w hext hu dX10_with_34
      · have h := w_f h k1
        refine lv_aload_n hx hb dX10_with_16 rfl (lv_at hl 2 rfl) ?_
        refine lv_iload_n hx hb dX10_with_17 rfl (lv_at hl 3 rfl) ?_
        refine lv_aload_n hx hb dX10_with_18 rfl (lv_at hl 0 rfl) ?_
        refine lv_iload_n hx hb dX10_with_19 rfl (lv_at hl 3 rfl) ?_
        obtain ⟨z3, h⟩ := w_ix h
        obtain ⟨q4, eq4, h⟩ := w_rf h
        obtain ⟨hLq4, hKq4⟩ := wt_q hG hL0 hK0 eq4
        have hKq4 : gK G q4 = 12 := hKq4
        refine r_aaldA cx w hL0 hK0 z3 eq4 dX10_with_20 ?_
        refine rb_astA cx w v2L v2K hLq4 hKq4 h dX10_with_21 (fun G5 H locs h xe cx w => ?_)
        obtain ⟨hL0, hK0⟩ := ext_wt xe hL0 hK0
        obtain ⟨hL1, hK1⟩ := ext_wt xe hL1 hK1
        obtain ⟨v2L, v2K⟩ := ext_wt xe v2L v2K
        have hext := ext_tr hext xe
        clear xe
        have hG := cX_wt cx
        obtain ⟨x6, ex6, h⟩ := w_bd h
        refine lv_iinc (v := x6) (lv' := [(3, .int x6), (0, .ref a0), (1, .ref a1), (2, .ref v2)]) hx hb dX10_with_22 hl (k := 3) rfl (by rw [ex6]; rfl) (by decide) rfl (fun ls hl => ?_)
        refine lv_goto (tgt := 10) hx hb dX10_with_25 (by decide) ?_
        obtain ⟨k, hk, hI⟩ := h
        exact ih k hk u G5 M v2 x6 H locs ls hL0 hK0 hL1 hK1 v2L v2K hext hu hI cx w (lv_sub hl [1, 2, 3, 0] rfl)
  exact key n u G M v2 v3 H locs ls hL0 hK0 hL1 hK1 v2L v2K hext hu hI cx w hl
set_option maxHeartbeats 4000000 in
set_option maxRecDepth 100000 in
theorem kn_X10_with {l : Launch} {D : va_G} {cy : cyS} {G : gS} {M : mS} {b : uS} {a0 : Nat} {a1 : Nat} {post : gS → mS → Nat → Prop} (hG : wt G) (hL0 : a0 ∈ gL G) (hK0 : gK G a0 = 15) (hL1 : a1 ∈ gL G) (hK1 : gK G a1 = 12) (h : n_X10_with b G M a0 a1 post) : cbR 15 l yX10_with wsX10_with (rnX10_with b) D cy G M [.ref a0, .ref a1] b post := by
  unfold n_X10_with at h
  refine cbR_of (cc := cX10_with) (nL := 4) (ret := (some (.array (.array .int)))) (lv := [(0, .ref a0), (1, .ref a1)]) hG (by decide) rfl (Nat.le_of_ble_eq_true rfl) rfl ?_
  intro p e s m args below meth c sz ls hnm cx w hl
  obtain ⟨hx, hb, hml, hown, hts, hr, hlocks, hK, hA, -, hsx⟩ := id cx
  have hext := ext_rf (G := G)
  have hu : uL (0, 0) b := ⟨Nat.zero_le _, Nat.zero_le _⟩
  have hR : (rnX10_with b).cells = b.1 ∧ (rnX10_with b).slots = b.2 := ⟨rfl, rfl⟩
  refine lv_aload_n hx hb dX10_with_0 rfl (lv_at hl 0 rfl) ?_
  refine r_alen cx w hL0 hK0 (by decide) dX10_with_1 ?_
  refine lv_iconst (v := (1 : Int32)) hx hb dX10_with_2 (by decide) ?_
  refine lv_iadd hx hb dX10_with_3 ?_
  refine rb_newA (b := b) (u := (0, 0)) cx w hR (List.mem_of_getElem? (i := 1) rfl) h dX10_with_4 (fun q1 u4 G2 M3 H h hu xe hLq1 hKq1 cx w => ?_)
  obtain ⟨hL0, hK0⟩ := ext_wt xe hL0 hK0
  obtain ⟨hL1, hK1⟩ := ext_wt xe hL1 hK1
  have hext := ext_tr hext xe
  clear xe
  have hG := cX_wt cx
  refine lv_astore_n (lv' := [(2, .ref q1), (0, .ref a0), (1, .ref a1)]) hx hb dX10_with_7 rfl hl (by decide) rfl (fun ls hl => ?_)
  refine lv_iconst (v := (0 : Int32)) hx hb dX10_with_8 (by decide) ?_
  refine lv_istore_n (lv' := [(3, .int ((0 : Int32))), (2, .ref q1), (0, .ref a0), (1, .ref a1)]) hx hb dX10_with_9 rfl hl (by decide) rfl (fun ls hl => ?_)
  exact bn_X10_with_10 hnm u4 G2 M3 q1 ((0 : Int32)) H [] ls hL0 hK0 hL1 hK1 hLq1 hKq1 hext hu h cx w (lv_sub hl [2, 3, 1, 0] rfl)
-- X10_darkIn
theorem wb_X10_darkIn_X10 : ∀ w ∈ wsX100, w ∈ wsX10_darkIn := by decide +kernel
abbrev rnX10_darkIn (b : uS) : Room := { frames := 0, cells := b.1, slots := b.2, locals := 0 }
def nb_X10_darkIn_40 (b : uS) (a0 : Nat) (c1 : Int32) (kb16 : uS → gS → mS → Int32 → Nat → Int32 → Int32 → Prop) (post : gS → mS → Int32 → Prop) (u : uS) (G : gS) (M : mS) (v3 : Nat) (v4 : Int32) (v5 : Int32) (s0 : Int32) (s1 : Int32) : Prop := p_bd ((s0 + s1)) (fun x1 => p_bd (v5 + 1 : Int32) (fun x2 => kb16 u G M x1 v3 v4 x2))
def nb_X10_darkIn_16 (b : uS) (a0 : Nat) (c1 : Int32) (post : gS → mS → Int32 → Prop) (back : uS → gS → mS → Int32 → Nat → Int32 → Int32 → Prop) (u : uS) (G : gS) (M : mS) (v2 : Int32) (v3 : Nat) (v4 : Int32) (v5 : Int32) : Prop := p_if (v4 ≤ v5) (post G M v2) (p_ix v5 (gN G v3) (p_bd ((mI M v3 (Int32.toNatClampNeg v5))) (fun x3 => p_if (x3 ≤ 0) (nb_X10_darkIn_40 b a0 c1 back post u G M v3 v4 v5 v2 ((0 : Int32))) (nb_X10_darkIn_40 b a0 c1 back post u G M v3 v4 v5 v2 ((1 : Int32))))))
def nl_X10_darkIn_16 (b : uS) (a0 : Nat) (c1 : Int32) (post : gS → mS → Int32 → Prop) (u : uS) (G : gS) (M : mS) (v2 : Int32) (v3 : Nat) (v4 : Int32) (v5 : Int32) : Prop := ∃ (I : Nat → uS → gS → mS → Int32 → Nat → Int32 → Int32 → Prop) (n : Nat), I n u G M v2 v3 v4 v5 ∧ ∀ (n : Nat) (u : uS) (G : gS) (M : mS) (v2 : Int32) (v3 : Nat) (v4 : Int32) (v5 : Int32), I n u G M v2 v3 v4 v5 → nb_X10_darkIn_16 b a0 c1 post (fun u G M v2 v3 v4 v5 => ∃ k, k < n ∧ I k u G M v2 v3 v4 v5) u G M v2 v3 v4 v5
def n_X10_darkIn (b : uS) (G : gS) (M : mS) (a0 : Nat) (c1 : Int32) (post : gS → mS → Int32 → Prop) : Prop := p_rf (gP G a0 5) (fun q1 => p_ix c1 (gN G q1) (p_rf (gP G q1 (Int32.toNatClampNeg c1)) (fun q3 => p_bd ((Int32.ofNat (gN G q3))) (fun x4 => nl_X10_darkIn_16 b a0 c1 post (0, 0) G M ((0 : Int32)) q3 x4 ((0 : Int32))))))
set_option maxHeartbeats 4000000 in
set_option maxRecDepth 100000 in
theorem bn_X10_darkIn_40 {p : Program} {l : Launch} {e : Env} {s : State} {m : MethodId} {args : Array Value} {below : List Frame} {meth : Method} {c : Code} {D : va_G} {cy : cyS} {b : uS} {G0 : gS} {sz : Nat} (hnm : meth.name = yX10_darkIn.name)  {a0 : Nat} {c1 : Int32} {post : gS → mS → Int32 → Prop} {kb16 : uS → gS → mS → Int32 → Nat → Int32 → Int32 → Prop} (hkb16 : ∀ (u : uS) (G : gS) (M : mS) (v2 : Int32) (v3 : Nat) (v4 : Int32) (v5 : Int32) (H : Heap) (locs : List Loc) (ls : Array Slot), a0 ∈ gL G → gK G a0 = 9 → v3 ∈ gL G → gK G v3 = 12 → ext G0 G → uL u b → kb16 u G M v2 v3 v4 v5 → cX p s m args meth c cX10_darkIn RX10 7 (some .int) wsX10_darkIn D cy G (pA G0 sz) → wd D cy G M (pA G0 sz) s.heap H locs → lv_has ls 7 [(2, .int v2), (3, .ref v3), (4, .int v4), (5, .int v5)] → W p l e (rnX10_darkIn b) s m args below meth c H locs u.1 u.2 (MQ below (va_Qi (fun (r : Int32) (u : gS × mS) => post u.1 u.2 r) (fun u t => va_P D vwCl (pl cy u.1 u.2) t.heap ∧ va_D (pA G0 sz) (pl cy u.1 u.2) ∧ wt u.1 ∧ ext G0 u.1) (pA G0 sz)) args s b.1 b.2 (pA G0 sz)) (F0 m 16 ls [])) : ∀ (u : uS) (G : gS) (M : mS) (v3 : Nat) (v4 : Int32) (v5 : Int32) (s0 : Int32) (s1 : Int32) (H : Heap) (locs : List Loc) (ls : Array Slot), a0 ∈ gL G → gK G a0 = 9 → v3 ∈ gL G → gK G v3 = 12 → ext G0 G → uL u b → nb_X10_darkIn_40 b a0 c1 kb16 post u G M v3 v4 v5 s0 s1 → cX p s m args meth c cX10_darkIn RX10 7 (some .int) wsX10_darkIn D cy G (pA G0 sz) → wd D cy G M (pA G0 sz) s.heap H locs → lv_has ls 7 [(3, .ref v3), (4, .int v4), (5, .int v5)] → W p l e (rnX10_darkIn b) s m args below meth c H locs u.1 u.2 (MQ below (va_Qi (fun (r : Int32) (u : gS × mS) => post u.1 u.2 r) (fun u t => va_P D vwCl (pl cy u.1 u.2) t.heap ∧ va_D (pA G0 sz) (pl cy u.1 u.2) ∧ wt u.1 ∧ ext G0 u.1) (pA G0 sz)) args s b.1 b.2 (pA G0 sz)) (F0 m 40 ls [.int s1, .int s0]) := by
  intro u G M v3 v4 v5 s0 s1 H locs ls hL0 hK0 v3L v3K hext hu h cx w hl
  unfold nb_X10_darkIn_40 at h
  obtain ⟨hx, hb, hml, hown, hts, hr, hlocks, hK, hA, hG, hsx⟩ := id cx
  have hR : (rnX10_darkIn b).cells = b.1 ∧ (rnX10_darkIn b).slots = b.2 := ⟨rfl, rfl⟩
  refine lv_iadd hx hb dX10_darkIn_40 ?_
  obtain ⟨x1, ex1, h⟩ := w_bd h
  refine r_topI ex1 ?_
  refine lv_istore_n (lv' := [(2, .int x1), (3, .ref v3), (4, .int v4), (5, .int v5)]) hx hb dX10_darkIn_41 rfl hl (by decide) rfl (fun ls hl => ?_)
  obtain ⟨x2, ex2, h⟩ := w_bd h
  refine lv_iinc (v := x2) (lv' := [(5, .int x2), (2, .int x1), (3, .ref v3), (4, .int v4)]) hx hb dX10_darkIn_42 hl (k := 3) rfl (by rw [ex2]; rfl) (by decide) rfl (fun ls hl => ?_)
  refine lv_goto (tgt := 16) hx hb dX10_darkIn_45 (by decide) ?_
  exact hkb16 u G M x1 v3 v4 x2 H locs ls hL0 hK0 v3L v3K hext hu h cx w (lv_sub hl [1, 2, 3, 0] rfl)
set_option maxHeartbeats 4000000 in
set_option maxRecDepth 100000 in
theorem bn_X10_darkIn_16 {p : Program} {l : Launch} {e : Env} {s : State} {m : MethodId} {args : Array Value} {below : List Frame} {meth : Method} {c : Code} {D : va_G} {cy : cyS} {b : uS} {G0 : gS} {sz : Nat} (hnm : meth.name = yX10_darkIn.name)  {a0 : Nat} {c1 : Int32} {post : gS → mS → Int32 → Prop} : ∀ (u : uS) (G : gS) (M : mS) (v2 : Int32) (v3 : Nat) (v4 : Int32) (v5 : Int32) (H : Heap) (locs : List Loc) (ls : Array Slot), a0 ∈ gL G → gK G a0 = 9 → v3 ∈ gL G → gK G v3 = 12 → ext G0 G → uL u b → nl_X10_darkIn_16 b a0 c1 post u G M v2 v3 v4 v5 → cX p s m args meth c cX10_darkIn RX10 7 (some .int) wsX10_darkIn D cy G (pA G0 sz) → wd D cy G M (pA G0 sz) s.heap H locs → lv_has ls 7 [(2, .int v2), (3, .ref v3), (4, .int v4), (5, .int v5)] → W p l e (rnX10_darkIn b) s m args below meth c H locs u.1 u.2 (MQ below (va_Qi (fun (r : Int32) (u : gS × mS) => post u.1 u.2 r) (fun u t => va_P D vwCl (pl cy u.1 u.2) t.heap ∧ va_D (pA G0 sz) (pl cy u.1 u.2) ∧ wt u.1 ∧ ext G0 u.1) (pA G0 sz)) args s b.1 b.2 (pA G0 sz)) (F0 m 16 ls []) := by
  intro u G M v2 v3 v4 v5 H locs ls hL0 hK0 v3L v3K hext hu h cx w hl
  obtain ⟨I, n, hI, hB⟩ := h
  have key : ∀ n : Nat, ∀ (u : uS) (G : gS) (M : mS) (v2 : Int32) (v3 : Nat) (v4 : Int32) (v5 : Int32) (H : Heap) (locs : List Loc) (ls : Array Slot), a0 ∈ gL G → gK G a0 = 9 → v3 ∈ gL G → gK G v3 = 12 → ext G0 G → uL u b → I n u G M v2 v3 v4 v5 → cX p s m args meth c cX10_darkIn RX10 7 (some .int) wsX10_darkIn D cy G (pA G0 sz) → wd D cy G M (pA G0 sz) s.heap H locs → lv_has ls 7 [(2, .int v2), (3, .ref v3), (4, .int v4), (5, .int v5)] → W p l e (rnX10_darkIn b) s m args below meth c H locs u.1 u.2 (MQ below (va_Qi (fun (r : Int32) (u : gS × mS) => post u.1 u.2 r) (fun u t => va_P D vwCl (pl cy u.1 u.2) t.heap ∧ va_D (pA G0 sz) (pl cy u.1 u.2) ∧ wt u.1 ∧ ext G0 u.1) (pA G0 sz)) args s b.1 b.2 (pA G0 sz)) (F0 m 16 ls []) := by
    intro n
    induction n using Nat.strongRecOn with
    | ind n ih =>
      intro u G M v2 v3 v4 v5 H locs ls hL0 hK0 v3L v3K hext hu hI cx w hl
      have h := hB n u G M v2 v3 v4 v5 hI
      unfold nb_X10_darkIn_16 at h
      obtain ⟨hx, hb, hml, hown, hts, hr, hlocks, hK, hA, hG, hsx⟩ := id cx
      have hR : (rnX10_darkIn b).cells = b.1 ∧ (rnX10_darkIn b).slots = b.2 := ⟨rfl, rfl⟩
      refine lv_iload hx hb dX10_darkIn_16 (lv_at hl 3 rfl) ?_
      refine lv_iload hx hb dX10_darkIn_18 (lv_at hl 2 rfl) ?_
      refine lv_icmp_ge (tgt := 48) hx hb dX10_darkIn_20 (by decide) (fun k1 => ?_) (fun k1 => ?_)
      · have h := w_t h k1
        refine lv_iload_n hx hb dX10_darkIn_48 rfl (lv_at hl 0 rfl) ?_
        exact rb_iret h cx w hext hu dX10_darkIn_49
      · have h := w_f h k1
        refine lv_aload_n hx hb dX10_darkIn_23 rfl (lv_at hl 1 rfl) ?_
        refine lv_iload hx hb dX10_darkIn_24 (lv_at hl 3 rfl) ?_
        obtain ⟨z2, h⟩ := w_ix h
        refine r_iald cx w v3L v3K z2 dX10_darkIn_26 ?_
        obtain ⟨x3, ex3, h⟩ := w_bd h
        refine r_topI ex3 ?_
        refine lv_istore (lv' := [(6, .int x3), (2, .int v2), (3, .ref v3), (4, .int v4), (5, .int v5)]) hx hb dX10_darkIn_27 hl (by decide) rfl (fun ls hl => ?_)
        refine lv_iload_n hx hb dX10_darkIn_29 rfl (lv_at hl 1 rfl) ?_
        refine lv_iload hx hb dX10_darkIn_30 (lv_at hl 0 rfl) ?_
        refine lv_if_le (tgt := 39) hx hb dX10_darkIn_32 (by decide) (fun k4 => ?_) (fun k4 => ?_)
        · have h := w_t h k4
          refine lv_iconst (v := (0 : Int32)) hx hb dX10_darkIn_39 (by decide) ?_
          exact bn_X10_darkIn_40 hnm (hkb16 := fun u G M v2 v3 v4 v5 H locs ls hL0 hK0 v3L v3K hext hu h cx w hl => by obtain ⟨k, hk, hI⟩ := h; exact ih k hk u G M v2 v3 v4 v5 H locs ls hL0 hK0 v3L v3K hext hu hI cx w hl) u G M v3 v4 v5 v2 ((0 : Int32)) H locs ls hL0 hK0 v3L v3K hext hu h cx w (lv_sub hl [2, 3, 4] rfl)
        · have h := w_f h k4
          refine lv_iconst (v := (1 : Int32)) hx hb dX10_darkIn_35 (by decide) ?_
          refine lv_goto (tgt := 40) hx hb dX10_darkIn_36 (by decide) ?_
          exact bn_X10_darkIn_40 hnm (hkb16 := fun u G M v2 v3 v4 v5 H locs ls hL0 hK0 v3L v3K hext hu h cx w hl => by obtain ⟨k, hk, hI⟩ := h; exact ih k hk u G M v2 v3 v4 v5 H locs ls hL0 hK0 v3L v3K hext hu hI cx w hl) u G M v3 v4 v5 v2 ((1 : Int32)) H locs ls hL0 hK0 v3L v3K hext hu h cx w (lv_sub hl [2, 3, 4] rfl)
  exact key n u G M v2 v3 v4 v5 H locs ls hL0 hK0 v3L v3K hext hu hI cx w hl
set_option maxHeartbeats 4000000 in
set_option maxRecDepth 100000 in
theorem kn_X10_darkIn {l : Launch} {D : va_G} {cy : cyS} {G : gS} {M : mS} {b : uS} {a0 : Nat} {c1 : Int32} {post : gS → mS → Int32 → Prop} (hG : wt G) (hL0 : a0 ∈ gL G) (hK0 : gK G a0 = 9) (h : n_X10_darkIn b G M a0 c1 post) : cbI l yX10_darkIn wsX10_darkIn (rnX10_darkIn b) D cy G M [.ref a0, .int c1] b post := by
  unfold n_X10_darkIn at h
  refine cbI_of (cc := cX10_darkIn) (nL := 7) (ret := (some .int)) (lv := [(0, .ref a0), (1, .int c1)]) hG (by decide) rfl (Nat.le_of_ble_eq_true rfl) rfl ?_
  intro p e s m args below meth c sz ls hnm cx w hl
  obtain ⟨hx, hb, hml, hown, hts, hr, hlocks, hK, hA, -, hsx⟩ := id cx
  have hext := ext_rf (G := G)
  have hu : uL (0, 0) b := ⟨Nat.zero_le _, Nat.zero_le _⟩
  have hR : (rnX10_darkIn b).cells = b.1 ∧ (rnX10_darkIn b).slots = b.2 := ⟨rfl, rfl⟩
  refine lv_iconst (v := (0 : Int32)) hx hb dX10_darkIn_0 (by decide) ?_
  refine lv_istore_n (lv' := [(2, .int ((0 : Int32))), (0, .ref a0), (1, .int c1)]) hx hb dX10_darkIn_1 rfl hl (by decide) rfl (fun ls hl => ?_)
  refine lv_aload_n hx hb dX10_darkIn_2 rfl (lv_at hl 1 rfl) ?_
  obtain ⟨q1, eq1, h⟩ := w_rf h
  obtain ⟨hLq1, hKq1⟩ := wt_q hG hL0 hK0 eq1
  have hKq1 : gK G q1 = 15 := hKq1
  refine r_getR (k := 5) cx w hL0 hK0 (by decide) rfl wb_X10_darkIn_X10 (by decide) rfl eq1 (List.mem_of_getElem? (i := 1) rfl) dX10_darkIn_3 ?_
  refine lv_iload_n hx hb dX10_darkIn_6 rfl (lv_at hl 2 rfl) ?_
  obtain ⟨z2, h⟩ := w_ix h
  obtain ⟨q3, eq3, h⟩ := w_rf h
  obtain ⟨hLq3, hKq3⟩ := wt_q hG hLq1 hKq1 eq3
  have hKq3 : gK G q3 = 12 := hKq3
  refine r_aaldA cx w hLq1 hKq1 z2 eq3 dX10_darkIn_7 ?_
  refine lv_astore_n (lv' := [(3, .ref q3), (2, .int ((0 : Int32))), (0, .ref a0), (1, .int c1)]) hx hb dX10_darkIn_8 rfl hl (by decide) rfl (fun ls hl => ?_)
  refine lv_aload_n hx hb dX10_darkIn_9 rfl (lv_at hl 0 rfl) ?_
  refine r_alen cx w hLq3 hKq3 (by decide) dX10_darkIn_10 ?_
  obtain ⟨x4, ex4, h⟩ := w_bd h
  refine r_topI ex4 ?_
  refine lv_istore (lv' := [(4, .int x4), (3, .ref q3), (2, .int ((0 : Int32))), (0, .ref a0), (1, .int c1)]) hx hb dX10_darkIn_11 hl (by decide) rfl (fun ls hl => ?_)
  refine lv_iconst (v := (0 : Int32)) hx hb dX10_darkIn_13 (by decide) ?_
  refine lv_istore (lv' := [(5, .int ((0 : Int32))), (4, .int x4), (3, .ref q3), (2, .int ((0 : Int32))), (0, .ref a0), (1, .int c1)]) hx hb dX10_darkIn_14 hl (by decide) rfl (fun ls hl => ?_)
  exact bn_X10_darkIn_16 hnm (0, 0) G M ((0 : Int32)) q3 x4 ((0 : Int32)) s.heap [] ls hL0 hK0 hLq3 hKq3 hext hu h cx w (lv_sub hl [3, 2, 1, 0] rfl)
-- X10_dark
abbrev rnX10_dark (b : uS) : Room := { frames := 1, cells := b.1, slots := b.2, locals := 26 }
def nb_X10_dark_4 (b : uS) (a0 : Nat) (post : gS → mS → Int32 → Prop) (back : uS → gS → mS → Int32 → Int32 → Prop) (u : uS) (G : gS) (M : mS) (v1 : Int32) (v2 : Int32) : Prop := p_if ((64 : Int32) ≤ v2) (post G M v1) (q_ca b u (fun v => n_X10_darkIn v G M a0 v2) (fun u4 G2 M3 r5 => p_bd ((v1 + r5)) (fun x6 => p_bd (v2 + 1 : Int32) (fun x7 => back u4 G2 M3 x6 x7))))
def nl_X10_dark_4 (b : uS) (a0 : Nat) (post : gS → mS → Int32 → Prop) (u : uS) (G : gS) (M : mS) (v1 : Int32) (v2 : Int32) : Prop := ∃ (I : Nat → uS → gS → mS → Int32 → Int32 → Prop) (n : Nat), I n u G M v1 v2 ∧ ∀ (n : Nat) (u : uS) (G : gS) (M : mS) (v1 : Int32) (v2 : Int32), I n u G M v1 v2 → nb_X10_dark_4 b a0 post (fun u G M v1 v2 => ∃ k, k < n ∧ I k u G M v1 v2) u G M v1 v2
def n_X10_dark (b : uS) (G : gS) (M : mS) (a0 : Nat) (post : gS → mS → Int32 → Prop) : Prop := nl_X10_dark_4 b a0 post (0, 0) G M ((0 : Int32)) ((0 : Int32))
set_option maxHeartbeats 4000000 in
set_option maxRecDepth 100000 in
theorem bn_X10_dark_4 {p : Program} {l : Launch} {e : Env} {s : State} {m : MethodId} {args : Array Value} {below : List Frame} {meth : Method} {c : Code} {D : va_G} {cy : cyS} {b : uS} {G0 : gS} {sz : Nat} (hnm : meth.name = yX10_dark.name)  {a0 : Nat} {post : gS → mS → Int32 → Prop} : ∀ (u : uS) (G : gS) (M : mS) (v1 : Int32) (v2 : Int32) (H : Heap) (locs : List Loc) (ls : Array Slot), a0 ∈ gL G → gK G a0 = 9 → ext G0 G → uL u b → nl_X10_dark_4 b a0 post u G M v1 v2 → cX p s m args meth c cX10_dark RX10 3 (some .int) wsX10_dark D cy G (pA G0 sz) → wd D cy G M (pA G0 sz) s.heap H locs → lv_has ls 3 [(0, .ref a0), (1, .int v1), (2, .int v2)] → W p l e (rnX10_dark b) s m args below meth c H locs u.1 u.2 (MQ below (va_Qi (fun (r : Int32) (u : gS × mS) => post u.1 u.2 r) (fun u t => va_P D vwCl (pl cy u.1 u.2) t.heap ∧ va_D (pA G0 sz) (pl cy u.1 u.2) ∧ wt u.1 ∧ ext G0 u.1) (pA G0 sz)) args s b.1 b.2 (pA G0 sz)) (F0 m 4 ls []) := by
  intro u G M v1 v2 H locs ls hL0 hK0 hext hu h cx w hl
  obtain ⟨I, n, hI, hB⟩ := h
  have key : ∀ n : Nat, ∀ (u : uS) (G : gS) (M : mS) (v1 : Int32) (v2 : Int32) (H : Heap) (locs : List Loc) (ls : Array Slot), a0 ∈ gL G → gK G a0 = 9 → ext G0 G → uL u b → I n u G M v1 v2 → cX p s m args meth c cX10_dark RX10 3 (some .int) wsX10_dark D cy G (pA G0 sz) → wd D cy G M (pA G0 sz) s.heap H locs → lv_has ls 3 [(0, .ref a0), (1, .int v1), (2, .int v2)] → W p l e (rnX10_dark b) s m args below meth c H locs u.1 u.2 (MQ below (va_Qi (fun (r : Int32) (u : gS × mS) => post u.1 u.2 r) (fun u t => va_P D vwCl (pl cy u.1 u.2) t.heap ∧ va_D (pA G0 sz) (pl cy u.1 u.2) ∧ wt u.1 ∧ ext G0 u.1) (pA G0 sz)) args s b.1 b.2 (pA G0 sz)) (F0 m 4 ls []) := by
    intro n
    induction n using Nat.strongRecOn with
    | ind n ih =>
      intro u G M v1 v2 H locs ls hL0 hK0 hext hu hI cx w hl
      have h := hB n u G M v1 v2 hI
      unfold nb_X10_dark_4 at h
      obtain ⟨hx, hb, hml, hown, hts, hr, hlocks, hK, hA, hG, hsx⟩ := id cx
      have hR : (rnX10_dark b).cells = b.1 ∧ (rnX10_dark b).slots = b.2 := ⟨rfl, rfl⟩
      refine lv_iload_n hx hb dX10_dark_4 rfl (lv_at hl 2 rfl) ?_
      refine lv_bipush (v := (64 : Int32)) hx hb dX10_dark_5 (by decide) ?_
      refine lv_icmp_ge (tgt := 24) hx hb dX10_dark_7 (by decide) (fun k1 => ?_) (fun k1 => ?_)
      · have h := w_t h k1
        refine lv_iload_n hx hb dX10_dark_24 rfl (lv_at hl 1 rfl) ?_
        exact rb_iret h cx w hext hu dX10_dark_25
      · have h := w_f h k1
        refine lv_iload_n hx hb dX10_dark_10 rfl (lv_at hl 1 rfl) ?_
        refine lv_aload_n hx hb dX10_dark_11 rfl (lv_at hl 0 rfl) ?_
        refine lv_iload_n hx hb dX10_dark_12 rfl (lv_at hl 2 rfl) ?_
        refine rb_VI (b := b) (u := u) (rf := 0) (rl := 0) (As := [.int v2]) (rest := [.int v1]) cx w hR hl.1 h (fun h => kn_X10_darkIn hG hL0 hK0 h) (fun v => cwV 1 hts gX10_dark_X10_darkIn rfl rfl rfl (by decide +kernel) ⟨(Nat.le_of_ble_eq_true rfl), (Nat.le_of_ble_eq_true rfl)⟩) hL0 hK0 (by decide) rfl rfl rfl (Nat.le_of_ble_eq_true rfl) dX10_dark_13 (fun u4 G2 M3 r5 H locs h hu xe cx w => ?_)
        obtain ⟨hL0, hK0⟩ := ext_wt xe hL0 hK0
        have hext := ext_tr hext xe
        clear xe
        have hG := cX_wt cx
        refine lv_iadd hx hb dX10_dark_16 ?_
        obtain ⟨x6, ex6, h⟩ := w_bd h
        refine r_topI ex6 ?_
        refine lv_istore_n (lv' := [(1, .int x6), (0, .ref a0), (2, .int v2)]) hx hb dX10_dark_17 rfl hl (by decide) rfl (fun ls hl => ?_)
        obtain ⟨x7, ex7, h⟩ := w_bd h
        refine lv_iinc (v := x7) (lv' := [(2, .int x7), (1, .int x6), (0, .ref a0)]) hx hb dX10_dark_18 hl (k := 2) rfl (by rw [ex7]; rfl) (by decide) rfl (fun ls hl => ?_)
        refine lv_goto (tgt := 4) hx hb dX10_dark_21 (by decide) ?_
        obtain ⟨k, hk, hI⟩ := h
        exact ih k hk u4 G2 M3 x6 x7 H locs ls hL0 hK0 hext hu hI cx w (lv_sub hl [2, 1, 0] rfl)
  exact key n u G M v1 v2 H locs ls hL0 hK0 hext hu hI cx w hl
set_option maxHeartbeats 4000000 in
set_option maxRecDepth 100000 in
theorem kn_X10_dark {l : Launch} {D : va_G} {cy : cyS} {G : gS} {M : mS} {b : uS} {a0 : Nat} {post : gS → mS → Int32 → Prop} (hG : wt G) (hL0 : a0 ∈ gL G) (hK0 : gK G a0 = 9) (h : n_X10_dark b G M a0 post) : cbI l yX10_dark wsX10_dark (rnX10_dark b) D cy G M [.ref a0] b post := by
  unfold n_X10_dark at h
  refine cbI_of (cc := cX10_dark) (nL := 3) (ret := (some .int)) (lv := [(0, .ref a0)]) hG (by decide) rfl (Nat.le_of_ble_eq_true rfl) rfl ?_
  intro p e s m args below meth c sz ls hnm cx w hl
  obtain ⟨hx, hb, hml, hown, hts, hr, hlocks, hK, hA, -, hsx⟩ := id cx
  have hext := ext_rf (G := G)
  have hu : uL (0, 0) b := ⟨Nat.zero_le _, Nat.zero_le _⟩
  have hR : (rnX10_dark b).cells = b.1 ∧ (rnX10_dark b).slots = b.2 := ⟨rfl, rfl⟩
  refine lv_iconst (v := (0 : Int32)) hx hb dX10_dark_0 (by decide) ?_
  refine lv_istore_n (lv' := [(1, .int ((0 : Int32))), (0, .ref a0)]) hx hb dX10_dark_1 rfl hl (by decide) rfl (fun ls hl => ?_)
  refine lv_iconst (v := (0 : Int32)) hx hb dX10_dark_2 (by decide) ?_
  refine lv_istore_n (lv' := [(2, .int ((0 : Int32))), (1, .int ((0 : Int32))), (0, .ref a0)]) hx hb dX10_dark_3 rfl hl (by decide) rfl (fun ls hl => ?_)
  exact bn_X10_dark_4 hnm (0, 0) G M ((0 : Int32)) ((0 : Int32)) s.heap [] ls hL0 hK0 hext hu h cx w (lv_sub hl [2, 1, 0] rfl)
-- X10_wash
theorem wb_X10_wash_X10 : ∀ w ∈ wsX100, w ∈ wsX10_wash := by decide +kernel
abbrev rnX10_wash (b : uS) : Room := { frames := 1, cells := b.1, slots := b.2, locals := 26 }
def nb_X10_wash_5 (b : uS) (a0 : Nat) (c1 : Int32) (c2 : Int32) (post : gS → mS → Int32 → Prop) (back : uS → gS → mS → Int32 → Int32 → Prop) (u : uS) (G : gS) (M : mS) (v3 : Int32) (v4 : Int32) : Prop := p_if (c2 < v4) (p_wI M a0 2 ((mI M a0 2) + v3) (fun M2 => post G M2 v3)) (q_ca b u (fun v => n_X10_darkIn v G M a0 v4) (fun u5 G3 M4 r6 => p_bd ((v3 + r6)) (fun x7 => p_rf (gP G3 a0 5) (fun q8 => q_na b u5 G3 M4 12 (64 : Int32) (fun q9 u12 G10 M11 => p_ix v4 (gN G10 q8) (p_sR G10 q8 (Int32.toNatClampNeg v4) q9 (fun G13 => p_bd (v4 + 1 : Int32) (fun x14 => back u12 G13 M11 x7 x14))))))))
def nl_X10_wash_5 (b : uS) (a0 : Nat) (c1 : Int32) (c2 : Int32) (post : gS → mS → Int32 → Prop) (u : uS) (G : gS) (M : mS) (v3 : Int32) (v4 : Int32) : Prop := ∃ (I : Nat → uS → gS → mS → Int32 → Int32 → Prop) (n : Nat), I n u G M v3 v4 ∧ ∀ (n : Nat) (u : uS) (G : gS) (M : mS) (v3 : Int32) (v4 : Int32), I n u G M v3 v4 → nb_X10_wash_5 b a0 c1 c2 post (fun u G M v3 v4 => ∃ k, k < n ∧ I k u G M v3 v4) u G M v3 v4
def n_X10_wash (b : uS) (G : gS) (M : mS) (a0 : Nat) (c1 : Int32) (c2 : Int32) (post : gS → mS → Int32 → Prop) : Prop := nl_X10_wash_5 b a0 c1 c2 post (0, 0) G M ((0 : Int32)) c1
set_option maxHeartbeats 4000000 in
set_option maxRecDepth 100000 in
theorem bn_X10_wash_5 {p : Program} {l : Launch} {e : Env} {s : State} {m : MethodId} {args : Array Value} {below : List Frame} {meth : Method} {c : Code} {D : va_G} {cy : cyS} {b : uS} {G0 : gS} {sz : Nat} (hnm : meth.name = yX10_wash.name)  {a0 : Nat} {c1 : Int32} {c2 : Int32} {post : gS → mS → Int32 → Prop} : ∀ (u : uS) (G : gS) (M : mS) (v3 : Int32) (v4 : Int32) (H : Heap) (locs : List Loc) (ls : Array Slot), a0 ∈ gL G → gK G a0 = 9 → ext G0 G → uL u b → nl_X10_wash_5 b a0 c1 c2 post u G M v3 v4 → cX p s m args meth c cX10_wash RX10 5 (some .int) wsX10_wash D cy G (pA G0 sz) → wd D cy G M (pA G0 sz) s.heap H locs → lv_has ls 5 [(0, .ref a0), (2, .int c2), (3, .int v3), (4, .int v4)] → W p l e (rnX10_wash b) s m args below meth c H locs u.1 u.2 (MQ below (va_Qi (fun (r : Int32) (u : gS × mS) => post u.1 u.2 r) (fun u t => va_P D vwCl (pl cy u.1 u.2) t.heap ∧ va_D (pA G0 sz) (pl cy u.1 u.2) ∧ wt u.1 ∧ ext G0 u.1) (pA G0 sz)) args s b.1 b.2 (pA G0 sz)) (F0 m 5 ls []) := by
  intro u G M v3 v4 H locs ls hL0 hK0 hext hu h cx w hl
  obtain ⟨I, n, hI, hB⟩ := h
  have key : ∀ n : Nat, ∀ (u : uS) (G : gS) (M : mS) (v3 : Int32) (v4 : Int32) (H : Heap) (locs : List Loc) (ls : Array Slot), a0 ∈ gL G → gK G a0 = 9 → ext G0 G → uL u b → I n u G M v3 v4 → cX p s m args meth c cX10_wash RX10 5 (some .int) wsX10_wash D cy G (pA G0 sz) → wd D cy G M (pA G0 sz) s.heap H locs → lv_has ls 5 [(0, .ref a0), (2, .int c2), (3, .int v3), (4, .int v4)] → W p l e (rnX10_wash b) s m args below meth c H locs u.1 u.2 (MQ below (va_Qi (fun (r : Int32) (u : gS × mS) => post u.1 u.2 r) (fun u t => va_P D vwCl (pl cy u.1 u.2) t.heap ∧ va_D (pA G0 sz) (pl cy u.1 u.2) ∧ wt u.1 ∧ ext G0 u.1) (pA G0 sz)) args s b.1 b.2 (pA G0 sz)) (F0 m 5 ls []) := by
    intro n
    induction n using Nat.strongRecOn with
    | ind n ih =>
      intro u G M v3 v4 H locs ls hL0 hK0 hext hu hI cx w hl
      have h := hB n u G M v3 v4 hI
      unfold nb_X10_wash_5 at h
      obtain ⟨hx, hb, hml, hown, hts, hr, hlocks, hK, hA, hG, hsx⟩ := id cx
      have hR : (rnX10_wash b).cells = b.1 ∧ (rnX10_wash b).slots = b.2 := ⟨rfl, rfl⟩
      refine lv_iload hx hb dX10_wash_5 (lv_at hl 3 rfl) ?_
      refine lv_iload_n hx hb dX10_wash_7 rfl (lv_at hl 1 rfl) ?_
      refine lv_icmp_gt (tgt := 37) hx hb dX10_wash_8 (by decide) (fun k1 => ?_) (fun k1 => ?_)
      · have h := w_t h k1
        refine lv_aload_n hx hb dX10_wash_37 rfl (lv_at hl 0 rfl) ?_
        refine lv_dup hx hb dX10_wash_38 rfl ?_
        refine r_getI (k := 2) (v := .int (mI M a0 2)) cx w hL0 hK0 (by decide) rfl wb_X10_wash_X10 (by decide) rfl (List.mem_of_getElem? (i := 3) rfl) dX10_wash_39 ?_
        refine lv_iload_n hx hb dX10_wash_42 rfl (lv_at hl 2 rfl) ?_
        refine lv_iadd hx hb dX10_wash_43 ?_
        obtain ⟨M2, eM2, h⟩ := w_wI h
        refine r_putI (k := 2) (ty := .int) cx w tyX10 tyX10_ok nmX10 hL0 hK0 (by decide) rfl wb_X10_wash_X10 (by decide) rfl rfl rfl rfl st_9_2 (ln_9 _ _ (by decide)) (List.mem_of_getElem? (i := 3) rfl) dX10_wash_44 eM2 (fun H locs w => ?_)
        refine lv_iload_n hx hb dX10_wash_47 rfl (lv_at hl 2 rfl) ?_
        exact rb_iret h cx w hext hu dX10_wash_48
      · have h := w_f h k1
        refine lv_iload_n hx hb dX10_wash_11 rfl (lv_at hl 2 rfl) ?_
        refine lv_aload_n hx hb dX10_wash_12 rfl (lv_at hl 0 rfl) ?_
        refine lv_iload hx hb dX10_wash_13 (lv_at hl 3 rfl) ?_
        refine rb_VI (b := b) (u := u) (rf := 0) (rl := 0) (As := [.int v4]) (rest := [.int v3]) cx w hR hl.1 h (fun h => kn_X10_darkIn hG hL0 hK0 h) (fun v => cwV 1 hts gX10_wash_X10_darkIn rfl rfl rfl (by decide +kernel) ⟨(Nat.le_of_ble_eq_true rfl), (Nat.le_of_ble_eq_true rfl)⟩) hL0 hK0 (by decide) rfl rfl rfl (Nat.le_of_ble_eq_true rfl) dX10_wash_15 (fun u5 G3 M4 r6 H locs h hu xe cx w => ?_)
        obtain ⟨hL0, hK0⟩ := ext_wt xe hL0 hK0
        have hext := ext_tr hext xe
        clear xe
        have hG := cX_wt cx
        refine lv_iadd hx hb dX10_wash_18 ?_
        obtain ⟨x7, ex7, h⟩ := w_bd h
        refine r_topI ex7 ?_
        refine lv_istore_n (lv' := [(3, .int x7), (0, .ref a0), (2, .int c2), (4, .int v4)]) hx hb dX10_wash_19 rfl hl (by decide) rfl (fun ls hl => ?_)
        refine lv_aload_n hx hb dX10_wash_20 rfl (lv_at hl 1 rfl) ?_
        obtain ⟨q8, eq8, h⟩ := w_rf h
        obtain ⟨hLq8, hKq8⟩ := wt_q hG hL0 hK0 eq8
        have hKq8 : gK G3 q8 = 15 := hKq8
        refine r_getR (k := 5) cx w hL0 hK0 (by decide) rfl wb_X10_wash_X10 (by decide) rfl eq8 (List.mem_of_getElem? (i := 1) rfl) dX10_wash_21 ?_
        refine lv_iload hx hb dX10_wash_24 (lv_at hl 3 rfl) ?_
        refine lv_bipush (v := (64 : Int32)) hx hb dX10_wash_26 (by decide) ?_
        refine rb_newI (b := b) (u := u5) cx w hR (List.mem_of_getElem? (i := 2) rfl) h dX10_wash_28 (fun q9 u12 G10 M11 H h hu xe hLq9 hKq9 cx w => ?_)
        obtain ⟨hL0, hK0⟩ := ext_wt xe hL0 hK0
        obtain ⟨hLq8, hKq8⟩ := ext_wt xe hLq8 hKq8
        have hext := ext_tr hext xe
        clear xe
        have hG := cX_wt cx
        refine rb_astA cx w hLq8 hKq8 hLq9 hKq9 h dX10_wash_30 (fun G13 H locs h xe cx w => ?_)
        obtain ⟨hL0, hK0⟩ := ext_wt xe hL0 hK0
        have hext := ext_tr hext xe
        clear xe
        have hG := cX_wt cx
        obtain ⟨x14, ex14, h⟩ := w_bd h
        refine lv_iinc (v := x14) (lv' := [(4, .int x14), (3, .int x7), (0, .ref a0), (2, .int c2)]) hx hb dX10_wash_31 hl (k := 3) rfl (by rw [ex14]; rfl) (by decide) rfl (fun ls hl => ?_)
        refine lv_goto (tgt := 5) hx hb dX10_wash_34 (by decide) ?_
        obtain ⟨k, hk, hI⟩ := h
        exact ih k hk u12 G13 M11 x7 x14 H locs ls hL0 hK0 hext hu hI cx w (lv_sub hl [2, 3, 1, 0] rfl)
  exact key n u G M v3 v4 H locs ls hL0 hK0 hext hu hI cx w hl
set_option maxHeartbeats 4000000 in
set_option maxRecDepth 100000 in
theorem kn_X10_wash {l : Launch} {D : va_G} {cy : cyS} {G : gS} {M : mS} {b : uS} {a0 : Nat} {c1 : Int32} {c2 : Int32} {post : gS → mS → Int32 → Prop} (hG : wt G) (hL0 : a0 ∈ gL G) (hK0 : gK G a0 = 9) (h : n_X10_wash b G M a0 c1 c2 post) : cbI l yX10_wash wsX10_wash (rnX10_wash b) D cy G M [.ref a0, .int c1, .int c2] b post := by
  unfold n_X10_wash at h
  refine cbI_of (cc := cX10_wash) (nL := 5) (ret := (some .int)) (lv := [(0, .ref a0), (1, .int c1), (2, .int c2)]) hG (by decide) rfl (Nat.le_of_ble_eq_true rfl) rfl ?_
  intro p e s m args below meth c sz ls hnm cx w hl
  obtain ⟨hx, hb, hml, hown, hts, hr, hlocks, hK, hA, -, hsx⟩ := id cx
  have hext := ext_rf (G := G)
  have hu : uL (0, 0) b := ⟨Nat.zero_le _, Nat.zero_le _⟩
  have hR : (rnX10_wash b).cells = b.1 ∧ (rnX10_wash b).slots = b.2 := ⟨rfl, rfl⟩
  refine lv_iconst (v := (0 : Int32)) hx hb dX10_wash_0 (by decide) ?_
  refine lv_istore_n (lv' := [(3, .int ((0 : Int32))), (0, .ref a0), (1, .int c1), (2, .int c2)]) hx hb dX10_wash_1 rfl hl (by decide) rfl (fun ls hl => ?_)
  refine lv_iload_n hx hb dX10_wash_2 rfl (lv_at hl 2 rfl) ?_
  refine lv_istore (lv' := [(4, .int c1), (3, .int ((0 : Int32))), (0, .ref a0), (1, .int c1), (2, .int c2)]) hx hb dX10_wash_3 hl (by decide) rfl (fun ls hl => ?_)
  exact bn_X10_wash_5 hnm (0, 0) G M ((0 : Int32)) c1 s.heap [] ls hL0 hK0 hext hu h cx w (lv_sub hl [2, 4, 1, 0] rfl)
-- X10_led
theorem wb_X10_led_X10 : ∀ w ∈ wsX100, w ∈ wsX10_led := by decide +kernel
abbrev rnX10_led (b : uS) : Room := { frames := 0, cells := b.1, slots := b.2, locals := 0 }
def nb_X10_led_59 (b : uS) (a0 : Nat) (c1 : Int32) (c2 : Int32) (c3 : Int32) (kb18 : uS → gS → mS → Nat → Int32 → Int32 → Prop) (post : gS → mS → Int32 → Prop) (u : uS) (G : gS) (M : mS) (v4 : Nat) (v6 : Int32) (s0 : Int32) (s1 : Int32) : Prop := p_bd ((s0 + s1)) (fun x1 => p_bd (v6 + 1 : Int32) (fun x2 => kb18 u G M v4 x1 x2))
def nb_X10_led_18 (b : uS) (a0 : Nat) (c1 : Int32) (c2 : Int32) (c3 : Int32) (post : gS → mS → Int32 → Prop) (back : uS → gS → mS → Nat → Int32 → Int32 → Prop) (u : uS) (G : gS) (M : mS) (v4 : Nat) (v5 : Int32) (v6 : Int32) : Prop := p_if ((Int32.ofNat (gN G v4)) ≤ v6) (post G M v5) (p_ix v6 (gN G v4) (p_if ((mI M v4 (Int32.toNatClampNeg v6)) = c3) (nb_X10_led_59 b a0 c1 c2 c3 back post u G M v4 v6 v5 ((1 : Int32))) (p_ix v6 (gN G v4) (p_ck (¬ (4 : Int32) = 0) (p_if ((mI M v4 (Int32.toNatClampNeg v6)) = ((c3 + (2 : Int32)) - (c3 + (2 : Int32)) / (4 : Int32) * (4 : Int32))) (nb_X10_led_59 b a0 c1 c2 c3 back post u G M v4 v6 v5 ((-1 : Int32))) (nb_X10_led_59 b a0 c1 c2 c3 back post u G M v4 v6 v5 ((0 : Int32))))))))
def nl_X10_led_18 (b : uS) (a0 : Nat) (c1 : Int32) (c2 : Int32) (c3 : Int32) (post : gS → mS → Int32 → Prop) (u : uS) (G : gS) (M : mS) (v4 : Nat) (v5 : Int32) (v6 : Int32) : Prop := ∃ (I : Nat → uS → gS → mS → Nat → Int32 → Int32 → Prop) (n : Nat), I n u G M v4 v5 v6 ∧ ∀ (n : Nat) (u : uS) (G : gS) (M : mS) (v4 : Nat) (v5 : Int32) (v6 : Int32), I n u G M v4 v5 v6 → nb_X10_led_18 b a0 c1 c2 c3 post (fun u G M v4 v5 v6 => ∃ k, k < n ∧ I k u G M v4 v5 v6) u G M v4 v5 v6
def n_X10_led (b : uS) (G : gS) (M : mS) (a0 : Nat) (c1 : Int32) (c2 : Int32) (c3 : Int32) (post : gS → mS → Int32 → Prop) : Prop := p_rf (gP G a0 7) (fun q1 => p_ix c1 (gN G q1) (p_rf (gP G q1 (Int32.toNatClampNeg c1)) (fun q3 => p_bd (((Int32.ofNat (gN G q3)) - c2)) (fun x4 => nl_X10_led_18 b a0 c1 c2 c3 post (0, 0) G M q3 ((0 : Int32)) x4))))
set_option maxHeartbeats 4000000 in
set_option maxRecDepth 100000 in
theorem bn_X10_led_59 {p : Program} {l : Launch} {e : Env} {s : State} {m : MethodId} {args : Array Value} {below : List Frame} {meth : Method} {c : Code} {D : va_G} {cy : cyS} {b : uS} {G0 : gS} {sz : Nat} (hnm : meth.name = yX10_led.name)  {a0 : Nat} {c1 : Int32} {c2 : Int32} {c3 : Int32} {post : gS → mS → Int32 → Prop} {kb18 : uS → gS → mS → Nat → Int32 → Int32 → Prop} (hkb18 : ∀ (u : uS) (G : gS) (M : mS) (v4 : Nat) (v5 : Int32) (v6 : Int32) (H : Heap) (locs : List Loc) (ls : Array Slot), a0 ∈ gL G → gK G a0 = 9 → v4 ∈ gL G → gK G v4 = 12 → ext G0 G → uL u b → kb18 u G M v4 v5 v6 → cX p s m args meth c cX10_led RX10 7 (some .int) wsX10_led D cy G (pA G0 sz) → wd D cy G M (pA G0 sz) s.heap H locs → lv_has ls 7 [(3, .int c3), (4, .ref v4), (5, .int v5), (6, .int v6)] → W p l e (rnX10_led b) s m args below meth c H locs u.1 u.2 (MQ below (va_Qi (fun (r : Int32) (u : gS × mS) => post u.1 u.2 r) (fun u t => va_P D vwCl (pl cy u.1 u.2) t.heap ∧ va_D (pA G0 sz) (pl cy u.1 u.2) ∧ wt u.1 ∧ ext G0 u.1) (pA G0 sz)) args s b.1 b.2 (pA G0 sz)) (F0 m 18 ls [])) : ∀ (u : uS) (G : gS) (M : mS) (v4 : Nat) (v6 : Int32) (s0 : Int32) (s1 : Int32) (H : Heap) (locs : List Loc) (ls : Array Slot), a0 ∈ gL G → gK G a0 = 9 → v4 ∈ gL G → gK G v4 = 12 → ext G0 G → uL u b → nb_X10_led_59 b a0 c1 c2 c3 kb18 post u G M v4 v6 s0 s1 → cX p s m args meth c cX10_led RX10 7 (some .int) wsX10_led D cy G (pA G0 sz) → wd D cy G M (pA G0 sz) s.heap H locs → lv_has ls 7 [(3, .int c3), (4, .ref v4), (6, .int v6)] → W p l e (rnX10_led b) s m args below meth c H locs u.1 u.2 (MQ below (va_Qi (fun (r : Int32) (u : gS × mS) => post u.1 u.2 r) (fun u t => va_P D vwCl (pl cy u.1 u.2) t.heap ∧ va_D (pA G0 sz) (pl cy u.1 u.2) ∧ wt u.1 ∧ ext G0 u.1) (pA G0 sz)) args s b.1 b.2 (pA G0 sz)) (F0 m 59 ls [.int s1, .int s0]) := by
  intro u G M v4 v6 s0 s1 H locs ls hL0 hK0 v4L v4K hext hu h cx w hl
  unfold nb_X10_led_59 at h
  obtain ⟨hx, hb, hml, hown, hts, hr, hlocks, hK, hA, hG, hsx⟩ := id cx
  have hR : (rnX10_led b).cells = b.1 ∧ (rnX10_led b).slots = b.2 := ⟨rfl, rfl⟩
  refine lv_iadd hx hb dX10_led_59 ?_
  obtain ⟨x1, ex1, h⟩ := w_bd h
  refine r_topI ex1 ?_
  refine lv_istore (lv' := [(5, .int x1), (3, .int c3), (4, .ref v4), (6, .int v6)]) hx hb dX10_led_60 hl (by decide) rfl (fun ls hl => ?_)
  obtain ⟨x2, ex2, h⟩ := w_bd h
  refine lv_iinc (v := x2) (lv' := [(6, .int x2), (5, .int x1), (3, .int c3), (4, .ref v4)]) hx hb dX10_led_62 hl (k := 3) rfl (by rw [ex2]; rfl) (by decide) rfl (fun ls hl => ?_)
  refine lv_goto (tgt := 18) hx hb dX10_led_65 (by decide) ?_
  exact hkb18 u G M v4 x1 x2 H locs ls hL0 hK0 v4L v4K hext hu h cx w (lv_sub hl [2, 3, 1, 0] rfl)
set_option maxHeartbeats 4000000 in
set_option maxRecDepth 100000 in
theorem bn_X10_led_18 {p : Program} {l : Launch} {e : Env} {s : State} {m : MethodId} {args : Array Value} {below : List Frame} {meth : Method} {c : Code} {D : va_G} {cy : cyS} {b : uS} {G0 : gS} {sz : Nat} (hnm : meth.name = yX10_led.name)  {a0 : Nat} {c1 : Int32} {c2 : Int32} {c3 : Int32} {post : gS → mS → Int32 → Prop} : ∀ (u : uS) (G : gS) (M : mS) (v4 : Nat) (v5 : Int32) (v6 : Int32) (H : Heap) (locs : List Loc) (ls : Array Slot), a0 ∈ gL G → gK G a0 = 9 → v4 ∈ gL G → gK G v4 = 12 → ext G0 G → uL u b → nl_X10_led_18 b a0 c1 c2 c3 post u G M v4 v5 v6 → cX p s m args meth c cX10_led RX10 7 (some .int) wsX10_led D cy G (pA G0 sz) → wd D cy G M (pA G0 sz) s.heap H locs → lv_has ls 7 [(3, .int c3), (4, .ref v4), (5, .int v5), (6, .int v6)] → W p l e (rnX10_led b) s m args below meth c H locs u.1 u.2 (MQ below (va_Qi (fun (r : Int32) (u : gS × mS) => post u.1 u.2 r) (fun u t => va_P D vwCl (pl cy u.1 u.2) t.heap ∧ va_D (pA G0 sz) (pl cy u.1 u.2) ∧ wt u.1 ∧ ext G0 u.1) (pA G0 sz)) args s b.1 b.2 (pA G0 sz)) (F0 m 18 ls []) := by
  intro u G M v4 v5 v6 H locs ls hL0 hK0 v4L v4K hext hu h cx w hl
  obtain ⟨I, n, hI, hB⟩ := h
  have key : ∀ n : Nat, ∀ (u : uS) (G : gS) (M : mS) (v4 : Nat) (v5 : Int32) (v6 : Int32) (H : Heap) (locs : List Loc) (ls : Array Slot), a0 ∈ gL G → gK G a0 = 9 → v4 ∈ gL G → gK G v4 = 12 → ext G0 G → uL u b → I n u G M v4 v5 v6 → cX p s m args meth c cX10_led RX10 7 (some .int) wsX10_led D cy G (pA G0 sz) → wd D cy G M (pA G0 sz) s.heap H locs → lv_has ls 7 [(3, .int c3), (4, .ref v4), (5, .int v5), (6, .int v6)] → W p l e (rnX10_led b) s m args below meth c H locs u.1 u.2 (MQ below (va_Qi (fun (r : Int32) (u : gS × mS) => post u.1 u.2 r) (fun u t => va_P D vwCl (pl cy u.1 u.2) t.heap ∧ va_D (pA G0 sz) (pl cy u.1 u.2) ∧ wt u.1 ∧ ext G0 u.1) (pA G0 sz)) args s b.1 b.2 (pA G0 sz)) (F0 m 18 ls []) := by
    intro n
    induction n using Nat.strongRecOn with
    | ind n ih =>
      intro u G M v4 v5 v6 H locs ls hL0 hK0 v4L v4K hext hu hI cx w hl
      have h := hB n u G M v4 v5 v6 hI
      unfold nb_X10_led_18 at h
      obtain ⟨hx, hb, hml, hown, hts, hr, hlocks, hK, hA, hG, hsx⟩ := id cx
      have hR : (rnX10_led b).cells = b.1 ∧ (rnX10_led b).slots = b.2 := ⟨rfl, rfl⟩
      refine lv_iload hx hb dX10_led_18 (lv_at hl 3 rfl) ?_
      refine lv_aload hx hb dX10_led_20 (lv_at hl 1 rfl) ?_
      refine r_alen cx w v4L v4K (by decide) dX10_led_22 ?_
      refine lv_icmp_ge (tgt := 68) hx hb dX10_led_23 (by decide) (fun k1 => ?_) (fun k1 => ?_)
      · have h := w_t h k1
        refine lv_iload hx hb dX10_led_68 (lv_at hl 2 rfl) ?_
        exact rb_iret h cx w hext hu dX10_led_70
      · have h := w_f h k1
        refine lv_iload hx hb dX10_led_26 (lv_at hl 2 rfl) ?_
        refine lv_aload hx hb dX10_led_28 (lv_at hl 1 rfl) ?_
        refine lv_iload hx hb dX10_led_30 (lv_at hl 3 rfl) ?_
        obtain ⟨z2, h⟩ := w_ix h
        refine r_iald cx w v4L v4K z2 dX10_led_32 ?_
        refine lv_iload_n hx hb dX10_led_33 rfl (lv_at hl 0 rfl) ?_
        refine lv_icmp_ne (tgt := 41) hx hb dX10_led_34 (by decide) (fun k3 => ?_) (fun k3 => ?_)
        · have h := w_f h k3
          refine lv_aload hx hb dX10_led_41 (lv_at hl 1 rfl) ?_
          refine lv_iload hx hb dX10_led_43 (lv_at hl 3 rfl) ?_
          obtain ⟨z4, h⟩ := w_ix h
          refine r_iald cx w v4L v4K z4 dX10_led_45 ?_
          refine lv_iload_n hx hb dX10_led_46 rfl (lv_at hl 0 rfl) ?_
          refine lv_iconst (v := (2 : Int32)) hx hb dX10_led_47 (by decide) ?_
          refine lv_iadd hx hb dX10_led_48 ?_
          refine lv_iconst (v := (4 : Int32)) hx hb dX10_led_49 (by decide) ?_
          obtain ⟨z5, h⟩ := w_ck h
          refine lv_irem hx hb dX10_led_50 z5 ?_
          refine lv_icmp_ne (tgt := 58) hx hb dX10_led_51 (by decide) (fun k6 => ?_) (fun k6 => ?_)
          · have h := w_f h k6
            refine lv_iconst (v := (0 : Int32)) hx hb dX10_led_58 (by decide) ?_
            exact bn_X10_led_59 hnm (hkb18 := fun u G M v4 v5 v6 H locs ls hL0 hK0 v4L v4K hext hu h cx w hl => by obtain ⟨k, hk, hI⟩ := h; exact ih k hk u G M v4 v5 v6 H locs ls hL0 hK0 v4L v4K hext hu hI cx w hl) u G M v4 v6 v5 ((0 : Int32)) H locs ls hL0 hK0 v4L v4K hext hu h cx w (lv_sub hl [0, 1, 3] rfl)
          · have h := w_t h k6
            refine lv_iconst (v := (-1 : Int32)) hx hb dX10_led_54 (by decide) ?_
            refine lv_goto (tgt := 59) hx hb dX10_led_55 (by decide) ?_
            exact bn_X10_led_59 hnm (hkb18 := fun u G M v4 v5 v6 H locs ls hL0 hK0 v4L v4K hext hu h cx w hl => by obtain ⟨k, hk, hI⟩ := h; exact ih k hk u G M v4 v5 v6 H locs ls hL0 hK0 v4L v4K hext hu hI cx w hl) u G M v4 v6 v5 ((-1 : Int32)) H locs ls hL0 hK0 v4L v4K hext hu h cx w (lv_sub hl [0, 1, 3] rfl)
        · have h := w_t h k3
          refine lv_iconst (v := (1 : Int32)) hx hb dX10_led_37 (by decide) ?_
          refine lv_goto (tgt := 59) hx hb dX10_led_38 (by decide) ?_
          exact bn_X10_led_59 hnm (hkb18 := fun u G M v4 v5 v6 H locs ls hL0 hK0 v4L v4K hext hu h cx w hl => by obtain ⟨k, hk, hI⟩ := h; exact ih k hk u G M v4 v5 v6 H locs ls hL0 hK0 v4L v4K hext hu hI cx w hl) u G M v4 v6 v5 ((1 : Int32)) H locs ls hL0 hK0 v4L v4K hext hu h cx w (lv_sub hl [0, 1, 3] rfl)
  exact key n u G M v4 v5 v6 H locs ls hL0 hK0 v4L v4K hext hu hI cx w hl
set_option maxHeartbeats 4000000 in
set_option maxRecDepth 100000 in
theorem kn_X10_led {l : Launch} {D : va_G} {cy : cyS} {G : gS} {M : mS} {b : uS} {a0 : Nat} {c1 : Int32} {c2 : Int32} {c3 : Int32} {post : gS → mS → Int32 → Prop} (hG : wt G) (hL0 : a0 ∈ gL G) (hK0 : gK G a0 = 9) (h : n_X10_led b G M a0 c1 c2 c3 post) : cbI l yX10_led wsX10_led (rnX10_led b) D cy G M [.ref a0, .int c1, .int c2, .int c3] b post := by
  unfold n_X10_led at h
  refine cbI_of (cc := cX10_led) (nL := 7) (ret := (some .int)) (lv := [(0, .ref a0), (1, .int c1), (2, .int c2), (3, .int c3)]) hG (by decide) rfl (Nat.le_of_ble_eq_true rfl) rfl ?_
  intro p e s m args below meth c sz ls hnm cx w hl
  obtain ⟨hx, hb, hml, hown, hts, hr, hlocks, hK, hA, -, hsx⟩ := id cx
  have hext := ext_rf (G := G)
  have hu : uL (0, 0) b := ⟨Nat.zero_le _, Nat.zero_le _⟩
  have hR : (rnX10_led b).cells = b.1 ∧ (rnX10_led b).slots = b.2 := ⟨rfl, rfl⟩
  refine lv_aload_n hx hb dX10_led_0 rfl (lv_at hl 0 rfl) ?_
  obtain ⟨q1, eq1, h⟩ := w_rf h
  obtain ⟨hLq1, hKq1⟩ := wt_q hG hL0 hK0 eq1
  have hKq1 : gK G q1 = 15 := hKq1
  refine r_getR (k := 7) cx w hL0 hK0 (by decide) rfl wb_X10_led_X10 (by decide) rfl eq1 (List.mem_of_getElem? (i := 1) rfl) dX10_led_1 ?_
  refine lv_iload_n hx hb dX10_led_4 rfl (lv_at hl 1 rfl) ?_
  obtain ⟨z2, h⟩ := w_ix h
  obtain ⟨q3, eq3, h⟩ := w_rf h
  obtain ⟨hLq3, hKq3⟩ := wt_q hG hLq1 hKq1 eq3
  have hKq3 : gK G q3 = 12 := hKq3
  refine r_aaldA cx w hLq1 hKq1 z2 eq3 dX10_led_5 ?_
  refine lv_astore (lv' := [(4, .ref q3), (0, .ref a0), (1, .int c1), (2, .int c2), (3, .int c3)]) hx hb dX10_led_6 hl (by decide) rfl (fun ls hl => ?_)
  refine lv_iconst (v := (0 : Int32)) hx hb dX10_led_8 (by decide) ?_
  refine lv_istore (lv' := [(5, .int ((0 : Int32))), (4, .ref q3), (0, .ref a0), (1, .int c1), (2, .int c2), (3, .int c3)]) hx hb dX10_led_9 hl (by decide) rfl (fun ls hl => ?_)
  refine lv_aload hx hb dX10_led_11 (lv_at hl 1 rfl) ?_
  refine r_alen cx w hLq3 hKq3 (by decide) dX10_led_13 ?_
  refine lv_iload_n hx hb dX10_led_14 rfl (lv_at hl 4 rfl) ?_
  refine lv_isub hx hb dX10_led_15 ?_
  obtain ⟨x4, ex4, h⟩ := w_bd h
  refine r_topI ex4 ?_
  refine lv_istore (lv' := [(6, .int x4), (5, .int ((0 : Int32))), (4, .ref q3), (0, .ref a0), (1, .int c1), (2, .int c2), (3, .int c3)]) hx hb dX10_led_16 hl (by decide) rfl (fun ls hl => ?_)
  exact bn_X10_led_18 hnm (0, 0) G M q3 ((0 : Int32)) x4 s.heap [] ls hL0 hK0 hLq3 hKq3 hext hu h cx w (lv_sub hl [6, 2, 1, 0] rfl)
-- X10_period
theorem wb_X10_period_X10 : ∀ w ∈ wsX100, w ∈ wsX10_period := by decide +kernel
abbrev rnX10_period (b : uS) : Room := { frames := 1, cells := b.1, slots := b.2, locals := 26 }
def nb_X10_period_105 (b : uS) (a0 : Nat) (c1 : Int32) (post : gS → mS → Int32 → Prop) (u : uS) (G : gS) (M : mS) : Prop := post G M (0 : Int32)
def nb_X10_period_99 (b : uS) (a0 : Nat) (c1 : Int32) (kb9 : uS → gS → mS → Nat → Int32 → Prop) (post : gS → mS → Int32 → Prop) (u : uS) (G : gS) (M : mS) (v2 : Nat) (v3 : Int32) : Prop := p_bd (v3 + 1 : Int32) (fun x1 => kb9 u G M v2 x1)
def nb_X10_period_97 (b : uS) (a0 : Nat) (c1 : Int32) (post : gS → mS → Int32 → Prop) (u : uS) (G : gS) (M : mS) (v3 : Int32) : Prop := post G M v3
def nb_X10_period_72 (b : uS) (a0 : Nat) (c1 : Int32) (kb9 : uS → gS → mS → Nat → Int32 → Prop) (post : gS → mS → Int32 → Prop) (u : uS) (G : gS) (M : mS) (v2 : Nat) (v3 : Int32) (v4 : Int32) : Prop := p_if (v4 = 0) (nb_X10_period_99 b a0 c1 kb9 post u G M v2 v3) (q_ca b u (fun v => n_X10_led v G M a0 c1 v3 (1 : Int32)) (fun u4 G2 M3 r5 => p_if (r5 = 0) (q_ca b u4 (fun v => n_X10_led v G2 M3 a0 c1 v3 (2 : Int32)) (fun u9 G7 M8 r10 => p_if (r10 = 0) (nb_X10_period_99 b a0 c1 kb9 post u9 G7 M8 v2 v3) (nb_X10_period_97 b a0 c1 post u9 G7 M8 v3))) (nb_X10_period_97 b a0 c1 post u4 G2 M3 v3)))
def nb_X10_period_64 (b : uS) (a0 : Nat) (c1 : Int32) (kb9 : uS → gS → mS → Nat → Int32 → Prop) (kb34 : uS → gS → mS → Nat → Int32 → Int32 → Int32 → Prop) (post : gS → mS → Int32 → Prop) (u : uS) (G : gS) (M : mS) (v2 : Nat) (v3 : Int32) (v5 : Int32) (s0 : Int32) : Prop := p_bd (v5 + 1 : Int32) (fun x1 => kb34 u G M v2 v3 s0 x1)
def nb_X10_period_34 (b : uS) (a0 : Nat) (c1 : Int32) (kb9 : uS → gS → mS → Nat → Int32 → Prop) (post : gS → mS → Int32 → Prop) (back : uS → gS → mS → Nat → Int32 → Int32 → Int32 → Prop) (u : uS) (G : gS) (M : mS) (v2 : Nat) (v3 : Int32) (v4 : Int32) (v5 : Int32) : Prop := p_if ((Int32.ofNat (gN G v2)) ≤ v5) (nb_X10_period_72 b a0 c1 kb9 post u G M v2 v3 v4) (p_if (v4 = 0) (nb_X10_period_72 b a0 c1 kb9 post u G M v2 v3 v4) (p_ix v5 (gN G v2) (p_ix (v5 - v3) (gN G v2) (p_if ((mI M v2 (Int32.toNatClampNeg v5)) = (mI M v2 (Int32.toNatClampNeg (v5 - v3)))) (nb_X10_period_64 b a0 c1 kb9 back post u G M v2 v3 v5 ((1 : Int32))) (nb_X10_period_64 b a0 c1 kb9 back post u G M v2 v3 v5 ((0 : Int32)))))))
def nl_X10_period_34 (b : uS) (a0 : Nat) (c1 : Int32) (kb9 : uS → gS → mS → Nat → Int32 → Prop) (post : gS → mS → Int32 → Prop) (u : uS) (G : gS) (M : mS) (v2 : Nat) (v3 : Int32) (v4 : Int32) (v5 : Int32) : Prop := ∃ (I : Nat → uS → gS → mS → Nat → Int32 → Int32 → Int32 → Prop) (n : Nat), I n u G M v2 v3 v4 v5 ∧ ∀ (n : Nat) (u : uS) (G : gS) (M : mS) (v2 : Nat) (v3 : Int32) (v4 : Int32) (v5 : Int32), I n u G M v2 v3 v4 v5 → nb_X10_period_34 b a0 c1 kb9 post (fun u G M v2 v3 v4 v5 => ∃ k, k < n ∧ I k u G M v2 v3 v4 v5) u G M v2 v3 v4 v5
def nb_X10_period_9 (b : uS) (a0 : Nat) (c1 : Int32) (post : gS → mS → Int32 → Prop) (back : uS → gS → mS → Nat → Int32 → Prop) (u : uS) (G : gS) (M : mS) (v2 : Nat) (v3 : Int32) : Prop := p_if ((120 : Int32) < v3) (nb_X10_period_105 b a0 c1 post u G M) (p_if ((Int32.ofNat (gN G v2)) < ((3 : Int32) * v3)) (nb_X10_period_105 b a0 c1 post u G M) (p_bd (((Int32.ofNat (gN G v2)) - ((2 : Int32) * v3))) (fun x3 => nl_X10_period_34 b a0 c1 back post u G M v2 v3 ((1 : Int32)) x3)))
def nl_X10_period_9 (b : uS) (a0 : Nat) (c1 : Int32) (post : gS → mS → Int32 → Prop) (u : uS) (G : gS) (M : mS) (v2 : Nat) (v3 : Int32) : Prop := ∃ (I : Nat → uS → gS → mS → Nat → Int32 → Prop) (n : Nat), I n u G M v2 v3 ∧ ∀ (n : Nat) (u : uS) (G : gS) (M : mS) (v2 : Nat) (v3 : Int32), I n u G M v2 v3 → nb_X10_period_9 b a0 c1 post (fun u G M v2 v3 => ∃ k, k < n ∧ I k u G M v2 v3) u G M v2 v3
def n_X10_period (b : uS) (G : gS) (M : mS) (a0 : Nat) (c1 : Int32) (post : gS → mS → Int32 → Prop) : Prop := p_rf (gP G a0 7) (fun q1 => p_ix c1 (gN G q1) (p_rf (gP G q1 (Int32.toNatClampNeg c1)) (fun q3 => nl_X10_period_9 b a0 c1 post (0, 0) G M q3 ((1 : Int32)))))
set_option maxHeartbeats 4000000 in
set_option maxRecDepth 100000 in
theorem bn_X10_period_105 {p : Program} {l : Launch} {e : Env} {s : State} {m : MethodId} {args : Array Value} {below : List Frame} {meth : Method} {c : Code} {D : va_G} {cy : cyS} {b : uS} {G0 : gS} {sz : Nat} (hnm : meth.name = yX10_period.name)  {a0 : Nat} {c1 : Int32} {post : gS → mS → Int32 → Prop} : ∀ (u : uS) (G : gS) (M : mS) (H : Heap) (locs : List Loc) (ls : Array Slot), a0 ∈ gL G → gK G a0 = 9 → ext G0 G → uL u b → nb_X10_period_105 b a0 c1 post u G M → cX p s m args meth c cX10_period RX10 6 (some .int) wsX10_period D cy G (pA G0 sz) → wd D cy G M (pA G0 sz) s.heap H locs → lv_has ls 6 [] → W p l e (rnX10_period b) s m args below meth c H locs u.1 u.2 (MQ below (va_Qi (fun (r : Int32) (u : gS × mS) => post u.1 u.2 r) (fun u t => va_P D vwCl (pl cy u.1 u.2) t.heap ∧ va_D (pA G0 sz) (pl cy u.1 u.2) ∧ wt u.1 ∧ ext G0 u.1) (pA G0 sz)) args s b.1 b.2 (pA G0 sz)) (F0 m 105 ls []) := by
  intro u G M H locs ls hL0 hK0 hext hu h cx w hl
  unfold nb_X10_period_105 at h
  obtain ⟨hx, hb, hml, hown, hts, hr, hlocks, hK, hA, hG, hsx⟩ := id cx
  have hR : (rnX10_period b).cells = b.1 ∧ (rnX10_period b).slots = b.2 := ⟨rfl, rfl⟩
  refine lv_iconst (v := (0 : Int32)) hx hb dX10_period_105 (by decide) ?_
  exact rb_iret h cx w hext hu dX10_period_106
set_option maxHeartbeats 4000000 in
set_option maxRecDepth 100000 in
theorem bn_X10_period_99 {p : Program} {l : Launch} {e : Env} {s : State} {m : MethodId} {args : Array Value} {below : List Frame} {meth : Method} {c : Code} {D : va_G} {cy : cyS} {b : uS} {G0 : gS} {sz : Nat} (hnm : meth.name = yX10_period.name)  {a0 : Nat} {c1 : Int32} {post : gS → mS → Int32 → Prop} {kb9 : uS → gS → mS → Nat → Int32 → Prop} (hkb9 : ∀ (u : uS) (G : gS) (M : mS) (v2 : Nat) (v3 : Int32) (H : Heap) (locs : List Loc) (ls : Array Slot), a0 ∈ gL G → gK G a0 = 9 → v2 ∈ gL G → gK G v2 = 12 → ext G0 G → uL u b → kb9 u G M v2 v3 → cX p s m args meth c cX10_period RX10 6 (some .int) wsX10_period D cy G (pA G0 sz) → wd D cy G M (pA G0 sz) s.heap H locs → lv_has ls 6 [(0, .ref a0), (1, .int c1), (2, .ref v2), (3, .int v3)] → W p l e (rnX10_period b) s m args below meth c H locs u.1 u.2 (MQ below (va_Qi (fun (r : Int32) (u : gS × mS) => post u.1 u.2 r) (fun u t => va_P D vwCl (pl cy u.1 u.2) t.heap ∧ va_D (pA G0 sz) (pl cy u.1 u.2) ∧ wt u.1 ∧ ext G0 u.1) (pA G0 sz)) args s b.1 b.2 (pA G0 sz)) (F0 m 9 ls [])) : ∀ (u : uS) (G : gS) (M : mS) (v2 : Nat) (v3 : Int32) (H : Heap) (locs : List Loc) (ls : Array Slot), a0 ∈ gL G → gK G a0 = 9 → v2 ∈ gL G → gK G v2 = 12 → ext G0 G → uL u b → nb_X10_period_99 b a0 c1 kb9 post u G M v2 v3 → cX p s m args meth c cX10_period RX10 6 (some .int) wsX10_period D cy G (pA G0 sz) → wd D cy G M (pA G0 sz) s.heap H locs → lv_has ls 6 [(0, .ref a0), (1, .int c1), (2, .ref v2), (3, .int v3)] → W p l e (rnX10_period b) s m args below meth c H locs u.1 u.2 (MQ below (va_Qi (fun (r : Int32) (u : gS × mS) => post u.1 u.2 r) (fun u t => va_P D vwCl (pl cy u.1 u.2) t.heap ∧ va_D (pA G0 sz) (pl cy u.1 u.2) ∧ wt u.1 ∧ ext G0 u.1) (pA G0 sz)) args s b.1 b.2 (pA G0 sz)) (F0 m 99 ls []) := by
  intro u G M v2 v3 H locs ls hL0 hK0 v2L v2K hext hu h cx w hl
  unfold nb_X10_period_99 at h
  obtain ⟨hx, hb, hml, hown, hts, hr, hlocks, hK, hA, hG, hsx⟩ := id cx
  have hR : (rnX10_period b).cells = b.1 ∧ (rnX10_period b).slots = b.2 := ⟨rfl, rfl⟩
  obtain ⟨x1, ex1, h⟩ := w_bd h
  refine lv_iinc (v := x1) (lv' := [(3, .int x1), (0, .ref a0), (1, .int c1), (2, .ref v2)]) hx hb dX10_period_99 hl (k := 3) rfl (by rw [ex1]; rfl) (by decide) rfl (fun ls hl => ?_)
  refine lv_goto (tgt := 9) hx hb dX10_period_102 (by decide) ?_
  exact hkb9 u G M v2 x1 H locs ls hL0 hK0 v2L v2K hext hu h cx w (lv_sub hl [1, 2, 3, 0] rfl)
set_option maxHeartbeats 4000000 in
set_option maxRecDepth 100000 in
theorem bn_X10_period_97 {p : Program} {l : Launch} {e : Env} {s : State} {m : MethodId} {args : Array Value} {below : List Frame} {meth : Method} {c : Code} {D : va_G} {cy : cyS} {b : uS} {G0 : gS} {sz : Nat} (hnm : meth.name = yX10_period.name)  {a0 : Nat} {c1 : Int32} {post : gS → mS → Int32 → Prop} : ∀ (u : uS) (G : gS) (M : mS) (v3 : Int32) (H : Heap) (locs : List Loc) (ls : Array Slot), a0 ∈ gL G → gK G a0 = 9 → ext G0 G → uL u b → nb_X10_period_97 b a0 c1 post u G M v3 → cX p s m args meth c cX10_period RX10 6 (some .int) wsX10_period D cy G (pA G0 sz) → wd D cy G M (pA G0 sz) s.heap H locs → lv_has ls 6 [(3, .int v3)] → W p l e (rnX10_period b) s m args below meth c H locs u.1 u.2 (MQ below (va_Qi (fun (r : Int32) (u : gS × mS) => post u.1 u.2 r) (fun u t => va_P D vwCl (pl cy u.1 u.2) t.heap ∧ va_D (pA G0 sz) (pl cy u.1 u.2) ∧ wt u.1 ∧ ext G0 u.1) (pA G0 sz)) args s b.1 b.2 (pA G0 sz)) (F0 m 97 ls []) := by
  intro u G M v3 H locs ls hL0 hK0 hext hu h cx w hl
  unfold nb_X10_period_97 at h
  obtain ⟨hx, hb, hml, hown, hts, hr, hlocks, hK, hA, hG, hsx⟩ := id cx
  have hR : (rnX10_period b).cells = b.1 ∧ (rnX10_period b).slots = b.2 := ⟨rfl, rfl⟩
  refine lv_iload_n hx hb dX10_period_97 rfl (lv_at hl 0 rfl) ?_
  exact rb_iret h cx w hext hu dX10_period_98
set_option maxHeartbeats 4000000 in
set_option maxRecDepth 100000 in
theorem bn_X10_period_72 {p : Program} {l : Launch} {e : Env} {s : State} {m : MethodId} {args : Array Value} {below : List Frame} {meth : Method} {c : Code} {D : va_G} {cy : cyS} {b : uS} {G0 : gS} {sz : Nat} (hnm : meth.name = yX10_period.name)  {a0 : Nat} {c1 : Int32} {post : gS → mS → Int32 → Prop} {kb9 : uS → gS → mS → Nat → Int32 → Prop} (hkb9 : ∀ (u : uS) (G : gS) (M : mS) (v2 : Nat) (v3 : Int32) (H : Heap) (locs : List Loc) (ls : Array Slot), a0 ∈ gL G → gK G a0 = 9 → v2 ∈ gL G → gK G v2 = 12 → ext G0 G → uL u b → kb9 u G M v2 v3 → cX p s m args meth c cX10_period RX10 6 (some .int) wsX10_period D cy G (pA G0 sz) → wd D cy G M (pA G0 sz) s.heap H locs → lv_has ls 6 [(0, .ref a0), (1, .int c1), (2, .ref v2), (3, .int v3)] → W p l e (rnX10_period b) s m args below meth c H locs u.1 u.2 (MQ below (va_Qi (fun (r : Int32) (u : gS × mS) => post u.1 u.2 r) (fun u t => va_P D vwCl (pl cy u.1 u.2) t.heap ∧ va_D (pA G0 sz) (pl cy u.1 u.2) ∧ wt u.1 ∧ ext G0 u.1) (pA G0 sz)) args s b.1 b.2 (pA G0 sz)) (F0 m 9 ls [])) : ∀ (u : uS) (G : gS) (M : mS) (v2 : Nat) (v3 : Int32) (v4 : Int32) (H : Heap) (locs : List Loc) (ls : Array Slot), a0 ∈ gL G → gK G a0 = 9 → v2 ∈ gL G → gK G v2 = 12 → ext G0 G → uL u b → nb_X10_period_72 b a0 c1 kb9 post u G M v2 v3 v4 → cX p s m args meth c cX10_period RX10 6 (some .int) wsX10_period D cy G (pA G0 sz) → wd D cy G M (pA G0 sz) s.heap H locs → lv_has ls 6 [(0, .ref a0), (1, .int c1), (2, .ref v2), (3, .int v3), (4, .int v4)] → W p l e (rnX10_period b) s m args below meth c H locs u.1 u.2 (MQ below (va_Qi (fun (r : Int32) (u : gS × mS) => post u.1 u.2 r) (fun u t => va_P D vwCl (pl cy u.1 u.2) t.heap ∧ va_D (pA G0 sz) (pl cy u.1 u.2) ∧ wt u.1 ∧ ext G0 u.1) (pA G0 sz)) args s b.1 b.2 (pA G0 sz)) (F0 m 72 ls []) := by
  intro u G M v2 v3 v4 H locs ls hL0 hK0 v2L v2K hext hu h cx w hl
  unfold nb_X10_period_72 at h
  obtain ⟨hx, hb, hml, hown, hts, hr, hlocks, hK, hA, hG, hsx⟩ := id cx
  have hR : (rnX10_period b).cells = b.1 ∧ (rnX10_period b).slots = b.2 := ⟨rfl, rfl⟩
  refine lv_iload hx hb dX10_period_72 (lv_at hl 4 rfl) ?_
  refine lv_if_eq (tgt := 99) hx hb dX10_period_74 (by decide) (fun k1 => ?_) (fun k1 => ?_)
  · have h := w_t h k1
    exact bn_X10_period_99 hnm (hkb9 := hkb9) u G M v2 v3 H locs ls hL0 hK0 v2L v2K hext hu h cx w (lv_sub hl [0, 1, 2, 3] rfl)
  · have h := w_f h k1
    refine lv_aload_n hx hb dX10_period_77 rfl (lv_at hl 0 rfl) ?_
    refine lv_iload_n hx hb dX10_period_78 rfl (lv_at hl 1 rfl) ?_
    refine lv_iload_n hx hb dX10_period_79 rfl (lv_at hl 3 rfl) ?_
    refine lv_iconst (v := (1 : Int32)) hx hb dX10_period_80 (by decide) ?_
    refine rb_VI (b := b) (u := u) (rf := 0) (rl := 0) (As := [.int c1, .int v3, .int ((1 : Int32))]) (rest := []) cx w hR hl.1 h (fun h => kn_X10_led hG hL0 hK0 h) (fun v => cwV 3 hts gX10_period_X10_led rfl rfl rfl (by decide +kernel) ⟨(Nat.le_of_ble_eq_true rfl), (Nat.le_of_ble_eq_true rfl)⟩) hL0 hK0 (by decide) rfl rfl rfl (Nat.le_of_ble_eq_true rfl) dX10_period_81 (fun u4 G2 M3 r5 H locs h hu xe cx w => ?_)
    obtain ⟨hL0, hK0⟩ := ext_wt xe hL0 hK0
    obtain ⟨v2L, v2K⟩ := ext_wt xe v2L v2K
    have hext := ext_tr hext xe
    clear xe
    have hG := cX_wt cx
    refine lv_if_ne (tgt := 97) hx hb dX10_period_84 (by decide) (fun k6 => ?_) (fun k6 => ?_)
    · have h := w_f h k6
      exact bn_X10_period_97 hnm u4 G2 M3 v3 H locs ls hL0 hK0 hext hu h cx w (lv_sub hl [3] rfl)
    · have h := w_t h k6
      refine lv_aload_n hx hb dX10_period_87 rfl (lv_at hl 0 rfl) ?_
      refine lv_iload_n hx hb dX10_period_88 rfl (lv_at hl 1 rfl) ?_
      refine lv_iload_n hx hb dX10_period_89 rfl (lv_at hl 3 rfl) ?_
      refine lv_iconst (v := (2 : Int32)) hx hb dX10_period_90 (by decide) ?_
      refine rb_VI (b := b) (u := u4) (rf := 0) (rl := 0) (As := [.int c1, .int v3, .int ((2 : Int32))]) (rest := []) cx w hR hl.1 h (fun h => kn_X10_led hG hL0 hK0 h) (fun v => cwV 3 hts gX10_period_X10_led rfl rfl rfl (by decide +kernel) ⟨(Nat.le_of_ble_eq_true rfl), (Nat.le_of_ble_eq_true rfl)⟩) hL0 hK0 (by decide) rfl rfl rfl (Nat.le_of_ble_eq_true rfl) dX10_period_91 (fun u9 G7 M8 r10 H locs h hu xe cx w => ?_)
      obtain ⟨hL0, hK0⟩ := ext_wt xe hL0 hK0
      obtain ⟨v2L, v2K⟩ := ext_wt xe v2L v2K
      have hext := ext_tr hext xe
      clear xe
      have hG := cX_wt cx
      refine lv_if_eq (tgt := 99) hx hb dX10_period_94 (by decide) (fun k11 => ?_) (fun k11 => ?_)
      · have h := w_t h k11
        exact bn_X10_period_99 hnm (hkb9 := hkb9) u9 G7 M8 v2 v3 H locs ls hL0 hK0 v2L v2K hext hu h cx w (lv_sub hl [0, 1, 2, 3] rfl)
      · have h := w_f h k11
        exact bn_X10_period_97 hnm u9 G7 M8 v3 H locs ls hL0 hK0 hext hu h cx w (lv_sub hl [3] rfl)
set_option maxHeartbeats 4000000 in
set_option maxRecDepth 100000 in
theorem bn_X10_period_64 {p : Program} {l : Launch} {e : Env} {s : State} {m : MethodId} {args : Array Value} {below : List Frame} {meth : Method} {c : Code} {D : va_G} {cy : cyS} {b : uS} {G0 : gS} {sz : Nat} (hnm : meth.name = yX10_period.name)  {a0 : Nat} {c1 : Int32} {post : gS → mS → Int32 → Prop} {kb9 : uS → gS → mS → Nat → Int32 → Prop} (hkb9 : ∀ (u : uS) (G : gS) (M : mS) (v2 : Nat) (v3 : Int32) (H : Heap) (locs : List Loc) (ls : Array Slot), a0 ∈ gL G → gK G a0 = 9 → v2 ∈ gL G → gK G v2 = 12 → ext G0 G → uL u b → kb9 u G M v2 v3 → cX p s m args meth c cX10_period RX10 6 (some .int) wsX10_period D cy G (pA G0 sz) → wd D cy G M (pA G0 sz) s.heap H locs → lv_has ls 6 [(0, .ref a0), (1, .int c1), (2, .ref v2), (3, .int v3)] → W p l e (rnX10_period b) s m args below meth c H locs u.1 u.2 (MQ below (va_Qi (fun (r : Int32) (u : gS × mS) => post u.1 u.2 r) (fun u t => va_P D vwCl (pl cy u.1 u.2) t.heap ∧ va_D (pA G0 sz) (pl cy u.1 u.2) ∧ wt u.1 ∧ ext G0 u.1) (pA G0 sz)) args s b.1 b.2 (pA G0 sz)) (F0 m 9 ls [])) {kb34 : uS → gS → mS → Nat → Int32 → Int32 → Int32 → Prop} (hkb34 : ∀ (u : uS) (G : gS) (M : mS) (v2 : Nat) (v3 : Int32) (v4 : Int32) (v5 : Int32) (H : Heap) (locs : List Loc) (ls : Array Slot), a0 ∈ gL G → gK G a0 = 9 → v2 ∈ gL G → gK G v2 = 12 → ext G0 G → uL u b → kb34 u G M v2 v3 v4 v5 → cX p s m args meth c cX10_period RX10 6 (some .int) wsX10_period D cy G (pA G0 sz) → wd D cy G M (pA G0 sz) s.heap H locs → lv_has ls 6 [(0, .ref a0), (1, .int c1), (2, .ref v2), (3, .int v3), (4, .int v4), (5, .int v5)] → W p l e (rnX10_period b) s m args below meth c H locs u.1 u.2 (MQ below (va_Qi (fun (r : Int32) (u : gS × mS) => post u.1 u.2 r) (fun u t => va_P D vwCl (pl cy u.1 u.2) t.heap ∧ va_D (pA G0 sz) (pl cy u.1 u.2) ∧ wt u.1 ∧ ext G0 u.1) (pA G0 sz)) args s b.1 b.2 (pA G0 sz)) (F0 m 34 ls [])) : ∀ (u : uS) (G : gS) (M : mS) (v2 : Nat) (v3 : Int32) (v5 : Int32) (s0 : Int32) (H : Heap) (locs : List Loc) (ls : Array Slot), a0 ∈ gL G → gK G a0 = 9 → v2 ∈ gL G → gK G v2 = 12 → ext G0 G → uL u b → nb_X10_period_64 b a0 c1 kb9 kb34 post u G M v2 v3 v5 s0 → cX p s m args meth c cX10_period RX10 6 (some .int) wsX10_period D cy G (pA G0 sz) → wd D cy G M (pA G0 sz) s.heap H locs → lv_has ls 6 [(0, .ref a0), (1, .int c1), (2, .ref v2), (3, .int v3), (5, .int v5)] → W p l e (rnX10_period b) s m args below meth c H locs u.1 u.2 (MQ below (va_Qi (fun (r : Int32) (u : gS × mS) => post u.1 u.2 r) (fun u t => va_P D vwCl (pl cy u.1 u.2) t.heap ∧ va_D (pA G0 sz) (pl cy u.1 u.2) ∧ wt u.1 ∧ ext G0 u.1) (pA G0 sz)) args s b.1 b.2 (pA G0 sz)) (F0 m 64 ls [.int s0]) := by
  intro u G M v2 v3 v5 s0 H locs ls hL0 hK0 v2L v2K hext hu h cx w hl
  unfold nb_X10_period_64 at h
  obtain ⟨hx, hb, hml, hown, hts, hr, hlocks, hK, hA, hG, hsx⟩ := id cx
  have hR : (rnX10_period b).cells = b.1 ∧ (rnX10_period b).slots = b.2 := ⟨rfl, rfl⟩
  refine lv_istore (lv' := [(4, .int s0), (0, .ref a0), (1, .int c1), (2, .ref v2), (3, .int v3), (5, .int v5)]) hx hb dX10_period_64 hl (by decide) rfl (fun ls hl => ?_)
  obtain ⟨x1, ex1, h⟩ := w_bd h
  refine lv_iinc (v := x1) (lv' := [(5, .int x1), (4, .int s0), (0, .ref a0), (1, .int c1), (2, .ref v2), (3, .int v3)]) hx hb dX10_period_66 hl (k := 5) rfl (by rw [ex1]; rfl) (by decide) rfl (fun ls hl => ?_)
  refine lv_goto (tgt := 34) hx hb dX10_period_69 (by decide) ?_
  exact hkb34 u G M v2 v3 s0 x1 H locs ls hL0 hK0 v2L v2K hext hu h cx w (lv_sub hl [2, 3, 4, 5, 1, 0] rfl)
set_option maxHeartbeats 4000000 in
set_option maxRecDepth 100000 in
theorem bn_X10_period_34 {p : Program} {l : Launch} {e : Env} {s : State} {m : MethodId} {args : Array Value} {below : List Frame} {meth : Method} {c : Code} {D : va_G} {cy : cyS} {b : uS} {G0 : gS} {sz : Nat} (hnm : meth.name = yX10_period.name)  {a0 : Nat} {c1 : Int32} {post : gS → mS → Int32 → Prop} {kb9 : uS → gS → mS → Nat → Int32 → Prop} (hkb9 : ∀ (u : uS) (G : gS) (M : mS) (v2 : Nat) (v3 : Int32) (H : Heap) (locs : List Loc) (ls : Array Slot), a0 ∈ gL G → gK G a0 = 9 → v2 ∈ gL G → gK G v2 = 12 → ext G0 G → uL u b → kb9 u G M v2 v3 → cX p s m args meth c cX10_period RX10 6 (some .int) wsX10_period D cy G (pA G0 sz) → wd D cy G M (pA G0 sz) s.heap H locs → lv_has ls 6 [(0, .ref a0), (1, .int c1), (2, .ref v2), (3, .int v3)] → W p l e (rnX10_period b) s m args below meth c H locs u.1 u.2 (MQ below (va_Qi (fun (r : Int32) (u : gS × mS) => post u.1 u.2 r) (fun u t => va_P D vwCl (pl cy u.1 u.2) t.heap ∧ va_D (pA G0 sz) (pl cy u.1 u.2) ∧ wt u.1 ∧ ext G0 u.1) (pA G0 sz)) args s b.1 b.2 (pA G0 sz)) (F0 m 9 ls [])) : ∀ (u : uS) (G : gS) (M : mS) (v2 : Nat) (v3 : Int32) (v4 : Int32) (v5 : Int32) (H : Heap) (locs : List Loc) (ls : Array Slot), a0 ∈ gL G → gK G a0 = 9 → v2 ∈ gL G → gK G v2 = 12 → ext G0 G → uL u b → nl_X10_period_34 b a0 c1 kb9 post u G M v2 v3 v4 v5 → cX p s m args meth c cX10_period RX10 6 (some .int) wsX10_period D cy G (pA G0 sz) → wd D cy G M (pA G0 sz) s.heap H locs → lv_has ls 6 [(0, .ref a0), (1, .int c1), (2, .ref v2), (3, .int v3), (4, .int v4), (5, .int v5)] → W p l e (rnX10_period b) s m args below meth c H locs u.1 u.2 (MQ below (va_Qi (fun (r : Int32) (u : gS × mS) => post u.1 u.2 r) (fun u t => va_P D vwCl (pl cy u.1 u.2) t.heap ∧ va_D (pA G0 sz) (pl cy u.1 u.2) ∧ wt u.1 ∧ ext G0 u.1) (pA G0 sz)) args s b.1 b.2 (pA G0 sz)) (F0 m 34 ls []) := by
  intro u G M v2 v3 v4 v5 H locs ls hL0 hK0 v2L v2K hext hu h cx w hl
  obtain ⟨I, n, hI, hB⟩ := h
  have key : ∀ n : Nat, ∀ (u : uS) (G : gS) (M : mS) (v2 : Nat) (v3 : Int32) (v4 : Int32) (v5 : Int32) (H : Heap) (locs : List Loc) (ls : Array Slot), a0 ∈ gL G → gK G a0 = 9 → v2 ∈ gL G → gK G v2 = 12 → ext G0 G → uL u b → I n u G M v2 v3 v4 v5 → cX p s m args meth c cX10_period RX10 6 (some .int) wsX10_period D cy G (pA G0 sz) → wd D cy G M (pA G0 sz) s.heap H locs → lv_has ls 6 [(0, .ref a0), (1, .int c1), (2, .ref v2), (3, .int v3), (4, .int v4), (5, .int v5)] → W p l e (rnX10_period b) s m args below meth c H locs u.1 u.2 (MQ below (va_Qi (fun (r : Int32) (u : gS × mS) => post u.1 u.2 r) (fun u t => va_P D vwCl (pl cy u.1 u.2) t.heap ∧ va_D (pA G0 sz) (pl cy u.1 u.2) ∧ wt u.1 ∧ ext G0 u.1) (pA G0 sz)) args s b.1 b.2 (pA G0 sz)) (F0 m 34 ls []) := by
    intro n
    induction n using Nat.strongRecOn with
    | ind n ih =>
      intro u G M v2 v3 v4 v5 H locs ls hL0 hK0 v2L v2K hext hu hI cx w hl
      have h := hB n u G M v2 v3 v4 v5 hI
      unfold nb_X10_period_34 at h
      obtain ⟨hx, hb, hml, hown, hts, hr, hlocks, hK, hA, hG, hsx⟩ := id cx
      have hR : (rnX10_period b).cells = b.1 ∧ (rnX10_period b).slots = b.2 := ⟨rfl, rfl⟩
      refine lv_iload hx hb dX10_period_34 (lv_at hl 5 rfl) ?_
      refine lv_aload_n hx hb dX10_period_36 rfl (lv_at hl 2 rfl) ?_
      refine r_alen cx w v2L v2K (by decide) dX10_period_37 ?_
      refine lv_icmp_ge (tgt := 72) hx hb dX10_period_38 (by decide) (fun k1 => ?_) (fun k1 => ?_)
      · have h := w_t h k1
        exact bn_X10_period_72 hnm (hkb9 := hkb9) u G M v2 v3 v4 H locs ls hL0 hK0 v2L v2K hext hu h cx w (lv_sub hl [0, 1, 2, 3, 4] rfl)
      · have h := w_f h k1
        refine lv_iload hx hb dX10_period_41 (lv_at hl 4 rfl) ?_
        refine lv_if_eq (tgt := 72) hx hb dX10_period_43 (by decide) (fun k2 => ?_) (fun k2 => ?_)
        · have h := w_t h k2
          exact bn_X10_period_72 hnm (hkb9 := hkb9) u G M v2 v3 v4 H locs ls hL0 hK0 v2L v2K hext hu h cx w (lv_sub hl [0, 1, 2, 3, 4] rfl)
        · have h := w_f h k2
          refine lv_aload_n hx hb dX10_period_46 rfl (lv_at hl 2 rfl) ?_
          refine lv_iload hx hb dX10_period_47 (lv_at hl 5 rfl) ?_
          obtain ⟨z3, h⟩ := w_ix h
          refine r_iald cx w v2L v2K z3 dX10_period_49 ?_
          refine lv_aload_n hx hb dX10_period_50 rfl (lv_at hl 2 rfl) ?_
          refine lv_iload hx hb dX10_period_51 (lv_at hl 5 rfl) ?_
          refine lv_iload_n hx hb dX10_period_53 rfl (lv_at hl 3 rfl) ?_
          refine lv_isub hx hb dX10_period_54 ?_
          obtain ⟨z4, h⟩ := w_ix h
          refine r_iald cx w v2L v2K z4 dX10_period_55 ?_
          refine lv_icmp_ne (tgt := 63) hx hb dX10_period_56 (by decide) (fun k5 => ?_) (fun k5 => ?_)
          · have h := w_f h k5
            refine lv_iconst (v := (0 : Int32)) hx hb dX10_period_63 (by decide) ?_
            exact bn_X10_period_64 hnm (hkb9 := hkb9) (hkb34 := fun u G M v2 v3 v4 v5 H locs ls hL0 hK0 v2L v2K hext hu h cx w hl => by obtain ⟨k, hk, hI⟩ := h; exact ih k hk u G M v2 v3 v4 v5 H locs ls hL0 hK0 v2L v2K hext hu hI cx w hl) u G M v2 v3 v5 ((0 : Int32)) H locs ls hL0 hK0 v2L v2K hext hu h cx w (lv_sub hl [0, 1, 2, 3, 5] rfl)
          · have h := w_t h k5
            refine lv_iconst (v := (1 : Int32)) hx hb dX10_period_59 (by decide) ?_
            refine lv_goto (tgt := 64) hx hb dX10_period_60 (by decide) ?_
            exact bn_X10_period_64 hnm (hkb9 := hkb9) (hkb34 := fun u G M v2 v3 v4 v5 H locs ls hL0 hK0 v2L v2K hext hu h cx w hl => by obtain ⟨k, hk, hI⟩ := h; exact ih k hk u G M v2 v3 v4 v5 H locs ls hL0 hK0 v2L v2K hext hu hI cx w hl) u G M v2 v3 v5 ((1 : Int32)) H locs ls hL0 hK0 v2L v2K hext hu h cx w (lv_sub hl [0, 1, 2, 3, 5] rfl)
  exact key n u G M v2 v3 v4 v5 H locs ls hL0 hK0 v2L v2K hext hu hI cx w hl
set_option maxHeartbeats 4000000 in
set_option maxRecDepth 100000 in
theorem bn_X10_period_9 {p : Program} {l : Launch} {e : Env} {s : State} {m : MethodId} {args : Array Value} {below : List Frame} {meth : Method} {c : Code} {D : va_G} {cy : cyS} {b : uS} {G0 : gS} {sz : Nat} (hnm : meth.name = yX10_period.name)  {a0 : Nat} {c1 : Int32} {post : gS → mS → Int32 → Prop} : ∀ (u : uS) (G : gS) (M : mS) (v2 : Nat) (v3 : Int32) (H : Heap) (locs : List Loc) (ls : Array Slot), a0 ∈ gL G → gK G a0 = 9 → v2 ∈ gL G → gK G v2 = 12 → ext G0 G → uL u b → nl_X10_period_9 b a0 c1 post u G M v2 v3 → cX p s m args meth c cX10_period RX10 6 (some .int) wsX10_period D cy G (pA G0 sz) → wd D cy G M (pA G0 sz) s.heap H locs → lv_has ls 6 [(0, .ref a0), (1, .int c1), (2, .ref v2), (3, .int v3)] → W p l e (rnX10_period b) s m args below meth c H locs u.1 u.2 (MQ below (va_Qi (fun (r : Int32) (u : gS × mS) => post u.1 u.2 r) (fun u t => va_P D vwCl (pl cy u.1 u.2) t.heap ∧ va_D (pA G0 sz) (pl cy u.1 u.2) ∧ wt u.1 ∧ ext G0 u.1) (pA G0 sz)) args s b.1 b.2 (pA G0 sz)) (F0 m 9 ls []) := by
  intro u G M v2 v3 H locs ls hL0 hK0 v2L v2K hext hu h cx w hl
  obtain ⟨I, n, hI, hB⟩ := h
  have key : ∀ n : Nat, ∀ (u : uS) (G : gS) (M : mS) (v2 : Nat) (v3 : Int32) (H : Heap) (locs : List Loc) (ls : Array Slot), a0 ∈ gL G → gK G a0 = 9 → v2 ∈ gL G → gK G v2 = 12 → ext G0 G → uL u b → I n u G M v2 v3 → cX p s m args meth c cX10_period RX10 6 (some .int) wsX10_period D cy G (pA G0 sz) → wd D cy G M (pA G0 sz) s.heap H locs → lv_has ls 6 [(0, .ref a0), (1, .int c1), (2, .ref v2), (3, .int v3)] → W p l e (rnX10_period b) s m args below meth c H locs u.1 u.2 (MQ below (va_Qi (fun (r : Int32) (u : gS × mS) => post u.1 u.2 r) (fun u t => va_P D vwCl (pl cy u.1 u.2) t.heap ∧ va_D (pA G0 sz) (pl cy u.1 u.2) ∧ wt u.1 ∧ ext G0 u.1) (pA G0 sz)) args s b.1 b.2 (pA G0 sz)) (F0 m 9 ls []) := by
    intro n
    induction n using Nat.strongRecOn with
    | ind n ih =>
      intro u G M v2 v3 H locs ls hL0 hK0 v2L v2K hext hu hI cx w hl
      have h := hB n u G M v2 v3 hI
      unfold nb_X10_period_9 at h
      obtain ⟨hx, hb, hml, hown, hts, hr, hlocks, hK, hA, hG, hsx⟩ := id cx
      have hR : (rnX10_period b).cells = b.1 ∧ (rnX10_period b).slots = b.2 := ⟨rfl, rfl⟩
      refine lv_iload_n hx hb dX10_period_9 rfl (lv_at hl 3 rfl) ?_
      refine lv_bipush (v := (120 : Int32)) hx hb dX10_period_10 (by decide) ?_
      refine lv_icmp_gt (tgt := 105) hx hb dX10_period_12 (by decide) (fun k1 => ?_) (fun k1 => ?_)
      · have h := w_t h k1
        exact bn_X10_period_105 hnm u G M H locs ls hL0 hK0 hext hu h cx w (lv_sub hl [] rfl)
      · have h := w_f h k1
        refine lv_iconst (v := (3 : Int32)) hx hb dX10_period_15 (by decide) ?_
        refine lv_iload_n hx hb dX10_period_16 rfl (lv_at hl 3 rfl) ?_
        refine lv_imul hx hb dX10_period_17 ?_
        refine lv_aload_n hx hb dX10_period_18 rfl (lv_at hl 2 rfl) ?_
        refine r_alen cx w v2L v2K (by decide) dX10_period_19 ?_
        refine lv_icmp_gt (tgt := 105) hx hb dX10_period_20 (by decide) (fun k2 => ?_) (fun k2 => ?_)
        · have h := w_t h k2
          exact bn_X10_period_105 hnm u G M H locs ls hL0 hK0 hext hu h cx w (lv_sub hl [] rfl)
        · have h := w_f h k2
          refine lv_iconst (v := (1 : Int32)) hx hb dX10_period_23 (by decide) ?_
          refine lv_istore (lv' := [(4, .int ((1 : Int32))), (0, .ref a0), (1, .int c1), (2, .ref v2), (3, .int v3)]) hx hb dX10_period_24 hl (by decide) rfl (fun ls hl => ?_)
          refine lv_aload_n hx hb dX10_period_26 rfl (lv_at hl 3 rfl) ?_
          refine r_alen cx w v2L v2K (by decide) dX10_period_27 ?_
          refine lv_iconst (v := (2 : Int32)) hx hb dX10_period_28 (by decide) ?_
          refine lv_iload_n hx hb dX10_period_29 rfl (lv_at hl 4 rfl) ?_
          refine lv_imul hx hb dX10_period_30 ?_
          refine lv_isub hx hb dX10_period_31 ?_
          obtain ⟨x3, ex3, h⟩ := w_bd h
          refine r_topI ex3 ?_
          refine lv_istore (lv' := [(5, .int x3), (4, .int ((1 : Int32))), (0, .ref a0), (1, .int c1), (2, .ref v2), (3, .int v3)]) hx hb dX10_period_32 hl (by decide) rfl (fun ls hl => ?_)
          exact bn_X10_period_34 hnm (hkb9 := fun u G M v2 v3 H locs ls hL0 hK0 v2L v2K hext hu h cx w hl => by obtain ⟨k, hk, hI⟩ := h; exact ih k hk u G M v2 v3 H locs ls hL0 hK0 v2L v2K hext hu hI cx w hl) u G M v2 v3 ((1 : Int32)) x3 H locs ls hL0 hK0 v2L v2K hext hu h cx w (lv_sub hl [2, 3, 4, 5, 1, 0] rfl)
  exact key n u G M v2 v3 H locs ls hL0 hK0 v2L v2K hext hu hI cx w hl
set_option maxHeartbeats 4000000 in
set_option maxRecDepth 100000 in
theorem kn_X10_period {l : Launch} {D : va_G} {cy : cyS} {G : gS} {M : mS} {b : uS} {a0 : Nat} {c1 : Int32} {post : gS → mS → Int32 → Prop} (hG : wt G) (hL0 : a0 ∈ gL G) (hK0 : gK G a0 = 9) (h : n_X10_period b G M a0 c1 post) : cbI l yX10_period wsX10_period (rnX10_period b) D cy G M [.ref a0, .int c1] b post := by
  unfold n_X10_period at h
  refine cbI_of (cc := cX10_period) (nL := 6) (ret := (some .int)) (lv := [(0, .ref a0), (1, .int c1)]) hG (by decide) rfl (Nat.le_of_ble_eq_true rfl) rfl ?_
  intro p e s m args below meth c sz ls hnm cx w hl
  obtain ⟨hx, hb, hml, hown, hts, hr, hlocks, hK, hA, -, hsx⟩ := id cx
  have hext := ext_rf (G := G)
  have hu : uL (0, 0) b := ⟨Nat.zero_le _, Nat.zero_le _⟩
  have hR : (rnX10_period b).cells = b.1 ∧ (rnX10_period b).slots = b.2 := ⟨rfl, rfl⟩
  refine lv_aload_n hx hb dX10_period_0 rfl (lv_at hl 0 rfl) ?_
  obtain ⟨q1, eq1, h⟩ := w_rf h
  obtain ⟨hLq1, hKq1⟩ := wt_q hG hL0 hK0 eq1
  have hKq1 : gK G q1 = 15 := hKq1
  refine r_getR (k := 7) cx w hL0 hK0 (by decide) rfl wb_X10_period_X10 (by decide) rfl eq1 (List.mem_of_getElem? (i := 1) rfl) dX10_period_1 ?_
  refine lv_iload_n hx hb dX10_period_4 rfl (lv_at hl 1 rfl) ?_
  obtain ⟨z2, h⟩ := w_ix h
  obtain ⟨q3, eq3, h⟩ := w_rf h
  obtain ⟨hLq3, hKq3⟩ := wt_q hG hLq1 hKq1 eq3
  have hKq3 : gK G q3 = 12 := hKq3
  refine r_aaldA cx w hLq1 hKq1 z2 eq3 dX10_period_5 ?_
  refine lv_astore_n (lv' := [(2, .ref q3), (0, .ref a0), (1, .int c1)]) hx hb dX10_period_6 rfl hl (by decide) rfl (fun ls hl => ?_)
  refine lv_iconst (v := (1 : Int32)) hx hb dX10_period_7 (by decide) ?_
  refine lv_istore_n (lv' := [(3, .int ((1 : Int32))), (2, .ref q3), (0, .ref a0), (1, .int c1)]) hx hb dX10_period_8 rfl hl (by decide) rfl (fun ls hl => ?_)
  exact bn_X10_period_9 hnm (0, 0) G M q3 ((1 : Int32)) s.heap [] ls hL0 hK0 hLq3 hKq3 hext hu h cx w (lv_sub hl [2, 3, 1, 0] rfl)
-- X10_isAt
theorem wb_X10_isAt_X10 : ∀ w ∈ wsX100, w ∈ wsX10_isAt := by decide +kernel
abbrev rnX10_isAt (b : uS) : Room := { frames := 0, cells := b.1, slots := b.2, locals := 0 }
def nb_X10_isAt_43 (b : uS) (a0 : Nat) (c1 : Int32) (c2 : Int32) (post : gS → mS → Int32 → Prop) (u : uS) (G : gS) (M : mS) (s0 : Int32) : Prop := p_ck (s0 = 0 ∨ s0 = 1) (post G M s0)
def nb_X10_isAt_42 (b : uS) (a0 : Nat) (c1 : Int32) (c2 : Int32) (post : gS → mS → Int32 → Prop) (u : uS) (G : gS) (M : mS) : Prop := nb_X10_isAt_43 b a0 c1 c2 post u G M ((0 : Int32))
def n_X10_isAt (b : uS) (G : gS) (M : mS) (a0 : Nat) (c1 : Int32) (c2 : Int32) (post : gS → mS → Int32 → Prop) : Prop := p_rf (gP G a0 6) (fun q1 => p_ix c1 (gN G q1) (p_rf (gP G q1 (Int32.toNatClampNeg c1)) (fun q3 => p_ix (1 : Int32) (gN G q3) (p_rf (gP G a0 6) (fun q5 => p_ix c2 (gN G q5) (p_rf (gP G q5 (Int32.toNatClampNeg c2)) (fun q7 => p_ix (1 : Int32) (gN G q7) (p_if ((mI M q3 (Int32.toNatClampNeg (1 : Int32))) = (mI M q7 (Int32.toNatClampNeg (1 : Int32)))) (p_rf (gP G a0 6) (fun q10 => p_ix c1 (gN G q10) (p_rf (gP G q10 (Int32.toNatClampNeg c1)) (fun q12 => p_ix (2 : Int32) (gN G q12) (p_rf (gP G a0 6) (fun q14 => p_ix c2 (gN G q14) (p_rf (gP G q14 (Int32.toNatClampNeg c2)) (fun q16 => p_ix (2 : Int32) (gN G q16) (p_if ((mI M q12 (Int32.toNatClampNeg (2 : Int32))) = (mI M q16 (Int32.toNatClampNeg (2 : Int32)))) (nb_X10_isAt_43 b a0 c1 c2 post (0, 0) G M ((1 : Int32))) (nb_X10_isAt_42 b a0 c1 c2 post (0, 0) G M)))))))))) (nb_X10_isAt_42 b a0 c1 c2 post (0, 0) G M)))))))))
set_option maxHeartbeats 4000000 in
set_option maxRecDepth 100000 in
theorem bn_X10_isAt_43 {p : Program} {l : Launch} {e : Env} {s : State} {m : MethodId} {args : Array Value} {below : List Frame} {meth : Method} {c : Code} {D : va_G} {cy : cyS} {b : uS} {G0 : gS} {sz : Nat} (hnm : meth.name = yX10_isAt.name)  {a0 : Nat} {c1 : Int32} {c2 : Int32} {post : gS → mS → Int32 → Prop} : ∀ (u : uS) (G : gS) (M : mS) (s0 : Int32) (H : Heap) (locs : List Loc) (ls : Array Slot), a0 ∈ gL G → gK G a0 = 9 → ext G0 G → uL u b → nb_X10_isAt_43 b a0 c1 c2 post u G M s0 → cX p s m args meth c cX10_isAt RX10 3 (some .boolean) wsX10_isAt D cy G (pA G0 sz) → wd D cy G M (pA G0 sz) s.heap H locs → lv_has ls 3 [] → W p l e (rnX10_isAt b) s m args below meth c H locs u.1 u.2 (MQ below (va_Qi (fun (r : Int32) (u : gS × mS) => post u.1 u.2 r) (fun u t => va_P D vwCl (pl cy u.1 u.2) t.heap ∧ va_D (pA G0 sz) (pl cy u.1 u.2) ∧ wt u.1 ∧ ext G0 u.1) (pA G0 sz)) args s b.1 b.2 (pA G0 sz)) (F0 m 43 ls [.int s0]) := by
  intro u G M s0 H locs ls hL0 hK0 hext hu h cx w hl
  unfold nb_X10_isAt_43 at h
  obtain ⟨hx, hb, hml, hown, hts, hr, hlocks, hK, hA, hG, hsx⟩ := id cx
  have hR : (rnX10_isAt b).cells = b.1 ∧ (rnX10_isAt b).slots = b.2 := ⟨rfl, rfl⟩
  obtain ⟨z1, h⟩ := w_ck h
  exact rb_nret (z_nar z1) h cx w hext hu dX10_isAt_43
set_option maxHeartbeats 4000000 in
set_option maxRecDepth 100000 in
theorem bn_X10_isAt_42 {p : Program} {l : Launch} {e : Env} {s : State} {m : MethodId} {args : Array Value} {below : List Frame} {meth : Method} {c : Code} {D : va_G} {cy : cyS} {b : uS} {G0 : gS} {sz : Nat} (hnm : meth.name = yX10_isAt.name)  {a0 : Nat} {c1 : Int32} {c2 : Int32} {post : gS → mS → Int32 → Prop} : ∀ (u : uS) (G : gS) (M : mS) (H : Heap) (locs : List Loc) (ls : Array Slot), a0 ∈ gL G → gK G a0 = 9 → ext G0 G → uL u b → nb_X10_isAt_42 b a0 c1 c2 post u G M → cX p s m args meth c cX10_isAt RX10 3 (some .boolean) wsX10_isAt D cy G (pA G0 sz) → wd D cy G M (pA G0 sz) s.heap H locs → lv_has ls 3 [] → W p l e (rnX10_isAt b) s m args below meth c H locs u.1 u.2 (MQ below (va_Qi (fun (r : Int32) (u : gS × mS) => post u.1 u.2 r) (fun u t => va_P D vwCl (pl cy u.1 u.2) t.heap ∧ va_D (pA G0 sz) (pl cy u.1 u.2) ∧ wt u.1 ∧ ext G0 u.1) (pA G0 sz)) args s b.1 b.2 (pA G0 sz)) (F0 m 42 ls []) := by
  intro u G M H locs ls hL0 hK0 hext hu h cx w hl
  unfold nb_X10_isAt_42 at h
  obtain ⟨hx, hb, hml, hown, hts, hr, hlocks, hK, hA, hG, hsx⟩ := id cx
  have hR : (rnX10_isAt b).cells = b.1 ∧ (rnX10_isAt b).slots = b.2 := ⟨rfl, rfl⟩
  refine lv_iconst (v := (0 : Int32)) hx hb dX10_isAt_42 (by decide) ?_
  exact bn_X10_isAt_43 hnm u G M ((0 : Int32)) H locs ls hL0 hK0 hext hu h cx w (lv_sub hl [] rfl)
set_option maxHeartbeats 4000000 in
set_option maxRecDepth 100000 in
theorem kn_X10_isAt {l : Launch} {D : va_G} {cy : cyS} {G : gS} {M : mS} {b : uS} {a0 : Nat} {c1 : Int32} {c2 : Int32} {post : gS → mS → Int32 → Prop} (hG : wt G) (hL0 : a0 ∈ gL G) (hK0 : gK G a0 = 9) (h : n_X10_isAt b G M a0 c1 c2 post) : cbI l yX10_isAt wsX10_isAt (rnX10_isAt b) D cy G M [.ref a0, .int c1, .int c2] b post := by
  unfold n_X10_isAt at h
  refine cbI_of (cc := cX10_isAt) (nL := 3) (ret := (some .boolean)) (lv := [(0, .ref a0), (1, .int c1), (2, .int c2)]) hG (by decide) rfl (Nat.le_of_ble_eq_true rfl) rfl ?_
  intro p e s m args below meth c sz ls hnm cx w hl
  obtain ⟨hx, hb, hml, hown, hts, hr, hlocks, hK, hA, -, hsx⟩ := id cx
  have hext := ext_rf (G := G)
  have hu : uL (0, 0) b := ⟨Nat.zero_le _, Nat.zero_le _⟩
  have hR : (rnX10_isAt b).cells = b.1 ∧ (rnX10_isAt b).slots = b.2 := ⟨rfl, rfl⟩
  refine lv_aload_n hx hb dX10_isAt_0 rfl (lv_at hl 0 rfl) ?_
  obtain ⟨q1, eq1, h⟩ := w_rf h
  obtain ⟨hLq1, hKq1⟩ := wt_q hG hL0 hK0 eq1
  have hKq1 : gK G q1 = 15 := hKq1
  refine r_getR (k := 6) cx w hL0 hK0 (by decide) rfl wb_X10_isAt_X10 (by decide) rfl eq1 (List.mem_of_getElem? (i := 1) rfl) dX10_isAt_1 ?_
  refine lv_iload_n hx hb dX10_isAt_4 rfl (lv_at hl 1 rfl) ?_
  obtain ⟨z2, h⟩ := w_ix h
  obtain ⟨q3, eq3, h⟩ := w_rf h
  obtain ⟨hLq3, hKq3⟩ := wt_q hG hLq1 hKq1 eq3
  have hKq3 : gK G q3 = 12 := hKq3
  refine r_aaldA cx w hLq1 hKq1 z2 eq3 dX10_isAt_5 ?_
  refine lv_iconst (v := (1 : Int32)) hx hb dX10_isAt_6 (by decide) ?_
  obtain ⟨z4, h⟩ := w_ix h
  refine r_iald cx w hLq3 hKq3 z4 dX10_isAt_7 ?_
  refine lv_aload_n hx hb dX10_isAt_8 rfl (lv_at hl 0 rfl) ?_
  obtain ⟨q5, eq5, h⟩ := w_rf h
  obtain ⟨hLq5, hKq5⟩ := wt_q hG hL0 hK0 eq5
  have hKq5 : gK G q5 = 15 := hKq5
  refine r_getR (k := 6) cx w hL0 hK0 (by decide) rfl wb_X10_isAt_X10 (by decide) rfl eq5 (List.mem_of_getElem? (i := 1) rfl) dX10_isAt_9 ?_
  refine lv_iload_n hx hb dX10_isAt_12 rfl (lv_at hl 2 rfl) ?_
  obtain ⟨z6, h⟩ := w_ix h
  obtain ⟨q7, eq7, h⟩ := w_rf h
  obtain ⟨hLq7, hKq7⟩ := wt_q hG hLq5 hKq5 eq7
  have hKq7 : gK G q7 = 12 := hKq7
  refine r_aaldA cx w hLq5 hKq5 z6 eq7 dX10_isAt_13 ?_
  refine lv_iconst (v := (1 : Int32)) hx hb dX10_isAt_14 (by decide) ?_
  obtain ⟨z8, h⟩ := w_ix h
  refine r_iald cx w hLq7 hKq7 z8 dX10_isAt_15 ?_
  refine lv_icmp_ne (tgt := 42) hx hb dX10_isAt_16 (by decide) (fun k9 => ?_) (fun k9 => ?_)
  · have h := w_f h k9
    exact bn_X10_isAt_42 hnm (0, 0) G M s.heap [] ls hL0 hK0 hext hu h cx w (lv_sub hl [] rfl)
  · have h := w_t h k9
    refine lv_aload_n hx hb dX10_isAt_19 rfl (lv_at hl 0 rfl) ?_
    obtain ⟨q10, eq10, h⟩ := w_rf h
    obtain ⟨hLq10, hKq10⟩ := wt_q hG hL0 hK0 eq10
    have hKq10 : gK G q10 = 15 := hKq10
    refine r_getR (k := 6) cx w hL0 hK0 (by decide) rfl wb_X10_isAt_X10 (by decide) rfl eq10 (List.mem_of_getElem? (i := 1) rfl) dX10_isAt_20 ?_
    refine lv_iload_n hx hb dX10_isAt_23 rfl (lv_at hl 1 rfl) ?_
    obtain ⟨z11, h⟩ := w_ix h
    obtain ⟨q12, eq12, h⟩ := w_rf h
    obtain ⟨hLq12, hKq12⟩ := wt_q hG hLq10 hKq10 eq12
    have hKq12 : gK G q12 = 12 := hKq12
    refine r_aaldA cx w hLq10 hKq10 z11 eq12 dX10_isAt_24 ?_
    refine lv_iconst (v := (2 : Int32)) hx hb dX10_isAt_25 (by decide) ?_
    obtain ⟨z13, h⟩ := w_ix h
    refine r_iald cx w hLq12 hKq12 z13 dX10_isAt_26 ?_
    refine lv_aload_n hx hb dX10_isAt_27 rfl (lv_at hl 0 rfl) ?_
    obtain ⟨q14, eq14, h⟩ := w_rf h
    obtain ⟨hLq14, hKq14⟩ := wt_q hG hL0 hK0 eq14
    have hKq14 : gK G q14 = 15 := hKq14
    refine r_getR (k := 6) cx w hL0 hK0 (by decide) rfl wb_X10_isAt_X10 (by decide) rfl eq14 (List.mem_of_getElem? (i := 1) rfl) dX10_isAt_28 ?_
    refine lv_iload_n hx hb dX10_isAt_31 rfl (lv_at hl 2 rfl) ?_
    obtain ⟨z15, h⟩ := w_ix h
    obtain ⟨q16, eq16, h⟩ := w_rf h
    obtain ⟨hLq16, hKq16⟩ := wt_q hG hLq14 hKq14 eq16
    have hKq16 : gK G q16 = 12 := hKq16
    refine r_aaldA cx w hLq14 hKq14 z15 eq16 dX10_isAt_32 ?_
    refine lv_iconst (v := (2 : Int32)) hx hb dX10_isAt_33 (by decide) ?_
    obtain ⟨z17, h⟩ := w_ix h
    refine r_iald cx w hLq16 hKq16 z17 dX10_isAt_34 ?_
    refine lv_icmp_ne (tgt := 42) hx hb dX10_isAt_35 (by decide) (fun k18 => ?_) (fun k18 => ?_)
    · have h := w_f h k18
      exact bn_X10_isAt_42 hnm (0, 0) G M s.heap [] ls hL0 hK0 hext hu h cx w (lv_sub hl [] rfl)
    · have h := w_t h k18
      refine lv_iconst (v := (1 : Int32)) hx hb dX10_isAt_38 (by decide) ?_
      refine lv_goto (tgt := 43) hx hb dX10_isAt_39 (by decide) ?_
      exact bn_X10_isAt_43 hnm (0, 0) G M ((1 : Int32)) s.heap [] ls hL0 hK0 hext hu h cx w (lv_sub hl [] rfl)
-- X10_meets
theorem wb_X10_meets_X10 : ∀ w ∈ wsX100, w ∈ wsX10_meets := by decide +kernel
abbrev rnX10_meets (b : uS) : Room := { frames := 1, cells := b.1, slots := b.2, locals := 22 }
def nb_X10_meets_33 (b : uS) (a0 : Nat) (c1 : Int32) (kb4 : uS → gS → mS → Int32 → Int32 → Prop) (post : gS → mS → Int32 → Prop) (u : uS) (G : gS) (M : mS) (v3 : Int32) (s0 : Int32) (s1 : Int32) : Prop := p_bd ((s0 ||| s1)) (fun x1 => p_bd (v3 + 1 : Int32) (fun x2 => kb4 u G M x1 x2))
def nb_X10_meets_32 (b : uS) (a0 : Nat) (c1 : Int32) (kb4 : uS → gS → mS → Int32 → Int32 → Prop) (post : gS → mS → Int32 → Prop) (u : uS) (G : gS) (M : mS) (v3 : Int32) (s0 : Int32) : Prop := nb_X10_meets_33 b a0 c1 kb4 post u G M v3 s0 ((0 : Int32))
def nb_X10_meets_4 (b : uS) (a0 : Nat) (c1 : Int32) (post : gS → mS → Int32 → Prop) (back : uS → gS → mS → Int32 → Int32 → Prop) (u : uS) (G : gS) (M : mS) (v2 : Int32) (v3 : Int32) : Prop := p_rf (gP G a0 6) (fun q1 => p_if ((Int32.ofNat (gN G q1)) ≤ v3) (p_ck (v2 = 0 ∨ v2 = 1) (post G M v2)) (p_if (v3 = c1) (nb_X10_meets_32 b a0 c1 back post u G M v3 v2) (q_ca b u (fun v => n_X10_isAt v G M a0 c1 v3) (fun u7 G5 M6 r8 => p_if (r8 = 0) (nb_X10_meets_32 b a0 c1 back post u7 G5 M6 v3 v2) (nb_X10_meets_33 b a0 c1 back post u7 G5 M6 v3 v2 ((1 : Int32)))))))
def nl_X10_meets_4 (b : uS) (a0 : Nat) (c1 : Int32) (post : gS → mS → Int32 → Prop) (u : uS) (G : gS) (M : mS) (v2 : Int32) (v3 : Int32) : Prop := ∃ (I : Nat → uS → gS → mS → Int32 → Int32 → Prop) (n : Nat), I n u G M v2 v3 ∧ ∀ (n : Nat) (u : uS) (G : gS) (M : mS) (v2 : Int32) (v3 : Int32), I n u G M v2 v3 → nb_X10_meets_4 b a0 c1 post (fun u G M v2 v3 => ∃ k, k < n ∧ I k u G M v2 v3) u G M v2 v3
def n_X10_meets (b : uS) (G : gS) (M : mS) (a0 : Nat) (c1 : Int32) (post : gS → mS → Int32 → Prop) : Prop := nl_X10_meets_4 b a0 c1 post (0, 0) G M ((0 : Int32)) ((0 : Int32))
set_option maxHeartbeats 4000000 in
set_option maxRecDepth 100000 in
theorem bn_X10_meets_33 {p : Program} {l : Launch} {e : Env} {s : State} {m : MethodId} {args : Array Value} {below : List Frame} {meth : Method} {c : Code} {D : va_G} {cy : cyS} {b : uS} {G0 : gS} {sz : Nat} (hnm : meth.name = yX10_meets.name)  {a0 : Nat} {c1 : Int32} {post : gS → mS → Int32 → Prop} {kb4 : uS → gS → mS → Int32 → Int32 → Prop} (hkb4 : ∀ (u : uS) (G : gS) (M : mS) (v2 : Int32) (v3 : Int32) (H : Heap) (locs : List Loc) (ls : Array Slot), a0 ∈ gL G → gK G a0 = 9 → ext G0 G → uL u b → kb4 u G M v2 v3 → cX p s m args meth c cX10_meets RX10 4 (some .boolean) wsX10_meets D cy G (pA G0 sz) → wd D cy G M (pA G0 sz) s.heap H locs → lv_has ls 4 [(0, .ref a0), (1, .int c1), (2, .int v2), (3, .int v3)] → W p l e (rnX10_meets b) s m args below meth c H locs u.1 u.2 (MQ below (va_Qi (fun (r : Int32) (u : gS × mS) => post u.1 u.2 r) (fun u t => va_P D vwCl (pl cy u.1 u.2) t.heap ∧ va_D (pA G0 sz) (pl cy u.1 u.2) ∧ wt u.1 ∧ ext G0 u.1) (pA G0 sz)) args s b.1 b.2 (pA G0 sz)) (F0 m 4 ls [])) : ∀ (u : uS) (G : gS) (M : mS) (v3 : Int32) (s0 : Int32) (s1 : Int32) (H : Heap) (locs : List Loc) (ls : Array Slot), a0 ∈ gL G → gK G a0 = 9 → ext G0 G → uL u b → nb_X10_meets_33 b a0 c1 kb4 post u G M v3 s0 s1 → cX p s m args meth c cX10_meets RX10 4 (some .boolean) wsX10_meets D cy G (pA G0 sz) → wd D cy G M (pA G0 sz) s.heap H locs → lv_has ls 4 [(0, .ref a0), (1, .int c1), (3, .int v3)] → W p l e (rnX10_meets b) s m args below meth c H locs u.1 u.2 (MQ below (va_Qi (fun (r : Int32) (u : gS × mS) => post u.1 u.2 r) (fun u t => va_P D vwCl (pl cy u.1 u.2) t.heap ∧ va_D (pA G0 sz) (pl cy u.1 u.2) ∧ wt u.1 ∧ ext G0 u.1) (pA G0 sz)) args s b.1 b.2 (pA G0 sz)) (F0 m 33 ls [.int s1, .int s0]) := by
  intro u G M v3 s0 s1 H locs ls hL0 hK0 hext hu h cx w hl
  unfold nb_X10_meets_33 at h
  obtain ⟨hx, hb, hml, hown, hts, hr, hlocks, hK, hA, hG, hsx⟩ := id cx
  have hR : (rnX10_meets b).cells = b.1 ∧ (rnX10_meets b).slots = b.2 := ⟨rfl, rfl⟩
  refine lv_ior hx hb dX10_meets_33 ?_
  obtain ⟨x1, ex1, h⟩ := w_bd h
  refine r_topI ex1 ?_
  refine lv_istore_n (lv' := [(2, .int x1), (0, .ref a0), (1, .int c1), (3, .int v3)]) hx hb dX10_meets_34 rfl hl (by decide) rfl (fun ls hl => ?_)
  obtain ⟨x2, ex2, h⟩ := w_bd h
  refine lv_iinc (v := x2) (lv' := [(3, .int x2), (2, .int x1), (0, .ref a0), (1, .int c1)]) hx hb dX10_meets_35 hl (k := 3) rfl (by rw [ex2]; rfl) (by decide) rfl (fun ls hl => ?_)
  refine lv_goto (tgt := 4) hx hb dX10_meets_38 (by decide) ?_
  exact hkb4 u G M x1 x2 H locs ls hL0 hK0 hext hu h cx w (lv_sub hl [2, 3, 1, 0] rfl)
set_option maxHeartbeats 4000000 in
set_option maxRecDepth 100000 in
theorem bn_X10_meets_32 {p : Program} {l : Launch} {e : Env} {s : State} {m : MethodId} {args : Array Value} {below : List Frame} {meth : Method} {c : Code} {D : va_G} {cy : cyS} {b : uS} {G0 : gS} {sz : Nat} (hnm : meth.name = yX10_meets.name)  {a0 : Nat} {c1 : Int32} {post : gS → mS → Int32 → Prop} {kb4 : uS → gS → mS → Int32 → Int32 → Prop} (hkb4 : ∀ (u : uS) (G : gS) (M : mS) (v2 : Int32) (v3 : Int32) (H : Heap) (locs : List Loc) (ls : Array Slot), a0 ∈ gL G → gK G a0 = 9 → ext G0 G → uL u b → kb4 u G M v2 v3 → cX p s m args meth c cX10_meets RX10 4 (some .boolean) wsX10_meets D cy G (pA G0 sz) → wd D cy G M (pA G0 sz) s.heap H locs → lv_has ls 4 [(0, .ref a0), (1, .int c1), (2, .int v2), (3, .int v3)] → W p l e (rnX10_meets b) s m args below meth c H locs u.1 u.2 (MQ below (va_Qi (fun (r : Int32) (u : gS × mS) => post u.1 u.2 r) (fun u t => va_P D vwCl (pl cy u.1 u.2) t.heap ∧ va_D (pA G0 sz) (pl cy u.1 u.2) ∧ wt u.1 ∧ ext G0 u.1) (pA G0 sz)) args s b.1 b.2 (pA G0 sz)) (F0 m 4 ls [])) : ∀ (u : uS) (G : gS) (M : mS) (v3 : Int32) (s0 : Int32) (H : Heap) (locs : List Loc) (ls : Array Slot), a0 ∈ gL G → gK G a0 = 9 → ext G0 G → uL u b → nb_X10_meets_32 b a0 c1 kb4 post u G M v3 s0 → cX p s m args meth c cX10_meets RX10 4 (some .boolean) wsX10_meets D cy G (pA G0 sz) → wd D cy G M (pA G0 sz) s.heap H locs → lv_has ls 4 [(0, .ref a0), (1, .int c1), (3, .int v3)] → W p l e (rnX10_meets b) s m args below meth c H locs u.1 u.2 (MQ below (va_Qi (fun (r : Int32) (u : gS × mS) => post u.1 u.2 r) (fun u t => va_P D vwCl (pl cy u.1 u.2) t.heap ∧ va_D (pA G0 sz) (pl cy u.1 u.2) ∧ wt u.1 ∧ ext G0 u.1) (pA G0 sz)) args s b.1 b.2 (pA G0 sz)) (F0 m 32 ls [.int s0]) := by
  intro u G M v3 s0 H locs ls hL0 hK0 hext hu h cx w hl
  unfold nb_X10_meets_32 at h
  obtain ⟨hx, hb, hml, hown, hts, hr, hlocks, hK, hA, hG, hsx⟩ := id cx
  have hR : (rnX10_meets b).cells = b.1 ∧ (rnX10_meets b).slots = b.2 := ⟨rfl, rfl⟩
  refine lv_iconst (v := (0 : Int32)) hx hb dX10_meets_32 (by decide) ?_
  exact bn_X10_meets_33 hnm (hkb4 := hkb4) u G M v3 s0 ((0 : Int32)) H locs ls hL0 hK0 hext hu h cx w (lv_sub hl [0, 1, 2] rfl)
set_option maxHeartbeats 4000000 in
set_option maxRecDepth 100000 in
theorem bn_X10_meets_4 {p : Program} {l : Launch} {e : Env} {s : State} {m : MethodId} {args : Array Value} {below : List Frame} {meth : Method} {c : Code} {D : va_G} {cy : cyS} {b : uS} {G0 : gS} {sz : Nat} (hnm : meth.name = yX10_meets.name)  {a0 : Nat} {c1 : Int32} {post : gS → mS → Int32 → Prop} : ∀ (u : uS) (G : gS) (M : mS) (v2 : Int32) (v3 : Int32) (H : Heap) (locs : List Loc) (ls : Array Slot), a0 ∈ gL G → gK G a0 = 9 → ext G0 G → uL u b → nl_X10_meets_4 b a0 c1 post u G M v2 v3 → cX p s m args meth c cX10_meets RX10 4 (some .boolean) wsX10_meets D cy G (pA G0 sz) → wd D cy G M (pA G0 sz) s.heap H locs → lv_has ls 4 [(0, .ref a0), (1, .int c1), (2, .int v2), (3, .int v3)] → W p l e (rnX10_meets b) s m args below meth c H locs u.1 u.2 (MQ below (va_Qi (fun (r : Int32) (u : gS × mS) => post u.1 u.2 r) (fun u t => va_P D vwCl (pl cy u.1 u.2) t.heap ∧ va_D (pA G0 sz) (pl cy u.1 u.2) ∧ wt u.1 ∧ ext G0 u.1) (pA G0 sz)) args s b.1 b.2 (pA G0 sz)) (F0 m 4 ls []) := by
  intro u G M v2 v3 H locs ls hL0 hK0 hext hu h cx w hl
  obtain ⟨I, n, hI, hB⟩ := h
  have key : ∀ n : Nat, ∀ (u : uS) (G : gS) (M : mS) (v2 : Int32) (v3 : Int32) (H : Heap) (locs : List Loc) (ls : Array Slot), a0 ∈ gL G → gK G a0 = 9 → ext G0 G → uL u b → I n u G M v2 v3 → cX p s m args meth c cX10_meets RX10 4 (some .boolean) wsX10_meets D cy G (pA G0 sz) → wd D cy G M (pA G0 sz) s.heap H locs → lv_has ls 4 [(0, .ref a0), (1, .int c1), (2, .int v2), (3, .int v3)] → W p l e (rnX10_meets b) s m args below meth c H locs u.1 u.2 (MQ below (va_Qi (fun (r : Int32) (u : gS × mS) => post u.1 u.2 r) (fun u t => va_P D vwCl (pl cy u.1 u.2) t.heap ∧ va_D (pA G0 sz) (pl cy u.1 u.2) ∧ wt u.1 ∧ ext G0 u.1) (pA G0 sz)) args s b.1 b.2 (pA G0 sz)) (F0 m 4 ls []) := by
    intro n
    induction n using Nat.strongRecOn with
    | ind n ih =>
      intro u G M v2 v3 H locs ls hL0 hK0 hext hu hI cx w hl
      have h := hB n u G M v2 v3 hI
      unfold nb_X10_meets_4 at h
      obtain ⟨hx, hb, hml, hown, hts, hr, hlocks, hK, hA, hG, hsx⟩ := id cx
      have hR : (rnX10_meets b).cells = b.1 ∧ (rnX10_meets b).slots = b.2 := ⟨rfl, rfl⟩
      refine lv_iload_n hx hb dX10_meets_4 rfl (lv_at hl 3 rfl) ?_
      refine lv_aload_n hx hb dX10_meets_5 rfl (lv_at hl 0 rfl) ?_
      obtain ⟨q1, eq1, h⟩ := w_rf h
      obtain ⟨hLq1, hKq1⟩ := wt_q hG hL0 hK0 eq1
      have hKq1 : gK G q1 = 15 := hKq1
      refine r_getR (k := 6) cx w hL0 hK0 (by decide) rfl wb_X10_meets_X10 (by decide) rfl eq1 (List.mem_of_getElem? (i := 1) rfl) dX10_meets_6 ?_
      refine r_alen cx w hLq1 hKq1 (by decide) dX10_meets_9 ?_
      refine lv_icmp_ge (tgt := 41) hx hb dX10_meets_10 (by decide) (fun k2 => ?_) (fun k2 => ?_)
      · have h := w_t h k2
        refine lv_iload_n hx hb dX10_meets_41 rfl (lv_at hl 2 rfl) ?_
        obtain ⟨z3, h⟩ := w_ck h
        exact rb_nret (z_nar z3) h cx w hext hu dX10_meets_42
      · have h := w_f h k2
        refine lv_iload_n hx hb dX10_meets_13 rfl (lv_at hl 2 rfl) ?_
        refine lv_iload_n hx hb dX10_meets_14 rfl (lv_at hl 3 rfl) ?_
        refine lv_iload_n hx hb dX10_meets_15 rfl (lv_at hl 1 rfl) ?_
        refine lv_icmp_eq (tgt := 32) hx hb dX10_meets_16 (by decide) (fun k4 => ?_) (fun k4 => ?_)
        · have h := w_t h k4
          exact bn_X10_meets_32 hnm (hkb4 := fun u G M v2 v3 H locs ls hL0 hK0 hext hu h cx w hl => by obtain ⟨k, hk, hI⟩ := h; exact ih k hk u G M v2 v3 H locs ls hL0 hK0 hext hu hI cx w hl) u G M v3 v2 H locs ls hL0 hK0 hext hu h cx w (lv_sub hl [0, 1, 3] rfl)
        · have h := w_f h k4
          refine lv_aload_n hx hb dX10_meets_19 rfl (lv_at hl 0 rfl) ?_
          refine lv_iload_n hx hb dX10_meets_20 rfl (lv_at hl 1 rfl) ?_
          refine lv_iload_n hx hb dX10_meets_21 rfl (lv_at hl 3 rfl) ?_
          refine rb_VI (b := b) (u := u) (rf := 0) (rl := 0) (As := [.int c1, .int v3]) (rest := [.int v2]) cx w hR hl.1 h (fun h => kn_X10_isAt hG hL0 hK0 h) (fun v => cwV 2 hts gX10_meets_X10_isAt rfl rfl rfl (by decide +kernel) ⟨(Nat.le_of_ble_eq_true rfl), (Nat.le_of_ble_eq_true rfl)⟩) hL0 hK0 (by decide) rfl rfl rfl (Nat.le_of_ble_eq_true rfl) dX10_meets_22 (fun u7 G5 M6 r8 H locs h hu xe cx w => ?_)
          obtain ⟨hL0, hK0⟩ := ext_wt xe hL0 hK0
          have hext := ext_tr hext xe
          clear xe
          have hG := cX_wt cx
          refine lv_if_eq (tgt := 32) hx hb dX10_meets_25 (by decide) (fun k9 => ?_) (fun k9 => ?_)
          · have h := w_t h k9
            exact bn_X10_meets_32 hnm (hkb4 := fun u G M v2 v3 H locs ls hL0 hK0 hext hu h cx w hl => by obtain ⟨k, hk, hI⟩ := h; exact ih k hk u G M v2 v3 H locs ls hL0 hK0 hext hu hI cx w hl) u7 G5 M6 v3 v2 H locs ls hL0 hK0 hext hu h cx w (lv_sub hl [0, 1, 3] rfl)
          · have h := w_f h k9
            refine lv_iconst (v := (1 : Int32)) hx hb dX10_meets_28 (by decide) ?_
            refine lv_goto (tgt := 33) hx hb dX10_meets_29 (by decide) ?_
            exact bn_X10_meets_33 hnm (hkb4 := fun u G M v2 v3 H locs ls hL0 hK0 hext hu h cx w hl => by obtain ⟨k, hk, hI⟩ := h; exact ih k hk u G M v2 v3 H locs ls hL0 hK0 hext hu hI cx w hl) u7 G5 M6 v3 v2 ((1 : Int32)) H locs ls hL0 hK0 hext hu h cx w (lv_sub hl [0, 1, 3] rfl)
  exact key n u G M v2 v3 H locs ls hL0 hK0 hext hu hI cx w hl
set_option maxHeartbeats 4000000 in
set_option maxRecDepth 100000 in
theorem kn_X10_meets {l : Launch} {D : va_G} {cy : cyS} {G : gS} {M : mS} {b : uS} {a0 : Nat} {c1 : Int32} {post : gS → mS → Int32 → Prop} (hG : wt G) (hL0 : a0 ∈ gL G) (hK0 : gK G a0 = 9) (h : n_X10_meets b G M a0 c1 post) : cbI l yX10_meets wsX10_meets (rnX10_meets b) D cy G M [.ref a0, .int c1] b post := by
  unfold n_X10_meets at h
  refine cbI_of (cc := cX10_meets) (nL := 4) (ret := (some .boolean)) (lv := [(0, .ref a0), (1, .int c1)]) hG (by decide) rfl (Nat.le_of_ble_eq_true rfl) rfl ?_
  intro p e s m args below meth c sz ls hnm cx w hl
  obtain ⟨hx, hb, hml, hown, hts, hr, hlocks, hK, hA, -, hsx⟩ := id cx
  have hext := ext_rf (G := G)
  have hu : uL (0, 0) b := ⟨Nat.zero_le _, Nat.zero_le _⟩
  have hR : (rnX10_meets b).cells = b.1 ∧ (rnX10_meets b).slots = b.2 := ⟨rfl, rfl⟩
  refine lv_iconst (v := (0 : Int32)) hx hb dX10_meets_0 (by decide) ?_
  refine lv_istore_n (lv' := [(2, .int ((0 : Int32))), (0, .ref a0), (1, .int c1)]) hx hb dX10_meets_1 rfl hl (by decide) rfl (fun ls hl => ?_)
  refine lv_iconst (v := (0 : Int32)) hx hb dX10_meets_2 (by decide) ?_
  refine lv_istore_n (lv' := [(3, .int ((0 : Int32))), (2, .int ((0 : Int32))), (0, .ref a0), (1, .int c1)]) hx hb dX10_meets_3 rfl hl (by decide) rfl (fun ls hl => ?_)
  exact bn_X10_meets_4 hnm (0, 0) G M ((0 : Int32)) ((0 : Int32)) s.heap [] ls hL0 hK0 hext hu h cx w (lv_sub hl [2, 3, 1, 0] rfl)
-- X10_holds
theorem wb_X10_holds_X10 : ∀ w ∈ wsX100, w ∈ wsX10_holds := by decide +kernel
abbrev rnX10_holds (b : uS) : Room := { frames := 2, cells := b.1, slots := b.2, locals := 51 }
def nb_X10_holds_160 (b : uS) (a0 : Nat) (a1 : Nat) (post : gS → mS → Int32 → Prop) (u : uS) (G : gS) (M : mS) (s0 : Int32) : Prop := p_ck (s0 = 0 ∨ s0 = 1) (post G M s0)
def nb_X10_holds_129 (b : uS) (a0 : Nat) (a1 : Nat) (post : gS → mS → Int32 → Prop) (u : uS) (G : gS) (M : mS) (s0 : Int32) : Prop := p_ck (s0 = 0 ∨ s0 = 1) (post G M s0)
def nb_X10_holds_128 (b : uS) (a0 : Nat) (a1 : Nat) (post : gS → mS → Int32 → Prop) (u : uS) (G : gS) (M : mS) : Prop := nb_X10_holds_129 b a0 a1 post u G M ((0 : Int32))
def nb_X10_holds_99 (b : uS) (a0 : Nat) (a1 : Nat) (post : gS → mS → Int32 → Prop) (u : uS) (G : gS) (M : mS) (s0 : Int32) : Prop := p_ck (s0 = 0 ∨ s0 = 1) (post G M s0)
def nb_X10_holds_94 (b : uS) (a0 : Nat) (a1 : Nat) (post : gS → mS → Int32 → Prop) (u : uS) (G : gS) (M : mS) : Prop := nb_X10_holds_99 b a0 a1 post u G M ((1 : Int32))
def nb_X10_holds_67 (b : uS) (a0 : Nat) (a1 : Nat) (post : gS → mS → Int32 → Prop) (u : uS) (G : gS) (M : mS) (s0 : Int32) : Prop := p_ck (s0 = 0 ∨ s0 = 1) (post G M s0)
def nb_X10_holds_47 (b : uS) (a0 : Nat) (a1 : Nat) (post : gS → mS → Int32 → Prop) (u : uS) (G : gS) (M : mS) (s0 : Int32) : Prop := p_ck (s0 = 0 ∨ s0 = 1) (post G M s0)
def n_X10_holds (b : uS) (G : gS) (M : mS) (a0 : Nat) (a1 : Nat) (post : gS → mS → Int32 → Prop) : Prop := p_ix (3 : Int32) (gN G a1) (p_if ((mI M a1 (Int32.toNatClampNeg (3 : Int32))) = 0) (q_ca b (0, 0) (fun v => n_X10_dark v G M a0) (fun u5 G3 M4 r6 => p_ix (4 : Int32) (gN G3 a1) (p_if (r6 ≤ (mI M4 a1 (Int32.toNatClampNeg (4 : Int32)))) (nb_X10_holds_47 b a0 a1 post u5 G3 M4 ((0 : Int32))) (nb_X10_holds_47 b a0 a1 post u5 G3 M4 ((1 : Int32)))))) (p_if ((mI M a1 (Int32.toNatClampNeg (3 : Int32))) = 1) (p_ix (4 : Int32) (gN G a1) (p_ck (¬ (mI M a1 (Int32.toNatClampNeg (4 : Int32))) = 0) (p_ix (5 : Int32) (gN G a1) (p_if (((mI M a0 0) - (mI M a0 0) / (mI M a1 (Int32.toNatClampNeg (4 : Int32))) * (mI M a1 (Int32.toNatClampNeg (4 : Int32)))) = (mI M a1 (Int32.toNatClampNeg (5 : Int32)))) (nb_X10_holds_67 b a0 a1 post (0, 0) G M ((1 : Int32))) (nb_X10_holds_67 b a0 a1 post (0, 0) G M ((0 : Int32))))))) (p_if ((mI M a1 (Int32.toNatClampNeg (3 : Int32))) = 2) (p_rf (gP G a0 6) (fun q15 => p_ix (4 : Int32) (gN G a1) (p_ix (mI M a1 (Int32.toNatClampNeg (4 : Int32))) (gN G q15) (p_rf (gP G q15 (Int32.toNatClampNeg (mI M a1 (Int32.toNatClampNeg (4 : Int32))))) (fun q18 => p_ix (1 : Int32) (gN G q18) (p_ix (5 : Int32) (gN G a1) (p_if ((mI M q18 (Int32.toNatClampNeg (1 : Int32))) < (mI M a1 (Int32.toNatClampNeg (5 : Int32)))) (nb_X10_holds_94 b a0 a1 post (0, 0) G M) (p_ix (4 : Int32) (gN G a1) (q_ca b (0, 0) (fun v => n_X10_meets v G M a0 (mI M a1 (Int32.toNatClampNeg (4 : Int32)))) (fun u25 G23 M24 r26 => p_if (r26 = 0) (nb_X10_holds_99 b a0 a1 post u25 G23 M24 ((0 : Int32))) (nb_X10_holds_94 b a0 a1 post u25 G23 M24))))))))))) (p_if ((mI M a1 (Int32.toNatClampNeg (3 : Int32))) = 3) (p_ix (4 : Int32) (gN G a1) (q_ca b (0, 0) (fun v => n_X10_period v G M a0 (mI M a1 (Int32.toNatClampNeg (4 : Int32)))) (fun u32 G30 M31 r33 => p_if (r33 ≤ 0) (nb_X10_holds_128 b a0 a1 post u32 G30 M31) (p_rf (gP G30 a0 6) (fun q35 => p_ix (4 : Int32) (gN G30 a1) (p_ix (mI M31 a1 (Int32.toNatClampNeg (4 : Int32))) (gN G30 q35) (p_rf (gP G30 q35 (Int32.toNatClampNeg (mI M31 a1 (Int32.toNatClampNeg (4 : Int32))))) (fun q38 => p_ix (4 : Int32) (gN G30 q38) (p_if ((mI M31 q38 (Int32.toNatClampNeg (4 : Int32))) = (1 : Int32)) (nb_X10_holds_129 b a0 a1 post u32 G30 M31 ((1 : Int32))) (nb_X10_holds_128 b a0 a1 post u32 G30 M31)))))))))) (p_ix (4 : Int32) (gN G a1) (q_ca b (0, 0) (fun v => n_X10_darkIn v G M a0 (mI M a1 (Int32.toNatClampNeg (4 : Int32)))) (fun u44 G42 M43 r45 => p_rf (gP G42 a0 6) (fun q46 => p_ix (5 : Int32) (gN G42 a1) (p_ix (mI M43 a1 (Int32.toNatClampNeg (5 : Int32))) (gN G42 q46) (p_rf (gP G42 q46 (Int32.toNatClampNeg (mI M43 a1 (Int32.toNatClampNeg (5 : Int32))))) (fun q49 => p_ix (2 : Int32) (gN G42 q49) (p_ck (¬ (8 : Int32) = 0) (p_if ((r45 + ((mI M43 q49 (Int32.toNatClampNeg (2 : Int32))) / (8 : Int32))) < (5 : Int32)) (nb_X10_holds_160 b a0 a1 post u44 G42 M43 ((0 : Int32))) (nb_X10_holds_160 b a0 a1 post u44 G42 M43 ((1 : Int32))))))))))))))))
set_option maxHeartbeats 4000000 in
set_option maxRecDepth 100000 in
theorem bn_X10_holds_160 {p : Program} {l : Launch} {e : Env} {s : State} {m : MethodId} {args : Array Value} {below : List Frame} {meth : Method} {c : Code} {D : va_G} {cy : cyS} {b : uS} {G0 : gS} {sz : Nat} (hnm : meth.name = yX10_holds.name)  {a0 : Nat} {a1 : Nat} {post : gS → mS → Int32 → Prop} : ∀ (u : uS) (G : gS) (M : mS) (s0 : Int32) (H : Heap) (locs : List Loc) (ls : Array Slot), a0 ∈ gL G → gK G a0 = 9 → a1 ∈ gL G → gK G a1 = 12 → ext G0 G → uL u b → nb_X10_holds_160 b a0 a1 post u G M s0 → cX p s m args meth c cX10_holds RX10 2 (some .boolean) wsX10_holds D cy G (pA G0 sz) → wd D cy G M (pA G0 sz) s.heap H locs → lv_has ls 2 [] → W p l e (rnX10_holds b) s m args below meth c H locs u.1 u.2 (MQ below (va_Qi (fun (r : Int32) (u : gS × mS) => post u.1 u.2 r) (fun u t => va_P D vwCl (pl cy u.1 u.2) t.heap ∧ va_D (pA G0 sz) (pl cy u.1 u.2) ∧ wt u.1 ∧ ext G0 u.1) (pA G0 sz)) args s b.1 b.2 (pA G0 sz)) (F0 m 160 ls [.int s0]) := by
  intro u G M s0 H locs ls hL0 hK0 hL1 hK1 hext hu h cx w hl
  unfold nb_X10_holds_160 at h
  obtain ⟨hx, hb, hml, hown, hts, hr, hlocks, hK, hA, hG, hsx⟩ := id cx
  have hR : (rnX10_holds b).cells = b.1 ∧ (rnX10_holds b).slots = b.2 := ⟨rfl, rfl⟩
  obtain ⟨z1, h⟩ := w_ck h
  exact rb_nret (z_nar z1) h cx w hext hu dX10_holds_160
set_option maxHeartbeats 4000000 in
set_option maxRecDepth 100000 in
theorem bn_X10_holds_129 {p : Program} {l : Launch} {e : Env} {s : State} {m : MethodId} {args : Array Value} {below : List Frame} {meth : Method} {c : Code} {D : va_G} {cy : cyS} {b : uS} {G0 : gS} {sz : Nat} (hnm : meth.name = yX10_holds.name)  {a0 : Nat} {a1 : Nat} {post : gS → mS → Int32 → Prop} : ∀ (u : uS) (G : gS) (M : mS) (s0 : Int32) (H : Heap) (locs : List Loc) (ls : Array Slot), a0 ∈ gL G → gK G a0 = 9 → a1 ∈ gL G → gK G a1 = 12 → ext G0 G → uL u b → nb_X10_holds_129 b a0 a1 post u G M s0 → cX p s m args meth c cX10_holds RX10 2 (some .boolean) wsX10_holds D cy G (pA G0 sz) → wd D cy G M (pA G0 sz) s.heap H locs → lv_has ls 2 [] → W p l e (rnX10_holds b) s m args below meth c H locs u.1 u.2 (MQ below (va_Qi (fun (r : Int32) (u : gS × mS) => post u.1 u.2 r) (fun u t => va_P D vwCl (pl cy u.1 u.2) t.heap ∧ va_D (pA G0 sz) (pl cy u.1 u.2) ∧ wt u.1 ∧ ext G0 u.1) (pA G0 sz)) args s b.1 b.2 (pA G0 sz)) (F0 m 129 ls [.int s0]) := by
  intro u G M s0 H locs ls hL0 hK0 hL1 hK1 hext hu h cx w hl
  unfold nb_X10_holds_129 at h
  obtain ⟨hx, hb, hml, hown, hts, hr, hlocks, hK, hA, hG, hsx⟩ := id cx
  have hR : (rnX10_holds b).cells = b.1 ∧ (rnX10_holds b).slots = b.2 := ⟨rfl, rfl⟩
  obtain ⟨z1, h⟩ := w_ck h
  exact rb_nret (z_nar z1) h cx w hext hu dX10_holds_129
set_option maxHeartbeats 4000000 in
set_option maxRecDepth 100000 in
theorem bn_X10_holds_128 {p : Program} {l : Launch} {e : Env} {s : State} {m : MethodId} {args : Array Value} {below : List Frame} {meth : Method} {c : Code} {D : va_G} {cy : cyS} {b : uS} {G0 : gS} {sz : Nat} (hnm : meth.name = yX10_holds.name)  {a0 : Nat} {a1 : Nat} {post : gS → mS → Int32 → Prop} : ∀ (u : uS) (G : gS) (M : mS) (H : Heap) (locs : List Loc) (ls : Array Slot), a0 ∈ gL G → gK G a0 = 9 → a1 ∈ gL G → gK G a1 = 12 → ext G0 G → uL u b → nb_X10_holds_128 b a0 a1 post u G M → cX p s m args meth c cX10_holds RX10 2 (some .boolean) wsX10_holds D cy G (pA G0 sz) → wd D cy G M (pA G0 sz) s.heap H locs → lv_has ls 2 [] → W p l e (rnX10_holds b) s m args below meth c H locs u.1 u.2 (MQ below (va_Qi (fun (r : Int32) (u : gS × mS) => post u.1 u.2 r) (fun u t => va_P D vwCl (pl cy u.1 u.2) t.heap ∧ va_D (pA G0 sz) (pl cy u.1 u.2) ∧ wt u.1 ∧ ext G0 u.1) (pA G0 sz)) args s b.1 b.2 (pA G0 sz)) (F0 m 128 ls []) := by
  intro u G M H locs ls hL0 hK0 hL1 hK1 hext hu h cx w hl
  unfold nb_X10_holds_128 at h
  obtain ⟨hx, hb, hml, hown, hts, hr, hlocks, hK, hA, hG, hsx⟩ := id cx
  have hR : (rnX10_holds b).cells = b.1 ∧ (rnX10_holds b).slots = b.2 := ⟨rfl, rfl⟩
  refine lv_iconst (v := (0 : Int32)) hx hb dX10_holds_128 (by decide) ?_
  exact bn_X10_holds_129 hnm u G M ((0 : Int32)) H locs ls hL0 hK0 hL1 hK1 hext hu h cx w (lv_sub hl [] rfl)
set_option maxHeartbeats 4000000 in
set_option maxRecDepth 100000 in
theorem bn_X10_holds_99 {p : Program} {l : Launch} {e : Env} {s : State} {m : MethodId} {args : Array Value} {below : List Frame} {meth : Method} {c : Code} {D : va_G} {cy : cyS} {b : uS} {G0 : gS} {sz : Nat} (hnm : meth.name = yX10_holds.name)  {a0 : Nat} {a1 : Nat} {post : gS → mS → Int32 → Prop} : ∀ (u : uS) (G : gS) (M : mS) (s0 : Int32) (H : Heap) (locs : List Loc) (ls : Array Slot), a0 ∈ gL G → gK G a0 = 9 → a1 ∈ gL G → gK G a1 = 12 → ext G0 G → uL u b → nb_X10_holds_99 b a0 a1 post u G M s0 → cX p s m args meth c cX10_holds RX10 2 (some .boolean) wsX10_holds D cy G (pA G0 sz) → wd D cy G M (pA G0 sz) s.heap H locs → lv_has ls 2 [] → W p l e (rnX10_holds b) s m args below meth c H locs u.1 u.2 (MQ below (va_Qi (fun (r : Int32) (u : gS × mS) => post u.1 u.2 r) (fun u t => va_P D vwCl (pl cy u.1 u.2) t.heap ∧ va_D (pA G0 sz) (pl cy u.1 u.2) ∧ wt u.1 ∧ ext G0 u.1) (pA G0 sz)) args s b.1 b.2 (pA G0 sz)) (F0 m 99 ls [.int s0]) := by
  intro u G M s0 H locs ls hL0 hK0 hL1 hK1 hext hu h cx w hl
  unfold nb_X10_holds_99 at h
  obtain ⟨hx, hb, hml, hown, hts, hr, hlocks, hK, hA, hG, hsx⟩ := id cx
  have hR : (rnX10_holds b).cells = b.1 ∧ (rnX10_holds b).slots = b.2 := ⟨rfl, rfl⟩
  obtain ⟨z1, h⟩ := w_ck h
  exact rb_nret (z_nar z1) h cx w hext hu dX10_holds_99
set_option maxHeartbeats 4000000 in
set_option maxRecDepth 100000 in
theorem bn_X10_holds_94 {p : Program} {l : Launch} {e : Env} {s : State} {m : MethodId} {args : Array Value} {below : List Frame} {meth : Method} {c : Code} {D : va_G} {cy : cyS} {b : uS} {G0 : gS} {sz : Nat} (hnm : meth.name = yX10_holds.name)  {a0 : Nat} {a1 : Nat} {post : gS → mS → Int32 → Prop} : ∀ (u : uS) (G : gS) (M : mS) (H : Heap) (locs : List Loc) (ls : Array Slot), a0 ∈ gL G → gK G a0 = 9 → a1 ∈ gL G → gK G a1 = 12 → ext G0 G → uL u b → nb_X10_holds_94 b a0 a1 post u G M → cX p s m args meth c cX10_holds RX10 2 (some .boolean) wsX10_holds D cy G (pA G0 sz) → wd D cy G M (pA G0 sz) s.heap H locs → lv_has ls 2 [] → W p l e (rnX10_holds b) s m args below meth c H locs u.1 u.2 (MQ below (va_Qi (fun (r : Int32) (u : gS × mS) => post u.1 u.2 r) (fun u t => va_P D vwCl (pl cy u.1 u.2) t.heap ∧ va_D (pA G0 sz) (pl cy u.1 u.2) ∧ wt u.1 ∧ ext G0 u.1) (pA G0 sz)) args s b.1 b.2 (pA G0 sz)) (F0 m 94 ls []) := by
  intro u G M H locs ls hL0 hK0 hL1 hK1 hext hu h cx w hl
  unfold nb_X10_holds_94 at h
  obtain ⟨hx, hb, hml, hown, hts, hr, hlocks, hK, hA, hG, hsx⟩ := id cx
  have hR : (rnX10_holds b).cells = b.1 ∧ (rnX10_holds b).slots = b.2 := ⟨rfl, rfl⟩
  refine lv_iconst (v := (1 : Int32)) hx hb dX10_holds_94 (by decide) ?_
  refine lv_goto (tgt := 99) hx hb dX10_holds_95 (by decide) ?_
  exact bn_X10_holds_99 hnm u G M ((1 : Int32)) H locs ls hL0 hK0 hL1 hK1 hext hu h cx w (lv_sub hl [] rfl)
set_option maxHeartbeats 4000000 in
set_option maxRecDepth 100000 in
theorem bn_X10_holds_67 {p : Program} {l : Launch} {e : Env} {s : State} {m : MethodId} {args : Array Value} {below : List Frame} {meth : Method} {c : Code} {D : va_G} {cy : cyS} {b : uS} {G0 : gS} {sz : Nat} (hnm : meth.name = yX10_holds.name)  {a0 : Nat} {a1 : Nat} {post : gS → mS → Int32 → Prop} : ∀ (u : uS) (G : gS) (M : mS) (s0 : Int32) (H : Heap) (locs : List Loc) (ls : Array Slot), a0 ∈ gL G → gK G a0 = 9 → a1 ∈ gL G → gK G a1 = 12 → ext G0 G → uL u b → nb_X10_holds_67 b a0 a1 post u G M s0 → cX p s m args meth c cX10_holds RX10 2 (some .boolean) wsX10_holds D cy G (pA G0 sz) → wd D cy G M (pA G0 sz) s.heap H locs → lv_has ls 2 [] → W p l e (rnX10_holds b) s m args below meth c H locs u.1 u.2 (MQ below (va_Qi (fun (r : Int32) (u : gS × mS) => post u.1 u.2 r) (fun u t => va_P D vwCl (pl cy u.1 u.2) t.heap ∧ va_D (pA G0 sz) (pl cy u.1 u.2) ∧ wt u.1 ∧ ext G0 u.1) (pA G0 sz)) args s b.1 b.2 (pA G0 sz)) (F0 m 67 ls [.int s0]) := by
  intro u G M s0 H locs ls hL0 hK0 hL1 hK1 hext hu h cx w hl
  unfold nb_X10_holds_67 at h
  obtain ⟨hx, hb, hml, hown, hts, hr, hlocks, hK, hA, hG, hsx⟩ := id cx
  have hR : (rnX10_holds b).cells = b.1 ∧ (rnX10_holds b).slots = b.2 := ⟨rfl, rfl⟩
  obtain ⟨z1, h⟩ := w_ck h
  exact rb_nret (z_nar z1) h cx w hext hu dX10_holds_67
set_option maxHeartbeats 4000000 in
set_option maxRecDepth 100000 in
theorem bn_X10_holds_47 {p : Program} {l : Launch} {e : Env} {s : State} {m : MethodId} {args : Array Value} {below : List Frame} {meth : Method} {c : Code} {D : va_G} {cy : cyS} {b : uS} {G0 : gS} {sz : Nat} (hnm : meth.name = yX10_holds.name)  {a0 : Nat} {a1 : Nat} {post : gS → mS → Int32 → Prop} : ∀ (u : uS) (G : gS) (M : mS) (s0 : Int32) (H : Heap) (locs : List Loc) (ls : Array Slot), a0 ∈ gL G → gK G a0 = 9 → a1 ∈ gL G → gK G a1 = 12 → ext G0 G → uL u b → nb_X10_holds_47 b a0 a1 post u G M s0 → cX p s m args meth c cX10_holds RX10 2 (some .boolean) wsX10_holds D cy G (pA G0 sz) → wd D cy G M (pA G0 sz) s.heap H locs → lv_has ls 2 [] → W p l e (rnX10_holds b) s m args below meth c H locs u.1 u.2 (MQ below (va_Qi (fun (r : Int32) (u : gS × mS) => post u.1 u.2 r) (fun u t => va_P D vwCl (pl cy u.1 u.2) t.heap ∧ va_D (pA G0 sz) (pl cy u.1 u.2) ∧ wt u.1 ∧ ext G0 u.1) (pA G0 sz)) args s b.1 b.2 (pA G0 sz)) (F0 m 47 ls [.int s0]) := by
  intro u G M s0 H locs ls hL0 hK0 hL1 hK1 hext hu h cx w hl
  unfold nb_X10_holds_47 at h
  obtain ⟨hx, hb, hml, hown, hts, hr, hlocks, hK, hA, hG, hsx⟩ := id cx
  have hR : (rnX10_holds b).cells = b.1 ∧ (rnX10_holds b).slots = b.2 := ⟨rfl, rfl⟩
  obtain ⟨z1, h⟩ := w_ck h
  exact rb_nret (z_nar z1) h cx w hext hu dX10_holds_47
set_option maxHeartbeats 4000000 in
set_option maxRecDepth 100000 in
theorem kn_X10_holds {l : Launch} {D : va_G} {cy : cyS} {G : gS} {M : mS} {b : uS} {a0 : Nat} {a1 : Nat} {post : gS → mS → Int32 → Prop} (hG : wt G) (hL0 : a0 ∈ gL G) (hK0 : gK G a0 = 9) (hL1 : a1 ∈ gL G) (hK1 : gK G a1 = 12) (h : n_X10_holds b G M a0 a1 post) : cbI l yX10_holds wsX10_holds (rnX10_holds b) D cy G M [.ref a0, .ref a1] b post := by
  unfold n_X10_holds at h
  refine cbI_of (cc := cX10_holds) (nL := 2) (ret := (some .boolean)) (lv := [(0, .ref a0), (1, .ref a1)]) hG (by decide) rfl (Nat.le_of_ble_eq_true rfl) rfl ?_
  intro p e s m args below meth c sz ls hnm cx w hl
  obtain ⟨hx, hb, hml, hown, hts, hr, hlocks, hK, hA, -, hsx⟩ := id cx
  have hext := ext_rf (G := G)
  have hu : uL (0, 0) b := ⟨Nat.zero_le _, Nat.zero_le _⟩
  have hR : (rnX10_holds b).cells = b.1 ∧ (rnX10_holds b).slots = b.2 := ⟨rfl, rfl⟩
  refine lv_aload_n hx hb dX10_holds_0 rfl (lv_at hl 1 rfl) ?_
  refine lv_iconst (v := (3 : Int32)) hx hb dX10_holds_1 (by decide) ?_
  obtain ⟨z1, h⟩ := w_ix h
  refine r_iald cx w hL1 hK1 z1 dX10_holds_2 ?_
  rcases Decidable.em ((mI M a1 (Int32.toNatClampNeg (3 : Int32))) = 0) with k2 | k2
  · have h := w_t h k2
    rw [k2]
    refine lv_tableIn (tgt := 32) hx hb dX10_holds_3 (by decide) (by decide) rfl (by decide) ?_
    refine lv_aload_n hx hb dX10_holds_32 rfl (lv_at hl 0 rfl) ?_
    refine rb_VI (b := b) (u := (0, 0)) (rf := 1) (rl := 26) (As := []) (rest := []) cx w hR hl.1 h (fun h => kn_X10_dark hG hL0 hK0 h) (fun v => cwV 0 hts gX10_holds_X10_dark rfl rfl rfl (by decide +kernel) ⟨(Nat.le_of_ble_eq_true rfl), (Nat.le_of_ble_eq_true rfl)⟩) hL0 hK0 (by decide) rfl rfl rfl (Nat.le_of_ble_eq_true rfl) dX10_holds_33 (fun u5 G3 M4 r6 H locs h hu xe cx w => ?_)
    obtain ⟨hL0, hK0⟩ := ext_wt xe hL0 hK0
    obtain ⟨hL1, hK1⟩ := ext_wt xe hL1 hK1
    have hext := ext_tr hext xe
    clear xe
    have hG := cX_wt cx
    refine lv_aload_n hx hb dX10_holds_36 rfl (lv_at hl 1 rfl) ?_
    refine lv_iconst (v := (4 : Int32)) hx hb dX10_holds_37 (by decide) ?_
    obtain ⟨z7, h⟩ := w_ix h
    refine r_iald cx w hL1 hK1 z7 dX10_holds_38 ?_
    refine lv_icmp_le (tgt := 46) hx hb dX10_holds_39 (by decide) (fun k8 => ?_) (fun k8 => ?_)
    · have h := w_t h k8
      refine lv_iconst (v := (0 : Int32)) hx hb dX10_holds_46 (by decide) ?_
      exact bn_X10_holds_47 hnm u5 G3 M4 ((0 : Int32)) H locs ls hL0 hK0 hL1 hK1 hext hu h cx w (lv_sub hl [] rfl)
    · have h := w_f h k8
      refine lv_iconst (v := (1 : Int32)) hx hb dX10_holds_42 (by decide) ?_
      refine lv_goto (tgt := 47) hx hb dX10_holds_43 (by decide) ?_
      exact bn_X10_holds_47 hnm u5 G3 M4 ((1 : Int32)) H locs ls hL0 hK0 hL1 hK1 hext hu h cx w (lv_sub hl [] rfl)
  · have h := w_f h k2
    rcases Decidable.em ((mI M a1 (Int32.toNatClampNeg (3 : Int32))) = 1) with k9 | k9
    · have h := w_t h k9
      rw [k9]
      refine lv_tableIn (tgt := 48) hx hb dX10_holds_3 (by decide) (by decide) rfl (by decide) ?_
      refine lv_aload_n hx hb dX10_holds_48 rfl (lv_at hl 0 rfl) ?_
      refine r_getI (k := 0) (v := .int (mI M a0 0)) cx w hL0 hK0 (by decide) rfl wb_X10_holds_X10 (by decide) rfl (List.mem_of_getElem? (i := 1) rfl) dX10_holds_49 ?_
      refine lv_aload_n hx hb dX10_holds_52 rfl (lv_at hl 1 rfl) ?_
      refine lv_iconst (v := (4 : Int32)) hx hb dX10_holds_53 (by decide) ?_
      obtain ⟨z10, h⟩ := w_ix h
      refine r_iald cx w hL1 hK1 z10 dX10_holds_54 ?_
      obtain ⟨z11, h⟩ := w_ck h
      refine lv_irem hx hb dX10_holds_55 z11 ?_
      refine lv_aload_n hx hb dX10_holds_56 rfl (lv_at hl 1 rfl) ?_
      refine lv_iconst (v := (5 : Int32)) hx hb dX10_holds_57 (by decide) ?_
      obtain ⟨z12, h⟩ := w_ix h
      refine r_iald cx w hL1 hK1 z12 dX10_holds_58 ?_
      refine lv_icmp_ne (tgt := 66) hx hb dX10_holds_59 (by decide) (fun k13 => ?_) (fun k13 => ?_)
      · have h := w_f h k13
        refine lv_iconst (v := (0 : Int32)) hx hb dX10_holds_66 (by decide) ?_
        exact bn_X10_holds_67 hnm (0, 0) G M ((0 : Int32)) s.heap [] ls hL0 hK0 hL1 hK1 hext hu h cx w (lv_sub hl [] rfl)
      · have h := w_t h k13
        refine lv_iconst (v := (1 : Int32)) hx hb dX10_holds_62 (by decide) ?_
        refine lv_goto (tgt := 67) hx hb dX10_holds_63 (by decide) ?_
        exact bn_X10_holds_67 hnm (0, 0) G M ((1 : Int32)) s.heap [] ls hL0 hK0 hL1 hK1 hext hu h cx w (lv_sub hl [] rfl)
    · have h := w_f h k9
      rcases Decidable.em ((mI M a1 (Int32.toNatClampNeg (3 : Int32))) = 2) with k14 | k14
      · have h := w_t h k14
        rw [k14]
        refine lv_tableIn (tgt := 68) hx hb dX10_holds_3 (by decide) (by decide) rfl (by decide) ?_
        refine lv_aload_n hx hb dX10_holds_68 rfl (lv_at hl 0 rfl) ?_
        obtain ⟨q15, eq15, h⟩ := w_rf h
        obtain ⟨hLq15, hKq15⟩ := wt_q hG hL0 hK0 eq15
        have hKq15 : gK G q15 = 15 := hKq15
        refine r_getR (k := 6) cx w hL0 hK0 (by decide) rfl wb_X10_holds_X10 (by decide) rfl eq15 (List.mem_of_getElem? (i := 2) rfl) dX10_holds_69 ?_
        refine lv_aload_n hx hb dX10_holds_72 rfl (lv_at hl 1 rfl) ?_
        refine lv_iconst (v := (4 : Int32)) hx hb dX10_holds_73 (by decide) ?_
        obtain ⟨z16, h⟩ := w_ix h
        refine r_iald cx w hL1 hK1 z16 dX10_holds_74 ?_
        obtain ⟨z17, h⟩ := w_ix h
        obtain ⟨q18, eq18, h⟩ := w_rf h
        obtain ⟨hLq18, hKq18⟩ := wt_q hG hLq15 hKq15 eq18
        have hKq18 : gK G q18 = 12 := hKq18
        refine r_aaldA cx w hLq15 hKq15 z17 eq18 dX10_holds_75 ?_
        refine lv_iconst (v := (1 : Int32)) hx hb dX10_holds_76 (by decide) ?_
        obtain ⟨z19, h⟩ := w_ix h
        refine r_iald cx w hLq18 hKq18 z19 dX10_holds_77 ?_
        refine lv_aload_n hx hb dX10_holds_78 rfl (lv_at hl 1 rfl) ?_
        refine lv_iconst (v := (5 : Int32)) hx hb dX10_holds_79 (by decide) ?_
        obtain ⟨z20, h⟩ := w_ix h
        refine r_iald cx w hL1 hK1 z20 dX10_holds_80 ?_
        refine lv_icmp_lt (tgt := 94) hx hb dX10_holds_81 (by decide) (fun k21 => ?_) (fun k21 => ?_)
        · have h := w_t h k21
          exact bn_X10_holds_94 hnm (0, 0) G M s.heap [] ls hL0 hK0 hL1 hK1 hext hu h cx w (lv_sub hl [] rfl)
        · have h := w_f h k21
          refine lv_aload_n hx hb dX10_holds_84 rfl (lv_at hl 0 rfl) ?_
          refine lv_aload_n hx hb dX10_holds_85 rfl (lv_at hl 1 rfl) ?_
          refine lv_iconst (v := (4 : Int32)) hx hb dX10_holds_86 (by decide) ?_
          obtain ⟨z22, h⟩ := w_ix h
          refine r_iald cx w hL1 hK1 z22 dX10_holds_87 ?_
          refine rb_VI (b := b) (u := (0, 0)) (rf := 1) (rl := 22) (As := [.int ((mI M a1 (Int32.toNatClampNeg (4 : Int32))))]) (rest := []) cx w hR hl.1 h (fun h => kn_X10_meets hG hL0 hK0 h) (fun v => cwV 1 hts gX10_holds_X10_meets rfl rfl rfl (by decide +kernel) ⟨(Nat.le_of_ble_eq_true rfl), (Nat.le_of_ble_eq_true rfl)⟩) hL0 hK0 (by decide) rfl rfl rfl (Nat.le_of_ble_eq_true rfl) dX10_holds_88 (fun u25 G23 M24 r26 H locs h hu xe cx w => ?_)
          obtain ⟨hL0, hK0⟩ := ext_wt xe hL0 hK0
          obtain ⟨hL1, hK1⟩ := ext_wt xe hL1 hK1
          have hext := ext_tr hext xe
          clear xe
          have hG := cX_wt cx
          refine lv_if_eq (tgt := 98) hx hb dX10_holds_91 (by decide) (fun k27 => ?_) (fun k27 => ?_)
          · have h := w_t h k27
            refine lv_iconst (v := (0 : Int32)) hx hb dX10_holds_98 (by decide) ?_
            exact bn_X10_holds_99 hnm u25 G23 M24 ((0 : Int32)) H locs ls hL0 hK0 hL1 hK1 hext hu h cx w (lv_sub hl [] rfl)
          · have h := w_f h k27
            exact bn_X10_holds_94 hnm u25 G23 M24 H locs ls hL0 hK0 hL1 hK1 hext hu h cx w (lv_sub hl [] rfl)
      · have h := w_f h k14
        rcases Decidable.em ((mI M a1 (Int32.toNatClampNeg (3 : Int32))) = 3) with k28 | k28
        · have h := w_t h k28
          rw [k28]
          refine lv_tableIn (tgt := 100) hx hb dX10_holds_3 (by decide) (by decide) rfl (by decide) ?_
          refine lv_aload_n hx hb dX10_holds_100 rfl (lv_at hl 0 rfl) ?_
          refine lv_aload_n hx hb dX10_holds_101 rfl (lv_at hl 1 rfl) ?_
          refine lv_iconst (v := (4 : Int32)) hx hb dX10_holds_102 (by decide) ?_
          obtain ⟨z29, h⟩ := w_ix h
          refine r_iald cx w hL1 hK1 z29 dX10_holds_103 ?_
          refine rb_VI (b := b) (u := (0, 0)) (rf := 1) (rl := 26) (As := [.int ((mI M a1 (Int32.toNatClampNeg (4 : Int32))))]) (rest := []) cx w hR hl.1 h (fun h => kn_X10_period hG hL0 hK0 h) (fun v => cwV 1 hts gX10_holds_X10_period rfl rfl rfl (by decide +kernel) ⟨(Nat.le_of_ble_eq_true rfl), (Nat.le_of_ble_eq_true rfl)⟩) hL0 hK0 (by decide) rfl rfl rfl (Nat.le_of_ble_eq_true rfl) dX10_holds_104 (fun u32 G30 M31 r33 H locs h hu xe cx w => ?_)
          obtain ⟨hL0, hK0⟩ := ext_wt xe hL0 hK0
          obtain ⟨hL1, hK1⟩ := ext_wt xe hL1 hK1
          have hext := ext_tr hext xe
          clear xe
          have hG := cX_wt cx
          refine lv_if_le (tgt := 128) hx hb dX10_holds_107 (by decide) (fun k34 => ?_) (fun k34 => ?_)
          · have h := w_t h k34
            exact bn_X10_holds_128 hnm u32 G30 M31 H locs ls hL0 hK0 hL1 hK1 hext hu h cx w (lv_sub hl [] rfl)
          · have h := w_f h k34
            refine lv_aload_n hx hb dX10_holds_110 rfl (lv_at hl 0 rfl) ?_
            obtain ⟨q35, eq35, h⟩ := w_rf h
            obtain ⟨hLq35, hKq35⟩ := wt_q hG hL0 hK0 eq35
            have hKq35 : gK G30 q35 = 15 := hKq35
            refine r_getR (k := 6) cx w hL0 hK0 (by decide) rfl wb_X10_holds_X10 (by decide) rfl eq35 (List.mem_of_getElem? (i := 2) rfl) dX10_holds_111 ?_
            refine lv_aload_n hx hb dX10_holds_114 rfl (lv_at hl 1 rfl) ?_
            refine lv_iconst (v := (4 : Int32)) hx hb dX10_holds_115 (by decide) ?_
            obtain ⟨z36, h⟩ := w_ix h
            refine r_iald cx w hL1 hK1 z36 dX10_holds_116 ?_
            obtain ⟨z37, h⟩ := w_ix h
            obtain ⟨q38, eq38, h⟩ := w_rf h
            obtain ⟨hLq38, hKq38⟩ := wt_q hG hLq35 hKq35 eq38
            have hKq38 : gK G30 q38 = 12 := hKq38
            refine r_aaldA cx w hLq35 hKq35 z37 eq38 dX10_holds_117 ?_
            refine lv_iconst (v := (4 : Int32)) hx hb dX10_holds_118 (by decide) ?_
            obtain ⟨z39, h⟩ := w_ix h
            refine r_iald cx w hLq38 hKq38 z39 dX10_holds_119 ?_
            refine lv_iconst (v := (1 : Int32)) hx hb dX10_holds_120 (by decide) ?_
            refine lv_icmp_ne (tgt := 128) hx hb dX10_holds_121 (by decide) (fun k40 => ?_) (fun k40 => ?_)
            · have h := w_f h k40
              exact bn_X10_holds_128 hnm u32 G30 M31 H locs ls hL0 hK0 hL1 hK1 hext hu h cx w (lv_sub hl [] rfl)
            · have h := w_t h k40
              refine lv_iconst (v := (1 : Int32)) hx hb dX10_holds_124 (by decide) ?_
              refine lv_goto (tgt := 129) hx hb dX10_holds_125 (by decide) ?_
              exact bn_X10_holds_129 hnm u32 G30 M31 ((1 : Int32)) H locs ls hL0 hK0 hL1 hK1 hext hu h cx w (lv_sub hl [] rfl)
        · have h := w_f h k28
          refine lv_tableOut (tgt := 130) hx hb dX10_holds_3 (by have nk2 : Int32.toInt (mI M a1 (Int32.toNatClampNeg (3 : Int32))) ≠ 0 := fun hh => k2 (Int32.toInt_inj.mp hh); have nk9 : Int32.toInt (mI M a1 (Int32.toNatClampNeg (3 : Int32))) ≠ 1 := fun hh => k9 (Int32.toInt_inj.mp hh); have nk14 : Int32.toInt (mI M a1 (Int32.toNatClampNeg (3 : Int32))) ≠ 2 := fun hh => k14 (Int32.toInt_inj.mp hh); have nk28 : Int32.toInt (mI M a1 (Int32.toNatClampNeg (3 : Int32))) ≠ 3 := fun hh => k28 (Int32.toInt_inj.mp hh); omega) (by decide) ?_
          refine lv_aload_n hx hb dX10_holds_130 rfl (lv_at hl 0 rfl) ?_
          refine lv_aload_n hx hb dX10_holds_131 rfl (lv_at hl 1 rfl) ?_
          refine lv_iconst (v := (4 : Int32)) hx hb dX10_holds_132 (by decide) ?_
          obtain ⟨z41, h⟩ := w_ix h
          refine r_iald cx w hL1 hK1 z41 dX10_holds_133 ?_
          refine rb_VI (b := b) (u := (0, 0)) (rf := 0) (rl := 0) (As := [.int ((mI M a1 (Int32.toNatClampNeg (4 : Int32))))]) (rest := []) cx w hR hl.1 h (fun h => kn_X10_darkIn hG hL0 hK0 h) (fun v => cwV 1 hts gX10_holds_X10_darkIn rfl rfl rfl (by decide +kernel) ⟨(Nat.le_of_ble_eq_true rfl), (Nat.le_of_ble_eq_true rfl)⟩) hL0 hK0 (by decide) rfl rfl rfl (Nat.le_of_ble_eq_true rfl) dX10_holds_134 (fun u44 G42 M43 r45 H locs h hu xe cx w => ?_)
          obtain ⟨hL0, hK0⟩ := ext_wt xe hL0 hK0
          obtain ⟨hL1, hK1⟩ := ext_wt xe hL1 hK1
          have hext := ext_tr hext xe
          clear xe
          have hG := cX_wt cx
          refine lv_aload_n hx hb dX10_holds_137 rfl (lv_at hl 0 rfl) ?_
          obtain ⟨q46, eq46, h⟩ := w_rf h
          obtain ⟨hLq46, hKq46⟩ := wt_q hG hL0 hK0 eq46
          have hKq46 : gK G42 q46 = 15 := hKq46
          refine r_getR (k := 6) cx w hL0 hK0 (by decide) rfl wb_X10_holds_X10 (by decide) rfl eq46 (List.mem_of_getElem? (i := 2) rfl) dX10_holds_138 ?_
          refine lv_aload_n hx hb dX10_holds_141 rfl (lv_at hl 1 rfl) ?_
          refine lv_iconst (v := (5 : Int32)) hx hb dX10_holds_142 (by decide) ?_
          obtain ⟨z47, h⟩ := w_ix h
          refine r_iald cx w hL1 hK1 z47 dX10_holds_143 ?_
          obtain ⟨z48, h⟩ := w_ix h
          obtain ⟨q49, eq49, h⟩ := w_rf h
          obtain ⟨hLq49, hKq49⟩ := wt_q hG hLq46 hKq46 eq49
          have hKq49 : gK G42 q49 = 12 := hKq49
          refine r_aaldA cx w hLq46 hKq46 z48 eq49 dX10_holds_144 ?_
          refine lv_iconst (v := (2 : Int32)) hx hb dX10_holds_145 (by decide) ?_
          obtain ⟨z50, h⟩ := w_ix h
          refine r_iald cx w hLq49 hKq49 z50 dX10_holds_146 ?_
          refine lv_bipush (v := (8 : Int32)) hx hb dX10_holds_147 (by decide) ?_
          obtain ⟨z51, h⟩ := w_ck h
          refine lv_idiv hx hb dX10_holds_149 z51 ?_
          refine lv_iadd hx hb dX10_holds_150 ?_
          refine lv_iconst (v := (5 : Int32)) hx hb dX10_holds_151 (by decide) ?_
          refine lv_icmp_lt (tgt := 159) hx hb dX10_holds_152 (by decide) (fun k52 => ?_) (fun k52 => ?_)
          · have h := w_t h k52
            refine lv_iconst (v := (0 : Int32)) hx hb dX10_holds_159 (by decide) ?_
            exact bn_X10_holds_160 hnm u44 G42 M43 ((0 : Int32)) H locs ls hL0 hK0 hL1 hK1 hext hu h cx w (lv_sub hl [] rfl)
          · have h := w_f h k52
            refine lv_iconst (v := (1 : Int32)) hx hb dX10_holds_155 (by decide) ?_
            refine lv_goto (tgt := 160) hx hb dX10_holds_156 (by decide) ?_
            exact bn_X10_holds_160 hnm u44 G42 M43 ((1 : Int32)) H locs ls hL0 hK0 hL1 hK1 hext hu h cx w (lv_sub hl [] rfl)
-- X10_does
theorem wb_X10_does_X10 : ∀ w ∈ wsX100, w ∈ wsX10_does := by decide +kernel
abbrev rnX10_does (b : uS) : Room := { frames := 2, cells := b.1, slots := b.2, locals := 50 }
def nb_X10_does_24 (b : uS) (a0 : Nat) (a1 : Nat) (post : gS → mS → Int32 → Prop) (u : uS) (G : gS) (M : mS) (s0 : Int32) : Prop := p_ck (s0 = 0 ∨ s0 = 1) (post G M s0)
def nb_X10_does_96 (b : uS) (a0 : Nat) (a1 : Nat) (post : gS → mS → Int32 → Prop) (u : uS) (G : gS) (M : mS) (v2 : Nat) (v3 : Int32) (s0 : Int32) : Prop := p_ix (4 : Int32) (gN G v2) (p_wI M v2 (Int32.toNatClampNeg (4 : Int32)) v3 (fun M2 => p_ck (s0 = 0 ∨ s0 = 1) (post G M2 s0)))
def nb_X10_does_83 (b : uS) (a0 : Nat) (a1 : Nat) (post : gS → mS → Int32 → Prop) (u : uS) (G : gS) (M : mS) (v2 : Nat) (s0 : Int32) : Prop := p_ix (4 : Int32) (gN G v2) (p_if ((mI M v2 (Int32.toNatClampNeg (4 : Int32))) = s0) (nb_X10_does_96 b a0 a1 post u G M v2 s0 ((0 : Int32))) (nb_X10_does_96 b a0 a1 post u G M v2 s0 ((1 : Int32))))
def n_X10_does (b : uS) (G : gS) (M : mS) (a0 : Nat) (a1 : Nat) (post : gS → mS → Int32 → Prop) : Prop := p_ix (0 : Int32) (gN G a1) (p_if ((mI M a1 (Int32.toNatClampNeg (0 : Int32))) = 0) (p_ix (1 : Int32) (gN G a1) (p_ix (2 : Int32) (gN G a1) (q_ca b (0, 0) (fun v => n_X10_wash v G M a0 (mI M a1 (Int32.toNatClampNeg (1 : Int32))) (mI M a1 (Int32.toNatClampNeg (2 : Int32)))) (fun u30 G28 M29 r31 => p_if (r31 ≤ 0) (nb_X10_does_24 b a0 a1 post u30 G28 M29 ((0 : Int32))) (nb_X10_does_24 b a0 a1 post u30 G28 M29 ((1 : Int32))))))) (p_rf (gP G a0 6) (fun q3 => p_ix (1 : Int32) (gN G a1) (p_ix (mI M a1 (Int32.toNatClampNeg (1 : Int32))) (gN G q3) (p_rf (gP G q3 (Int32.toNatClampNeg (mI M a1 (Int32.toNatClampNeg (1 : Int32))))) (fun q6 => p_ix (0 : Int32) (gN G a1) (p_if ((mI M a1 (Int32.toNatClampNeg (0 : Int32))) = (1 : Int32)) (p_ix (3 : Int32) (gN G q6) (p_ix (2 : Int32) (gN G a1) (p_if ((mI M q6 (Int32.toNatClampNeg (3 : Int32))) = (mI M a1 (Int32.toNatClampNeg (2 : Int32)))) (p_ck ((0 : Int32) = 0 ∨ (0 : Int32) = 1) (post G M (0 : Int32))) (p_ix (2 : Int32) (gN G a1) (p_ix (3 : Int32) (gN G q6) (p_wI M q6 (Int32.toNatClampNeg (3 : Int32)) (mI M a1 (Int32.toNatClampNeg (2 : Int32))) (fun M16 => p_rf (gP G a0 7) (fun q17 => p_ix (1 : Int32) (gN G a1) (q_na b (0, 0) G M16 12 (0 : Int32) (fun q19 u22 G20 M21 => p_ix (mI M16 a1 (Int32.toNatClampNeg (1 : Int32))) (gN G20 q17) (p_sR G20 q17 (Int32.toNatClampNeg (mI M16 a1 (Int32.toNatClampNeg (1 : Int32)))) q19 (fun G23 => p_ck ((1 : Int32) = 0 ∨ (1 : Int32) = 1) (post G23 M21 (1 : Int32)))))))))))))) (p_ix (0 : Int32) (gN G a1) (p_if ((mI M a1 (Int32.toNatClampNeg (0 : Int32))) = (3 : Int32)) (nb_X10_does_83 b a0 a1 post (0, 0) G M q6 ((1 : Int32))) (nb_X10_does_83 b a0 a1 post (0, 0) G M q6 ((0 : Int32))))))))))))
set_option maxHeartbeats 4000000 in
set_option maxRecDepth 100000 in
theorem bn_X10_does_24 {p : Program} {l : Launch} {e : Env} {s : State} {m : MethodId} {args : Array Value} {below : List Frame} {meth : Method} {c : Code} {D : va_G} {cy : cyS} {b : uS} {G0 : gS} {sz : Nat} (hnm : meth.name = yX10_does.name)  {a0 : Nat} {a1 : Nat} {post : gS → mS → Int32 → Prop} : ∀ (u : uS) (G : gS) (M : mS) (s0 : Int32) (H : Heap) (locs : List Loc) (ls : Array Slot), a0 ∈ gL G → gK G a0 = 9 → a1 ∈ gL G → gK G a1 = 12 → ext G0 G → uL u b → nb_X10_does_24 b a0 a1 post u G M s0 → cX p s m args meth c cX10_does RX10 5 (some .boolean) wsX10_does D cy G (pA G0 sz) → wd D cy G M (pA G0 sz) s.heap H locs → lv_has ls 5 [] → W p l e (rnX10_does b) s m args below meth c H locs u.1 u.2 (MQ below (va_Qi (fun (r : Int32) (u : gS × mS) => post u.1 u.2 r) (fun u t => va_P D vwCl (pl cy u.1 u.2) t.heap ∧ va_D (pA G0 sz) (pl cy u.1 u.2) ∧ wt u.1 ∧ ext G0 u.1) (pA G0 sz)) args s b.1 b.2 (pA G0 sz)) (F0 m 24 ls [.int s0]) := by
  intro u G M s0 H locs ls hL0 hK0 hL1 hK1 hext hu h cx w hl
  unfold nb_X10_does_24 at h
  obtain ⟨hx, hb, hml, hown, hts, hr, hlocks, hK, hA, hG, hsx⟩ := id cx
  have hR : (rnX10_does b).cells = b.1 ∧ (rnX10_does b).slots = b.2 := ⟨rfl, rfl⟩
  obtain ⟨z1, h⟩ := w_ck h
  exact rb_nret (z_nar z1) h cx w hext hu dX10_does_24
set_option maxHeartbeats 4000000 in
set_option maxRecDepth 100000 in
theorem bn_X10_does_96 {p : Program} {l : Launch} {e : Env} {s : State} {m : MethodId} {args : Array Value} {below : List Frame} {meth : Method} {c : Code} {D : va_G} {cy : cyS} {b : uS} {G0 : gS} {sz : Nat} (hnm : meth.name = yX10_does.name)  {a0 : Nat} {a1 : Nat} {post : gS → mS → Int32 → Prop} : ∀ (u : uS) (G : gS) (M : mS) (v2 : Nat) (v3 : Int32) (s0 : Int32) (H : Heap) (locs : List Loc) (ls : Array Slot), a0 ∈ gL G → gK G a0 = 9 → a1 ∈ gL G → gK G a1 = 12 → v2 ∈ gL G → gK G v2 = 12 → ext G0 G → uL u b → nb_X10_does_96 b a0 a1 post u G M v2 v3 s0 → cX p s m args meth c cX10_does RX10 5 (some .boolean) wsX10_does D cy G (pA G0 sz) → wd D cy G M (pA G0 sz) s.heap H locs → lv_has ls 5 [(2, .ref v2), (3, .int v3)] → W p l e (rnX10_does b) s m args below meth c H locs u.1 u.2 (MQ below (va_Qi (fun (r : Int32) (u : gS × mS) => post u.1 u.2 r) (fun u t => va_P D vwCl (pl cy u.1 u.2) t.heap ∧ va_D (pA G0 sz) (pl cy u.1 u.2) ∧ wt u.1 ∧ ext G0 u.1) (pA G0 sz)) args s b.1 b.2 (pA G0 sz)) (F0 m 96 ls [.int s0]) := by
  intro u G M v2 v3 s0 H locs ls hL0 hK0 hL1 hK1 v2L v2K hext hu h cx w hl
  unfold nb_X10_does_96 at h
  obtain ⟨hx, hb, hml, hown, hts, hr, hlocks, hK, hA, hG, hsx⟩ := id cx
  have hR : (rnX10_does b).cells = b.1 ∧ (rnX10_does b).slots = b.2 := ⟨rfl, rfl⟩
  refine lv_istore (lv' := [(4, .int s0), (2, .ref v2), (3, .int v3)]) hx hb dX10_does_96 hl (by decide) rfl (fun ls hl => ?_)
  refine lv_aload_n hx hb dX10_does_98 rfl (lv_at hl 1 rfl) ?_
  refine lv_iconst (v := (4 : Int32)) hx hb dX10_does_99 (by decide) ?_
  refine lv_iload_n hx hb dX10_does_100 rfl (lv_at hl 2 rfl) ?_
  obtain ⟨z1, h⟩ := w_ix h
  obtain ⟨M2, eM2, h⟩ := w_wI h
  refine r_iast cx w v2L v2K z1 dX10_does_101 eM2 (fun H locs w => ?_)
  refine lv_iload hx hb dX10_does_102 (lv_at hl 0 rfl) ?_
  obtain ⟨z3, h⟩ := w_ck h
  exact rb_nret (z_nar z3) h cx w hext hu dX10_does_104
set_option maxHeartbeats 4000000 in
set_option maxRecDepth 100000 in
theorem bn_X10_does_83 {p : Program} {l : Launch} {e : Env} {s : State} {m : MethodId} {args : Array Value} {below : List Frame} {meth : Method} {c : Code} {D : va_G} {cy : cyS} {b : uS} {G0 : gS} {sz : Nat} (hnm : meth.name = yX10_does.name)  {a0 : Nat} {a1 : Nat} {post : gS → mS → Int32 → Prop} : ∀ (u : uS) (G : gS) (M : mS) (v2 : Nat) (s0 : Int32) (H : Heap) (locs : List Loc) (ls : Array Slot), a0 ∈ gL G → gK G a0 = 9 → a1 ∈ gL G → gK G a1 = 12 → v2 ∈ gL G → gK G v2 = 12 → ext G0 G → uL u b → nb_X10_does_83 b a0 a1 post u G M v2 s0 → cX p s m args meth c cX10_does RX10 5 (some .boolean) wsX10_does D cy G (pA G0 sz) → wd D cy G M (pA G0 sz) s.heap H locs → lv_has ls 5 [(2, .ref v2)] → W p l e (rnX10_does b) s m args below meth c H locs u.1 u.2 (MQ below (va_Qi (fun (r : Int32) (u : gS × mS) => post u.1 u.2 r) (fun u t => va_P D vwCl (pl cy u.1 u.2) t.heap ∧ va_D (pA G0 sz) (pl cy u.1 u.2) ∧ wt u.1 ∧ ext G0 u.1) (pA G0 sz)) args s b.1 b.2 (pA G0 sz)) (F0 m 83 ls [.int s0]) := by
  intro u G M v2 s0 H locs ls hL0 hK0 hL1 hK1 v2L v2K hext hu h cx w hl
  unfold nb_X10_does_83 at h
  obtain ⟨hx, hb, hml, hown, hts, hr, hlocks, hK, hA, hG, hsx⟩ := id cx
  have hR : (rnX10_does b).cells = b.1 ∧ (rnX10_does b).slots = b.2 := ⟨rfl, rfl⟩
  refine lv_istore_n (lv' := [(3, .int s0), (2, .ref v2)]) hx hb dX10_does_83 rfl hl (by decide) rfl (fun ls hl => ?_)
  refine lv_aload_n hx hb dX10_does_84 rfl (lv_at hl 1 rfl) ?_
  refine lv_iconst (v := (4 : Int32)) hx hb dX10_does_85 (by decide) ?_
  obtain ⟨z1, h⟩ := w_ix h
  refine r_iald cx w v2L v2K z1 dX10_does_86 ?_
  refine lv_iload_n hx hb dX10_does_87 rfl (lv_at hl 0 rfl) ?_
  refine lv_icmp_eq (tgt := 95) hx hb dX10_does_88 (by decide) (fun k2 => ?_) (fun k2 => ?_)
  · have h := w_t h k2
    refine lv_iconst (v := (0 : Int32)) hx hb dX10_does_95 (by decide) ?_
    exact bn_X10_does_96 hnm u G M v2 s0 ((0 : Int32)) H locs ls hL0 hK0 hL1 hK1 v2L v2K hext hu h cx w (lv_sub hl [1, 0] rfl)
  · have h := w_f h k2
    refine lv_iconst (v := (1 : Int32)) hx hb dX10_does_91 (by decide) ?_
    refine lv_goto (tgt := 96) hx hb dX10_does_92 (by decide) ?_
    exact bn_X10_does_96 hnm u G M v2 s0 ((1 : Int32)) H locs ls hL0 hK0 hL1 hK1 v2L v2K hext hu h cx w (lv_sub hl [1, 0] rfl)
set_option maxHeartbeats 4000000 in
set_option maxRecDepth 100000 in
theorem kn_X10_does {l : Launch} {D : va_G} {cy : cyS} {G : gS} {M : mS} {b : uS} {a0 : Nat} {a1 : Nat} {post : gS → mS → Int32 → Prop} (hG : wt G) (hL0 : a0 ∈ gL G) (hK0 : gK G a0 = 9) (hL1 : a1 ∈ gL G) (hK1 : gK G a1 = 12) (h : n_X10_does b G M a0 a1 post) : cbI l yX10_does wsX10_does (rnX10_does b) D cy G M [.ref a0, .ref a1] b post := by
  unfold n_X10_does at h
  refine cbI_of (cc := cX10_does) (nL := 5) (ret := (some .boolean)) (lv := [(0, .ref a0), (1, .ref a1)]) hG (by decide) rfl (Nat.le_of_ble_eq_true rfl) rfl ?_
  intro p e s m args below meth c sz ls hnm cx w hl
  obtain ⟨hx, hb, hml, hown, hts, hr, hlocks, hK, hA, -, hsx⟩ := id cx
  have hext := ext_rf (G := G)
  have hu : uL (0, 0) b := ⟨Nat.zero_le _, Nat.zero_le _⟩
  have hR : (rnX10_does b).cells = b.1 ∧ (rnX10_does b).slots = b.2 := ⟨rfl, rfl⟩
  refine lv_aload_n hx hb dX10_does_0 rfl (lv_at hl 1 rfl) ?_
  refine lv_iconst (v := (0 : Int32)) hx hb dX10_does_1 (by decide) ?_
  obtain ⟨z1, h⟩ := w_ix h
  refine r_iald cx w hL1 hK1 z1 dX10_does_2 ?_
  refine lv_if_ne (tgt := 25) hx hb dX10_does_3 (by decide) (fun k2 => ?_) (fun k2 => ?_)
  · have h := w_f h k2
    refine lv_aload_n hx hb dX10_does_25 rfl (lv_at hl 0 rfl) ?_
    obtain ⟨q3, eq3, h⟩ := w_rf h
    obtain ⟨hLq3, hKq3⟩ := wt_q hG hL0 hK0 eq3
    have hKq3 : gK G q3 = 15 := hKq3
    refine r_getR (k := 6) cx w hL0 hK0 (by decide) rfl wb_X10_does_X10 (by decide) rfl eq3 (List.mem_of_getElem? (i := 1) rfl) dX10_does_26 ?_
    refine lv_aload_n hx hb dX10_does_29 rfl (lv_at hl 1 rfl) ?_
    refine lv_iconst (v := (1 : Int32)) hx hb dX10_does_30 (by decide) ?_
    obtain ⟨z4, h⟩ := w_ix h
    refine r_iald cx w hL1 hK1 z4 dX10_does_31 ?_
    obtain ⟨z5, h⟩ := w_ix h
    obtain ⟨q6, eq6, h⟩ := w_rf h
    obtain ⟨hLq6, hKq6⟩ := wt_q hG hLq3 hKq3 eq6
    have hKq6 : gK G q6 = 12 := hKq6
    refine r_aaldA cx w hLq3 hKq3 z5 eq6 dX10_does_32 ?_
    refine lv_astore_n (lv' := [(2, .ref q6), (0, .ref a0), (1, .ref a1)]) hx hb dX10_does_33 rfl hl (by decide) rfl (fun ls hl => ?_)
    refine lv_aload_n hx hb dX10_does_34 rfl (lv_at hl 2 rfl) ?_
    refine lv_iconst (v := (0 : Int32)) hx hb dX10_does_35 (by decide) ?_
    obtain ⟨z7, h⟩ := w_ix h
    refine r_iald cx w hL1 hK1 z7 dX10_does_36 ?_
    refine lv_iconst (v := (1 : Int32)) hx hb dX10_does_37 (by decide) ?_
    refine lv_icmp_ne (tgt := 71) hx hb dX10_does_38 (by decide) (fun k8 => ?_) (fun k8 => ?_)
    · have h := w_f h k8
      refine lv_aload_n hx hb dX10_does_71 rfl (lv_at hl 2 rfl) ?_
      refine lv_iconst (v := (0 : Int32)) hx hb dX10_does_72 (by decide) ?_
      obtain ⟨z9, h⟩ := w_ix h
      refine r_iald cx w hL1 hK1 z9 dX10_does_73 ?_
      refine lv_iconst (v := (3 : Int32)) hx hb dX10_does_74 (by decide) ?_
      refine lv_icmp_ne (tgt := 82) hx hb dX10_does_75 (by decide) (fun k10 => ?_) (fun k10 => ?_)
      · have h := w_f h k10
        refine lv_iconst (v := (0 : Int32)) hx hb dX10_does_82 (by decide) ?_
        exact bn_X10_does_83 hnm (0, 0) G M q6 ((0 : Int32)) s.heap [] ls hL0 hK0 hL1 hK1 hLq6 hKq6 hext hu h cx w (lv_sub hl [0] rfl)
      · have h := w_t h k10
        refine lv_iconst (v := (1 : Int32)) hx hb dX10_does_78 (by decide) ?_
        refine lv_goto (tgt := 83) hx hb dX10_does_79 (by decide) ?_
        exact bn_X10_does_83 hnm (0, 0) G M q6 ((1 : Int32)) s.heap [] ls hL0 hK0 hL1 hK1 hLq6 hKq6 hext hu h cx w (lv_sub hl [0] rfl)
    · have h := w_t h k8
      refine lv_aload_n hx hb dX10_does_41 rfl (lv_at hl 0 rfl) ?_
      refine lv_iconst (v := (3 : Int32)) hx hb dX10_does_42 (by decide) ?_
      obtain ⟨z11, h⟩ := w_ix h
      refine r_iald cx w hLq6 hKq6 z11 dX10_does_43 ?_
      refine lv_aload_n hx hb dX10_does_44 rfl (lv_at hl 2 rfl) ?_
      refine lv_iconst (v := (2 : Int32)) hx hb dX10_does_45 (by decide) ?_
      obtain ⟨z12, h⟩ := w_ix h
      refine r_iald cx w hL1 hK1 z12 dX10_does_46 ?_
      refine lv_icmp_ne (tgt := 52) hx hb dX10_does_47 (by decide) (fun k13 => ?_) (fun k13 => ?_)
      · have h := w_f h k13
        refine lv_aload_n hx hb dX10_does_52 rfl (lv_at hl 0 rfl) ?_
        refine lv_iconst (v := (3 : Int32)) hx hb dX10_does_53 (by decide) ?_
        refine lv_aload_n hx hb dX10_does_54 rfl (lv_at hl 2 rfl) ?_
        refine lv_iconst (v := (2 : Int32)) hx hb dX10_does_55 (by decide) ?_
        obtain ⟨z14, h⟩ := w_ix h
        refine r_iald cx w hL1 hK1 z14 dX10_does_56 ?_
        obtain ⟨z15, h⟩ := w_ix h
        obtain ⟨M16, eM16, h⟩ := w_wI h
        refine r_iast cx w hLq6 hKq6 z15 dX10_does_57 eM16 (fun H locs w => ?_)
        refine lv_aload_n hx hb dX10_does_58 rfl (lv_at hl 1 rfl) ?_
        obtain ⟨q17, eq17, h⟩ := w_rf h
        obtain ⟨hLq17, hKq17⟩ := wt_q hG hL0 hK0 eq17
        have hKq17 : gK G q17 = 15 := hKq17
        refine r_getR (k := 7) cx w hL0 hK0 (by decide) rfl wb_X10_does_X10 (by decide) rfl eq17 (List.mem_of_getElem? (i := 2) rfl) dX10_does_59 ?_
        refine lv_aload_n hx hb dX10_does_62 rfl (lv_at hl 2 rfl) ?_
        refine lv_iconst (v := (1 : Int32)) hx hb dX10_does_63 (by decide) ?_
        obtain ⟨z18, h⟩ := w_ix h
        refine r_iald cx w hL1 hK1 z18 dX10_does_64 ?_
        refine lv_iconst (v := (0 : Int32)) hx hb dX10_does_65 (by decide) ?_
        refine rb_newI (b := b) (u := (0, 0)) cx w hR (List.mem_of_getElem? (i := 3) rfl) h dX10_does_66 (fun q19 u22 G20 M21 H h hu xe hLq19 hKq19 cx w => ?_)
        obtain ⟨hL0, hK0⟩ := ext_wt xe hL0 hK0
        obtain ⟨hL1, hK1⟩ := ext_wt xe hL1 hK1
        obtain ⟨hLq6, hKq6⟩ := ext_wt xe hLq6 hKq6
        obtain ⟨hLq17, hKq17⟩ := ext_wt xe hLq17 hKq17
        have hext := ext_tr hext xe
        clear xe
        have hG := cX_wt cx
        refine rb_astA cx w hLq17 hKq17 hLq19 hKq19 h dX10_does_68 (fun G23 H locs h xe cx w => ?_)
        obtain ⟨hL0, hK0⟩ := ext_wt xe hL0 hK0
        obtain ⟨hL1, hK1⟩ := ext_wt xe hL1 hK1
        obtain ⟨hLq6, hKq6⟩ := ext_wt xe hLq6 hKq6
        have hext := ext_tr hext xe
        clear xe
        have hG := cX_wt cx
        refine lv_iconst (v := (1 : Int32)) hx hb dX10_does_69 (by decide) ?_
        obtain ⟨z24, h⟩ := w_ck h
        exact rb_nret (z_nar z24) h cx w hext hu dX10_does_70
      · have h := w_t h k13
        refine lv_iconst (v := (0 : Int32)) hx hb dX10_does_50 (by decide) ?_
        obtain ⟨z25, h⟩ := w_ck h
        exact rb_nret (z_nar z25) h cx w hext hu dX10_does_51
  · have h := w_t h k2
    refine lv_aload_n hx hb dX10_does_6 rfl (lv_at hl 0 rfl) ?_
    refine lv_aload_n hx hb dX10_does_7 rfl (lv_at hl 1 rfl) ?_
    refine lv_iconst (v := (1 : Int32)) hx hb dX10_does_8 (by decide) ?_
    obtain ⟨z26, h⟩ := w_ix h
    refine r_iald cx w hL1 hK1 z26 dX10_does_9 ?_
    refine lv_aload_n hx hb dX10_does_10 rfl (lv_at hl 1 rfl) ?_
    refine lv_iconst (v := (2 : Int32)) hx hb dX10_does_11 (by decide) ?_
    obtain ⟨z27, h⟩ := w_ix h
    refine r_iald cx w hL1 hK1 z27 dX10_does_12 ?_
    refine rb_VI (b := b) (u := (0, 0)) (rf := 1) (rl := 26) (As := [.int ((mI M a1 (Int32.toNatClampNeg (1 : Int32)))), .int ((mI M a1 (Int32.toNatClampNeg (2 : Int32))))]) (rest := []) cx w hR hl.1 h (fun h => kn_X10_wash hG hL0 hK0 h) (fun v => cwV 2 hts gX10_does_X10_wash rfl rfl rfl (by decide +kernel) ⟨(Nat.le_of_ble_eq_true rfl), (Nat.le_of_ble_eq_true rfl)⟩) hL0 hK0 (by decide) rfl rfl rfl (Nat.le_of_ble_eq_true rfl) dX10_does_13 (fun u30 G28 M29 r31 H locs h hu xe cx w => ?_)
    obtain ⟨hL0, hK0⟩ := ext_wt xe hL0 hK0
    obtain ⟨hL1, hK1⟩ := ext_wt xe hL1 hK1
    have hext := ext_tr hext xe
    clear xe
    have hG := cX_wt cx
    refine lv_if_le (tgt := 23) hx hb dX10_does_16 (by decide) (fun k32 => ?_) (fun k32 => ?_)
    · have h := w_t h k32
      refine lv_iconst (v := (0 : Int32)) hx hb dX10_does_23 (by decide) ?_
      exact bn_X10_does_24 hnm u30 G28 M29 ((0 : Int32)) H locs ls hL0 hK0 hL1 hK1 hext hu h cx w (lv_sub hl [] rfl)
    · have h := w_f h k32
      refine lv_iconst (v := (1 : Int32)) hx hb dX10_does_19 (by decide) ?_
      refine lv_goto (tgt := 24) hx hb dX10_does_20 (by decide) ?_
      exact bn_X10_does_24 hnm u30 G28 M29 ((1 : Int32)) H locs ls hL0 hK0 hL1 hK1 hext hu h cx w (lv_sub hl [] rfl)
-- X10_go
theorem wb_X10_go_X10 : ∀ w ∈ wsX100, w ∈ wsX10_go := by decide +kernel
abbrev rnX10_go (b : uS) : Room := { frames := 3, cells := b.1, slots := b.2, locals := 74 }
def nb_X10_go_48 (b : uS) (a0 : Nat) (kb10 : uS → gS → mS → Nat → Int32 → Int32 → Prop) (post : gS → mS → Unit → Prop) (u : uS) (G : gS) (M : mS) (v1 : Nat) (v2 : Int32) (v3 : Int32) : Prop := p_bd (v3 + 1 : Int32) (fun x1 => kb10 u G M v1 v2 x1)
def nb_X10_go_292 (b : uS) (a0 : Nat) (kb56 : uS → gS → mS → Int32 → Prop) (post : gS → mS → Unit → Prop) (u : uS) (G : gS) (M : mS) (v1 : Int32) : Prop := p_bd (v1 + 1 : Int32) (fun x1 => kb56 u G M x1)
def nb_X10_go_231 (b : uS) (a0 : Nat) (kb56 : uS → gS → mS → Int32 → Prop) (post : gS → mS → Unit → Prop) (u : uS) (G : gS) (M : mS) (v1 : Int32) (v2 : Nat) : Prop := p_ix (5 : Int32) (gN G v2) (p_ix (5 : Int32) (gN G v2) (p_wI M v2 (Int32.toNatClampNeg (5 : Int32)) ((mI M v2 (Int32.toNatClampNeg (5 : Int32))) + (1 : Int32)) (fun M3 => p_rf (gP G a0 7) (fun q4 => p_ix v1 (gN G q4) (p_rf (gP G q4 (Int32.toNatClampNeg v1)) (fun q6 => q_na b u G M3 12 ((Int32.ofNat (gN G q6)) + (1 : Int32)) (fun q7 u10 G8 M9 => p_rf (gP G8 a0 7) (fun q11 => p_ix v1 (gN G8 q11) (p_rf (gP G8 q11 (Int32.toNatClampNeg v1)) (fun q13 => p_rf (gP G8 a0 7) (fun q14 => p_ix v1 (gN G8 q14) (p_rf (gP G8 q14 (Int32.toNatClampNeg v1)) (fun q16 => p_ck (¬ (Int32.ofNat (gN G8 q16)) < 0 ∧ Int32.toNatClampNeg (Int32.ofNat (gN G8 q16)) ≤ gN G8 q13 ∧ Int32.toNatClampNeg (Int32.ofNat (gN G8 q16)) ≤ gN G8 q7) (p_wC M9 q7 (cpy0 (mI M9 q13) (mI M9 q7) (Int32.toNatClampNeg (Int32.ofNat (gN G8 q16)))) (fun M17 => p_rf (gP G8 a0 7) (fun q19 => p_ix v1 (gN G8 q19) (p_rf (gP G8 q19 (Int32.toNatClampNeg v1)) (fun q21 => p_ix (3 : Int32) (gN G8 v2) (p_ix (Int32.ofNat (gN G8 q21)) (gN G8 q7) (p_wI M17 q7 (Int32.toNatClampNeg (Int32.ofNat (gN G8 q21))) (mI M17 v2 (Int32.toNatClampNeg (3 : Int32))) (fun M24 => p_rf (gP G8 a0 7) (fun q25 => p_ix v1 (gN G8 q25) (p_sR G8 q25 (Int32.toNatClampNeg v1) q7 (fun G26 => nb_X10_go_292 b a0 kb56 post u10 G26 M24 v1))))))))))))))))))))))))
def nb_X10_go_200 (b : uS) (a0 : Nat) (kb56 : uS → gS → mS → Int32 → Prop) (post : gS → mS → Unit → Prop) (u : uS) (G : gS) (M : mS) (v1 : Int32) (v2 : Nat) (s0 : Nat) (s1 : Int32) (s2 : Int32) (s3 : Int32) : Prop := p_ck (¬ (64 : Int32) = 0) (p_ix s1 (gN G s0) (p_wI M s0 (Int32.toNatClampNeg s1) ((s2 + s3) - (s2 + s3) / (64 : Int32) * (64 : Int32)) (fun M3 => nb_X10_go_231 b a0 kb56 post u G M3 v1 v2)))
def nb_X10_go_226 (b : uS) (a0 : Nat) (kb56 : uS → gS → mS → Int32 → Prop) (post : gS → mS → Unit → Prop) (u : uS) (G : gS) (M : mS) (v1 : Int32) (v2 : Nat) (s0 : Nat) (s1 : Int32) (s2 : Int32) (s3 : Int32) : Prop := p_ck (¬ (64 : Int32) = 0) (p_ix s1 (gN G s0) (p_wI M s0 (Int32.toNatClampNeg s1) ((s2 + s3) - (s2 + s3) / (64 : Int32) * (64 : Int32)) (fun M3 => nb_X10_go_231 b a0 kb56 post u G M3 v1 v2)))
def nb_X10_go_174 (b : uS) (a0 : Nat) (kb56 : uS → gS → mS → Int32 → Prop) (post : gS → mS → Unit → Prop) (u : uS) (G : gS) (M : mS) (v1 : Int32) (v2 : Nat) (s0 : Nat) (s1 : Int32) (s2 : Int32) : Prop := p_ix s1 (gN G s0) (p_wI M s0 (Int32.toNatClampNeg s1) s2 (fun M2 => p_ix (3 : Int32) (gN G v2) (p_ck (¬ (2 : Int32) = 0) (p_if (((mI M2 v2 (Int32.toNatClampNeg (3 : Int32))) - (mI M2 v2 (Int32.toNatClampNeg (3 : Int32))) / (2 : Int32) * (2 : Int32)) = 0) (p_ix (2 : Int32) (gN G v2) (p_ix (3 : Int32) (gN G v2) (p_if ((mI M2 v2 (Int32.toNatClampNeg (3 : Int32))) = 0) (nb_X10_go_200 b a0 kb56 post u G M2 v1 v2 v2 ((2 : Int32)) ((mI M2 v2 (Int32.toNatClampNeg (2 : Int32)))) ((63 : Int32))) (nb_X10_go_200 b a0 kb56 post u G M2 v1 v2 v2 ((2 : Int32)) ((mI M2 v2 (Int32.toNatClampNeg (2 : Int32)))) ((1 : Int32)))))) (p_ix (1 : Int32) (gN G v2) (p_ix (3 : Int32) (gN G v2) (p_if ((mI M2 v2 (Int32.toNatClampNeg (3 : Int32))) = (1 : Int32)) (nb_X10_go_226 b a0 kb56 post u G M2 v1 v2 v2 ((1 : Int32)) ((mI M2 v2 (Int32.toNatClampNeg (1 : Int32)))) ((1 : Int32))) (nb_X10_go_226 b a0 kb56 post u G M2 v1 v2 v2 ((1 : Int32)) ((mI M2 v2 (Int32.toNatClampNeg (1 : Int32)))) ((63 : Int32))))))))))
def nb_X10_go_335 (b : uS) (a0 : Nat) (kb300 : uS → gS → mS → Int32 → Prop) (kb311 : uS → gS → mS → Int32 → Int32 → Prop) (post : gS → mS → Unit → Prop) (u : uS) (G : gS) (M : mS) (v1 : Int32) (v2 : Int32) (s1 : Int32) (s2 : Int32) : Prop := p_wI M a0 1 (s1 + s2) (fun M1 => p_bd (v2 + 1 : Int32) (fun x2 => kb311 u G M1 v1 x2))
def nb_X10_go_311 (b : uS) (a0 : Nat) (kb300 : uS → gS → mS → Int32 → Prop) (post : gS → mS → Unit → Prop) (back : uS → gS → mS → Int32 → Int32 → Prop) (u : uS) (G : gS) (M : mS) (v1 : Int32) (v2 : Int32) : Prop := p_if (v1 ≤ v2) (p_bd (v1 + 1 : Int32) (fun x2 => kb300 u G M x2)) (q_ca b u (fun v => n_X10_isAt v G M a0 v1 v2) (fun u5 G3 M4 r6 => p_if (r6 = 0) (nb_X10_go_335 b a0 kb300 back post u5 G3 M4 v1 v2 ((mI M a0 1)) ((0 : Int32))) (nb_X10_go_335 b a0 kb300 back post u5 G3 M4 v1 v2 ((mI M a0 1)) ((1 : Int32)))))
def nl_X10_go_311 (b : uS) (a0 : Nat) (kb300 : uS → gS → mS → Int32 → Prop) (post : gS → mS → Unit → Prop) (u : uS) (G : gS) (M : mS) (v1 : Int32) (v2 : Int32) : Prop := ∃ (I : Nat → uS → gS → mS → Int32 → Int32 → Prop) (n : Nat), I n u G M v1 v2 ∧ ∀ (n : Nat) (u : uS) (G : gS) (M : mS) (v1 : Int32) (v2 : Int32), I n u G M v1 v2 → nb_X10_go_311 b a0 kb300 post (fun u G M v1 v2 => ∃ k, k < n ∧ I k u G M v1 v2) u G M v1 v2
def nb_X10_go_300 (b : uS) (a0 : Nat) (post : gS → mS → Unit → Prop) (back : uS → gS → mS → Int32 → Prop) (u : uS) (G : gS) (M : mS) (v1 : Int32) : Prop := p_rf (gP G a0 6) (fun q1 => p_if ((Int32.ofNat (gN G q1)) ≤ v1) (p_wI M a0 0 ((mI M a0 0) + (1 : Int32)) (fun M3 => post G M3 ())) (nl_X10_go_311 b a0 back post u G M v1 ((0 : Int32))))
def nl_X10_go_300 (b : uS) (a0 : Nat) (post : gS → mS → Unit → Prop) (u : uS) (G : gS) (M : mS) (v1 : Int32) : Prop := ∃ (I : Nat → uS → gS → mS → Int32 → Prop) (n : Nat), I n u G M v1 ∧ ∀ (n : Nat) (u : uS) (G : gS) (M : mS) (v1 : Int32), I n u G M v1 → nb_X10_go_300 b a0 post (fun u G M v1 => ∃ k, k < n ∧ I k u G M v1) u G M v1
def nb_X10_go_56 (b : uS) (a0 : Nat) (post : gS → mS → Unit → Prop) (back : uS → gS → mS → Int32 → Prop) (u : uS) (G : gS) (M : mS) (v1 : Int32) : Prop := p_rf (gP G a0 6) (fun q1 => p_if ((Int32.ofNat (gN G q1)) ≤ v1) (nl_X10_go_300 b a0 post u G M ((0 : Int32))) (p_rf (gP G a0 6) (fun q3 => p_ix v1 (gN G q3) (p_rf (gP G q3 (Int32.toNatClampNeg v1)) (fun q5 => p_ix (4 : Int32) (gN G q5) (p_if ((mI M q5 (Int32.toNatClampNeg (4 : Int32))) = 0) (nb_X10_go_292 b a0 back post u G M v1) (p_rf (gP G a0 4) (fun q8 => p_ix (0 : Int32) (gN G q5) (p_ix (mI M q5 (Int32.toNatClampNeg (0 : Int32))) (gN G q8) (p_rf (gP G q8 (Int32.toNatClampNeg (mI M q5 (Int32.toNatClampNeg (0 : Int32))))) (fun q11 => p_rf (gP G a0 5) (fun q12 => p_ix (2 : Int32) (gN G q5) (p_ix (mI M q5 (Int32.toNatClampNeg (2 : Int32))) (gN G q12) (p_rf (gP G q12 (Int32.toNatClampNeg (mI M q5 (Int32.toNatClampNeg (2 : Int32))))) (fun q15 => p_ix (1 : Int32) (gN G q5) (p_ix (mI M q5 (Int32.toNatClampNeg (1 : Int32))) (gN G q15) (p_ck (¬ (Int32.ofNat (gN G q11)) = 0) (p_bd (((mI M q15 (Int32.toNatClampNeg (mI M q5 (Int32.toNatClampNeg (1 : Int32))))) - (mI M q15 (Int32.toNatClampNeg (mI M q5 (Int32.toNatClampNeg (1 : Int32))))) / (Int32.ofNat (gN G q11)) * (Int32.ofNat (gN G q11)))) (fun x19 => q_na b u G M 12 (4 : Int32) (fun q20 u23 G21 M22 => p_ix (0 : Int32) (gN G21 q20) (p_wI M22 q20 (Int32.toNatClampNeg (0 : Int32)) (-1 : Int32) (fun M25 => p_ix (1 : Int32) (gN G21 q20) (p_wI M25 q20 (Int32.toNatClampNeg (1 : Int32)) (1 : Int32) (fun M27 => p_ix (2 : Int32) (gN G21 q20) (p_wI M27 q20 (Int32.toNatClampNeg (2 : Int32)) (0 : Int32) (fun M29 => p_ix (3 : Int32) (gN G21 q20) (p_wI M29 q20 (Int32.toNatClampNeg (3 : Int32)) (2 : Int32) (fun M31 => p_ix (3 : Int32) (gN G21 q5) (p_ix x19 (gN G21 q11) (p_ix (mI M31 q11 (Int32.toNatClampNeg x19)) (gN G21 q20) (p_ck (¬ (4 : Int32) = 0) (p_ix (3 : Int32) (gN G21 q5) (p_wI M31 q5 (Int32.toNatClampNeg (3 : Int32)) ((((mI M31 q5 (Int32.toNatClampNeg (3 : Int32))) + (mI M31 q20 (Int32.toNatClampNeg (mI M31 q11 (Int32.toNatClampNeg x19))))) + (4 : Int32)) - (((mI M31 q5 (Int32.toNatClampNeg (3 : Int32))) + (mI M31 q20 (Int32.toNatClampNeg (mI M31 q11 (Int32.toNatClampNeg x19))))) + (4 : Int32)) / (4 : Int32) * (4 : Int32)) (fun M37 => p_rf (gP G21 a0 5) (fun q38 => p_ix (2 : Int32) (gN G21 q5) (p_ix (mI M37 q5 (Int32.toNatClampNeg (2 : Int32))) (gN G21 q38) (p_rf (gP G21 q38 (Int32.toNatClampNeg (mI M37 q5 (Int32.toNatClampNeg (2 : Int32))))) (fun q41 => p_ix (1 : Int32) (gN G21 q5) (p_if ((x19 + (1 : Int32)) = (Int32.ofNat (gN G21 q11))) (nb_X10_go_174 b a0 back post u23 G21 M37 v1 q5 q41 ((mI M37 q5 (Int32.toNatClampNeg (1 : Int32)))) ((0 : Int32))) (nb_X10_go_174 b a0 back post u23 G21 M37 v1 q5 q41 ((mI M37 q5 (Int32.toNatClampNeg (1 : Int32)))) ((x19 + (1 : Int32)))))))))))))))))))))))))))))))))))))))))))
def nl_X10_go_56 (b : uS) (a0 : Nat) (post : gS → mS → Unit → Prop) (u : uS) (G : gS) (M : mS) (v1 : Int32) : Prop := ∃ (I : Nat → uS → gS → mS → Int32 → Prop) (n : Nat), I n u G M v1 ∧ ∀ (n : Nat) (u : uS) (G : gS) (M : mS) (v1 : Int32), I n u G M v1 → nb_X10_go_56 b a0 post (fun u G M v1 => ∃ k, k < n ∧ I k u G M v1) u G M v1
def nb_X10_go_10 (b : uS) (a0 : Nat) (post : gS → mS → Unit → Prop) (back : uS → gS → mS → Nat → Int32 → Int32 → Prop) (u : uS) (G : gS) (M : mS) (v1 : Nat) (v2 : Int32) (v3 : Int32) : Prop := p_if (v2 ≤ v3) (nl_X10_go_56 b a0 post u G M ((0 : Int32))) (p_ix v3 (gN G v1) (p_rf (gP G v1 (Int32.toNatClampNeg v3)) (fun q3 => q_ca b u (fun v => n_X10_holds v G M a0 q3) (fun u6 G4 M5 r7 => p_if (r7 = 0) (nb_X10_go_48 b a0 back post u6 G4 M5 v1 v2 v3) (q_ca b u6 (fun v => n_X10_does v G4 M5 a0 q3) (fun u11 G9 M10 r12 => p_if (r12 = 0) (nb_X10_go_48 b a0 back post u11 G9 M10 v1 v2 v3) (p_wI M10 a0 3 ((mI M10 a0 3) + (1 : Int32)) (fun M14 => nb_X10_go_48 b a0 back post u11 G9 M14 v1 v2 v3))))))))
def nl_X10_go_10 (b : uS) (a0 : Nat) (post : gS → mS → Unit → Prop) (u : uS) (G : gS) (M : mS) (v1 : Nat) (v2 : Int32) (v3 : Int32) : Prop := ∃ (I : Nat → uS → gS → mS → Nat → Int32 → Int32 → Prop) (n : Nat), I n u G M v1 v2 v3 ∧ ∀ (n : Nat) (u : uS) (G : gS) (M : mS) (v1 : Nat) (v2 : Int32) (v3 : Int32), I n u G M v1 v2 v3 → nb_X10_go_10 b a0 post (fun u G M v1 v2 v3 => ∃ k, k < n ∧ I k u G M v1 v2 v3) u G M v1 v2 v3
def n_X10_go (b : uS) (G : gS) (M : mS) (a0 : Nat) (post : gS → mS → Unit → Prop) : Prop := p_rf (gP G a0 8) (fun q1 => p_bd ((Int32.ofNat (gN G q1))) (fun x2 => nl_X10_go_10 b a0 post (0, 0) G M q1 x2 ((0 : Int32))))
set_option maxHeartbeats 4000000 in
set_option maxRecDepth 100000 in
theorem bn_X10_go_48 {p : Program} {l : Launch} {e : Env} {s : State} {m : MethodId} {args : Array Value} {below : List Frame} {meth : Method} {c : Code} {D : va_G} {cy : cyS} {b : uS} {G0 : gS} {sz : Nat} (hnm : meth.name = yX10_go.name)  {a0 : Nat} {post : gS → mS → Unit → Prop} {kb10 : uS → gS → mS → Nat → Int32 → Int32 → Prop} (hkb10 : ∀ (u : uS) (G : gS) (M : mS) (v1 : Nat) (v2 : Int32) (v3 : Int32) (H : Heap) (locs : List Loc) (ls : Array Slot), a0 ∈ gL G → gK G a0 = 9 → v1 ∈ gL G → gK G v1 = 15 → ext G0 G → uL u b → kb10 u G M v1 v2 v3 → cX p s m args meth c cX10_go RX10 7 none wsX10_go D cy G (pA G0 sz) → wd D cy G M (pA G0 sz) s.heap H locs → lv_has ls 7 [(0, .ref a0), (1, .ref v1), (2, .int v2), (3, .int v3)] → W p l e (rnX10_go b) s m args below meth c H locs u.1 u.2 (MQ below (va_Qv (fun (u : gS × mS) => post u.1 u.2 ()) (fun u t => va_P D vwCl (pl cy u.1 u.2) t.heap ∧ va_D (pA G0 sz) (pl cy u.1 u.2) ∧ wt u.1 ∧ ext G0 u.1) (pA G0 sz)) args s b.1 b.2 (pA G0 sz)) (F0 m 10 ls [])) : ∀ (u : uS) (G : gS) (M : mS) (v1 : Nat) (v2 : Int32) (v3 : Int32) (H : Heap) (locs : List Loc) (ls : Array Slot), a0 ∈ gL G → gK G a0 = 9 → v1 ∈ gL G → gK G v1 = 15 → ext G0 G → uL u b → nb_X10_go_48 b a0 kb10 post u G M v1 v2 v3 → cX p s m args meth c cX10_go RX10 7 none wsX10_go D cy G (pA G0 sz) → wd D cy G M (pA G0 sz) s.heap H locs → lv_has ls 7 [(0, .ref a0), (1, .ref v1), (2, .int v2), (3, .int v3)] → W p l e (rnX10_go b) s m args below meth c H locs u.1 u.2 (MQ below (va_Qv (fun (u : gS × mS) => post u.1 u.2 ()) (fun u t => va_P D vwCl (pl cy u.1 u.2) t.heap ∧ va_D (pA G0 sz) (pl cy u.1 u.2) ∧ wt u.1 ∧ ext G0 u.1) (pA G0 sz)) args s b.1 b.2 (pA G0 sz)) (F0 m 48 ls []) := by
  intro u G M v1 v2 v3 H locs ls hL0 hK0 v1L v1K hext hu h cx w hl
  unfold nb_X10_go_48 at h
  obtain ⟨hx, hb, hml, hown, hts, hr, hlocks, hK, hA, hG, hsx⟩ := id cx
  have hR : (rnX10_go b).cells = b.1 ∧ (rnX10_go b).slots = b.2 := ⟨rfl, rfl⟩
  obtain ⟨x1, ex1, h⟩ := w_bd h
  refine lv_iinc (v := x1) (lv' := [(3, .int x1), (0, .ref a0), (1, .ref v1), (2, .int v2)]) hx hb dX10_go_48 hl (k := 3) rfl (by rw [ex1]; rfl) (by decide) rfl (fun ls hl => ?_)
  refine lv_goto (tgt := 10) hx hb dX10_go_51 (by decide) ?_
  exact hkb10 u G M v1 v2 x1 H locs ls hL0 hK0 v1L v1K hext hu h cx w (lv_sub hl [1, 2, 3, 0] rfl)
set_option maxHeartbeats 4000000 in
set_option maxRecDepth 100000 in
theorem bn_X10_go_292 {p : Program} {l : Launch} {e : Env} {s : State} {m : MethodId} {args : Array Value} {below : List Frame} {meth : Method} {c : Code} {D : va_G} {cy : cyS} {b : uS} {G0 : gS} {sz : Nat} (hnm : meth.name = yX10_go.name)  {a0 : Nat} {post : gS → mS → Unit → Prop} {kb56 : uS → gS → mS → Int32 → Prop} (hkb56 : ∀ (u : uS) (G : gS) (M : mS) (v1 : Int32) (H : Heap) (locs : List Loc) (ls : Array Slot), a0 ∈ gL G → gK G a0 = 9 → ext G0 G → uL u b → kb56 u G M v1 → cX p s m args meth c cX10_go RX10 7 none wsX10_go D cy G (pA G0 sz) → wd D cy G M (pA G0 sz) s.heap H locs → lv_has ls 7 [(0, .ref a0), (1, .int v1)] → W p l e (rnX10_go b) s m args below meth c H locs u.1 u.2 (MQ below (va_Qv (fun (u : gS × mS) => post u.1 u.2 ()) (fun u t => va_P D vwCl (pl cy u.1 u.2) t.heap ∧ va_D (pA G0 sz) (pl cy u.1 u.2) ∧ wt u.1 ∧ ext G0 u.1) (pA G0 sz)) args s b.1 b.2 (pA G0 sz)) (F0 m 56 ls [])) : ∀ (u : uS) (G : gS) (M : mS) (v1 : Int32) (H : Heap) (locs : List Loc) (ls : Array Slot), a0 ∈ gL G → gK G a0 = 9 → ext G0 G → uL u b → nb_X10_go_292 b a0 kb56 post u G M v1 → cX p s m args meth c cX10_go RX10 7 none wsX10_go D cy G (pA G0 sz) → wd D cy G M (pA G0 sz) s.heap H locs → lv_has ls 7 [(0, .ref a0), (1, .int v1)] → W p l e (rnX10_go b) s m args below meth c H locs u.1 u.2 (MQ below (va_Qv (fun (u : gS × mS) => post u.1 u.2 ()) (fun u t => va_P D vwCl (pl cy u.1 u.2) t.heap ∧ va_D (pA G0 sz) (pl cy u.1 u.2) ∧ wt u.1 ∧ ext G0 u.1) (pA G0 sz)) args s b.1 b.2 (pA G0 sz)) (F0 m 292 ls []) := by
  intro u G M v1 H locs ls hL0 hK0 hext hu h cx w hl
  unfold nb_X10_go_292 at h
  obtain ⟨hx, hb, hml, hown, hts, hr, hlocks, hK, hA, hG, hsx⟩ := id cx
  have hR : (rnX10_go b).cells = b.1 ∧ (rnX10_go b).slots = b.2 := ⟨rfl, rfl⟩
  obtain ⟨x1, ex1, h⟩ := w_bd h
  refine lv_iinc (v := x1) (lv' := [(1, .int x1), (0, .ref a0)]) hx hb dX10_go_292 hl (k := 1) rfl (by rw [ex1]; rfl) (by decide) rfl (fun ls hl => ?_)
  refine lv_goto (tgt := 56) hx hb dX10_go_295 (by decide) ?_
  exact hkb56 u G M x1 H locs ls hL0 hK0 hext hu h cx w (lv_sub hl [1, 0] rfl)
set_option maxHeartbeats 4000000 in
set_option maxRecDepth 100000 in
theorem bn_X10_go_231 {p : Program} {l : Launch} {e : Env} {s : State} {m : MethodId} {args : Array Value} {below : List Frame} {meth : Method} {c : Code} {D : va_G} {cy : cyS} {b : uS} {G0 : gS} {sz : Nat} (hnm : meth.name = yX10_go.name)  {a0 : Nat} {post : gS → mS → Unit → Prop} {kb56 : uS → gS → mS → Int32 → Prop} (hkb56 : ∀ (u : uS) (G : gS) (M : mS) (v1 : Int32) (H : Heap) (locs : List Loc) (ls : Array Slot), a0 ∈ gL G → gK G a0 = 9 → ext G0 G → uL u b → kb56 u G M v1 → cX p s m args meth c cX10_go RX10 7 none wsX10_go D cy G (pA G0 sz) → wd D cy G M (pA G0 sz) s.heap H locs → lv_has ls 7 [(0, .ref a0), (1, .int v1)] → W p l e (rnX10_go b) s m args below meth c H locs u.1 u.2 (MQ below (va_Qv (fun (u : gS × mS) => post u.1 u.2 ()) (fun u t => va_P D vwCl (pl cy u.1 u.2) t.heap ∧ va_D (pA G0 sz) (pl cy u.1 u.2) ∧ wt u.1 ∧ ext G0 u.1) (pA G0 sz)) args s b.1 b.2 (pA G0 sz)) (F0 m 56 ls [])) : ∀ (u : uS) (G : gS) (M : mS) (v1 : Int32) (v2 : Nat) (H : Heap) (locs : List Loc) (ls : Array Slot), a0 ∈ gL G → gK G a0 = 9 → v2 ∈ gL G → gK G v2 = 12 → ext G0 G → uL u b → nb_X10_go_231 b a0 kb56 post u G M v1 v2 → cX p s m args meth c cX10_go RX10 7 none wsX10_go D cy G (pA G0 sz) → wd D cy G M (pA G0 sz) s.heap H locs → lv_has ls 7 [(0, .ref a0), (1, .int v1), (2, .ref v2)] → W p l e (rnX10_go b) s m args below meth c H locs u.1 u.2 (MQ below (va_Qv (fun (u : gS × mS) => post u.1 u.2 ()) (fun u t => va_P D vwCl (pl cy u.1 u.2) t.heap ∧ va_D (pA G0 sz) (pl cy u.1 u.2) ∧ wt u.1 ∧ ext G0 u.1) (pA G0 sz)) args s b.1 b.2 (pA G0 sz)) (F0 m 231 ls []) := by
  intro u G M v1 v2 H locs ls hL0 hK0 v2L v2K hext hu h cx w hl
  unfold nb_X10_go_231 at h
  obtain ⟨hx, hb, hml, hown, hts, hr, hlocks, hK, hA, hG, hsx⟩ := id cx
  have hR : (rnX10_go b).cells = b.1 ∧ (rnX10_go b).slots = b.2 := ⟨rfl, rfl⟩
  refine lv_aload_n hx hb dX10_go_231 rfl (lv_at hl 2 rfl) ?_
  refine lv_iconst (v := (5 : Int32)) hx hb dX10_go_232 (by decide) ?_
  refine lv_dup2_11 hx hb dX10_go_233 rfl rfl ?_
  obtain ⟨z1, h⟩ := w_ix h
  refine r_iald cx w v2L v2K z1 dX10_go_234 ?_
  refine lv_iconst (v := (1 : Int32)) hx hb dX10_go_235 (by decide) ?_
  refine lv_iadd hx hb dX10_go_236 ?_
  obtain ⟨z2, h⟩ := w_ix h
  obtain ⟨M3, eM3, h⟩ := w_wI h
  refine r_iast cx w v2L v2K z2 dX10_go_237 eM3 (fun H locs w => ?_)
  refine lv_aload_n hx hb dX10_go_238 rfl (lv_at hl 0 rfl) ?_
  obtain ⟨q4, eq4, h⟩ := w_rf h
  obtain ⟨hLq4, hKq4⟩ := wt_q hG hL0 hK0 eq4
  have hKq4 : gK G q4 = 15 := hKq4
  refine r_getR (k := 7) cx w hL0 hK0 (by decide) rfl wb_X10_go_X10 (by decide) rfl eq4 (List.mem_of_getElem? (i := 7) rfl) dX10_go_239 ?_
  refine lv_iload_n hx hb dX10_go_242 rfl (lv_at hl 1 rfl) ?_
  obtain ⟨z5, h⟩ := w_ix h
  obtain ⟨q6, eq6, h⟩ := w_rf h
  obtain ⟨hLq6, hKq6⟩ := wt_q hG hLq4 hKq4 eq6
  have hKq6 : gK G q6 = 12 := hKq6
  refine r_aaldA cx w hLq4 hKq4 z5 eq6 dX10_go_243 ?_
  refine r_alen cx w hLq6 hKq6 (by decide) dX10_go_244 ?_
  refine lv_iconst (v := (1 : Int32)) hx hb dX10_go_245 (by decide) ?_
  refine lv_iadd hx hb dX10_go_246 ?_
  refine rb_newI (b := b) (u := u) cx w hR (List.mem_of_getElem? (i := 6) rfl) h dX10_go_247 (fun q7 u10 G8 M9 H h hu xe hLq7 hKq7 cx w => ?_)
  obtain ⟨hL0, hK0⟩ := ext_wt xe hL0 hK0
  obtain ⟨v2L, v2K⟩ := ext_wt xe v2L v2K
  have hext := ext_tr hext xe
  clear xe
  have hG := cX_wt cx
  refine lv_astore (lv' := [(6, .ref q7), (0, .ref a0), (1, .int v1), (2, .ref v2)]) hx hb dX10_go_249 hl (by decide) rfl (fun ls hl => ?_)
  refine lv_aload_n hx hb dX10_go_251 rfl (lv_at hl 1 rfl) ?_
  obtain ⟨q11, eq11, h⟩ := w_rf h
  obtain ⟨hLq11, hKq11⟩ := wt_q hG hL0 hK0 eq11
  have hKq11 : gK G8 q11 = 15 := hKq11
  refine r_getR (k := 7) cx w hL0 hK0 (by decide) rfl wb_X10_go_X10 (by decide) rfl eq11 (List.mem_of_getElem? (i := 7) rfl) dX10_go_252 ?_
  refine lv_iload_n hx hb dX10_go_255 rfl (lv_at hl 2 rfl) ?_
  obtain ⟨z12, h⟩ := w_ix h
  obtain ⟨q13, eq13, h⟩ := w_rf h
  obtain ⟨hLq13, hKq13⟩ := wt_q hG hLq11 hKq11 eq13
  have hKq13 : gK G8 q13 = 12 := hKq13
  refine r_aaldA cx w hLq11 hKq11 z12 eq13 dX10_go_256 ?_
  refine lv_iconst (v := (0 : Int32)) hx hb dX10_go_257 (by decide) ?_
  refine lv_aload hx hb dX10_go_258 (lv_at hl 0 rfl) ?_
  refine lv_iconst (v := (0 : Int32)) hx hb dX10_go_260 (by decide) ?_
  refine lv_aload_n hx hb dX10_go_261 rfl (lv_at hl 1 rfl) ?_
  obtain ⟨q14, eq14, h⟩ := w_rf h
  obtain ⟨hLq14, hKq14⟩ := wt_q hG hL0 hK0 eq14
  have hKq14 : gK G8 q14 = 15 := hKq14
  refine r_getR (k := 7) cx w hL0 hK0 (by decide) rfl wb_X10_go_X10 (by decide) rfl eq14 (List.mem_of_getElem? (i := 7) rfl) dX10_go_262 ?_
  refine lv_iload_n hx hb dX10_go_265 rfl (lv_at hl 2 rfl) ?_
  obtain ⟨z15, h⟩ := w_ix h
  obtain ⟨q16, eq16, h⟩ := w_rf h
  obtain ⟨hLq16, hKq16⟩ := wt_q hG hLq14 hKq14 eq16
  have hKq16 : gK G8 q16 = 12 := hKq16
  refine r_aaldA cx w hLq14 hKq14 z15 eq16 dX10_go_266 ?_
  refine r_alen cx w hLq16 hKq16 (by decide) dX10_go_267 ?_
  obtain ⟨z18, h⟩ := w_ck h
  obtain ⟨M17, eM17, h⟩ := w_wC h
  refine r_copy cx w (hml.trans hl.1.symm) (hts _ (List.mem_of_getElem? (i := 8) rfl)) (hts _ (List.mem_of_getElem? (i := 9) rfl)) (hts _ (List.mem_of_getElem? (i := 10) rfl)) (hts _ (List.mem_of_getElem? (i := 11) rfl)) hLq13 hKq13 hLq7 hKq7 z18 (Nat.le_of_ble_eq_true rfl) (Nat.le_of_ble_eq_true rfl) dX10_go_268 eM17 (fun H locs w => ?_)
  refine lv_aload hx hb dX10_go_271 (lv_at hl 0 rfl) ?_
  refine lv_aload_n hx hb dX10_go_273 rfl (lv_at hl 1 rfl) ?_
  obtain ⟨q19, eq19, h⟩ := w_rf h
  obtain ⟨hLq19, hKq19⟩ := wt_q hG hL0 hK0 eq19
  have hKq19 : gK G8 q19 = 15 := hKq19
  refine r_getR (k := 7) cx w hL0 hK0 (by decide) rfl wb_X10_go_X10 (by decide) rfl eq19 (List.mem_of_getElem? (i := 7) rfl) dX10_go_274 ?_
  refine lv_iload_n hx hb dX10_go_277 rfl (lv_at hl 2 rfl) ?_
  obtain ⟨z20, h⟩ := w_ix h
  obtain ⟨q21, eq21, h⟩ := w_rf h
  obtain ⟨hLq21, hKq21⟩ := wt_q hG hLq19 hKq19 eq21
  have hKq21 : gK G8 q21 = 12 := hKq21
  refine r_aaldA cx w hLq19 hKq19 z20 eq21 dX10_go_278 ?_
  refine r_alen cx w hLq21 hKq21 (by decide) dX10_go_279 ?_
  refine lv_aload_n hx hb dX10_go_280 rfl (lv_at hl 3 rfl) ?_
  refine lv_iconst (v := (3 : Int32)) hx hb dX10_go_281 (by decide) ?_
  obtain ⟨z22, h⟩ := w_ix h
  refine r_iald cx w v2L v2K z22 dX10_go_282 ?_
  obtain ⟨z23, h⟩ := w_ix h
  obtain ⟨M24, eM24, h⟩ := w_wI h
  refine r_iast cx w hLq7 hKq7 z23 dX10_go_283 eM24 (fun H locs w => ?_)
  refine lv_aload_n hx hb dX10_go_284 rfl (lv_at hl 1 rfl) ?_
  obtain ⟨q25, eq25, h⟩ := w_rf h
  obtain ⟨hLq25, hKq25⟩ := wt_q hG hL0 hK0 eq25
  have hKq25 : gK G8 q25 = 15 := hKq25
  refine r_getR (k := 7) cx w hL0 hK0 (by decide) rfl wb_X10_go_X10 (by decide) rfl eq25 (List.mem_of_getElem? (i := 7) rfl) dX10_go_285 ?_
  refine lv_iload_n hx hb dX10_go_288 rfl (lv_at hl 2 rfl) ?_
  refine lv_aload hx hb dX10_go_289 (lv_at hl 0 rfl) ?_
  refine rb_astA cx w hLq25 hKq25 hLq7 hKq7 h dX10_go_291 (fun G26 H locs h xe cx w => ?_)
  obtain ⟨hL0, hK0⟩ := ext_wt xe hL0 hK0
  obtain ⟨v2L, v2K⟩ := ext_wt xe v2L v2K
  obtain ⟨hLq7, hKq7⟩ := ext_wt xe hLq7 hKq7
  have hext := ext_tr hext xe
  clear xe
  have hG := cX_wt cx
  exact bn_X10_go_292 hnm (hkb56 := hkb56) u10 G26 M24 v1 H locs ls hL0 hK0 hext hu h cx w (lv_sub hl [1, 2] rfl)
set_option maxHeartbeats 4000000 in
set_option maxRecDepth 100000 in
theorem bn_X10_go_200 {p : Program} {l : Launch} {e : Env} {s : State} {m : MethodId} {args : Array Value} {below : List Frame} {meth : Method} {c : Code} {D : va_G} {cy : cyS} {b : uS} {G0 : gS} {sz : Nat} (hnm : meth.name = yX10_go.name)  {a0 : Nat} {post : gS → mS → Unit → Prop} {kb56 : uS → gS → mS → Int32 → Prop} (hkb56 : ∀ (u : uS) (G : gS) (M : mS) (v1 : Int32) (H : Heap) (locs : List Loc) (ls : Array Slot), a0 ∈ gL G → gK G a0 = 9 → ext G0 G → uL u b → kb56 u G M v1 → cX p s m args meth c cX10_go RX10 7 none wsX10_go D cy G (pA G0 sz) → wd D cy G M (pA G0 sz) s.heap H locs → lv_has ls 7 [(0, .ref a0), (1, .int v1)] → W p l e (rnX10_go b) s m args below meth c H locs u.1 u.2 (MQ below (va_Qv (fun (u : gS × mS) => post u.1 u.2 ()) (fun u t => va_P D vwCl (pl cy u.1 u.2) t.heap ∧ va_D (pA G0 sz) (pl cy u.1 u.2) ∧ wt u.1 ∧ ext G0 u.1) (pA G0 sz)) args s b.1 b.2 (pA G0 sz)) (F0 m 56 ls [])) : ∀ (u : uS) (G : gS) (M : mS) (v1 : Int32) (v2 : Nat) (s0 : Nat) (s1 : Int32) (s2 : Int32) (s3 : Int32) (H : Heap) (locs : List Loc) (ls : Array Slot), a0 ∈ gL G → gK G a0 = 9 → v2 ∈ gL G → gK G v2 = 12 → s0 ∈ gL G → gK G s0 = 12 → ext G0 G → uL u b → nb_X10_go_200 b a0 kb56 post u G M v1 v2 s0 s1 s2 s3 → cX p s m args meth c cX10_go RX10 7 none wsX10_go D cy G (pA G0 sz) → wd D cy G M (pA G0 sz) s.heap H locs → lv_has ls 7 [(0, .ref a0), (1, .int v1), (2, .ref v2)] → W p l e (rnX10_go b) s m args below meth c H locs u.1 u.2 (MQ below (va_Qv (fun (u : gS × mS) => post u.1 u.2 ()) (fun u t => va_P D vwCl (pl cy u.1 u.2) t.heap ∧ va_D (pA G0 sz) (pl cy u.1 u.2) ∧ wt u.1 ∧ ext G0 u.1) (pA G0 sz)) args s b.1 b.2 (pA G0 sz)) (F0 m 200 ls [.int s3, .int s2, .int s1, .ref s0]) := by
  intro u G M v1 v2 s0 s1 s2 s3 H locs ls hL0 hK0 v2L v2K s0L s0K hext hu h cx w hl
  unfold nb_X10_go_200 at h
  obtain ⟨hx, hb, hml, hown, hts, hr, hlocks, hK, hA, hG, hsx⟩ := id cx
  have hR : (rnX10_go b).cells = b.1 ∧ (rnX10_go b).slots = b.2 := ⟨rfl, rfl⟩
  refine lv_iadd hx hb dX10_go_200 ?_
  refine lv_bipush (v := (64 : Int32)) hx hb dX10_go_201 (by decide) ?_
  obtain ⟨z1, h⟩ := w_ck h
  refine lv_irem hx hb dX10_go_203 z1 ?_
  obtain ⟨z2, h⟩ := w_ix h
  obtain ⟨M3, eM3, h⟩ := w_wI h
  refine r_iast cx w s0L s0K z2 dX10_go_204 eM3 (fun H locs w => ?_)
  refine lv_goto (tgt := 231) hx hb dX10_go_205 (by decide) ?_
  exact bn_X10_go_231 hnm (hkb56 := hkb56) u G M3 v1 v2 H locs ls hL0 hK0 v2L v2K hext hu h cx w (lv_sub hl [0, 1, 2] rfl)
set_option maxHeartbeats 4000000 in
set_option maxRecDepth 100000 in
theorem bn_X10_go_226 {p : Program} {l : Launch} {e : Env} {s : State} {m : MethodId} {args : Array Value} {below : List Frame} {meth : Method} {c : Code} {D : va_G} {cy : cyS} {b : uS} {G0 : gS} {sz : Nat} (hnm : meth.name = yX10_go.name)  {a0 : Nat} {post : gS → mS → Unit → Prop} {kb56 : uS → gS → mS → Int32 → Prop} (hkb56 : ∀ (u : uS) (G : gS) (M : mS) (v1 : Int32) (H : Heap) (locs : List Loc) (ls : Array Slot), a0 ∈ gL G → gK G a0 = 9 → ext G0 G → uL u b → kb56 u G M v1 → cX p s m args meth c cX10_go RX10 7 none wsX10_go D cy G (pA G0 sz) → wd D cy G M (pA G0 sz) s.heap H locs → lv_has ls 7 [(0, .ref a0), (1, .int v1)] → W p l e (rnX10_go b) s m args below meth c H locs u.1 u.2 (MQ below (va_Qv (fun (u : gS × mS) => post u.1 u.2 ()) (fun u t => va_P D vwCl (pl cy u.1 u.2) t.heap ∧ va_D (pA G0 sz) (pl cy u.1 u.2) ∧ wt u.1 ∧ ext G0 u.1) (pA G0 sz)) args s b.1 b.2 (pA G0 sz)) (F0 m 56 ls [])) : ∀ (u : uS) (G : gS) (M : mS) (v1 : Int32) (v2 : Nat) (s0 : Nat) (s1 : Int32) (s2 : Int32) (s3 : Int32) (H : Heap) (locs : List Loc) (ls : Array Slot), a0 ∈ gL G → gK G a0 = 9 → v2 ∈ gL G → gK G v2 = 12 → s0 ∈ gL G → gK G s0 = 12 → ext G0 G → uL u b → nb_X10_go_226 b a0 kb56 post u G M v1 v2 s0 s1 s2 s3 → cX p s m args meth c cX10_go RX10 7 none wsX10_go D cy G (pA G0 sz) → wd D cy G M (pA G0 sz) s.heap H locs → lv_has ls 7 [(0, .ref a0), (1, .int v1), (2, .ref v2)] → W p l e (rnX10_go b) s m args below meth c H locs u.1 u.2 (MQ below (va_Qv (fun (u : gS × mS) => post u.1 u.2 ()) (fun u t => va_P D vwCl (pl cy u.1 u.2) t.heap ∧ va_D (pA G0 sz) (pl cy u.1 u.2) ∧ wt u.1 ∧ ext G0 u.1) (pA G0 sz)) args s b.1 b.2 (pA G0 sz)) (F0 m 226 ls [.int s3, .int s2, .int s1, .ref s0]) := by
  intro u G M v1 v2 s0 s1 s2 s3 H locs ls hL0 hK0 v2L v2K s0L s0K hext hu h cx w hl
  unfold nb_X10_go_226 at h
  obtain ⟨hx, hb, hml, hown, hts, hr, hlocks, hK, hA, hG, hsx⟩ := id cx
  have hR : (rnX10_go b).cells = b.1 ∧ (rnX10_go b).slots = b.2 := ⟨rfl, rfl⟩
  refine lv_iadd hx hb dX10_go_226 ?_
  refine lv_bipush (v := (64 : Int32)) hx hb dX10_go_227 (by decide) ?_
  obtain ⟨z1, h⟩ := w_ck h
  refine lv_irem hx hb dX10_go_229 z1 ?_
  obtain ⟨z2, h⟩ := w_ix h
  obtain ⟨M3, eM3, h⟩ := w_wI h
  refine r_iast cx w s0L s0K z2 dX10_go_230 eM3 (fun H locs w => ?_)
  exact bn_X10_go_231 hnm (hkb56 := hkb56) u G M3 v1 v2 H locs ls hL0 hK0 v2L v2K hext hu h cx w (lv_sub hl [0, 1, 2] rfl)
set_option maxHeartbeats 4000000 in
set_option maxRecDepth 100000 in
theorem bn_X10_go_174 {p : Program} {l : Launch} {e : Env} {s : State} {m : MethodId} {args : Array Value} {below : List Frame} {meth : Method} {c : Code} {D : va_G} {cy : cyS} {b : uS} {G0 : gS} {sz : Nat} (hnm : meth.name = yX10_go.name)  {a0 : Nat} {post : gS → mS → Unit → Prop} {kb56 : uS → gS → mS → Int32 → Prop} (hkb56 : ∀ (u : uS) (G : gS) (M : mS) (v1 : Int32) (H : Heap) (locs : List Loc) (ls : Array Slot), a0 ∈ gL G → gK G a0 = 9 → ext G0 G → uL u b → kb56 u G M v1 → cX p s m args meth c cX10_go RX10 7 none wsX10_go D cy G (pA G0 sz) → wd D cy G M (pA G0 sz) s.heap H locs → lv_has ls 7 [(0, .ref a0), (1, .int v1)] → W p l e (rnX10_go b) s m args below meth c H locs u.1 u.2 (MQ below (va_Qv (fun (u : gS × mS) => post u.1 u.2 ()) (fun u t => va_P D vwCl (pl cy u.1 u.2) t.heap ∧ va_D (pA G0 sz) (pl cy u.1 u.2) ∧ wt u.1 ∧ ext G0 u.1) (pA G0 sz)) args s b.1 b.2 (pA G0 sz)) (F0 m 56 ls [])) : ∀ (u : uS) (G : gS) (M : mS) (v1 : Int32) (v2 : Nat) (s0 : Nat) (s1 : Int32) (s2 : Int32) (H : Heap) (locs : List Loc) (ls : Array Slot), a0 ∈ gL G → gK G a0 = 9 → v2 ∈ gL G → gK G v2 = 12 → s0 ∈ gL G → gK G s0 = 12 → ext G0 G → uL u b → nb_X10_go_174 b a0 kb56 post u G M v1 v2 s0 s1 s2 → cX p s m args meth c cX10_go RX10 7 none wsX10_go D cy G (pA G0 sz) → wd D cy G M (pA G0 sz) s.heap H locs → lv_has ls 7 [(0, .ref a0), (1, .int v1), (2, .ref v2)] → W p l e (rnX10_go b) s m args below meth c H locs u.1 u.2 (MQ below (va_Qv (fun (u : gS × mS) => post u.1 u.2 ()) (fun u t => va_P D vwCl (pl cy u.1 u.2) t.heap ∧ va_D (pA G0 sz) (pl cy u.1 u.2) ∧ wt u.1 ∧ ext G0 u.1) (pA G0 sz)) args s b.1 b.2 (pA G0 sz)) (F0 m 174 ls [.int s2, .int s1, .ref s0]) := by
  intro u G M v1 v2 s0 s1 s2 H locs ls hL0 hK0 v2L v2K s0L s0K hext hu h cx w hl
  unfold nb_X10_go_174 at h
  obtain ⟨hx, hb, hml, hown, hts, hr, hlocks, hK, hA, hG, hsx⟩ := id cx
  have hR : (rnX10_go b).cells = b.1 ∧ (rnX10_go b).slots = b.2 := ⟨rfl, rfl⟩
  obtain ⟨z1, h⟩ := w_ix h
  obtain ⟨M2, eM2, h⟩ := w_wI h
  refine r_iast cx w s0L s0K z1 dX10_go_174 eM2 (fun H locs w => ?_)
  refine lv_aload_n hx hb dX10_go_175 rfl (lv_at hl 2 rfl) ?_
  refine lv_iconst (v := (3 : Int32)) hx hb dX10_go_176 (by decide) ?_
  obtain ⟨z3, h⟩ := w_ix h
  refine r_iald cx w v2L v2K z3 dX10_go_177 ?_
  refine lv_iconst (v := (2 : Int32)) hx hb dX10_go_178 (by decide) ?_
  obtain ⟨z4, h⟩ := w_ck h
  refine lv_irem hx hb dX10_go_179 z4 ?_
  refine lv_if_ne (tgt := 208) hx hb dX10_go_180 (by decide) (fun k5 => ?_) (fun k5 => ?_)
  · have h := w_f h k5
    refine lv_aload_n hx hb dX10_go_208 rfl (lv_at hl 2 rfl) ?_
    refine lv_iconst (v := (1 : Int32)) hx hb dX10_go_209 (by decide) ?_
    refine lv_aload_n hx hb dX10_go_210 rfl (lv_at hl 2 rfl) ?_
    refine lv_iconst (v := (1 : Int32)) hx hb dX10_go_211 (by decide) ?_
    obtain ⟨z6, h⟩ := w_ix h
    refine r_iald cx w v2L v2K z6 dX10_go_212 ?_
    refine lv_aload_n hx hb dX10_go_213 rfl (lv_at hl 2 rfl) ?_
    refine lv_iconst (v := (3 : Int32)) hx hb dX10_go_214 (by decide) ?_
    obtain ⟨z7, h⟩ := w_ix h
    refine r_iald cx w v2L v2K z7 dX10_go_215 ?_
    refine lv_iconst (v := (1 : Int32)) hx hb dX10_go_216 (by decide) ?_
    refine lv_icmp_ne (tgt := 224) hx hb dX10_go_217 (by decide) (fun k8 => ?_) (fun k8 => ?_)
    · have h := w_f h k8
      refine lv_bipush (v := (63 : Int32)) hx hb dX10_go_224 (by decide) ?_
      exact bn_X10_go_226 hnm (hkb56 := hkb56) u G M2 v1 v2 v2 ((1 : Int32)) ((mI M2 v2 (Int32.toNatClampNeg (1 : Int32)))) ((63 : Int32)) H locs ls hL0 hK0 v2L v2K v2L v2K hext hu h cx w (lv_sub hl [0, 1, 2] rfl)
    · have h := w_t h k8
      refine lv_iconst (v := (1 : Int32)) hx hb dX10_go_220 (by decide) ?_
      refine lv_goto (tgt := 226) hx hb dX10_go_221 (by decide) ?_
      exact bn_X10_go_226 hnm (hkb56 := hkb56) u G M2 v1 v2 v2 ((1 : Int32)) ((mI M2 v2 (Int32.toNatClampNeg (1 : Int32)))) ((1 : Int32)) H locs ls hL0 hK0 v2L v2K v2L v2K hext hu h cx w (lv_sub hl [0, 1, 2] rfl)
  · have h := w_t h k5
    refine lv_aload_n hx hb dX10_go_183 rfl (lv_at hl 2 rfl) ?_
    refine lv_iconst (v := (2 : Int32)) hx hb dX10_go_184 (by decide) ?_
    refine lv_aload_n hx hb dX10_go_185 rfl (lv_at hl 2 rfl) ?_
    refine lv_iconst (v := (2 : Int32)) hx hb dX10_go_186 (by decide) ?_
    obtain ⟨z9, h⟩ := w_ix h
    refine r_iald cx w v2L v2K z9 dX10_go_187 ?_
    refine lv_aload_n hx hb dX10_go_188 rfl (lv_at hl 2 rfl) ?_
    refine lv_iconst (v := (3 : Int32)) hx hb dX10_go_189 (by decide) ?_
    obtain ⟨z10, h⟩ := w_ix h
    refine r_iald cx w v2L v2K z10 dX10_go_190 ?_
    refine lv_if_ne (tgt := 199) hx hb dX10_go_191 (by decide) (fun k11 => ?_) (fun k11 => ?_)
    · have h := w_f h k11
      refine lv_iconst (v := (1 : Int32)) hx hb dX10_go_199 (by decide) ?_
      exact bn_X10_go_200 hnm (hkb56 := hkb56) u G M2 v1 v2 v2 ((2 : Int32)) ((mI M2 v2 (Int32.toNatClampNeg (2 : Int32)))) ((1 : Int32)) H locs ls hL0 hK0 v2L v2K v2L v2K hext hu h cx w (lv_sub hl [0, 1, 2] rfl)
    · have h := w_t h k11
      refine lv_bipush (v := (63 : Int32)) hx hb dX10_go_194 (by decide) ?_
      refine lv_goto (tgt := 200) hx hb dX10_go_196 (by decide) ?_
      exact bn_X10_go_200 hnm (hkb56 := hkb56) u G M2 v1 v2 v2 ((2 : Int32)) ((mI M2 v2 (Int32.toNatClampNeg (2 : Int32)))) ((63 : Int32)) H locs ls hL0 hK0 v2L v2K v2L v2K hext hu h cx w (lv_sub hl [0, 1, 2] rfl)
set_option maxHeartbeats 4000000 in
set_option maxRecDepth 100000 in
theorem bn_X10_go_335 {p : Program} {l : Launch} {e : Env} {s : State} {m : MethodId} {args : Array Value} {below : List Frame} {meth : Method} {c : Code} {D : va_G} {cy : cyS} {b : uS} {G0 : gS} {sz : Nat} (hnm : meth.name = yX10_go.name)  {a0 : Nat} {post : gS → mS → Unit → Prop} {kb300 : uS → gS → mS → Int32 → Prop} (hkb300 : ∀ (u : uS) (G : gS) (M : mS) (v1 : Int32) (H : Heap) (locs : List Loc) (ls : Array Slot), a0 ∈ gL G → gK G a0 = 9 → ext G0 G → uL u b → kb300 u G M v1 → cX p s m args meth c cX10_go RX10 7 none wsX10_go D cy G (pA G0 sz) → wd D cy G M (pA G0 sz) s.heap H locs → lv_has ls 7 [(0, .ref a0), (1, .int v1)] → W p l e (rnX10_go b) s m args below meth c H locs u.1 u.2 (MQ below (va_Qv (fun (u : gS × mS) => post u.1 u.2 ()) (fun u t => va_P D vwCl (pl cy u.1 u.2) t.heap ∧ va_D (pA G0 sz) (pl cy u.1 u.2) ∧ wt u.1 ∧ ext G0 u.1) (pA G0 sz)) args s b.1 b.2 (pA G0 sz)) (F0 m 300 ls [])) {kb311 : uS → gS → mS → Int32 → Int32 → Prop} (hkb311 : ∀ (u : uS) (G : gS) (M : mS) (v1 : Int32) (v2 : Int32) (H : Heap) (locs : List Loc) (ls : Array Slot), a0 ∈ gL G → gK G a0 = 9 → ext G0 G → uL u b → kb311 u G M v1 v2 → cX p s m args meth c cX10_go RX10 7 none wsX10_go D cy G (pA G0 sz) → wd D cy G M (pA G0 sz) s.heap H locs → lv_has ls 7 [(0, .ref a0), (1, .int v1), (2, .int v2)] → W p l e (rnX10_go b) s m args below meth c H locs u.1 u.2 (MQ below (va_Qv (fun (u : gS × mS) => post u.1 u.2 ()) (fun u t => va_P D vwCl (pl cy u.1 u.2) t.heap ∧ va_D (pA G0 sz) (pl cy u.1 u.2) ∧ wt u.1 ∧ ext G0 u.1) (pA G0 sz)) args s b.1 b.2 (pA G0 sz)) (F0 m 311 ls [])) : ∀ (u : uS) (G : gS) (M : mS) (v1 : Int32) (v2 : Int32) (s1 : Int32) (s2 : Int32) (H : Heap) (locs : List Loc) (ls : Array Slot), a0 ∈ gL G → gK G a0 = 9 → ext G0 G → uL u b → nb_X10_go_335 b a0 kb300 kb311 post u G M v1 v2 s1 s2 → cX p s m args meth c cX10_go RX10 7 none wsX10_go D cy G (pA G0 sz) → wd D cy G M (pA G0 sz) s.heap H locs → lv_has ls 7 [(0, .ref a0), (1, .int v1), (2, .int v2)] → W p l e (rnX10_go b) s m args below meth c H locs u.1 u.2 (MQ below (va_Qv (fun (u : gS × mS) => post u.1 u.2 ()) (fun u t => va_P D vwCl (pl cy u.1 u.2) t.heap ∧ va_D (pA G0 sz) (pl cy u.1 u.2) ∧ wt u.1 ∧ ext G0 u.1) (pA G0 sz)) args s b.1 b.2 (pA G0 sz)) (F0 m 335 ls [.int s2, .int s1, .ref a0]) := by
  intro u G M v1 v2 s1 s2 H locs ls hL0 hK0 hext hu h cx w hl
  unfold nb_X10_go_335 at h
  obtain ⟨hx, hb, hml, hown, hts, hr, hlocks, hK, hA, hG, hsx⟩ := id cx
  have hR : (rnX10_go b).cells = b.1 ∧ (rnX10_go b).slots = b.2 := ⟨rfl, rfl⟩
  refine lv_iadd hx hb dX10_go_335 ?_
  obtain ⟨M1, eM1, h⟩ := w_wI h
  refine r_putI (k := 1) (ty := .int) cx w tyX10 tyX10_ok nmX10 hL0 hK0 (by decide) rfl wb_X10_go_X10 (by decide) rfl rfl rfl rfl st_9_1 (ln_9 _ _ (by decide)) (List.mem_of_getElem? (i := 12) rfl) dX10_go_336 eM1 (fun H locs w => ?_)
  obtain ⟨x2, ex2, h⟩ := w_bd h
  refine lv_iinc (v := x2) (lv' := [(2, .int x2), (0, .ref a0), (1, .int v1)]) hx hb dX10_go_339 hl (k := 2) rfl (by rw [ex2]; rfl) (by decide) rfl (fun ls hl => ?_)
  refine lv_goto (tgt := 311) hx hb dX10_go_342 (by decide) ?_
  exact hkb311 u G M1 v1 x2 H locs ls hL0 hK0 hext hu h cx w (lv_sub hl [1, 2, 0] rfl)
set_option maxHeartbeats 4000000 in
set_option maxRecDepth 100000 in
theorem bn_X10_go_311 {p : Program} {l : Launch} {e : Env} {s : State} {m : MethodId} {args : Array Value} {below : List Frame} {meth : Method} {c : Code} {D : va_G} {cy : cyS} {b : uS} {G0 : gS} {sz : Nat} (hnm : meth.name = yX10_go.name)  {a0 : Nat} {post : gS → mS → Unit → Prop} {kb300 : uS → gS → mS → Int32 → Prop} (hkb300 : ∀ (u : uS) (G : gS) (M : mS) (v1 : Int32) (H : Heap) (locs : List Loc) (ls : Array Slot), a0 ∈ gL G → gK G a0 = 9 → ext G0 G → uL u b → kb300 u G M v1 → cX p s m args meth c cX10_go RX10 7 none wsX10_go D cy G (pA G0 sz) → wd D cy G M (pA G0 sz) s.heap H locs → lv_has ls 7 [(0, .ref a0), (1, .int v1)] → W p l e (rnX10_go b) s m args below meth c H locs u.1 u.2 (MQ below (va_Qv (fun (u : gS × mS) => post u.1 u.2 ()) (fun u t => va_P D vwCl (pl cy u.1 u.2) t.heap ∧ va_D (pA G0 sz) (pl cy u.1 u.2) ∧ wt u.1 ∧ ext G0 u.1) (pA G0 sz)) args s b.1 b.2 (pA G0 sz)) (F0 m 300 ls [])) : ∀ (u : uS) (G : gS) (M : mS) (v1 : Int32) (v2 : Int32) (H : Heap) (locs : List Loc) (ls : Array Slot), a0 ∈ gL G → gK G a0 = 9 → ext G0 G → uL u b → nl_X10_go_311 b a0 kb300 post u G M v1 v2 → cX p s m args meth c cX10_go RX10 7 none wsX10_go D cy G (pA G0 sz) → wd D cy G M (pA G0 sz) s.heap H locs → lv_has ls 7 [(0, .ref a0), (1, .int v1), (2, .int v2)] → W p l e (rnX10_go b) s m args below meth c H locs u.1 u.2 (MQ below (va_Qv (fun (u : gS × mS) => post u.1 u.2 ()) (fun u t => va_P D vwCl (pl cy u.1 u.2) t.heap ∧ va_D (pA G0 sz) (pl cy u.1 u.2) ∧ wt u.1 ∧ ext G0 u.1) (pA G0 sz)) args s b.1 b.2 (pA G0 sz)) (F0 m 311 ls []) := by
  intro u G M v1 v2 H locs ls hL0 hK0 hext hu h cx w hl
  obtain ⟨I, n, hI, hB⟩ := h
  have key : ∀ n : Nat, ∀ (u : uS) (G : gS) (M : mS) (v1 : Int32) (v2 : Int32) (H : Heap) (locs : List Loc) (ls : Array Slot), a0 ∈ gL G → gK G a0 = 9 → ext G0 G → uL u b → I n u G M v1 v2 → cX p s m args meth c cX10_go RX10 7 none wsX10_go D cy G (pA G0 sz) → wd D cy G M (pA G0 sz) s.heap H locs → lv_has ls 7 [(0, .ref a0), (1, .int v1), (2, .int v2)] → W p l e (rnX10_go b) s m args below meth c H locs u.1 u.2 (MQ below (va_Qv (fun (u : gS × mS) => post u.1 u.2 ()) (fun u t => va_P D vwCl (pl cy u.1 u.2) t.heap ∧ va_D (pA G0 sz) (pl cy u.1 u.2) ∧ wt u.1 ∧ ext G0 u.1) (pA G0 sz)) args s b.1 b.2 (pA G0 sz)) (F0 m 311 ls []) := by
    intro n
    induction n using Nat.strongRecOn with
    | ind n ih =>
      intro u G M v1 v2 H locs ls hL0 hK0 hext hu hI cx w hl
      have h := hB n u G M v1 v2 hI
      unfold nb_X10_go_311 at h
      obtain ⟨hx, hb, hml, hown, hts, hr, hlocks, hK, hA, hG, hsx⟩ := id cx
      have hR : (rnX10_go b).cells = b.1 ∧ (rnX10_go b).slots = b.2 := ⟨rfl, rfl⟩
      refine lv_iload_n hx hb dX10_go_311 rfl (lv_at hl 2 rfl) ?_
      refine lv_iload_n hx hb dX10_go_312 rfl (lv_at hl 1 rfl) ?_
      refine lv_icmp_ge (tgt := 345) hx hb dX10_go_313 (by decide) (fun k1 => ?_) (fun k1 => ?_)
      · have h := w_t h k1
        obtain ⟨x2, ex2, h⟩ := w_bd h
        refine lv_iinc (v := x2) (lv' := [(1, .int x2), (0, .ref a0), (2, .int v2)]) hx hb dX10_go_345 hl (k := 1) rfl (by rw [ex2]; rfl) (by decide) rfl (fun ls hl => ?_)
        refine lv_goto (tgt := 300) hx hb dX10_go_348 (by decide) ?_
        exact hkb300 u G M x2 H locs ls hL0 hK0 hext hu h cx w (lv_sub hl [1, 0] rfl)
      · have h := w_f h k1
        refine lv_aload_n hx hb dX10_go_316 rfl (lv_at hl 0 rfl) ?_
        refine lv_dup hx hb dX10_go_317 rfl ?_
        refine r_getI (k := 1) (v := .int (mI M a0 1)) cx w hL0 hK0 (by decide) rfl wb_X10_go_X10 (by decide) rfl (List.mem_of_getElem? (i := 12) rfl) dX10_go_318 ?_
        refine lv_aload_n hx hb dX10_go_321 rfl (lv_at hl 0 rfl) ?_
        refine lv_iload_n hx hb dX10_go_322 rfl (lv_at hl 1 rfl) ?_
        refine lv_iload_n hx hb dX10_go_323 rfl (lv_at hl 2 rfl) ?_
        refine rb_VI (b := b) (u := u) (rf := 0) (rl := 0) (As := [.int v1, .int v2]) (rest := [.int ((mI M a0 1)), .ref a0]) cx w hR hl.1 h (fun h => kn_X10_isAt hG hL0 hK0 h) (fun v => cwV 2 hts gX10_go_X10_isAt rfl rfl rfl (by decide +kernel) ⟨(Nat.le_of_ble_eq_true rfl), (Nat.le_of_ble_eq_true rfl)⟩) hL0 hK0 (by decide) rfl rfl rfl (Nat.le_of_ble_eq_true rfl) dX10_go_324 (fun u5 G3 M4 r6 H locs h hu xe cx w => ?_)
        obtain ⟨hL0, hK0⟩ := ext_wt xe hL0 hK0
        have hext := ext_tr hext xe
        clear xe
        have hG := cX_wt cx
        refine lv_if_eq (tgt := 334) hx hb dX10_go_327 (by decide) (fun k7 => ?_) (fun k7 => ?_)
        · have h := w_t h k7
          refine lv_iconst (v := (0 : Int32)) hx hb dX10_go_334 (by decide) ?_
          exact bn_X10_go_335 hnm (hkb300 := hkb300) (hkb311 := fun u G M v1 v2 H locs ls hL0 hK0 hext hu h cx w hl => by obtain ⟨k, hk, hI⟩ := h; exact ih k hk u G M v1 v2 H locs ls hL0 hK0 hext hu hI cx w hl) u5 G3 M4 v1 v2 ((mI M a0 1)) ((0 : Int32)) H locs ls hL0 hK0 hext hu h cx w (lv_sub hl [0, 1, 2] rfl)
        · have h := w_f h k7
          refine lv_iconst (v := (1 : Int32)) hx hb dX10_go_330 (by decide) ?_
          refine lv_goto (tgt := 335) hx hb dX10_go_331 (by decide) ?_
          exact bn_X10_go_335 hnm (hkb300 := hkb300) (hkb311 := fun u G M v1 v2 H locs ls hL0 hK0 hext hu h cx w hl => by obtain ⟨k, hk, hI⟩ := h; exact ih k hk u G M v1 v2 H locs ls hL0 hK0 hext hu hI cx w hl) u5 G3 M4 v1 v2 ((mI M a0 1)) ((1 : Int32)) H locs ls hL0 hK0 hext hu h cx w (lv_sub hl [0, 1, 2] rfl)
  exact key n u G M v1 v2 H locs ls hL0 hK0 hext hu hI cx w hl
set_option maxHeartbeats 4000000 in
set_option maxRecDepth 100000 in
theorem bn_X10_go_300 {p : Program} {l : Launch} {e : Env} {s : State} {m : MethodId} {args : Array Value} {below : List Frame} {meth : Method} {c : Code} {D : va_G} {cy : cyS} {b : uS} {G0 : gS} {sz : Nat} (hnm : meth.name = yX10_go.name)  {a0 : Nat} {post : gS → mS → Unit → Prop} : ∀ (u : uS) (G : gS) (M : mS) (v1 : Int32) (H : Heap) (locs : List Loc) (ls : Array Slot), a0 ∈ gL G → gK G a0 = 9 → ext G0 G → uL u b → nl_X10_go_300 b a0 post u G M v1 → cX p s m args meth c cX10_go RX10 7 none wsX10_go D cy G (pA G0 sz) → wd D cy G M (pA G0 sz) s.heap H locs → lv_has ls 7 [(0, .ref a0), (1, .int v1)] → W p l e (rnX10_go b) s m args below meth c H locs u.1 u.2 (MQ below (va_Qv (fun (u : gS × mS) => post u.1 u.2 ()) (fun u t => va_P D vwCl (pl cy u.1 u.2) t.heap ∧ va_D (pA G0 sz) (pl cy u.1 u.2) ∧ wt u.1 ∧ ext G0 u.1) (pA G0 sz)) args s b.1 b.2 (pA G0 sz)) (F0 m 300 ls []) := by
  intro u G M v1 H locs ls hL0 hK0 hext hu h cx w hl
  obtain ⟨I, n, hI, hB⟩ := h
  have key : ∀ n : Nat, ∀ (u : uS) (G : gS) (M : mS) (v1 : Int32) (H : Heap) (locs : List Loc) (ls : Array Slot), a0 ∈ gL G → gK G a0 = 9 → ext G0 G → uL u b → I n u G M v1 → cX p s m args meth c cX10_go RX10 7 none wsX10_go D cy G (pA G0 sz) → wd D cy G M (pA G0 sz) s.heap H locs → lv_has ls 7 [(0, .ref a0), (1, .int v1)] → W p l e (rnX10_go b) s m args below meth c H locs u.1 u.2 (MQ below (va_Qv (fun (u : gS × mS) => post u.1 u.2 ()) (fun u t => va_P D vwCl (pl cy u.1 u.2) t.heap ∧ va_D (pA G0 sz) (pl cy u.1 u.2) ∧ wt u.1 ∧ ext G0 u.1) (pA G0 sz)) args s b.1 b.2 (pA G0 sz)) (F0 m 300 ls []) := by
    intro n
    induction n using Nat.strongRecOn with
    | ind n ih =>
      intro u G M v1 H locs ls hL0 hK0 hext hu hI cx w hl
      have h := hB n u G M v1 hI
      unfold nb_X10_go_300 at h
      obtain ⟨hx, hb, hml, hown, hts, hr, hlocks, hK, hA, hG, hsx⟩ := id cx
      have hR : (rnX10_go b).cells = b.1 ∧ (rnX10_go b).slots = b.2 := ⟨rfl, rfl⟩
      refine lv_iload_n hx hb dX10_go_300 rfl (lv_at hl 1 rfl) ?_
      refine lv_aload_n hx hb dX10_go_301 rfl (lv_at hl 0 rfl) ?_
      obtain ⟨q1, eq1, h⟩ := w_rf h
      obtain ⟨hLq1, hKq1⟩ := wt_q hG hL0 hK0 eq1
      have hKq1 : gK G q1 = 15 := hKq1
      refine r_getR (k := 6) cx w hL0 hK0 (by decide) rfl wb_X10_go_X10 (by decide) rfl eq1 (List.mem_of_getElem? (i := 3) rfl) dX10_go_302 ?_
      refine r_alen cx w hLq1 hKq1 (by decide) dX10_go_305 ?_
      refine lv_icmp_ge (tgt := 351) hx hb dX10_go_306 (by decide) (fun k2 => ?_) (fun k2 => ?_)
      · have h := w_t h k2
        refine lv_aload_n hx hb dX10_go_351 rfl (lv_at hl 0 rfl) ?_
        refine lv_dup hx hb dX10_go_352 rfl ?_
        refine r_getI (k := 0) (v := .int (mI M a0 0)) cx w hL0 hK0 (by decide) rfl wb_X10_go_X10 (by decide) rfl (List.mem_of_getElem? (i := 13) rfl) dX10_go_353 ?_
        refine lv_iconst (v := (1 : Int32)) hx hb dX10_go_356 (by decide) ?_
        refine lv_iadd hx hb dX10_go_357 ?_
        obtain ⟨M3, eM3, h⟩ := w_wI h
        refine r_putI (k := 0) (ty := .int) cx w tyX10 tyX10_ok nmX10 hL0 hK0 (by decide) rfl wb_X10_go_X10 (by decide) rfl rfl rfl rfl st_9_0 (ln_9 _ _ (by decide)) (List.mem_of_getElem? (i := 13) rfl) dX10_go_358 eM3 (fun H locs w => ?_)
        exact rb_vret h cx w hext hu dX10_go_361
      · have h := w_f h k2
        refine lv_iconst (v := (0 : Int32)) hx hb dX10_go_309 (by decide) ?_
        refine lv_istore_n (lv' := [(2, .int ((0 : Int32))), (0, .ref a0), (1, .int v1)]) hx hb dX10_go_310 rfl hl (by decide) rfl (fun ls hl => ?_)
        exact bn_X10_go_311 hnm (hkb300 := fun u G M v1 H locs ls hL0 hK0 hext hu h cx w hl => by obtain ⟨k, hk, hI⟩ := h; exact ih k hk u G M v1 H locs ls hL0 hK0 hext hu hI cx w hl) u G M v1 ((0 : Int32)) H locs ls hL0 hK0 hext hu h cx w (lv_sub hl [1, 2, 0] rfl)
  exact key n u G M v1 H locs ls hL0 hK0 hext hu hI cx w hl
set_option maxHeartbeats 4000000 in
set_option maxRecDepth 100000 in
theorem bn_X10_go_56 {p : Program} {l : Launch} {e : Env} {s : State} {m : MethodId} {args : Array Value} {below : List Frame} {meth : Method} {c : Code} {D : va_G} {cy : cyS} {b : uS} {G0 : gS} {sz : Nat} (hnm : meth.name = yX10_go.name)  {a0 : Nat} {post : gS → mS → Unit → Prop} : ∀ (u : uS) (G : gS) (M : mS) (v1 : Int32) (H : Heap) (locs : List Loc) (ls : Array Slot), a0 ∈ gL G → gK G a0 = 9 → ext G0 G → uL u b → nl_X10_go_56 b a0 post u G M v1 → cX p s m args meth c cX10_go RX10 7 none wsX10_go D cy G (pA G0 sz) → wd D cy G M (pA G0 sz) s.heap H locs → lv_has ls 7 [(0, .ref a0), (1, .int v1)] → W p l e (rnX10_go b) s m args below meth c H locs u.1 u.2 (MQ below (va_Qv (fun (u : gS × mS) => post u.1 u.2 ()) (fun u t => va_P D vwCl (pl cy u.1 u.2) t.heap ∧ va_D (pA G0 sz) (pl cy u.1 u.2) ∧ wt u.1 ∧ ext G0 u.1) (pA G0 sz)) args s b.1 b.2 (pA G0 sz)) (F0 m 56 ls []) := by
  intro u G M v1 H locs ls hL0 hK0 hext hu h cx w hl
  obtain ⟨I, n, hI, hB⟩ := h
  have key : ∀ n : Nat, ∀ (u : uS) (G : gS) (M : mS) (v1 : Int32) (H : Heap) (locs : List Loc) (ls : Array Slot), a0 ∈ gL G → gK G a0 = 9 → ext G0 G → uL u b → I n u G M v1 → cX p s m args meth c cX10_go RX10 7 none wsX10_go D cy G (pA G0 sz) → wd D cy G M (pA G0 sz) s.heap H locs → lv_has ls 7 [(0, .ref a0), (1, .int v1)] → W p l e (rnX10_go b) s m args below meth c H locs u.1 u.2 (MQ below (va_Qv (fun (u : gS × mS) => post u.1 u.2 ()) (fun u t => va_P D vwCl (pl cy u.1 u.2) t.heap ∧ va_D (pA G0 sz) (pl cy u.1 u.2) ∧ wt u.1 ∧ ext G0 u.1) (pA G0 sz)) args s b.1 b.2 (pA G0 sz)) (F0 m 56 ls []) := by
    intro n
    induction n using Nat.strongRecOn with
    | ind n ih =>
      intro u G M v1 H locs ls hL0 hK0 hext hu hI cx w hl
      have h := hB n u G M v1 hI
      unfold nb_X10_go_56 at h
      obtain ⟨hx, hb, hml, hown, hts, hr, hlocks, hK, hA, hG, hsx⟩ := id cx
      have hR : (rnX10_go b).cells = b.1 ∧ (rnX10_go b).slots = b.2 := ⟨rfl, rfl⟩
      refine lv_iload_n hx hb dX10_go_56 rfl (lv_at hl 1 rfl) ?_
      refine lv_aload_n hx hb dX10_go_57 rfl (lv_at hl 0 rfl) ?_
      obtain ⟨q1, eq1, h⟩ := w_rf h
      obtain ⟨hLq1, hKq1⟩ := wt_q hG hL0 hK0 eq1
      have hKq1 : gK G q1 = 15 := hKq1
      refine r_getR (k := 6) cx w hL0 hK0 (by decide) rfl wb_X10_go_X10 (by decide) rfl eq1 (List.mem_of_getElem? (i := 3) rfl) dX10_go_58 ?_
      refine r_alen cx w hLq1 hKq1 (by decide) dX10_go_61 ?_
      refine lv_icmp_ge (tgt := 298) hx hb dX10_go_62 (by decide) (fun k2 => ?_) (fun k2 => ?_)
      · have h := w_t h k2
        refine lv_iconst (v := (0 : Int32)) hx hb dX10_go_298 (by decide) ?_
        refine lv_istore_n (lv' := [(1, .int ((0 : Int32))), (0, .ref a0)]) hx hb dX10_go_299 rfl hl (by decide) rfl (fun ls hl => ?_)
        exact bn_X10_go_300 hnm u G M ((0 : Int32)) H locs ls hL0 hK0 hext hu h cx w (lv_sub hl [1, 0] rfl)
      · have h := w_f h k2
        refine lv_aload_n hx hb dX10_go_65 rfl (lv_at hl 0 rfl) ?_
        obtain ⟨q3, eq3, h⟩ := w_rf h
        obtain ⟨hLq3, hKq3⟩ := wt_q hG hL0 hK0 eq3
        have hKq3 : gK G q3 = 15 := hKq3
        refine r_getR (k := 6) cx w hL0 hK0 (by decide) rfl wb_X10_go_X10 (by decide) rfl eq3 (List.mem_of_getElem? (i := 3) rfl) dX10_go_66 ?_
        refine lv_iload_n hx hb dX10_go_69 rfl (lv_at hl 1 rfl) ?_
        obtain ⟨z4, h⟩ := w_ix h
        obtain ⟨q5, eq5, h⟩ := w_rf h
        obtain ⟨hLq5, hKq5⟩ := wt_q hG hLq3 hKq3 eq5
        have hKq5 : gK G q5 = 12 := hKq5
        refine r_aaldA cx w hLq3 hKq3 z4 eq5 dX10_go_70 ?_
        refine lv_astore_n (lv' := [(2, .ref q5), (0, .ref a0), (1, .int v1)]) hx hb dX10_go_71 rfl hl (by decide) rfl (fun ls hl => ?_)
        refine lv_aload_n hx hb dX10_go_72 rfl (lv_at hl 0 rfl) ?_
        refine lv_iconst (v := (4 : Int32)) hx hb dX10_go_73 (by decide) ?_
        obtain ⟨z6, h⟩ := w_ix h
        refine r_iald cx w hLq5 hKq5 z6 dX10_go_74 ?_
        refine lv_if_ne (tgt := 81) hx hb dX10_go_75 (by decide) (fun k7 => ?_) (fun k7 => ?_)
        · have h := w_f h k7
          refine lv_aload_n hx hb dX10_go_81 rfl (lv_at hl 1 rfl) ?_
          obtain ⟨q8, eq8, h⟩ := w_rf h
          obtain ⟨hLq8, hKq8⟩ := wt_q hG hL0 hK0 eq8
          have hKq8 : gK G q8 = 15 := hKq8
          refine r_getR (k := 4) cx w hL0 hK0 (by decide) rfl wb_X10_go_X10 (by decide) rfl eq8 (List.mem_of_getElem? (i := 4) rfl) dX10_go_82 ?_
          refine lv_aload_n hx hb dX10_go_85 rfl (lv_at hl 0 rfl) ?_
          refine lv_iconst (v := (0 : Int32)) hx hb dX10_go_86 (by decide) ?_
          obtain ⟨z9, h⟩ := w_ix h
          refine r_iald cx w hLq5 hKq5 z9 dX10_go_87 ?_
          obtain ⟨z10, h⟩ := w_ix h
          obtain ⟨q11, eq11, h⟩ := w_rf h
          obtain ⟨hLq11, hKq11⟩ := wt_q hG hLq8 hKq8 eq11
          have hKq11 : gK G q11 = 12 := hKq11
          refine r_aaldA cx w hLq8 hKq8 z10 eq11 dX10_go_88 ?_
          refine lv_astore_n (lv' := [(3, .ref q11), (2, .ref q5), (0, .ref a0), (1, .int v1)]) hx hb dX10_go_89 rfl hl (by decide) rfl (fun ls hl => ?_)
          refine lv_aload_n hx hb dX10_go_90 rfl (lv_at hl 2 rfl) ?_
          obtain ⟨q12, eq12, h⟩ := w_rf h
          obtain ⟨hLq12, hKq12⟩ := wt_q hG hL0 hK0 eq12
          have hKq12 : gK G q12 = 15 := hKq12
          refine r_getR (k := 5) cx w hL0 hK0 (by decide) rfl wb_X10_go_X10 (by decide) rfl eq12 (List.mem_of_getElem? (i := 5) rfl) dX10_go_91 ?_
          refine lv_aload_n hx hb dX10_go_94 rfl (lv_at hl 1 rfl) ?_
          refine lv_iconst (v := (2 : Int32)) hx hb dX10_go_95 (by decide) ?_
          obtain ⟨z13, h⟩ := w_ix h
          refine r_iald cx w hLq5 hKq5 z13 dX10_go_96 ?_
          obtain ⟨z14, h⟩ := w_ix h
          obtain ⟨q15, eq15, h⟩ := w_rf h
          obtain ⟨hLq15, hKq15⟩ := wt_q hG hLq12 hKq12 eq15
          have hKq15 : gK G q15 = 12 := hKq15
          refine r_aaldA cx w hLq12 hKq12 z14 eq15 dX10_go_97 ?_
          refine lv_aload_n hx hb dX10_go_98 rfl (lv_at hl 1 rfl) ?_
          refine lv_iconst (v := (1 : Int32)) hx hb dX10_go_99 (by decide) ?_
          obtain ⟨z16, h⟩ := w_ix h
          refine r_iald cx w hLq5 hKq5 z16 dX10_go_100 ?_
          obtain ⟨z17, h⟩ := w_ix h
          refine r_iald cx w hLq15 hKq15 z17 dX10_go_101 ?_
          refine lv_aload_n hx hb dX10_go_102 rfl (lv_at hl 0 rfl) ?_
          refine r_alen cx w hLq11 hKq11 (by decide) dX10_go_103 ?_
          obtain ⟨z18, h⟩ := w_ck h
          refine lv_irem hx hb dX10_go_104 z18 ?_
          obtain ⟨x19, ex19, h⟩ := w_bd h
          refine r_topI ex19 ?_
          refine lv_istore (lv' := [(4, .int x19), (3, .ref q11), (2, .ref q5), (0, .ref a0), (1, .int v1)]) hx hb dX10_go_105 hl (by decide) rfl (fun ls hl => ?_)
          refine lv_iconst (v := (4 : Int32)) hx hb dX10_go_107 (by decide) ?_
          refine rb_newI (b := b) (u := u) cx w hR (List.mem_of_getElem? (i := 6) rfl) h dX10_go_108 (fun q20 u23 G21 M22 H h hu xe hLq20 hKq20 cx w => ?_)
          obtain ⟨hL0, hK0⟩ := ext_wt xe hL0 hK0
          obtain ⟨hLq5, hKq5⟩ := ext_wt xe hLq5 hKq5
          obtain ⟨hLq11, hKq11⟩ := ext_wt xe hLq11 hKq11
          have hext := ext_tr hext xe
          clear xe
          have hG := cX_wt cx
          refine lv_dup hx hb dX10_go_110 rfl ?_
          refine lv_iconst (v := (0 : Int32)) hx hb dX10_go_111 (by decide) ?_
          refine lv_iconst (v := (-1 : Int32)) hx hb dX10_go_112 (by decide) ?_
          obtain ⟨z24, h⟩ := w_ix h
          obtain ⟨M25, eM25, h⟩ := w_wI h
          refine r_iast cx w hLq20 hKq20 z24 dX10_go_113 eM25 (fun H locs w => ?_)
          refine lv_dup hx hb dX10_go_114 rfl ?_
          refine lv_iconst (v := (1 : Int32)) hx hb dX10_go_115 (by decide) ?_
          refine lv_iconst (v := (1 : Int32)) hx hb dX10_go_116 (by decide) ?_
          obtain ⟨z26, h⟩ := w_ix h
          obtain ⟨M27, eM27, h⟩ := w_wI h
          refine r_iast cx w hLq20 hKq20 z26 dX10_go_117 eM27 (fun H locs w => ?_)
          refine lv_dup hx hb dX10_go_118 rfl ?_
          refine lv_iconst (v := (2 : Int32)) hx hb dX10_go_119 (by decide) ?_
          refine lv_iconst (v := (0 : Int32)) hx hb dX10_go_120 (by decide) ?_
          obtain ⟨z28, h⟩ := w_ix h
          obtain ⟨M29, eM29, h⟩ := w_wI h
          refine r_iast cx w hLq20 hKq20 z28 dX10_go_121 eM29 (fun H locs w => ?_)
          refine lv_dup hx hb dX10_go_122 rfl ?_
          refine lv_iconst (v := (3 : Int32)) hx hb dX10_go_123 (by decide) ?_
          refine lv_iconst (v := (2 : Int32)) hx hb dX10_go_124 (by decide) ?_
          obtain ⟨z30, h⟩ := w_ix h
          obtain ⟨M31, eM31, h⟩ := w_wI h
          refine r_iast cx w hLq20 hKq20 z30 dX10_go_125 eM31 (fun H locs w => ?_)
          refine lv_astore (lv' := [(5, .ref q20), (4, .int x19), (3, .ref q11), (2, .ref q5), (0, .ref a0), (1, .int v1)]) hx hb dX10_go_126 hl (by decide) rfl (fun ls hl => ?_)
          refine lv_aload_n hx hb dX10_go_128 rfl (lv_at hl 3 rfl) ?_
          refine lv_iconst (v := (3 : Int32)) hx hb dX10_go_129 (by decide) ?_
          refine lv_aload_n hx hb dX10_go_130 rfl (lv_at hl 3 rfl) ?_
          refine lv_iconst (v := (3 : Int32)) hx hb dX10_go_131 (by decide) ?_
          obtain ⟨z32, h⟩ := w_ix h
          refine r_iald cx w hLq5 hKq5 z32 dX10_go_132 ?_
          refine lv_aload hx hb dX10_go_133 (lv_at hl 0 rfl) ?_
          refine lv_aload_n hx hb dX10_go_135 rfl (lv_at hl 2 rfl) ?_
          refine lv_iload hx hb dX10_go_136 (lv_at hl 1 rfl) ?_
          obtain ⟨z33, h⟩ := w_ix h
          refine r_iald cx w hLq11 hKq11 z33 dX10_go_138 ?_
          obtain ⟨z34, h⟩ := w_ix h
          refine r_iald cx w hLq20 hKq20 z34 dX10_go_139 ?_
          refine lv_iadd hx hb dX10_go_140 ?_
          refine lv_iconst (v := (4 : Int32)) hx hb dX10_go_141 (by decide) ?_
          refine lv_iadd hx hb dX10_go_142 ?_
          refine lv_iconst (v := (4 : Int32)) hx hb dX10_go_143 (by decide) ?_
          obtain ⟨z35, h⟩ := w_ck h
          refine lv_irem hx hb dX10_go_144 z35 ?_
          obtain ⟨z36, h⟩ := w_ix h
          obtain ⟨M37, eM37, h⟩ := w_wI h
          refine r_iast cx w hLq5 hKq5 z36 dX10_go_145 eM37 (fun H locs w => ?_)
          refine lv_aload_n hx hb dX10_go_146 rfl (lv_at hl 4 rfl) ?_
          obtain ⟨q38, eq38, h⟩ := w_rf h
          obtain ⟨hLq38, hKq38⟩ := wt_q hG hL0 hK0 eq38
          have hKq38 : gK G21 q38 = 15 := hKq38
          refine r_getR (k := 5) cx w hL0 hK0 (by decide) rfl wb_X10_go_X10 (by decide) rfl eq38 (List.mem_of_getElem? (i := 5) rfl) dX10_go_147 ?_
          refine lv_aload_n hx hb dX10_go_150 rfl (lv_at hl 3 rfl) ?_
          refine lv_iconst (v := (2 : Int32)) hx hb dX10_go_151 (by decide) ?_
          obtain ⟨z39, h⟩ := w_ix h
          refine r_iald cx w hLq5 hKq5 z39 dX10_go_152 ?_
          obtain ⟨z40, h⟩ := w_ix h
          obtain ⟨q41, eq41, h⟩ := w_rf h
          obtain ⟨hLq41, hKq41⟩ := wt_q hG hLq38 hKq38 eq41
          have hKq41 : gK G21 q41 = 12 := hKq41
          refine r_aaldA cx w hLq38 hKq38 z40 eq41 dX10_go_153 ?_
          refine lv_aload_n hx hb dX10_go_154 rfl (lv_at hl 3 rfl) ?_
          refine lv_iconst (v := (1 : Int32)) hx hb dX10_go_155 (by decide) ?_
          obtain ⟨z42, h⟩ := w_ix h
          refine r_iald cx w hLq5 hKq5 z42 dX10_go_156 ?_
          refine lv_iload hx hb dX10_go_157 (lv_at hl 1 rfl) ?_
          refine lv_iconst (v := (1 : Int32)) hx hb dX10_go_159 (by decide) ?_
          refine lv_iadd hx hb dX10_go_160 ?_
          refine lv_aload_n hx hb dX10_go_161 rfl (lv_at hl 2 rfl) ?_
          refine r_alen cx w hLq11 hKq11 (by decide) dX10_go_162 ?_
          refine lv_icmp_ne (tgt := 170) hx hb dX10_go_163 (by decide) (fun k43 => ?_) (fun k43 => ?_)
          · have h := w_f h k43
            refine lv_iload hx hb dX10_go_170 (lv_at hl 1 rfl) ?_
            refine lv_iconst (v := (1 : Int32)) hx hb dX10_go_172 (by decide) ?_
            refine lv_iadd hx hb dX10_go_173 ?_
            exact bn_X10_go_174 hnm (hkb56 := fun u G M v1 H locs ls hL0 hK0 hext hu h cx w hl => by obtain ⟨k, hk, hI⟩ := h; exact ih k hk u G M v1 H locs ls hL0 hK0 hext hu hI cx w hl) u23 G21 M37 v1 q5 q41 ((mI M37 q5 (Int32.toNatClampNeg (1 : Int32)))) ((x19 + (1 : Int32))) H locs ls hL0 hK0 hLq5 hKq5 hLq41 hKq41 hext hu h cx w (lv_sub hl [4, 5, 3] rfl)
          · have h := w_t h k43
            refine lv_iconst (v := (0 : Int32)) hx hb dX10_go_166 (by decide) ?_
            refine lv_goto (tgt := 174) hx hb dX10_go_167 (by decide) ?_
            exact bn_X10_go_174 hnm (hkb56 := fun u G M v1 H locs ls hL0 hK0 hext hu h cx w hl => by obtain ⟨k, hk, hI⟩ := h; exact ih k hk u G M v1 H locs ls hL0 hK0 hext hu hI cx w hl) u23 G21 M37 v1 q5 q41 ((mI M37 q5 (Int32.toNatClampNeg (1 : Int32)))) ((0 : Int32)) H locs ls hL0 hK0 hLq5 hKq5 hLq41 hKq41 hext hu h cx w (lv_sub hl [4, 5, 3] rfl)
        · have h := w_t h k7
          refine lv_goto (tgt := 292) hx hb dX10_go_78 (by decide) ?_
          exact bn_X10_go_292 hnm (hkb56 := fun u G M v1 H locs ls hL0 hK0 hext hu h cx w hl => by obtain ⟨k, hk, hI⟩ := h; exact ih k hk u G M v1 H locs ls hL0 hK0 hext hu hI cx w hl) u G M v1 H locs ls hL0 hK0 hext hu h cx w (lv_sub hl [1, 2] rfl)
  exact key n u G M v1 H locs ls hL0 hK0 hext hu hI cx w hl
set_option maxHeartbeats 4000000 in
set_option maxRecDepth 100000 in
theorem bn_X10_go_10 {p : Program} {l : Launch} {e : Env} {s : State} {m : MethodId} {args : Array Value} {below : List Frame} {meth : Method} {c : Code} {D : va_G} {cy : cyS} {b : uS} {G0 : gS} {sz : Nat} (hnm : meth.name = yX10_go.name)  {a0 : Nat} {post : gS → mS → Unit → Prop} : ∀ (u : uS) (G : gS) (M : mS) (v1 : Nat) (v2 : Int32) (v3 : Int32) (H : Heap) (locs : List Loc) (ls : Array Slot), a0 ∈ gL G → gK G a0 = 9 → v1 ∈ gL G → gK G v1 = 15 → ext G0 G → uL u b → nl_X10_go_10 b a0 post u G M v1 v2 v3 → cX p s m args meth c cX10_go RX10 7 none wsX10_go D cy G (pA G0 sz) → wd D cy G M (pA G0 sz) s.heap H locs → lv_has ls 7 [(0, .ref a0), (1, .ref v1), (2, .int v2), (3, .int v3)] → W p l e (rnX10_go b) s m args below meth c H locs u.1 u.2 (MQ below (va_Qv (fun (u : gS × mS) => post u.1 u.2 ()) (fun u t => va_P D vwCl (pl cy u.1 u.2) t.heap ∧ va_D (pA G0 sz) (pl cy u.1 u.2) ∧ wt u.1 ∧ ext G0 u.1) (pA G0 sz)) args s b.1 b.2 (pA G0 sz)) (F0 m 10 ls []) := by
  intro u G M v1 v2 v3 H locs ls hL0 hK0 v1L v1K hext hu h cx w hl
  obtain ⟨I, n, hI, hB⟩ := h
  have key : ∀ n : Nat, ∀ (u : uS) (G : gS) (M : mS) (v1 : Nat) (v2 : Int32) (v3 : Int32) (H : Heap) (locs : List Loc) (ls : Array Slot), a0 ∈ gL G → gK G a0 = 9 → v1 ∈ gL G → gK G v1 = 15 → ext G0 G → uL u b → I n u G M v1 v2 v3 → cX p s m args meth c cX10_go RX10 7 none wsX10_go D cy G (pA G0 sz) → wd D cy G M (pA G0 sz) s.heap H locs → lv_has ls 7 [(0, .ref a0), (1, .ref v1), (2, .int v2), (3, .int v3)] → W p l e (rnX10_go b) s m args below meth c H locs u.1 u.2 (MQ below (va_Qv (fun (u : gS × mS) => post u.1 u.2 ()) (fun u t => va_P D vwCl (pl cy u.1 u.2) t.heap ∧ va_D (pA G0 sz) (pl cy u.1 u.2) ∧ wt u.1 ∧ ext G0 u.1) (pA G0 sz)) args s b.1 b.2 (pA G0 sz)) (F0 m 10 ls []) := by
    intro n
    induction n using Nat.strongRecOn with
    | ind n ih =>
      intro u G M v1 v2 v3 H locs ls hL0 hK0 v1L v1K hext hu hI cx w hl
      have h := hB n u G M v1 v2 v3 hI
      unfold nb_X10_go_10 at h
      obtain ⟨hx, hb, hml, hown, hts, hr, hlocks, hK, hA, hG, hsx⟩ := id cx
      have hR : (rnX10_go b).cells = b.1 ∧ (rnX10_go b).slots = b.2 := ⟨rfl, rfl⟩
      refine lv_iload_n hx hb dX10_go_10 rfl (lv_at hl 3 rfl) ?_
      refine lv_iload_n hx hb dX10_go_11 rfl (lv_at hl 2 rfl) ?_
      refine lv_icmp_ge (tgt := 54) hx hb dX10_go_12 (by decide) (fun k1 => ?_) (fun k1 => ?_)
      · have h := w_t h k1
        refine lv_iconst (v := (0 : Int32)) hx hb dX10_go_54 (by decide) ?_
        refine lv_istore_n (lv' := [(1, .int ((0 : Int32))), (0, .ref a0), (2, .int v2), (3, .int v3)]) hx hb dX10_go_55 rfl hl (by decide) rfl (fun ls hl => ?_)
        exact bn_X10_go_56 hnm u G M ((0 : Int32)) H locs ls hL0 hK0 hext hu h cx w (lv_sub hl [1, 0] rfl)
      · have h := w_f h k1
        refine lv_aload_n hx hb dX10_go_15 rfl (lv_at hl 1 rfl) ?_
        refine lv_iload_n hx hb dX10_go_16 rfl (lv_at hl 3 rfl) ?_
        obtain ⟨z2, h⟩ := w_ix h
        obtain ⟨q3, eq3, h⟩ := w_rf h
        obtain ⟨hLq3, hKq3⟩ := wt_q hG v1L v1K eq3
        have hKq3 : gK G q3 = 12 := hKq3
        refine r_aaldA cx w v1L v1K z2 eq3 dX10_go_17 ?_
        refine lv_astore (lv' := [(4, .ref q3), (0, .ref a0), (1, .ref v1), (2, .int v2), (3, .int v3)]) hx hb dX10_go_18 hl (by decide) rfl (fun ls hl => ?_)
        refine lv_aload_n hx hb dX10_go_20 rfl (lv_at hl 1 rfl) ?_
        refine lv_aload hx hb dX10_go_21 (lv_at hl 0 rfl) ?_
        refine rb_VI (b := b) (u := u) (rf := 2) (rl := 51) (As := [.ref q3]) (rest := []) cx w hR hl.1 h (fun h => kn_X10_holds hG hL0 hK0 hLq3 hKq3 h) (fun v => cwV 1 hts gX10_go_X10_holds rfl rfl rfl (by decide +kernel) ⟨(Nat.le_of_ble_eq_true rfl), (Nat.le_of_ble_eq_true rfl)⟩) hL0 hK0 (by decide) rfl rfl rfl (Nat.le_of_ble_eq_true rfl) dX10_go_23 (fun u6 G4 M5 r7 H locs h hu xe cx w => ?_)
        obtain ⟨hL0, hK0⟩ := ext_wt xe hL0 hK0
        obtain ⟨v1L, v1K⟩ := ext_wt xe v1L v1K
        obtain ⟨hLq3, hKq3⟩ := ext_wt xe hLq3 hKq3
        have hext := ext_tr hext xe
        clear xe
        have hG := cX_wt cx
        refine lv_if_eq (tgt := 48) hx hb dX10_go_26 (by decide) (fun k8 => ?_) (fun k8 => ?_)
        · have h := w_t h k8
          exact bn_X10_go_48 hnm (hkb10 := fun u G M v1 v2 v3 H locs ls hL0 hK0 v1L v1K hext hu h cx w hl => by obtain ⟨k, hk, hI⟩ := h; exact ih k hk u G M v1 v2 v3 H locs ls hL0 hK0 v1L v1K hext hu hI cx w hl) u6 G4 M5 v1 v2 v3 H locs ls hL0 hK0 v1L v1K hext hu h cx w (lv_sub hl [1, 2, 3, 4] rfl)
        · have h := w_f h k8
          refine lv_aload_n hx hb dX10_go_29 rfl (lv_at hl 1 rfl) ?_
          refine lv_aload hx hb dX10_go_30 (lv_at hl 0 rfl) ?_
          refine rb_VI (b := b) (u := u6) (rf := 2) (rl := 50) (As := [.ref q3]) (rest := []) cx w hR hl.1 h (fun h => kn_X10_does hG hL0 hK0 hLq3 hKq3 h) (fun v => cwV 1 hts gX10_go_X10_does rfl rfl rfl (by decide +kernel) ⟨(Nat.le_of_ble_eq_true rfl), (Nat.le_of_ble_eq_true rfl)⟩) hL0 hK0 (by decide) rfl rfl rfl (Nat.le_of_ble_eq_true rfl) dX10_go_32 (fun u11 G9 M10 r12 H locs h hu xe cx w => ?_)
          obtain ⟨hL0, hK0⟩ := ext_wt xe hL0 hK0
          obtain ⟨v1L, v1K⟩ := ext_wt xe v1L v1K
          obtain ⟨hLq3, hKq3⟩ := ext_wt xe hLq3 hKq3
          have hext := ext_tr hext xe
          clear xe
          have hG := cX_wt cx
          refine lv_if_eq (tgt := 48) hx hb dX10_go_35 (by decide) (fun k13 => ?_) (fun k13 => ?_)
          · have h := w_t h k13
            exact bn_X10_go_48 hnm (hkb10 := fun u G M v1 v2 v3 H locs ls hL0 hK0 v1L v1K hext hu h cx w hl => by obtain ⟨k, hk, hI⟩ := h; exact ih k hk u G M v1 v2 v3 H locs ls hL0 hK0 v1L v1K hext hu hI cx w hl) u11 G9 M10 v1 v2 v3 H locs ls hL0 hK0 v1L v1K hext hu h cx w (lv_sub hl [1, 2, 3, 4] rfl)
          · have h := w_f h k13
            refine lv_aload_n hx hb dX10_go_38 rfl (lv_at hl 1 rfl) ?_
            refine lv_dup hx hb dX10_go_39 rfl ?_
            refine r_getI (k := 3) (v := .int (mI M10 a0 3)) cx w hL0 hK0 (by decide) rfl wb_X10_go_X10 (by decide) rfl (List.mem_of_getElem? (i := 2) rfl) dX10_go_40 ?_
            refine lv_iconst (v := (1 : Int32)) hx hb dX10_go_43 (by decide) ?_
            refine lv_iadd hx hb dX10_go_44 ?_
            obtain ⟨M14, eM14, h⟩ := w_wI h
            refine r_putI (k := 3) (ty := .int) cx w tyX10 tyX10_ok nmX10 hL0 hK0 (by decide) rfl wb_X10_go_X10 (by decide) rfl rfl rfl rfl st_9_3 (ln_9 _ _ (by decide)) (List.mem_of_getElem? (i := 2) rfl) dX10_go_45 eM14 (fun H locs w => ?_)
            exact bn_X10_go_48 hnm (hkb10 := fun u G M v1 v2 v3 H locs ls hL0 hK0 v1L v1K hext hu h cx w hl => by obtain ⟨k, hk, hI⟩ := h; exact ih k hk u G M v1 v2 v3 H locs ls hL0 hK0 v1L v1K hext hu hI cx w hl) u11 G9 M14 v1 v2 v3 H locs ls hL0 hK0 v1L v1K hext hu h cx w (lv_sub hl [1, 2, 3, 4] rfl)
  exact key n u G M v1 v2 v3 H locs ls hL0 hK0 v1L v1K hext hu hI cx w hl
set_option maxHeartbeats 4000000 in
set_option maxRecDepth 100000 in
theorem kn_X10_go {l : Launch} {D : va_G} {cy : cyS} {G : gS} {M : mS} {b : uS} {a0 : Nat} {post : gS → mS → Unit → Prop} (hG : wt G) (hL0 : a0 ∈ gL G) (hK0 : gK G a0 = 9) (h : n_X10_go b G M a0 post) : cbV l yX10_go wsX10_go (rnX10_go b) D cy G M [.ref a0] b post := by
  unfold n_X10_go at h
  refine cbV_of (cc := cX10_go) (nL := 7) (lv := [(0, .ref a0)]) hG (by decide) rfl (Nat.le_of_ble_eq_true rfl) rfl ?_
  intro p e s m args below meth c sz ls hnm cx w hl
  obtain ⟨hx, hb, hml, hown, hts, hr, hlocks, hK, hA, -, hsx⟩ := id cx
  have hext := ext_rf (G := G)
  have hu : uL (0, 0) b := ⟨Nat.zero_le _, Nat.zero_le _⟩
  have hR : (rnX10_go b).cells = b.1 ∧ (rnX10_go b).slots = b.2 := ⟨rfl, rfl⟩
  refine lv_aload_n hx hb dX10_go_0 rfl (lv_at hl 0 rfl) ?_
  obtain ⟨q1, eq1, h⟩ := w_rf h
  obtain ⟨hLq1, hKq1⟩ := wt_q hG hL0 hK0 eq1
  have hKq1 : gK G q1 = 15 := hKq1
  refine r_getR (k := 8) cx w hL0 hK0 (by decide) rfl wb_X10_go_X10 (by decide) rfl eq1 (List.mem_of_getElem? (i := 1) rfl) dX10_go_1 ?_
  refine lv_astore_n (lv' := [(1, .ref q1), (0, .ref a0)]) hx hb dX10_go_4 rfl hl (by decide) rfl (fun ls hl => ?_)
  refine lv_aload_n hx hb dX10_go_5 rfl (lv_at hl 0 rfl) ?_
  refine r_alen cx w hLq1 hKq1 (by decide) dX10_go_6 ?_
  obtain ⟨x2, ex2, h⟩ := w_bd h
  refine r_topI ex2 ?_
  refine lv_istore_n (lv' := [(2, .int x2), (1, .ref q1), (0, .ref a0)]) hx hb dX10_go_7 rfl hl (by decide) rfl (fun ls hl => ?_)
  refine lv_iconst (v := (0 : Int32)) hx hb dX10_go_8 (by decide) ?_
  refine lv_istore_n (lv' := [(3, .int ((0 : Int32))), (2, .int x2), (1, .ref q1), (0, .ref a0)]) hx hb dX10_go_9 rfl hl (by decide) rfl (fun ls hl => ?_)
  exact bn_X10_go_10 hnm (0, 0) G M q1 x2 ((0 : Int32)) s.heap [] ls hL0 hK0 hLq1 hKq1 hext hu h cx w (lv_sub hl [3, 2, 1, 0] rfl)
-- X10_sum
theorem wb_X10_sum_X10 : ∀ w ∈ wsX100, w ∈ wsX10_sum := by decide +kernel
abbrev rnX10_sum (b : uS) : Room := { frames := 0, cells := b.1, slots := b.2, locals := 0 }
def nb_X10_sum_37 (b : uS) (a0 : Nat) (kb13 : uS → gS → mS → Int32 → Nat → Int32 → Int32 → Prop) (post : gS → mS → Int32 → Prop) (back : uS → gS → mS → Int32 → Nat → Int32 → Int32 → Nat → Int32 → Int32 → Prop) (u : uS) (G : gS) (M : mS) (v1 : Int32) (v2 : Nat) (v3 : Int32) (v4 : Int32) (v6 : Nat) (v7 : Int32) (v8 : Int32) : Prop := p_if (v7 ≤ v8) (p_bd (v4 + 1 : Int32) (fun x2 => kb13 u G M v1 v2 v3 x2)) (p_ix v8 (gN G v6) (p_bd ((mI M v6 (Int32.toNatClampNeg v8))) (fun x4 => p_bd ((v1 + x4)) (fun x5 => p_bd (v8 + 1 : Int32) (fun x6 => back u G M x5 v2 v3 v4 v6 v7 x6)))))
def nl_X10_sum_37 (b : uS) (a0 : Nat) (kb13 : uS → gS → mS → Int32 → Nat → Int32 → Int32 → Prop) (post : gS → mS → Int32 → Prop) (u : uS) (G : gS) (M : mS) (v1 : Int32) (v2 : Nat) (v3 : Int32) (v4 : Int32) (v6 : Nat) (v7 : Int32) (v8 : Int32) : Prop := ∃ (I : Nat → uS → gS → mS → Int32 → Nat → Int32 → Int32 → Nat → Int32 → Int32 → Prop) (n : Nat), I n u G M v1 v2 v3 v4 v6 v7 v8 ∧ ∀ (n : Nat) (u : uS) (G : gS) (M : mS) (v1 : Int32) (v2 : Nat) (v3 : Int32) (v4 : Int32) (v6 : Nat) (v7 : Int32) (v8 : Int32), I n u G M v1 v2 v3 v4 v6 v7 v8 → nb_X10_sum_37 b a0 kb13 post (fun u G M v1 v2 v3 v4 v6 v7 v8 => ∃ k, k < n ∧ I k u G M v1 v2 v3 v4 v6 v7 v8) u G M v1 v2 v3 v4 v6 v7 v8
def nb_X10_sum_13 (b : uS) (a0 : Nat) (post : gS → mS → Int32 → Prop) (back : uS → gS → mS → Int32 → Nat → Int32 → Int32 → Prop) (u : uS) (G : gS) (M : mS) (v1 : Int32) (v2 : Nat) (v3 : Int32) (v4 : Int32) : Prop := p_if (v3 ≤ v4) (post G M v1) (p_ix v4 (gN G v2) (p_rf (gP G v2 (Int32.toNatClampNeg v4)) (fun q3 => p_bd ((Int32.ofNat (gN G q3))) (fun x4 => nl_X10_sum_37 b a0 back post u G M v1 v2 v3 v4 q3 x4 ((0 : Int32))))))
def nl_X10_sum_13 (b : uS) (a0 : Nat) (post : gS → mS → Int32 → Prop) (u : uS) (G : gS) (M : mS) (v1 : Int32) (v2 : Nat) (v3 : Int32) (v4 : Int32) : Prop := ∃ (I : Nat → uS → gS → mS → Int32 → Nat → Int32 → Int32 → Prop) (n : Nat), I n u G M v1 v2 v3 v4 ∧ ∀ (n : Nat) (u : uS) (G : gS) (M : mS) (v1 : Int32) (v2 : Nat) (v3 : Int32) (v4 : Int32), I n u G M v1 v2 v3 v4 → nb_X10_sum_13 b a0 post (fun u G M v1 v2 v3 v4 => ∃ k, k < n ∧ I k u G M v1 v2 v3 v4) u G M v1 v2 v3 v4
def n_X10_sum (b : uS) (G : gS) (M : mS) (a0 : Nat) (post : gS → mS → Int32 → Prop) : Prop := p_rf (gP G a0 5) (fun q1 => p_bd ((Int32.ofNat (gN G q1))) (fun x2 => nl_X10_sum_13 b a0 post (0, 0) G M ((0 : Int32)) q1 x2 ((0 : Int32))))
set_option maxHeartbeats 4000000 in
set_option maxRecDepth 100000 in
theorem bn_X10_sum_37 {p : Program} {l : Launch} {e : Env} {s : State} {m : MethodId} {args : Array Value} {below : List Frame} {meth : Method} {c : Code} {D : va_G} {cy : cyS} {b : uS} {G0 : gS} {sz : Nat} (hnm : meth.name = yX10_sum.name)  {a0 : Nat} {post : gS → mS → Int32 → Prop} {kb13 : uS → gS → mS → Int32 → Nat → Int32 → Int32 → Prop} (hkb13 : ∀ (u : uS) (G : gS) (M : mS) (v1 : Int32) (v2 : Nat) (v3 : Int32) (v4 : Int32) (H : Heap) (locs : List Loc) (ls : Array Slot), a0 ∈ gL G → gK G a0 = 9 → v2 ∈ gL G → gK G v2 = 15 → ext G0 G → uL u b → kb13 u G M v1 v2 v3 v4 → cX p s m args meth c cX10_sum RX10 10 (some .int) wsX10_sum D cy G (pA G0 sz) → wd D cy G M (pA G0 sz) s.heap H locs → lv_has ls 10 [(1, .int v1), (2, .ref v2), (3, .int v3), (4, .int v4)] → W p l e (rnX10_sum b) s m args below meth c H locs u.1 u.2 (MQ below (va_Qi (fun (r : Int32) (u : gS × mS) => post u.1 u.2 r) (fun u t => va_P D vwCl (pl cy u.1 u.2) t.heap ∧ va_D (pA G0 sz) (pl cy u.1 u.2) ∧ wt u.1 ∧ ext G0 u.1) (pA G0 sz)) args s b.1 b.2 (pA G0 sz)) (F0 m 13 ls [])) : ∀ (u : uS) (G : gS) (M : mS) (v1 : Int32) (v2 : Nat) (v3 : Int32) (v4 : Int32) (v6 : Nat) (v7 : Int32) (v8 : Int32) (H : Heap) (locs : List Loc) (ls : Array Slot), a0 ∈ gL G → gK G a0 = 9 → v2 ∈ gL G → gK G v2 = 15 → v6 ∈ gL G → gK G v6 = 12 → ext G0 G → uL u b → nl_X10_sum_37 b a0 kb13 post u G M v1 v2 v3 v4 v6 v7 v8 → cX p s m args meth c cX10_sum RX10 10 (some .int) wsX10_sum D cy G (pA G0 sz) → wd D cy G M (pA G0 sz) s.heap H locs → lv_has ls 10 [(1, .int v1), (2, .ref v2), (3, .int v3), (4, .int v4), (6, .ref v6), (7, .int v7), (8, .int v8)] → W p l e (rnX10_sum b) s m args below meth c H locs u.1 u.2 (MQ below (va_Qi (fun (r : Int32) (u : gS × mS) => post u.1 u.2 r) (fun u t => va_P D vwCl (pl cy u.1 u.2) t.heap ∧ va_D (pA G0 sz) (pl cy u.1 u.2) ∧ wt u.1 ∧ ext G0 u.1) (pA G0 sz)) args s b.1 b.2 (pA G0 sz)) (F0 m 37 ls []) := by
  intro u G M v1 v2 v3 v4 v6 v7 v8 H locs ls hL0 hK0 v2L v2K v6L v6K hext hu h cx w hl
  obtain ⟨I, n, hI, hB⟩ := h
  have key : ∀ n : Nat, ∀ (u : uS) (G : gS) (M : mS) (v1 : Int32) (v2 : Nat) (v3 : Int32) (v4 : Int32) (v6 : Nat) (v7 : Int32) (v8 : Int32) (H : Heap) (locs : List Loc) (ls : Array Slot), a0 ∈ gL G → gK G a0 = 9 → v2 ∈ gL G → gK G v2 = 15 → v6 ∈ gL G → gK G v6 = 12 → ext G0 G → uL u b → I n u G M v1 v2 v3 v4 v6 v7 v8 → cX p s m args meth c cX10_sum RX10 10 (some .int) wsX10_sum D cy G (pA G0 sz) → wd D cy G M (pA G0 sz) s.heap H locs → lv_has ls 10 [(1, .int v1), (2, .ref v2), (3, .int v3), (4, .int v4), (6, .ref v6), (7, .int v7), (8, .int v8)] → W p l e (rnX10_sum b) s m args below meth c H locs u.1 u.2 (MQ below (va_Qi (fun (r : Int32) (u : gS × mS) => post u.1 u.2 r) (fun u t => va_P D vwCl (pl cy u.1 u.2) t.heap ∧ va_D (pA G0 sz) (pl cy u.1 u.2) ∧ wt u.1 ∧ ext G0 u.1) (pA G0 sz)) args s b.1 b.2 (pA G0 sz)) (F0 m 37 ls []) := by
    intro n
    induction n using Nat.strongRecOn with
    | ind n ih =>
      intro u G M v1 v2 v3 v4 v6 v7 v8 H locs ls hL0 hK0 v2L v2K v6L v6K hext hu hI cx w hl
      have h := hB n u G M v1 v2 v3 v4 v6 v7 v8 hI
      unfold nb_X10_sum_37 at h
      obtain ⟨hx, hb, hml, hown, hts, hr, hlocks, hK, hA, hG, hsx⟩ := id cx
      have hR : (rnX10_sum b).cells = b.1 ∧ (rnX10_sum b).slots = b.2 := ⟨rfl, rfl⟩
      refine lv_iload hx hb dX10_sum_37 (lv_at hl 6 rfl) ?_
      refine lv_iload hx hb dX10_sum_39 (lv_at hl 5 rfl) ?_
      refine lv_icmp_ge (tgt := 62) hx hb dX10_sum_41 (by decide) (fun k1 => ?_) (fun k1 => ?_)
      · have h := w_t h k1
        obtain ⟨x2, ex2, h⟩ := w_bd h
        refine lv_iinc (v := x2) (lv' := [(4, .int x2), (1, .int v1), (2, .ref v2), (3, .int v3), (6, .ref v6), (7, .int v7), (8, .int v8)]) hx hb dX10_sum_62 hl (k := 3) rfl (by rw [ex2]; rfl) (by decide) rfl (fun ls hl => ?_)
        refine lv_goto (tgt := 13) hx hb dX10_sum_65 (by decide) ?_
        exact hkb13 u G M v1 v2 v3 x2 H locs ls hL0 hK0 v2L v2K hext hu h cx w (lv_sub hl [1, 2, 3, 0] rfl)
      · have h := w_f h k1
        refine lv_aload hx hb dX10_sum_44 (lv_at hl 4 rfl) ?_
        refine lv_iload hx hb dX10_sum_46 (lv_at hl 6 rfl) ?_
        obtain ⟨z3, h⟩ := w_ix h
        refine r_iald cx w v6L v6K z3 dX10_sum_48 ?_
        obtain ⟨x4, ex4, h⟩ := w_bd h
        refine r_topI ex4 ?_
        refine lv_istore (lv' := [(9, .int x4), (1, .int v1), (2, .ref v2), (3, .int v3), (4, .int v4), (6, .ref v6), (7, .int v7), (8, .int v8)]) hx hb dX10_sum_49 hl (by decide) rfl (fun ls hl => ?_)
        refine lv_iload_n hx hb dX10_sum_51 rfl (lv_at hl 1 rfl) ?_
        refine lv_iload hx hb dX10_sum_52 (lv_at hl 0 rfl) ?_
        refine lv_iadd hx hb dX10_sum_54 ?_
        obtain ⟨x5, ex5, h⟩ := w_bd h
        refine r_topI ex5 ?_
        refine lv_istore_n (lv' := [(1, .int x5), (9, .int x4), (2, .ref v2), (3, .int v3), (4, .int v4), (6, .ref v6), (7, .int v7), (8, .int v8)]) hx hb dX10_sum_55 rfl hl (by decide) rfl (fun ls hl => ?_)
        obtain ⟨x6, ex6, h⟩ := w_bd h
        refine lv_iinc (v := x6) (lv' := [(8, .int x6), (1, .int x5), (9, .int x4), (2, .ref v2), (3, .int v3), (4, .int v4), (6, .ref v6), (7, .int v7)]) hx hb dX10_sum_56 hl (k := 7) rfl (by rw [ex6]; rfl) (by decide) rfl (fun ls hl => ?_)
        refine lv_goto (tgt := 37) hx hb dX10_sum_59 (by decide) ?_
        obtain ⟨k, hk, hI⟩ := h
        exact ih k hk u G M x5 v2 v3 v4 v6 v7 x6 H locs ls hL0 hK0 v2L v2K v6L v6K hext hu hI cx w (lv_sub hl [1, 3, 4, 5, 6, 7, 0] rfl)
  exact key n u G M v1 v2 v3 v4 v6 v7 v8 H locs ls hL0 hK0 v2L v2K v6L v6K hext hu hI cx w hl
set_option maxHeartbeats 4000000 in
set_option maxRecDepth 100000 in
theorem bn_X10_sum_13 {p : Program} {l : Launch} {e : Env} {s : State} {m : MethodId} {args : Array Value} {below : List Frame} {meth : Method} {c : Code} {D : va_G} {cy : cyS} {b : uS} {G0 : gS} {sz : Nat} (hnm : meth.name = yX10_sum.name)  {a0 : Nat} {post : gS → mS → Int32 → Prop} : ∀ (u : uS) (G : gS) (M : mS) (v1 : Int32) (v2 : Nat) (v3 : Int32) (v4 : Int32) (H : Heap) (locs : List Loc) (ls : Array Slot), a0 ∈ gL G → gK G a0 = 9 → v2 ∈ gL G → gK G v2 = 15 → ext G0 G → uL u b → nl_X10_sum_13 b a0 post u G M v1 v2 v3 v4 → cX p s m args meth c cX10_sum RX10 10 (some .int) wsX10_sum D cy G (pA G0 sz) → wd D cy G M (pA G0 sz) s.heap H locs → lv_has ls 10 [(1, .int v1), (2, .ref v2), (3, .int v3), (4, .int v4)] → W p l e (rnX10_sum b) s m args below meth c H locs u.1 u.2 (MQ below (va_Qi (fun (r : Int32) (u : gS × mS) => post u.1 u.2 r) (fun u t => va_P D vwCl (pl cy u.1 u.2) t.heap ∧ va_D (pA G0 sz) (pl cy u.1 u.2) ∧ wt u.1 ∧ ext G0 u.1) (pA G0 sz)) args s b.1 b.2 (pA G0 sz)) (F0 m 13 ls []) := by
  intro u G M v1 v2 v3 v4 H locs ls hL0 hK0 v2L v2K hext hu h cx w hl
  obtain ⟨I, n, hI, hB⟩ := h
  have key : ∀ n : Nat, ∀ (u : uS) (G : gS) (M : mS) (v1 : Int32) (v2 : Nat) (v3 : Int32) (v4 : Int32) (H : Heap) (locs : List Loc) (ls : Array Slot), a0 ∈ gL G → gK G a0 = 9 → v2 ∈ gL G → gK G v2 = 15 → ext G0 G → uL u b → I n u G M v1 v2 v3 v4 → cX p s m args meth c cX10_sum RX10 10 (some .int) wsX10_sum D cy G (pA G0 sz) → wd D cy G M (pA G0 sz) s.heap H locs → lv_has ls 10 [(1, .int v1), (2, .ref v2), (3, .int v3), (4, .int v4)] → W p l e (rnX10_sum b) s m args below meth c H locs u.1 u.2 (MQ below (va_Qi (fun (r : Int32) (u : gS × mS) => post u.1 u.2 r) (fun u t => va_P D vwCl (pl cy u.1 u.2) t.heap ∧ va_D (pA G0 sz) (pl cy u.1 u.2) ∧ wt u.1 ∧ ext G0 u.1) (pA G0 sz)) args s b.1 b.2 (pA G0 sz)) (F0 m 13 ls []) := by
    intro n
    induction n using Nat.strongRecOn with
    | ind n ih =>
      intro u G M v1 v2 v3 v4 H locs ls hL0 hK0 v2L v2K hext hu hI cx w hl
      have h := hB n u G M v1 v2 v3 v4 hI
      unfold nb_X10_sum_13 at h
      obtain ⟨hx, hb, hml, hown, hts, hr, hlocks, hK, hA, hG, hsx⟩ := id cx
      have hR : (rnX10_sum b).cells = b.1 ∧ (rnX10_sum b).slots = b.2 := ⟨rfl, rfl⟩
      refine lv_iload hx hb dX10_sum_13 (lv_at hl 3 rfl) ?_
      refine lv_iload_n hx hb dX10_sum_15 rfl (lv_at hl 2 rfl) ?_
      refine lv_icmp_ge (tgt := 68) hx hb dX10_sum_16 (by decide) (fun k1 => ?_) (fun k1 => ?_)
      · have h := w_t h k1
        refine lv_iload_n hx hb dX10_sum_68 rfl (lv_at hl 0 rfl) ?_
        exact rb_iret h cx w hext hu dX10_sum_69
      · have h := w_f h k1
        refine lv_aload_n hx hb dX10_sum_19 rfl (lv_at hl 1 rfl) ?_
        refine lv_iload hx hb dX10_sum_20 (lv_at hl 3 rfl) ?_
        obtain ⟨z2, h⟩ := w_ix h
        obtain ⟨q3, eq3, h⟩ := w_rf h
        obtain ⟨hLq3, hKq3⟩ := wt_q hG v2L v2K eq3
        have hKq3 : gK G q3 = 12 := hKq3
        refine r_aaldA cx w v2L v2K z2 eq3 dX10_sum_22 ?_
        refine lv_astore (lv' := [(5, .ref q3), (1, .int v1), (2, .ref v2), (3, .int v3), (4, .int v4)]) hx hb dX10_sum_23 hl (by decide) rfl (fun ls hl => ?_)
        refine lv_aload hx hb dX10_sum_25 (lv_at hl 0 rfl) ?_
        refine lv_astore (lv' := [(6, .ref q3), (5, .ref q3), (1, .int v1), (2, .ref v2), (3, .int v3), (4, .int v4)]) hx hb dX10_sum_27 hl (by decide) rfl (fun ls hl => ?_)
        refine lv_aload hx hb dX10_sum_29 (lv_at hl 0 rfl) ?_
        refine r_alen cx w hLq3 hKq3 (by decide) dX10_sum_31 ?_
        obtain ⟨x4, ex4, h⟩ := w_bd h
        refine r_topI ex4 ?_
        refine lv_istore (lv' := [(7, .int x4), (6, .ref q3), (5, .ref q3), (1, .int v1), (2, .ref v2), (3, .int v3), (4, .int v4)]) hx hb dX10_sum_32 hl (by decide) rfl (fun ls hl => ?_)
        refine lv_iconst (v := (0 : Int32)) hx hb dX10_sum_34 (by decide) ?_
        refine lv_istore (lv' := [(8, .int ((0 : Int32))), (7, .int x4), (6, .ref q3), (5, .ref q3), (1, .int v1), (2, .ref v2), (3, .int v3), (4, .int v4)]) hx hb dX10_sum_35 hl (by decide) rfl (fun ls hl => ?_)
        exact bn_X10_sum_37 hnm (hkb13 := fun u G M v1 v2 v3 v4 H locs ls hL0 hK0 v2L v2K hext hu h cx w hl => by obtain ⟨k, hk, hI⟩ := h; exact ih k hk u G M v1 v2 v3 v4 H locs ls hL0 hK0 v2L v2K hext hu hI cx w hl) u G M v1 v2 v3 v4 q3 x4 ((0 : Int32)) H locs ls hL0 hK0 v2L v2K hLq3 hKq3 hext hu h cx w (lv_sub hl [4, 5, 6, 7, 2, 1, 0] rfl)
  exact key n u G M v1 v2 v3 v4 H locs ls hL0 hK0 v2L v2K hext hu hI cx w hl
set_option maxHeartbeats 4000000 in
set_option maxRecDepth 100000 in
theorem kn_X10_sum {l : Launch} {D : va_G} {cy : cyS} {G : gS} {M : mS} {b : uS} {a0 : Nat} {post : gS → mS → Int32 → Prop} (hG : wt G) (hL0 : a0 ∈ gL G) (hK0 : gK G a0 = 9) (h : n_X10_sum b G M a0 post) : cbI l yX10_sum wsX10_sum (rnX10_sum b) D cy G M [.ref a0] b post := by
  unfold n_X10_sum at h
  refine cbI_of (cc := cX10_sum) (nL := 10) (ret := (some .int)) (lv := [(0, .ref a0)]) hG (by decide) rfl (Nat.le_of_ble_eq_true rfl) rfl ?_
  intro p e s m args below meth c sz ls hnm cx w hl
  obtain ⟨hx, hb, hml, hown, hts, hr, hlocks, hK, hA, -, hsx⟩ := id cx
  have hext := ext_rf (G := G)
  have hu : uL (0, 0) b := ⟨Nat.zero_le _, Nat.zero_le _⟩
  have hR : (rnX10_sum b).cells = b.1 ∧ (rnX10_sum b).slots = b.2 := ⟨rfl, rfl⟩
  refine lv_iconst (v := (0 : Int32)) hx hb dX10_sum_0 (by decide) ?_
  refine lv_istore_n (lv' := [(1, .int ((0 : Int32))), (0, .ref a0)]) hx hb dX10_sum_1 rfl hl (by decide) rfl (fun ls hl => ?_)
  refine lv_aload_n hx hb dX10_sum_2 rfl (lv_at hl 1 rfl) ?_
  obtain ⟨q1, eq1, h⟩ := w_rf h
  obtain ⟨hLq1, hKq1⟩ := wt_q hG hL0 hK0 eq1
  have hKq1 : gK G q1 = 15 := hKq1
  refine r_getR (k := 5) cx w hL0 hK0 (by decide) rfl wb_X10_sum_X10 (by decide) rfl eq1 (List.mem_of_getElem? (i := 1) rfl) dX10_sum_3 ?_
  refine lv_astore_n (lv' := [(2, .ref q1), (1, .int ((0 : Int32))), (0, .ref a0)]) hx hb dX10_sum_6 rfl hl (by decide) rfl (fun ls hl => ?_)
  refine lv_aload_n hx hb dX10_sum_7 rfl (lv_at hl 0 rfl) ?_
  refine r_alen cx w hLq1 hKq1 (by decide) dX10_sum_8 ?_
  obtain ⟨x2, ex2, h⟩ := w_bd h
  refine r_topI ex2 ?_
  refine lv_istore_n (lv' := [(3, .int x2), (2, .ref q1), (1, .int ((0 : Int32))), (0, .ref a0)]) hx hb dX10_sum_9 rfl hl (by decide) rfl (fun ls hl => ?_)
  refine lv_iconst (v := (0 : Int32)) hx hb dX10_sum_10 (by decide) ?_
  refine lv_istore (lv' := [(4, .int ((0 : Int32))), (3, .int x2), (2, .ref q1), (1, .int ((0 : Int32))), (0, .ref a0)]) hx hb dX10_sum_11 hl (by decide) rfl (fun ls hl => ?_)
  exact bn_X10_sum_13 hnm (0, 0) G M ((0 : Int32)) q1 x2 ((0 : Int32)) s.heap [] ls hL0 hK0 hLq1 hKq1 hext hu h cx w (lv_sub hl [3, 2, 1, 0] rfl)
-- X10_counted
theorem wb_X10_counted_X10 : ∀ w ∈ wsX100, w ∈ wsX10_counted := by decide +kernel
abbrev rnX10_counted (b : uS) : Room := { frames := 2, cells := b.1, slots := b.2, locals := 48 }
def nb_X10_counted_14 (b : uS) (a0 : Nat) (c1 : Int32) (post : gS → mS → Int32 → Prop) (back : uS → gS → mS → Int32 → Nat → Int32 → Int32 → Prop) (u : uS) (G : gS) (M : mS) (v2 : Int32) (v3 : Nat) (v4 : Int32) (v5 : Int32) : Prop := p_if (v4 ≤ v5) (q_na b u G M 12 (11 : Int32) (fun q2 u5 G3 M4 => p_ix (0 : Int32) (gN G3 q2) (p_wI M4 q2 (Int32.toNatClampNeg (0 : Int32)) (mI M4 a0 0) (fun M7 => p_rf (gP G3 a0 4) (fun q8 => p_ix (1 : Int32) (gN G3 q2) (p_wI M7 q2 (Int32.toNatClampNeg (1 : Int32)) (Int32.ofNat (gN G3 q8)) (fun M10 => p_rf (gP G3 a0 6) (fun q11 => p_ix (2 : Int32) (gN G3 q2) (p_wI M10 q2 (Int32.toNatClampNeg (2 : Int32)) (Int32.ofNat (gN G3 q11)) (fun M13 => p_rf (gP G3 a0 8) (fun q14 => p_ix (3 : Int32) (gN G3 q2) (p_wI M13 q2 (Int32.toNatClampNeg (3 : Int32)) (Int32.ofNat (gN G3 q14)) (fun M16 => q_ca b u5 (fun v => n_X10_dark v G3 M16 a0) (fun u19 G17 M18 r20 => p_ix (4 : Int32) (gN G17 q2) (p_wI M18 q2 (Int32.toNatClampNeg (4 : Int32)) r20 (fun M22 => q_ca b u19 (fun v => n_X10_sum v G17 M22 a0) (fun u25 G23 M24 r26 => p_ix (5 : Int32) (gN G23 q2) (p_wI M24 q2 (Int32.toNatClampNeg (5 : Int32)) r26 (fun M28 => p_ix (6 : Int32) (gN G23 q2) (p_wI M28 q2 (Int32.toNatClampNeg (6 : Int32)) v2 (fun M30 => p_ix (7 : Int32) (gN G23 q2) (p_wI M30 q2 (Int32.toNatClampNeg (7 : Int32)) (mI M30 a0 1) (fun M32 => p_ix (8 : Int32) (gN G23 q2) (p_wI M32 q2 (Int32.toNatClampNeg (8 : Int32)) (mI M32 a0 2) (fun M34 => p_ix (9 : Int32) (gN G23 q2) (p_wI M34 q2 (Int32.toNatClampNeg (9 : Int32)) (mI M34 a0 3) (fun M36 => p_ix (10 : Int32) (gN G23 q2) (p_wI M36 q2 (Int32.toNatClampNeg (10 : Int32)) (0 : Int32) (fun M38 => p_ix c1 (gN G23 q2) (post G23 M38 (mI M38 q2 (Int32.toNatClampNeg c1)))))))))))))))))))))))))))))))) (p_ix v5 (gN G v3) (p_rf (gP G v3 (Int32.toNatClampNeg v5)) (fun q41 => p_ix (4 : Int32) (gN G q41) (p_bd ((v2 + (mI M q41 (Int32.toNatClampNeg (4 : Int32))))) (fun x43 => p_bd (v5 + 1 : Int32) (fun x44 => back u G M x43 v3 v4 x44))))))
def nl_X10_counted_14 (b : uS) (a0 : Nat) (c1 : Int32) (post : gS → mS → Int32 → Prop) (u : uS) (G : gS) (M : mS) (v2 : Int32) (v3 : Nat) (v4 : Int32) (v5 : Int32) : Prop := ∃ (I : Nat → uS → gS → mS → Int32 → Nat → Int32 → Int32 → Prop) (n : Nat), I n u G M v2 v3 v4 v5 ∧ ∀ (n : Nat) (u : uS) (G : gS) (M : mS) (v2 : Int32) (v3 : Nat) (v4 : Int32) (v5 : Int32), I n u G M v2 v3 v4 v5 → nb_X10_counted_14 b a0 c1 post (fun u G M v2 v3 v4 v5 => ∃ k, k < n ∧ I k u G M v2 v3 v4 v5) u G M v2 v3 v4 v5
def n_X10_counted (b : uS) (G : gS) (M : mS) (a0 : Nat) (c1 : Int32) (post : gS → mS → Int32 → Prop) : Prop := p_rf (gP G a0 6) (fun q1 => p_bd ((Int32.ofNat (gN G q1))) (fun x2 => nl_X10_counted_14 b a0 c1 post (0, 0) G M ((0 : Int32)) q1 x2 ((0 : Int32))))
set_option maxHeartbeats 4000000 in
set_option maxRecDepth 100000 in
theorem bn_X10_counted_14 {p : Program} {l : Launch} {e : Env} {s : State} {m : MethodId} {args : Array Value} {below : List Frame} {meth : Method} {c : Code} {D : va_G} {cy : cyS} {b : uS} {G0 : gS} {sz : Nat} (hnm : meth.name = yX10_counted.name)  {a0 : Nat} {c1 : Int32} {post : gS → mS → Int32 → Prop} : ∀ (u : uS) (G : gS) (M : mS) (v2 : Int32) (v3 : Nat) (v4 : Int32) (v5 : Int32) (H : Heap) (locs : List Loc) (ls : Array Slot), a0 ∈ gL G → gK G a0 = 9 → v3 ∈ gL G → gK G v3 = 15 → ext G0 G → uL u b → nl_X10_counted_14 b a0 c1 post u G M v2 v3 v4 v5 → cX p s m args meth c cX10_counted RX10 7 (some .int) wsX10_counted D cy G (pA G0 sz) → wd D cy G M (pA G0 sz) s.heap H locs → lv_has ls 7 [(0, .ref a0), (1, .int c1), (2, .int v2), (3, .ref v3), (4, .int v4), (5, .int v5)] → W p l e (rnX10_counted b) s m args below meth c H locs u.1 u.2 (MQ below (va_Qi (fun (r : Int32) (u : gS × mS) => post u.1 u.2 r) (fun u t => va_P D vwCl (pl cy u.1 u.2) t.heap ∧ va_D (pA G0 sz) (pl cy u.1 u.2) ∧ wt u.1 ∧ ext G0 u.1) (pA G0 sz)) args s b.1 b.2 (pA G0 sz)) (F0 m 14 ls []) := by
  intro u G M v2 v3 v4 v5 H locs ls hL0 hK0 v3L v3K hext hu h cx w hl
  obtain ⟨I, n, hI, hB⟩ := h
  have key : ∀ n : Nat, ∀ (u : uS) (G : gS) (M : mS) (v2 : Int32) (v3 : Nat) (v4 : Int32) (v5 : Int32) (H : Heap) (locs : List Loc) (ls : Array Slot), a0 ∈ gL G → gK G a0 = 9 → v3 ∈ gL G → gK G v3 = 15 → ext G0 G → uL u b → I n u G M v2 v3 v4 v5 → cX p s m args meth c cX10_counted RX10 7 (some .int) wsX10_counted D cy G (pA G0 sz) → wd D cy G M (pA G0 sz) s.heap H locs → lv_has ls 7 [(0, .ref a0), (1, .int c1), (2, .int v2), (3, .ref v3), (4, .int v4), (5, .int v5)] → W p l e (rnX10_counted b) s m args below meth c H locs u.1 u.2 (MQ below (va_Qi (fun (r : Int32) (u : gS × mS) => post u.1 u.2 r) (fun u t => va_P D vwCl (pl cy u.1 u.2) t.heap ∧ va_D (pA G0 sz) (pl cy u.1 u.2) ∧ wt u.1 ∧ ext G0 u.1) (pA G0 sz)) args s b.1 b.2 (pA G0 sz)) (F0 m 14 ls []) := by
    intro n
    induction n using Nat.strongRecOn with
    | ind n ih =>
      intro u G M v2 v3 v4 v5 H locs ls hL0 hK0 v3L v3K hext hu hI cx w hl
      have h := hB n u G M v2 v3 v4 v5 hI
      unfold nb_X10_counted_14 at h
      obtain ⟨hx, hb, hml, hown, hts, hr, hlocks, hK, hA, hG, hsx⟩ := id cx
      have hR : (rnX10_counted b).cells = b.1 ∧ (rnX10_counted b).slots = b.2 := ⟨rfl, rfl⟩
      refine lv_iload hx hb dX10_counted_14 (lv_at hl 5 rfl) ?_
      refine lv_iload hx hb dX10_counted_16 (lv_at hl 4 rfl) ?_
      refine lv_icmp_ge (tgt := 40) hx hb dX10_counted_18 (by decide) (fun k1 => ?_) (fun k1 => ?_)
      · have h := w_t h k1
        refine lv_bipush (v := (11 : Int32)) hx hb dX10_counted_40 (by decide) ?_
        refine rb_newI (b := b) (u := u) cx w hR (List.mem_of_getElem? (i := 2) rfl) h dX10_counted_42 (fun q2 u5 G3 M4 H h hu xe hLq2 hKq2 cx w => ?_)
        obtain ⟨hL0, hK0⟩ := ext_wt xe hL0 hK0
        obtain ⟨v3L, v3K⟩ := ext_wt xe v3L v3K
        have hext := ext_tr hext xe
        clear xe
        have hG := cX_wt cx
        refine lv_dup hx hb dX10_counted_44 rfl ?_
        refine lv_iconst (v := (0 : Int32)) hx hb dX10_counted_45 (by decide) ?_
        refine lv_aload_n hx hb dX10_counted_46 rfl (lv_at hl 0 rfl) ?_
        refine r_getI (k := 0) (v := .int (mI M4 a0 0)) cx w hL0 hK0 (by decide) rfl wb_X10_counted_X10 (by decide) rfl (List.mem_of_getElem? (i := 3) rfl) dX10_counted_47 ?_
        obtain ⟨z6, h⟩ := w_ix h
        obtain ⟨M7, eM7, h⟩ := w_wI h
        refine r_iast cx w hLq2 hKq2 z6 dX10_counted_50 eM7 (fun H locs w => ?_)
        refine lv_dup hx hb dX10_counted_51 rfl ?_
        refine lv_iconst (v := (1 : Int32)) hx hb dX10_counted_52 (by decide) ?_
        refine lv_aload_n hx hb dX10_counted_53 rfl (lv_at hl 0 rfl) ?_
        obtain ⟨q8, eq8, h⟩ := w_rf h
        obtain ⟨hLq8, hKq8⟩ := wt_q hG hL0 hK0 eq8
        have hKq8 : gK G3 q8 = 15 := hKq8
        refine r_getR (k := 4) cx w hL0 hK0 (by decide) rfl wb_X10_counted_X10 (by decide) rfl eq8 (List.mem_of_getElem? (i := 4) rfl) dX10_counted_54 ?_
        refine r_alen cx w hLq8 hKq8 (by decide) dX10_counted_57 ?_
        obtain ⟨z9, h⟩ := w_ix h
        obtain ⟨M10, eM10, h⟩ := w_wI h
        refine r_iast cx w hLq2 hKq2 z9 dX10_counted_58 eM10 (fun H locs w => ?_)
        refine lv_dup hx hb dX10_counted_59 rfl ?_
        refine lv_iconst (v := (2 : Int32)) hx hb dX10_counted_60 (by decide) ?_
        refine lv_aload_n hx hb dX10_counted_61 rfl (lv_at hl 0 rfl) ?_
        obtain ⟨q11, eq11, h⟩ := w_rf h
        obtain ⟨hLq11, hKq11⟩ := wt_q hG hL0 hK0 eq11
        have hKq11 : gK G3 q11 = 15 := hKq11
        refine r_getR (k := 6) cx w hL0 hK0 (by decide) rfl wb_X10_counted_X10 (by decide) rfl eq11 (List.mem_of_getElem? (i := 1) rfl) dX10_counted_62 ?_
        refine r_alen cx w hLq11 hKq11 (by decide) dX10_counted_65 ?_
        obtain ⟨z12, h⟩ := w_ix h
        obtain ⟨M13, eM13, h⟩ := w_wI h
        refine r_iast cx w hLq2 hKq2 z12 dX10_counted_66 eM13 (fun H locs w => ?_)
        refine lv_dup hx hb dX10_counted_67 rfl ?_
        refine lv_iconst (v := (3 : Int32)) hx hb dX10_counted_68 (by decide) ?_
        refine lv_aload_n hx hb dX10_counted_69 rfl (lv_at hl 0 rfl) ?_
        obtain ⟨q14, eq14, h⟩ := w_rf h
        obtain ⟨hLq14, hKq14⟩ := wt_q hG hL0 hK0 eq14
        have hKq14 : gK G3 q14 = 15 := hKq14
        refine r_getR (k := 8) cx w hL0 hK0 (by decide) rfl wb_X10_counted_X10 (by decide) rfl eq14 (List.mem_of_getElem? (i := 5) rfl) dX10_counted_70 ?_
        refine r_alen cx w hLq14 hKq14 (by decide) dX10_counted_73 ?_
        obtain ⟨z15, h⟩ := w_ix h
        obtain ⟨M16, eM16, h⟩ := w_wI h
        refine r_iast cx w hLq2 hKq2 z15 dX10_counted_74 eM16 (fun H locs w => ?_)
        refine lv_dup hx hb dX10_counted_75 rfl ?_
        refine lv_iconst (v := (4 : Int32)) hx hb dX10_counted_76 (by decide) ?_
        refine lv_aload_n hx hb dX10_counted_77 rfl (lv_at hl 0 rfl) ?_
        refine rb_VI (b := b) (u := u5) (rf := 1) (rl := 26) (As := []) (rest := [.int ((4 : Int32)), .ref q2, .ref q2]) cx w hR hl.1 h (fun h => kn_X10_dark hG hL0 hK0 h) (fun v => cwV 0 hts gX10_counted_X10_dark rfl rfl rfl (by decide +kernel) ⟨(Nat.le_of_ble_eq_true rfl), (Nat.le_of_ble_eq_true rfl)⟩) hL0 hK0 (by decide) rfl rfl rfl (Nat.le_of_ble_eq_true rfl) dX10_counted_78 (fun u19 G17 M18 r20 H locs h hu xe cx w => ?_)
        obtain ⟨hL0, hK0⟩ := ext_wt xe hL0 hK0
        obtain ⟨v3L, v3K⟩ := ext_wt xe v3L v3K
        obtain ⟨hLq2, hKq2⟩ := ext_wt xe hLq2 hKq2
        have hext := ext_tr hext xe
        clear xe
        have hG := cX_wt cx
        obtain ⟨z21, h⟩ := w_ix h
        obtain ⟨M22, eM22, h⟩ := w_wI h
        refine r_iast cx w hLq2 hKq2 z21 dX10_counted_81 eM22 (fun H locs w => ?_)
        refine lv_dup hx hb dX10_counted_82 rfl ?_
        refine lv_iconst (v := (5 : Int32)) hx hb dX10_counted_83 (by decide) ?_
        refine lv_aload_n hx hb dX10_counted_84 rfl (lv_at hl 0 rfl) ?_
        refine rb_VI (b := b) (u := u19) (rf := 0) (rl := 0) (As := []) (rest := [.int ((5 : Int32)), .ref q2, .ref q2]) cx w hR hl.1 h (fun h => kn_X10_sum hG hL0 hK0 h) (fun v => cwV 0 hts gX10_counted_X10_sum rfl rfl rfl (by decide +kernel) ⟨(Nat.le_of_ble_eq_true rfl), (Nat.le_of_ble_eq_true rfl)⟩) hL0 hK0 (by decide) rfl rfl rfl (Nat.le_of_ble_eq_true rfl) dX10_counted_85 (fun u25 G23 M24 r26 H locs h hu xe cx w => ?_)
        obtain ⟨hL0, hK0⟩ := ext_wt xe hL0 hK0
        obtain ⟨v3L, v3K⟩ := ext_wt xe v3L v3K
        obtain ⟨hLq2, hKq2⟩ := ext_wt xe hLq2 hKq2
        have hext := ext_tr hext xe
        clear xe
        have hG := cX_wt cx
        obtain ⟨z27, h⟩ := w_ix h
        obtain ⟨M28, eM28, h⟩ := w_wI h
        refine r_iast cx w hLq2 hKq2 z27 dX10_counted_88 eM28 (fun H locs w => ?_)
        refine lv_dup hx hb dX10_counted_89 rfl ?_
        refine lv_bipush (v := (6 : Int32)) hx hb dX10_counted_90 (by decide) ?_
        refine lv_iload_n hx hb dX10_counted_92 rfl (lv_at hl 2 rfl) ?_
        obtain ⟨z29, h⟩ := w_ix h
        obtain ⟨M30, eM30, h⟩ := w_wI h
        refine r_iast cx w hLq2 hKq2 z29 dX10_counted_93 eM30 (fun H locs w => ?_)
        refine lv_dup hx hb dX10_counted_94 rfl ?_
        refine lv_bipush (v := (7 : Int32)) hx hb dX10_counted_95 (by decide) ?_
        refine lv_aload_n hx hb dX10_counted_97 rfl (lv_at hl 0 rfl) ?_
        refine r_getI (k := 1) (v := .int (mI M30 a0 1)) cx w hL0 hK0 (by decide) rfl wb_X10_counted_X10 (by decide) rfl (List.mem_of_getElem? (i := 6) rfl) dX10_counted_98 ?_
        obtain ⟨z31, h⟩ := w_ix h
        obtain ⟨M32, eM32, h⟩ := w_wI h
        refine r_iast cx w hLq2 hKq2 z31 dX10_counted_101 eM32 (fun H locs w => ?_)
        refine lv_dup hx hb dX10_counted_102 rfl ?_
        refine lv_bipush (v := (8 : Int32)) hx hb dX10_counted_103 (by decide) ?_
        refine lv_aload_n hx hb dX10_counted_105 rfl (lv_at hl 0 rfl) ?_
        refine r_getI (k := 2) (v := .int (mI M32 a0 2)) cx w hL0 hK0 (by decide) rfl wb_X10_counted_X10 (by decide) rfl (List.mem_of_getElem? (i := 7) rfl) dX10_counted_106 ?_
        obtain ⟨z33, h⟩ := w_ix h
        obtain ⟨M34, eM34, h⟩ := w_wI h
        refine r_iast cx w hLq2 hKq2 z33 dX10_counted_109 eM34 (fun H locs w => ?_)
        refine lv_dup hx hb dX10_counted_110 rfl ?_
        refine lv_bipush (v := (9 : Int32)) hx hb dX10_counted_111 (by decide) ?_
        refine lv_aload_n hx hb dX10_counted_113 rfl (lv_at hl 0 rfl) ?_
        refine r_getI (k := 3) (v := .int (mI M34 a0 3)) cx w hL0 hK0 (by decide) rfl wb_X10_counted_X10 (by decide) rfl (List.mem_of_getElem? (i := 8) rfl) dX10_counted_114 ?_
        obtain ⟨z35, h⟩ := w_ix h
        obtain ⟨M36, eM36, h⟩ := w_wI h
        refine r_iast cx w hLq2 hKq2 z35 dX10_counted_117 eM36 (fun H locs w => ?_)
        refine lv_dup hx hb dX10_counted_118 rfl ?_
        refine lv_bipush (v := (10 : Int32)) hx hb dX10_counted_119 (by decide) ?_
        refine lv_iconst (v := (0 : Int32)) hx hb dX10_counted_121 (by decide) ?_
        obtain ⟨z37, h⟩ := w_ix h
        obtain ⟨M38, eM38, h⟩ := w_wI h
        refine r_iast cx w hLq2 hKq2 z37 dX10_counted_122 eM38 (fun H locs w => ?_)
        refine lv_astore_n (lv' := [(3, .ref q2), (0, .ref a0), (1, .int c1), (2, .int v2), (4, .int v4), (5, .int v5)]) hx hb dX10_counted_123 rfl hl (by decide) rfl (fun ls hl => ?_)
        refine lv_aload_n hx hb dX10_counted_124 rfl (lv_at hl 0 rfl) ?_
        refine lv_iload_n hx hb dX10_counted_125 rfl (lv_at hl 2 rfl) ?_
        obtain ⟨z39, h⟩ := w_ix h
        refine r_iald cx w hLq2 hKq2 z39 dX10_counted_126 ?_
        exact rb_iret h cx w hext hu dX10_counted_127
      · have h := w_f h k1
        refine lv_aload_n hx hb dX10_counted_21 rfl (lv_at hl 3 rfl) ?_
        refine lv_iload hx hb dX10_counted_22 (lv_at hl 5 rfl) ?_
        obtain ⟨z40, h⟩ := w_ix h
        obtain ⟨q41, eq41, h⟩ := w_rf h
        obtain ⟨hLq41, hKq41⟩ := wt_q hG v3L v3K eq41
        have hKq41 : gK G q41 = 12 := hKq41
        refine r_aaldA cx w v3L v3K z40 eq41 dX10_counted_24 ?_
        refine lv_astore (lv' := [(6, .ref q41), (0, .ref a0), (1, .int c1), (2, .int v2), (3, .ref v3), (4, .int v4), (5, .int v5)]) hx hb dX10_counted_25 hl (by decide) rfl (fun ls hl => ?_)
        refine lv_iload_n hx hb dX10_counted_27 rfl (lv_at hl 3 rfl) ?_
        refine lv_aload hx hb dX10_counted_28 (lv_at hl 0 rfl) ?_
        refine lv_iconst (v := (4 : Int32)) hx hb dX10_counted_30 (by decide) ?_
        obtain ⟨z42, h⟩ := w_ix h
        refine r_iald cx w hLq41 hKq41 z42 dX10_counted_31 ?_
        refine lv_iadd hx hb dX10_counted_32 ?_
        obtain ⟨x43, ex43, h⟩ := w_bd h
        refine r_topI ex43 ?_
        refine lv_istore_n (lv' := [(2, .int x43), (6, .ref q41), (0, .ref a0), (1, .int c1), (3, .ref v3), (4, .int v4), (5, .int v5)]) hx hb dX10_counted_33 rfl hl (by decide) rfl (fun ls hl => ?_)
        obtain ⟨x44, ex44, h⟩ := w_bd h
        refine lv_iinc (v := x44) (lv' := [(5, .int x44), (2, .int x43), (6, .ref q41), (0, .ref a0), (1, .int c1), (3, .ref v3), (4, .int v4)]) hx hb dX10_counted_34 hl (k := 6) rfl (by rw [ex44]; rfl) (by decide) rfl (fun ls hl => ?_)
        refine lv_goto (tgt := 14) hx hb dX10_counted_37 (by decide) ?_
        obtain ⟨k, hk, hI⟩ := h
        exact ih k hk u G M x43 v3 v4 x44 H locs ls hL0 hK0 v3L v3K hext hu hI cx w (lv_sub hl [3, 4, 1, 5, 6, 0] rfl)
  exact key n u G M v2 v3 v4 v5 H locs ls hL0 hK0 v3L v3K hext hu hI cx w hl
set_option maxHeartbeats 4000000 in
set_option maxRecDepth 100000 in
theorem kn_X10_counted {l : Launch} {D : va_G} {cy : cyS} {G : gS} {M : mS} {b : uS} {a0 : Nat} {c1 : Int32} {post : gS → mS → Int32 → Prop} (hG : wt G) (hL0 : a0 ∈ gL G) (hK0 : gK G a0 = 9) (h : n_X10_counted b G M a0 c1 post) : cbI l yX10_counted wsX10_counted (rnX10_counted b) D cy G M [.ref a0, .int c1] b post := by
  unfold n_X10_counted at h
  refine cbI_of (cc := cX10_counted) (nL := 7) (ret := (some .int)) (lv := [(0, .ref a0), (1, .int c1)]) hG (by decide) rfl (Nat.le_of_ble_eq_true rfl) rfl ?_
  intro p e s m args below meth c sz ls hnm cx w hl
  obtain ⟨hx, hb, hml, hown, hts, hr, hlocks, hK, hA, -, hsx⟩ := id cx
  have hext := ext_rf (G := G)
  have hu : uL (0, 0) b := ⟨Nat.zero_le _, Nat.zero_le _⟩
  have hR : (rnX10_counted b).cells = b.1 ∧ (rnX10_counted b).slots = b.2 := ⟨rfl, rfl⟩
  refine lv_iconst (v := (0 : Int32)) hx hb dX10_counted_0 (by decide) ?_
  refine lv_istore_n (lv' := [(2, .int ((0 : Int32))), (0, .ref a0), (1, .int c1)]) hx hb dX10_counted_1 rfl hl (by decide) rfl (fun ls hl => ?_)
  refine lv_aload_n hx hb dX10_counted_2 rfl (lv_at hl 1 rfl) ?_
  obtain ⟨q1, eq1, h⟩ := w_rf h
  obtain ⟨hLq1, hKq1⟩ := wt_q hG hL0 hK0 eq1
  have hKq1 : gK G q1 = 15 := hKq1
  refine r_getR (k := 6) cx w hL0 hK0 (by decide) rfl wb_X10_counted_X10 (by decide) rfl eq1 (List.mem_of_getElem? (i := 1) rfl) dX10_counted_3 ?_
  refine lv_astore_n (lv' := [(3, .ref q1), (2, .int ((0 : Int32))), (0, .ref a0), (1, .int c1)]) hx hb dX10_counted_6 rfl hl (by decide) rfl (fun ls hl => ?_)
  refine lv_aload_n hx hb dX10_counted_7 rfl (lv_at hl 0 rfl) ?_
  refine r_alen cx w hLq1 hKq1 (by decide) dX10_counted_8 ?_
  obtain ⟨x2, ex2, h⟩ := w_bd h
  refine r_topI ex2 ?_
  refine lv_istore (lv' := [(4, .int x2), (3, .ref q1), (2, .int ((0 : Int32))), (0, .ref a0), (1, .int c1)]) hx hb dX10_counted_9 hl (by decide) rfl (fun ls hl => ?_)
  refine lv_iconst (v := (0 : Int32)) hx hb dX10_counted_11 (by decide) ?_
  refine lv_istore (lv' := [(5, .int ((0 : Int32))), (4, .int x2), (3, .ref q1), (2, .int ((0 : Int32))), (0, .ref a0), (1, .int c1)]) hx hb dX10_counted_12 hl (by decide) rfl (fun ls hl => ?_)
  exact bn_X10_counted_14 hnm (0, 0) G M ((0 : Int32)) q1 x2 ((0 : Int32)) s.heap [] ls hL0 hK0 hLq1 hKq1 hext hu h cx w (lv_sub hl [4, 5, 3, 2, 1, 0] rfl)
-- X10_isSame
theorem wb_X10_isSame_X10 : ∀ w ∈ wsX100, w ∈ wsX10_isSame := by decide +kernel
abbrev rnX10_isSame (b : uS) : Room := { frames := 5, cells := b.1, slots := b.2, locals := 112 }
def nb_X10_isSame_73 (b : uS) (a0 : Nat) (a1 : Nat) (kb36 : uS → gS → mS → Nat → Int32 → Prop) (post : gS → mS → Int32 → Prop) (back : uS → gS → mS → Nat → Int32 → Nat → Int32 → Int32 → Prop) (u : uS) (G : gS) (M : mS) (v2 : Nat) (v3 : Int32) (v4 : Nat) (v5 : Int32) (v6 : Int32) : Prop := p_if (v5 ≤ v6) (p_bd (v3 + 1 : Int32) (fun x2 => kb36 u G M v2 x2)) (p_ix v6 (gN G v4) (p_bd ((mI M v4 (Int32.toNatClampNeg v6))) (fun x4 => p_ix x4 (gN G v2) (p_ix x4 (gN G v2) (p_wI M v2 (Int32.toNatClampNeg x4) ((mI M v2 (Int32.toNatClampNeg x4)) + (1 : Int32)) (fun M7 => p_bd (v6 + 1 : Int32) (fun x8 => back u G M7 v2 v3 v4 v5 x8)))))))
def nl_X10_isSame_73 (b : uS) (a0 : Nat) (a1 : Nat) (kb36 : uS → gS → mS → Nat → Int32 → Prop) (post : gS → mS → Int32 → Prop) (u : uS) (G : gS) (M : mS) (v2 : Nat) (v3 : Int32) (v4 : Nat) (v5 : Int32) (v6 : Int32) : Prop := ∃ (I : Nat → uS → gS → mS → Nat → Int32 → Nat → Int32 → Int32 → Prop) (n : Nat), I n u G M v2 v3 v4 v5 v6 ∧ ∀ (n : Nat) (u : uS) (G : gS) (M : mS) (v2 : Nat) (v3 : Int32) (v4 : Nat) (v5 : Int32) (v6 : Int32), I n u G M v2 v3 v4 v5 v6 → nb_X10_isSame_73 b a0 a1 kb36 post (fun u G M v2 v3 v4 v5 v6 => ∃ k, k < n ∧ I k u G M v2 v3 v4 v5 v6) u G M v2 v3 v4 v5 v6
def nb_X10_isSame_237 (b : uS) (a0 : Nat) (a1 : Nat) (post : gS → mS → Int32 → Prop) (u : uS) (G : gS) (M : mS) : Prop := p_ck ((0 : Int32) = 0 ∨ (0 : Int32) = 1) (post G M (0 : Int32))
def nb_X10_isSame_242 (b : uS) (a0 : Nat) (a1 : Nat) (kb136 : uS → gS → mS → Int32 → Prop) (post : gS → mS → Int32 → Prop) (back : uS → gS → mS → Int32 → Int32 → Prop) (u : uS) (G : gS) (M : mS) (v3 : Int32) (v5 : Int32) : Prop := p_if ((9 : Int32) ≤ v5) (p_bd (v3 + 1 : Int32) (fun x2 => kb136 u G M x2)) (p_rf (gP G a0 6) (fun q3 => p_ix v3 (gN G q3) (p_rf (gP G q3 (Int32.toNatClampNeg v3)) (fun q5 => p_ix (1 : Int32) (gN G q5) (p_ck (¬ (3 : Int32) = 0) (p_ck (¬ (64 : Int32) = 0) (p_bd (((((mI M q5 (Int32.toNatClampNeg (1 : Int32))) + (62 : Int32)) + (v5 - v5 / (3 : Int32) * (3 : Int32))) - (((mI M q5 (Int32.toNatClampNeg (1 : Int32))) + (62 : Int32)) + (v5 - v5 / (3 : Int32) * (3 : Int32))) / (64 : Int32) * (64 : Int32))) (fun x9 => p_rf (gP G a0 6) (fun q10 => p_ix v3 (gN G q10) (p_rf (gP G q10 (Int32.toNatClampNeg v3)) (fun q12 => p_ix (2 : Int32) (gN G q12) (p_ck (¬ (3 : Int32) = 0) (p_ck (¬ (64 : Int32) = 0) (p_bd (((((mI M q12 (Int32.toNatClampNeg (2 : Int32))) + (62 : Int32)) + (v5 / (3 : Int32))) - (((mI M q12 (Int32.toNatClampNeg (2 : Int32))) + (62 : Int32)) + (v5 / (3 : Int32))) / (64 : Int32) * (64 : Int32))) (fun x16 => p_cl (m_X9_stone G M a1 x9 x16) (fun M17 r18 => p_rf (gP G a0 5) (fun q20 => p_ix x16 (gN G q20) (p_rf (gP G q20 (Int32.toNatClampNeg x16)) (fun q22 => p_ix x9 (gN G q22) (p_if (r18 = (mI M17 q22 (Int32.toNatClampNeg x9))) (p_bd (v5 + 1 : Int32) (fun x25 => back u G M17 v3 x25)) (p_ck ((0 : Int32) = 0 ∨ (0 : Int32) = 1) (post G M17 (0 : Int32)))))))))))))))))))))))
def nl_X10_isSame_242 (b : uS) (a0 : Nat) (a1 : Nat) (kb136 : uS → gS → mS → Int32 → Prop) (post : gS → mS → Int32 → Prop) (u : uS) (G : gS) (M : mS) (v3 : Int32) (v5 : Int32) : Prop := ∃ (I : Nat → uS → gS → mS → Int32 → Int32 → Prop) (n : Nat), I n u G M v3 v5 ∧ ∀ (n : Nat) (u : uS) (G : gS) (M : mS) (v3 : Int32) (v5 : Int32), I n u G M v3 v5 → nb_X10_isSame_242 b a0 a1 kb136 post (fun u G M v3 v5 => ∃ k, k < n ∧ I k u G M v3 v5) u G M v3 v5
def nb_X10_isSame_155 (b : uS) (a0 : Nat) (a1 : Nat) (kb136 : uS → gS → mS → Int32 → Prop) (post : gS → mS → Int32 → Prop) (back : uS → gS → mS → Int32 → Int32 → Int32 → Prop) (u : uS) (G : gS) (M : mS) (v3 : Int32) (v4 : Int32) (v5 : Int32) : Prop := p_if ((6 : Int32) ≤ v5) (p_cl (m_X9_ant G M a1 v3 (6 : Int32)) (fun M2 r3 => p_if (r3 = v4) (p_cl (m_X9_ant G M2 a1 v3 (7 : Int32)) (fun M6 r7 => q_ca b u (fun v => n_X10_led v G M6 a0 v3 v4 (1 : Int32)) (fun u11 G9 M10 r12 => p_if (r7 = r12) (p_cl (m_X9_ant G9 M10 a1 v3 (8 : Int32)) (fun M14 r15 => q_ca b u11 (fun v => n_X10_led v G9 M14 a0 v3 v4 (2 : Int32)) (fun u19 G17 M18 r20 => p_if (r15 = r20) (nl_X10_isSame_242 b a0 a1 kb136 post u19 G17 M18 v3 ((0 : Int32))) (nb_X10_isSame_237 b a0 a1 post u19 G17 M18)))) (nb_X10_isSame_237 b a0 a1 post u11 G9 M10)))) (nb_X10_isSame_237 b a0 a1 post u G M2))) (p_cl (m_X9_ant G M a1 v3 v5) (fun M22 r23 => p_rf (gP G a0 6) (fun q25 => p_ix v3 (gN G q25) (p_rf (gP G q25 (Int32.toNatClampNeg v3)) (fun q27 => p_ix v5 (gN G q27) (p_if (r23 = (mI M22 q27 (Int32.toNatClampNeg v5))) (p_bd (v5 + 1 : Int32) (fun x30 => back u G M22 v3 v4 x30)) (p_ck ((0 : Int32) = 0 ∨ (0 : Int32) = 1) (post G M22 (0 : Int32)))))))))
def nl_X10_isSame_155 (b : uS) (a0 : Nat) (a1 : Nat) (kb136 : uS → gS → mS → Int32 → Prop) (post : gS → mS → Int32 → Prop) (u : uS) (G : gS) (M : mS) (v3 : Int32) (v4 : Int32) (v5 : Int32) : Prop := ∃ (I : Nat → uS → gS → mS → Int32 → Int32 → Int32 → Prop) (n : Nat), I n u G M v3 v4 v5 ∧ ∀ (n : Nat) (u : uS) (G : gS) (M : mS) (v3 : Int32) (v4 : Int32) (v5 : Int32), I n u G M v3 v4 v5 → nb_X10_isSame_155 b a0 a1 kb136 post (fun u G M v3 v4 v5 => ∃ k, k < n ∧ I k u G M v3 v4 v5) u G M v3 v4 v5
def nb_X10_isSame_348 (b : uS) (a0 : Nat) (a1 : Nat) (post : gS → mS → Int32 → Prop) (u : uS) (G : gS) (M : mS) (s0 : Int32) : Prop := p_ck (s0 = 0 ∨ s0 = 1) (post G M s0)
def nb_X10_isSame_136 (b : uS) (a0 : Nat) (a1 : Nat) (post : gS → mS → Int32 → Prop) (back : uS → gS → mS → Int32 → Prop) (u : uS) (G : gS) (M : mS) (v3 : Int32) : Prop := p_rf (gP G a0 6) (fun q1 => p_if ((Int32.ofNat (gN G q1)) ≤ v3) (p_cl (m_X9_mean G M a1) (fun M3 r4 => q_ca b u (fun v => n_X10_sum v G M3 a0) (fun u8 G6 M7 r9 => p_ck ((FP.ddiv (FP.i2d r9) (4661225614328463360 : UInt64)) &&& 0x7fffffffffffffff ≤ 0x7ff0000000000000) (p_if ((Op.cmpValue (FP.dcmp r4 (FP.ddiv (FP.i2d r9) (4661225614328463360 : UInt64))) .l) = 0) (nb_X10_isSame_348 b a0 a1 post u8 G6 M7 ((1 : Int32))) (nb_X10_isSame_348 b a0 a1 post u8 G6 M7 ((0 : Int32))))))) (q_ca b u (fun v => n_X10_period v G M a0 v3) (fun u14 G12 M13 r15 => nl_X10_isSame_155 b a0 a1 back post u14 G12 M13 v3 r15 ((0 : Int32)))))
def nl_X10_isSame_136 (b : uS) (a0 : Nat) (a1 : Nat) (post : gS → mS → Int32 → Prop) (u : uS) (G : gS) (M : mS) (v3 : Int32) : Prop := ∃ (I : Nat → uS → gS → mS → Int32 → Prop) (n : Nat), I n u G M v3 ∧ ∀ (n : Nat) (u : uS) (G : gS) (M : mS) (v3 : Int32), I n u G M v3 → nb_X10_isSame_136 b a0 a1 post (fun u G M v3 => ∃ k, k < n ∧ I k u G M v3) u G M v3
def nb_X10_isSame_109 (b : uS) (a0 : Nat) (a1 : Nat) (post : gS → mS → Int32 → Prop) (back : uS → gS → mS → Nat → Int32 → Prop) (u : uS) (G : gS) (M : mS) (v2 : Nat) (v3 : Int32) : Prop := p_if ((6 : Int32) ≤ v3) (nl_X10_isSame_136 b a0 a1 post u G M ((0 : Int32))) (p_cl (m_X9_colour G M a1 v3) (fun M2 r3 => p_ix v3 (gN G v2) (p_if (r3 = (mI M2 v2 (Int32.toNatClampNeg v3))) (p_bd (v3 + 1 : Int32) (fun x7 => back u G M2 v2 x7)) (p_ck ((0 : Int32) = 0 ∨ (0 : Int32) = 1) (post G M2 (0 : Int32))))))
def nl_X10_isSame_109 (b : uS) (a0 : Nat) (a1 : Nat) (post : gS → mS → Int32 → Prop) (u : uS) (G : gS) (M : mS) (v2 : Nat) (v3 : Int32) : Prop := ∃ (I : Nat → uS → gS → mS → Nat → Int32 → Prop) (n : Nat), I n u G M v2 v3 ∧ ∀ (n : Nat) (u : uS) (G : gS) (M : mS) (v2 : Nat) (v3 : Int32), I n u G M v2 v3 → nb_X10_isSame_109 b a0 a1 post (fun u G M v2 v3 => ∃ k, k < n ∧ I k u G M v2 v3) u G M v2 v3
def nb_X10_isSame_36 (b : uS) (a0 : Nat) (a1 : Nat) (post : gS → mS → Int32 → Prop) (back : uS → gS → mS → Nat → Int32 → Prop) (u : uS) (G : gS) (M : mS) (v2 : Nat) (v3 : Int32) : Prop := p_if ((64 : Int32) ≤ v3) (nl_X10_isSame_109 b a0 a1 post u G M v2 ((0 : Int32))) (p_cl (m_X9_row G M a1 v3) (fun M2 r3 => q_ca b u (fun v => n_X10_darkIn v G M2 a0 v3) (fun u7 G5 M6 r8 => p_if (r3 = r8) (p_rf (gP G5 a0 5) (fun q10 => p_ix v3 (gN G5 q10) (p_rf (gP G5 q10 (Int32.toNatClampNeg v3)) (fun q12 => p_bd ((Int32.ofNat (gN G5 q12))) (fun x13 => nl_X10_isSame_73 b a0 a1 back post u7 G5 M6 v2 v3 q12 x13 ((0 : Int32))))))) (p_ck ((0 : Int32) = 0 ∨ (0 : Int32) = 1) (post G5 M6 (0 : Int32))))))
def nl_X10_isSame_36 (b : uS) (a0 : Nat) (a1 : Nat) (post : gS → mS → Int32 → Prop) (u : uS) (G : gS) (M : mS) (v2 : Nat) (v3 : Int32) : Prop := ∃ (I : Nat → uS → gS → mS → Nat → Int32 → Prop) (n : Nat), I n u G M v2 v3 ∧ ∀ (n : Nat) (u : uS) (G : gS) (M : mS) (v2 : Nat) (v3 : Int32), I n u G M v2 v3 → nb_X10_isSame_36 b a0 a1 post (fun u G M v2 v3 => ∃ k, k < n ∧ I k u G M v2 v3) u G M v2 v3
def nb_X10_isSame_2 (b : uS) (a0 : Nat) (a1 : Nat) (post : gS → mS → Int32 → Prop) (back : uS → gS → mS → Int32 → Prop) (u : uS) (G : gS) (M : mS) (v2 : Int32) : Prop := p_if ((11 : Int32) ≤ v2) (q_na b u G M 12 (6 : Int32) (fun q2 u5 G3 M4 => nl_X10_isSame_36 b a0 a1 post u5 G3 M4 q2 ((0 : Int32)))) (p_cl (m_X9_count G M a1 v2) (fun M6 r7 => q_ca b u (fun v => n_X10_counted v G M6 a0 v2) (fun u11 G9 M10 r12 => p_if (r7 = r12) (p_bd (v2 + 1 : Int32) (fun x14 => back u11 G9 M10 x14)) (p_ck ((0 : Int32) = 0 ∨ (0 : Int32) = 1) (post G9 M10 (0 : Int32))))))
def nl_X10_isSame_2 (b : uS) (a0 : Nat) (a1 : Nat) (post : gS → mS → Int32 → Prop) (u : uS) (G : gS) (M : mS) (v2 : Int32) : Prop := ∃ (I : Nat → uS → gS → mS → Int32 → Prop) (n : Nat), I n u G M v2 ∧ ∀ (n : Nat) (u : uS) (G : gS) (M : mS) (v2 : Int32), I n u G M v2 → nb_X10_isSame_2 b a0 a1 post (fun u G M v2 => ∃ k, k < n ∧ I k u G M v2) u G M v2
def n_X10_isSame (b : uS) (G : gS) (M : mS) (a0 : Nat) (a1 : Nat) (post : gS → mS → Int32 → Prop) : Prop := nl_X10_isSame_2 b a0 a1 post (0, 0) G M ((0 : Int32))
set_option maxHeartbeats 4000000 in
set_option maxRecDepth 100000 in
theorem bn_X10_isSame_73 {p : Program} {l : Launch} {e : Env} {s : State} {m : MethodId} {args : Array Value} {below : List Frame} {meth : Method} {c : Code} {D : va_G} {cy : cyS} {b : uS} {G0 : gS} {sz : Nat} (hnm : meth.name = yX10_isSame.name)  {a0 : Nat} {a1 : Nat} {post : gS → mS → Int32 → Prop} {kb36 : uS → gS → mS → Nat → Int32 → Prop} (hkb36 : ∀ (u : uS) (G : gS) (M : mS) (v2 : Nat) (v3 : Int32) (H : Heap) (locs : List Loc) (ls : Array Slot), a0 ∈ gL G → gK G a0 = 9 → a1 ∈ gL G → gK G a1 = 8 → v2 ∈ gL G → gK G v2 = 12 → ext G0 G → uL u b → kb36 u G M v2 v3 → cX p s m args meth c cX10_isSame RX10 8 (some .boolean) wsX10_isSame D cy G (pA G0 sz) → wd D cy G M (pA G0 sz) s.heap H locs → lv_has ls 8 [(0, .ref a0), (1, .ref a1), (2, .ref v2), (3, .int v3)] → W p l e (rnX10_isSame b) s m args below meth c H locs u.1 u.2 (MQ below (va_Qi (fun (r : Int32) (u : gS × mS) => post u.1 u.2 r) (fun u t => va_P D vwCl (pl cy u.1 u.2) t.heap ∧ va_D (pA G0 sz) (pl cy u.1 u.2) ∧ wt u.1 ∧ ext G0 u.1) (pA G0 sz)) args s b.1 b.2 (pA G0 sz)) (F0 m 36 ls [])) : ∀ (u : uS) (G : gS) (M : mS) (v2 : Nat) (v3 : Int32) (v4 : Nat) (v5 : Int32) (v6 : Int32) (H : Heap) (locs : List Loc) (ls : Array Slot), a0 ∈ gL G → gK G a0 = 9 → a1 ∈ gL G → gK G a1 = 8 → v2 ∈ gL G → gK G v2 = 12 → v4 ∈ gL G → gK G v4 = 12 → ext G0 G → uL u b → nl_X10_isSame_73 b a0 a1 kb36 post u G M v2 v3 v4 v5 v6 → cX p s m args meth c cX10_isSame RX10 8 (some .boolean) wsX10_isSame D cy G (pA G0 sz) → wd D cy G M (pA G0 sz) s.heap H locs → lv_has ls 8 [(0, .ref a0), (1, .ref a1), (2, .ref v2), (3, .int v3), (4, .ref v4), (5, .int v5), (6, .int v6)] → W p l e (rnX10_isSame b) s m args below meth c H locs u.1 u.2 (MQ below (va_Qi (fun (r : Int32) (u : gS × mS) => post u.1 u.2 r) (fun u t => va_P D vwCl (pl cy u.1 u.2) t.heap ∧ va_D (pA G0 sz) (pl cy u.1 u.2) ∧ wt u.1 ∧ ext G0 u.1) (pA G0 sz)) args s b.1 b.2 (pA G0 sz)) (F0 m 73 ls []) := by
  intro u G M v2 v3 v4 v5 v6 H locs ls hL0 hK0 hL1 hK1 v2L v2K v4L v4K hext hu h cx w hl
  obtain ⟨I, n, hI, hB⟩ := h
  have key : ∀ n : Nat, ∀ (u : uS) (G : gS) (M : mS) (v2 : Nat) (v3 : Int32) (v4 : Nat) (v5 : Int32) (v6 : Int32) (H : Heap) (locs : List Loc) (ls : Array Slot), a0 ∈ gL G → gK G a0 = 9 → a1 ∈ gL G → gK G a1 = 8 → v2 ∈ gL G → gK G v2 = 12 → v4 ∈ gL G → gK G v4 = 12 → ext G0 G → uL u b → I n u G M v2 v3 v4 v5 v6 → cX p s m args meth c cX10_isSame RX10 8 (some .boolean) wsX10_isSame D cy G (pA G0 sz) → wd D cy G M (pA G0 sz) s.heap H locs → lv_has ls 8 [(0, .ref a0), (1, .ref a1), (2, .ref v2), (3, .int v3), (4, .ref v4), (5, .int v5), (6, .int v6)] → W p l e (rnX10_isSame b) s m args below meth c H locs u.1 u.2 (MQ below (va_Qi (fun (r : Int32) (u : gS × mS) => post u.1 u.2 r) (fun u t => va_P D vwCl (pl cy u.1 u.2) t.heap ∧ va_D (pA G0 sz) (pl cy u.1 u.2) ∧ wt u.1 ∧ ext G0 u.1) (pA G0 sz)) args s b.1 b.2 (pA G0 sz)) (F0 m 73 ls []) := by
    intro n
    induction n using Nat.strongRecOn with
    | ind n ih =>
      intro u G M v2 v3 v4 v5 v6 H locs ls hL0 hK0 hL1 hK1 v2L v2K v4L v4K hext hu hI cx w hl
      have h := hB n u G M v2 v3 v4 v5 v6 hI
      unfold nb_X10_isSame_73 at h
      obtain ⟨hx, hb, hml, hown, hts, hr, hlocks, hK, hA, hG, hsx⟩ := id cx
      have hR : (rnX10_isSame b).cells = b.1 ∧ (rnX10_isSame b).slots = b.2 := ⟨rfl, rfl⟩
      refine lv_iload hx hb dX10_isSame_73 (lv_at hl 6 rfl) ?_
      refine lv_iload hx hb dX10_isSame_75 (lv_at hl 5 rfl) ?_
      refine lv_icmp_ge (tgt := 101) hx hb dX10_isSame_77 (by decide) (fun k1 => ?_) (fun k1 => ?_)
      · have h := w_t h k1
        obtain ⟨x2, ex2, h⟩ := w_bd h
        refine lv_iinc (v := x2) (lv' := [(3, .int x2), (0, .ref a0), (1, .ref a1), (2, .ref v2), (4, .ref v4), (5, .int v5), (6, .int v6)]) hx hb dX10_isSame_101 hl (k := 3) rfl (by rw [ex2]; rfl) (by decide) rfl (fun ls hl => ?_)
        refine lv_goto (tgt := 36) hx hb dX10_isSame_104 (by decide) ?_
        exact hkb36 u G M v2 x2 H locs ls hL0 hK0 hL1 hK1 v2L v2K hext hu h cx w (lv_sub hl [1, 2, 3, 0] rfl)
      · have h := w_f h k1
        refine lv_aload hx hb dX10_isSame_80 (lv_at hl 4 rfl) ?_
        refine lv_iload hx hb dX10_isSame_82 (lv_at hl 6 rfl) ?_
        obtain ⟨z3, h⟩ := w_ix h
        refine r_iald cx w v4L v4K z3 dX10_isSame_84 ?_
        obtain ⟨x4, ex4, h⟩ := w_bd h
        refine r_topI ex4 ?_
        refine lv_istore (lv' := [(7, .int x4), (0, .ref a0), (1, .ref a1), (2, .ref v2), (3, .int v3), (4, .ref v4), (5, .int v5), (6, .int v6)]) hx hb dX10_isSame_85 hl (by decide) rfl (fun ls hl => ?_)
        refine lv_aload_n hx hb dX10_isSame_87 rfl (lv_at hl 3 rfl) ?_
        refine lv_iload hx hb dX10_isSame_88 (lv_at hl 0 rfl) ?_
        refine lv_dup2_11 hx hb dX10_isSame_90 rfl rfl ?_
        obtain ⟨z5, h⟩ := w_ix h
        refine r_iald cx w v2L v2K z5 dX10_isSame_91 ?_
        refine lv_iconst (v := (1 : Int32)) hx hb dX10_isSame_92 (by decide) ?_
        refine lv_iadd hx hb dX10_isSame_93 ?_
        obtain ⟨z6, h⟩ := w_ix h
        obtain ⟨M7, eM7, h⟩ := w_wI h
        refine r_iast cx w v2L v2K z6 dX10_isSame_94 eM7 (fun H locs w => ?_)
        obtain ⟨x8, ex8, h⟩ := w_bd h
        refine lv_iinc (v := x8) (lv' := [(6, .int x8), (7, .int x4), (0, .ref a0), (1, .ref a1), (2, .ref v2), (3, .int v3), (4, .ref v4), (5, .int v5)]) hx hb dX10_isSame_95 hl (k := 7) rfl (by rw [ex8]; rfl) (by decide) rfl (fun ls hl => ?_)
        refine lv_goto (tgt := 73) hx hb dX10_isSame_98 (by decide) ?_
        obtain ⟨k, hk, hI⟩ := h
        exact ih k hk u G M7 v2 v3 v4 v5 x8 H locs ls hL0 hK0 hL1 hK1 v2L v2K v4L v4K hext hu hI cx w (lv_sub hl [2, 3, 4, 5, 6, 7, 0] rfl)
  exact key n u G M v2 v3 v4 v5 v6 H locs ls hL0 hK0 hL1 hK1 v2L v2K v4L v4K hext hu hI cx w hl
set_option maxHeartbeats 4000000 in
set_option maxRecDepth 100000 in
theorem bn_X10_isSame_237 {p : Program} {l : Launch} {e : Env} {s : State} {m : MethodId} {args : Array Value} {below : List Frame} {meth : Method} {c : Code} {D : va_G} {cy : cyS} {b : uS} {G0 : gS} {sz : Nat} (hnm : meth.name = yX10_isSame.name)  {a0 : Nat} {a1 : Nat} {post : gS → mS → Int32 → Prop} : ∀ (u : uS) (G : gS) (M : mS) (H : Heap) (locs : List Loc) (ls : Array Slot), a0 ∈ gL G → gK G a0 = 9 → a1 ∈ gL G → gK G a1 = 8 → ext G0 G → uL u b → nb_X10_isSame_237 b a0 a1 post u G M → cX p s m args meth c cX10_isSame RX10 8 (some .boolean) wsX10_isSame D cy G (pA G0 sz) → wd D cy G M (pA G0 sz) s.heap H locs → lv_has ls 8 [] → W p l e (rnX10_isSame b) s m args below meth c H locs u.1 u.2 (MQ below (va_Qi (fun (r : Int32) (u : gS × mS) => post u.1 u.2 r) (fun u t => va_P D vwCl (pl cy u.1 u.2) t.heap ∧ va_D (pA G0 sz) (pl cy u.1 u.2) ∧ wt u.1 ∧ ext G0 u.1) (pA G0 sz)) args s b.1 b.2 (pA G0 sz)) (F0 m 237 ls []) := by
  intro u G M H locs ls hL0 hK0 hL1 hK1 hext hu h cx w hl
  unfold nb_X10_isSame_237 at h
  obtain ⟨hx, hb, hml, hown, hts, hr, hlocks, hK, hA, hG, hsx⟩ := id cx
  have hR : (rnX10_isSame b).cells = b.1 ∧ (rnX10_isSame b).slots = b.2 := ⟨rfl, rfl⟩
  refine lv_iconst (v := (0 : Int32)) hx hb dX10_isSame_237 (by decide) ?_
  obtain ⟨z1, h⟩ := w_ck h
  exact rb_nret (z_nar z1) h cx w hext hu dX10_isSame_238
set_option maxHeartbeats 4000000 in
set_option maxRecDepth 100000 in
theorem bn_X10_isSame_242 {p : Program} {l : Launch} {e : Env} {s : State} {m : MethodId} {args : Array Value} {below : List Frame} {meth : Method} {c : Code} {D : va_G} {cy : cyS} {b : uS} {G0 : gS} {sz : Nat} (hnm : meth.name = yX10_isSame.name)  {a0 : Nat} {a1 : Nat} {post : gS → mS → Int32 → Prop} {kb136 : uS → gS → mS → Int32 → Prop} (hkb136 : ∀ (u : uS) (G : gS) (M : mS) (v3 : Int32) (H : Heap) (locs : List Loc) (ls : Array Slot), a0 ∈ gL G → gK G a0 = 9 → a1 ∈ gL G → gK G a1 = 8 → ext G0 G → uL u b → kb136 u G M v3 → cX p s m args meth c cX10_isSame RX10 8 (some .boolean) wsX10_isSame D cy G (pA G0 sz) → wd D cy G M (pA G0 sz) s.heap H locs → lv_has ls 8 [(0, .ref a0), (1, .ref a1), (3, .int v3)] → W p l e (rnX10_isSame b) s m args below meth c H locs u.1 u.2 (MQ below (va_Qi (fun (r : Int32) (u : gS × mS) => post u.1 u.2 r) (fun u t => va_P D vwCl (pl cy u.1 u.2) t.heap ∧ va_D (pA G0 sz) (pl cy u.1 u.2) ∧ wt u.1 ∧ ext G0 u.1) (pA G0 sz)) args s b.1 b.2 (pA G0 sz)) (F0 m 136 ls [])) : ∀ (u : uS) (G : gS) (M : mS) (v3 : Int32) (v5 : Int32) (H : Heap) (locs : List Loc) (ls : Array Slot), a0 ∈ gL G → gK G a0 = 9 → a1 ∈ gL G → gK G a1 = 8 → ext G0 G → uL u b → nl_X10_isSame_242 b a0 a1 kb136 post u G M v3 v5 → cX p s m args meth c cX10_isSame RX10 8 (some .boolean) wsX10_isSame D cy G (pA G0 sz) → wd D cy G M (pA G0 sz) s.heap H locs → lv_has ls 8 [(0, .ref a0), (1, .ref a1), (3, .int v3), (5, .int v5)] → W p l e (rnX10_isSame b) s m args below meth c H locs u.1 u.2 (MQ below (va_Qi (fun (r : Int32) (u : gS × mS) => post u.1 u.2 r) (fun u t => va_P D vwCl (pl cy u.1 u.2) t.heap ∧ va_D (pA G0 sz) (pl cy u.1 u.2) ∧ wt u.1 ∧ ext G0 u.1) (pA G0 sz)) args s b.1 b.2 (pA G0 sz)) (F0 m 242 ls []) := by
  intro u G M v3 v5 H locs ls hL0 hK0 hL1 hK1 hext hu h cx w hl
  obtain ⟨I, n, hI, hB⟩ := h
  have key : ∀ n : Nat, ∀ (u : uS) (G : gS) (M : mS) (v3 : Int32) (v5 : Int32) (H : Heap) (locs : List Loc) (ls : Array Slot), a0 ∈ gL G → gK G a0 = 9 → a1 ∈ gL G → gK G a1 = 8 → ext G0 G → uL u b → I n u G M v3 v5 → cX p s m args meth c cX10_isSame RX10 8 (some .boolean) wsX10_isSame D cy G (pA G0 sz) → wd D cy G M (pA G0 sz) s.heap H locs → lv_has ls 8 [(0, .ref a0), (1, .ref a1), (3, .int v3), (5, .int v5)] → W p l e (rnX10_isSame b) s m args below meth c H locs u.1 u.2 (MQ below (va_Qi (fun (r : Int32) (u : gS × mS) => post u.1 u.2 r) (fun u t => va_P D vwCl (pl cy u.1 u.2) t.heap ∧ va_D (pA G0 sz) (pl cy u.1 u.2) ∧ wt u.1 ∧ ext G0 u.1) (pA G0 sz)) args s b.1 b.2 (pA G0 sz)) (F0 m 242 ls []) := by
    intro n
    induction n using Nat.strongRecOn with
    | ind n ih =>
      intro u G M v3 v5 H locs ls hL0 hK0 hL1 hK1 hext hu hI cx w hl
      have h := hB n u G M v3 v5 hI
      unfold nb_X10_isSame_242 at h
      obtain ⟨hx, hb, hml, hown, hts, hr, hlocks, hK, hA, hG, hsx⟩ := id cx
      have hR : (rnX10_isSame b).cells = b.1 ∧ (rnX10_isSame b).slots = b.2 := ⟨rfl, rfl⟩
      refine lv_iload hx hb dX10_isSame_242 (lv_at hl 3 rfl) ?_
      refine lv_bipush (v := (9 : Int32)) hx hb dX10_isSame_244 (by decide) ?_
      refine lv_icmp_ge (tgt := 320) hx hb dX10_isSame_246 (by decide) (fun k1 => ?_) (fun k1 => ?_)
      · have h := w_t h k1
        obtain ⟨x2, ex2, h⟩ := w_bd h
        refine lv_iinc (v := x2) (lv' := [(3, .int x2), (0, .ref a0), (1, .ref a1), (5, .int v5)]) hx hb dX10_isSame_320 hl (k := 2) rfl (by rw [ex2]; rfl) (by decide) rfl (fun ls hl => ?_)
        refine lv_goto (tgt := 136) hx hb dX10_isSame_323 (by decide) ?_
        exact hkb136 u G M x2 H locs ls hL0 hK0 hL1 hK1 hext hu h cx w (lv_sub hl [1, 2, 0] rfl)
      · have h := w_f h k1
        refine lv_aload_n hx hb dX10_isSame_249 rfl (lv_at hl 0 rfl) ?_
        obtain ⟨q3, eq3, h⟩ := w_rf h
        obtain ⟨hLq3, hKq3⟩ := wt_q hG hL0 hK0 eq3
        have hKq3 : gK G q3 = 15 := hKq3
        refine r_getR (k := 6) cx w hL0 hK0 (by decide) rfl wb_X10_isSame_X10 (by decide) rfl eq3 (List.mem_of_getElem? (i := 3) rfl) dX10_isSame_250 ?_
        refine lv_iload_n hx hb dX10_isSame_253 rfl (lv_at hl 2 rfl) ?_
        obtain ⟨z4, h⟩ := w_ix h
        obtain ⟨q5, eq5, h⟩ := w_rf h
        obtain ⟨hLq5, hKq5⟩ := wt_q hG hLq3 hKq3 eq5
        have hKq5 : gK G q5 = 12 := hKq5
        refine r_aaldA cx w hLq3 hKq3 z4 eq5 dX10_isSame_254 ?_
        refine lv_iconst (v := (1 : Int32)) hx hb dX10_isSame_255 (by decide) ?_
        obtain ⟨z6, h⟩ := w_ix h
        refine r_iald cx w hLq5 hKq5 z6 dX10_isSame_256 ?_
        refine lv_bipush (v := (62 : Int32)) hx hb dX10_isSame_257 (by decide) ?_
        refine lv_iadd hx hb dX10_isSame_259 ?_
        refine lv_iload hx hb dX10_isSame_260 (lv_at hl 3 rfl) ?_
        refine lv_iconst (v := (3 : Int32)) hx hb dX10_isSame_262 (by decide) ?_
        obtain ⟨z7, h⟩ := w_ck h
        refine lv_irem hx hb dX10_isSame_263 z7 ?_
        refine lv_iadd hx hb dX10_isSame_264 ?_
        refine lv_bipush (v := (64 : Int32)) hx hb dX10_isSame_265 (by decide) ?_
        obtain ⟨z8, h⟩ := w_ck h
        refine lv_irem hx hb dX10_isSame_267 z8 ?_
        obtain ⟨x9, ex9, h⟩ := w_bd h
        refine r_topI ex9 ?_
        refine lv_istore (lv' := [(6, .int x9), (0, .ref a0), (1, .ref a1), (3, .int v3), (5, .int v5)]) hx hb dX10_isSame_268 hl (by decide) rfl (fun ls hl => ?_)
        refine lv_aload_n hx hb dX10_isSame_270 rfl (lv_at hl 1 rfl) ?_
        obtain ⟨q10, eq10, h⟩ := w_rf h
        obtain ⟨hLq10, hKq10⟩ := wt_q hG hL0 hK0 eq10
        have hKq10 : gK G q10 = 15 := hKq10
        refine r_getR (k := 6) cx w hL0 hK0 (by decide) rfl wb_X10_isSame_X10 (by decide) rfl eq10 (List.mem_of_getElem? (i := 3) rfl) dX10_isSame_271 ?_
        refine lv_iload_n hx hb dX10_isSame_274 rfl (lv_at hl 3 rfl) ?_
        obtain ⟨z11, h⟩ := w_ix h
        obtain ⟨q12, eq12, h⟩ := w_rf h
        obtain ⟨hLq12, hKq12⟩ := wt_q hG hLq10 hKq10 eq12
        have hKq12 : gK G q12 = 12 := hKq12
        refine r_aaldA cx w hLq10 hKq10 z11 eq12 dX10_isSame_275 ?_
        refine lv_iconst (v := (2 : Int32)) hx hb dX10_isSame_276 (by decide) ?_
        obtain ⟨z13, h⟩ := w_ix h
        refine r_iald cx w hLq12 hKq12 z13 dX10_isSame_277 ?_
        refine lv_bipush (v := (62 : Int32)) hx hb dX10_isSame_278 (by decide) ?_
        refine lv_iadd hx hb dX10_isSame_280 ?_
        refine lv_iload hx hb dX10_isSame_281 (lv_at hl 4 rfl) ?_
        refine lv_iconst (v := (3 : Int32)) hx hb dX10_isSame_283 (by decide) ?_
        obtain ⟨z14, h⟩ := w_ck h
        refine lv_idiv hx hb dX10_isSame_284 z14 ?_
        refine lv_iadd hx hb dX10_isSame_285 ?_
        refine lv_bipush (v := (64 : Int32)) hx hb dX10_isSame_286 (by decide) ?_
        obtain ⟨z15, h⟩ := w_ck h
        refine lv_irem hx hb dX10_isSame_288 z15 ?_
        obtain ⟨x16, ex16, h⟩ := w_bd h
        refine r_topI ex16 ?_
        refine lv_istore (lv' := [(7, .int x16), (6, .int x9), (0, .ref a0), (1, .ref a1), (3, .int v3), (5, .int v5)]) hx hb dX10_isSame_289 hl (by decide) rfl (fun ls hl => ?_)
        refine lv_aload_n hx hb dX10_isSame_291 rfl (lv_at hl 3 rfl) ?_
        refine lv_iload hx hb dX10_isSame_292 (lv_at hl 1 rfl) ?_
        refine lv_iload hx hb dX10_isSame_294 (lv_at hl 0 rfl) ?_
        obtain ⟨M17, r18, y19, h⟩ := w_cl h
        refine r_callVi (As := [.int x9, .int x16]) (rest := []) cx w hu hl.1 (k_X9_stone hG hL1 hK1 y19) (cwV 2 hts gX10_isSame_X9_stone rfl rfl rfl (by decide +kernel) ⟨(Nat.le_of_ble_eq_true rfl), (Nat.le_of_ble_eq_true rfl)⟩) hL1 hK1 (by decide) rfl rfl rfl (Nat.le_of_ble_eq_true rfl) dX10_isSame_296 (fun H locs w => ?_)
        refine lv_aload_n hx hb dX10_isSame_299 rfl (lv_at hl 2 rfl) ?_
        obtain ⟨q20, eq20, h⟩ := w_rf h
        obtain ⟨hLq20, hKq20⟩ := wt_q hG hL0 hK0 eq20
        have hKq20 : gK G q20 = 15 := hKq20
        refine r_getR (k := 5) cx w hL0 hK0 (by decide) rfl wb_X10_isSame_X10 (by decide) rfl eq20 (List.mem_of_getElem? (i := 2) rfl) dX10_isSame_300 ?_
        refine lv_iload hx hb dX10_isSame_303 (lv_at hl 0 rfl) ?_
        obtain ⟨z21, h⟩ := w_ix h
        obtain ⟨q22, eq22, h⟩ := w_rf h
        obtain ⟨hLq22, hKq22⟩ := wt_q hG hLq20 hKq20 eq22
        have hKq22 : gK G q22 = 12 := hKq22
        refine r_aaldA cx w hLq20 hKq20 z21 eq22 dX10_isSame_305 ?_
        refine lv_iload hx hb dX10_isSame_306 (lv_at hl 1 rfl) ?_
        obtain ⟨z23, h⟩ := w_ix h
        refine r_iald cx w hLq22 hKq22 z23 dX10_isSame_308 ?_
        refine lv_icmp_eq (tgt := 314) hx hb dX10_isSame_309 (by decide) (fun k24 => ?_) (fun k24 => ?_)
        · have h := w_t h k24
          obtain ⟨x25, ex25, h⟩ := w_bd h
          refine lv_iinc (v := x25) (lv' := [(5, .int x25), (7, .int x16), (6, .int x9), (0, .ref a0), (1, .ref a1), (3, .int v3)]) hx hb dX10_isSame_314 hl (k := 5) rfl (by rw [ex25]; rfl) (by decide) rfl (fun ls hl => ?_)
          refine lv_goto (tgt := 242) hx hb dX10_isSame_317 (by decide) ?_
          obtain ⟨k, hk, hI⟩ := h
          exact ih k hk u G M17 v3 x25 H locs ls hL0 hK0 hL1 hK1 hext hu hI cx w (lv_sub hl [3, 4, 5, 0] rfl)
        · have h := w_f h k24
          refine lv_iconst (v := (0 : Int32)) hx hb dX10_isSame_312 (by decide) ?_
          obtain ⟨z26, h⟩ := w_ck h
          exact rb_nret (z_nar z26) h cx w hext hu dX10_isSame_313
  exact key n u G M v3 v5 H locs ls hL0 hK0 hL1 hK1 hext hu hI cx w hl
set_option maxHeartbeats 4000000 in
set_option maxRecDepth 100000 in
theorem bn_X10_isSame_155 {p : Program} {l : Launch} {e : Env} {s : State} {m : MethodId} {args : Array Value} {below : List Frame} {meth : Method} {c : Code} {D : va_G} {cy : cyS} {b : uS} {G0 : gS} {sz : Nat} (hnm : meth.name = yX10_isSame.name)  {a0 : Nat} {a1 : Nat} {post : gS → mS → Int32 → Prop} {kb136 : uS → gS → mS → Int32 → Prop} (hkb136 : ∀ (u : uS) (G : gS) (M : mS) (v3 : Int32) (H : Heap) (locs : List Loc) (ls : Array Slot), a0 ∈ gL G → gK G a0 = 9 → a1 ∈ gL G → gK G a1 = 8 → ext G0 G → uL u b → kb136 u G M v3 → cX p s m args meth c cX10_isSame RX10 8 (some .boolean) wsX10_isSame D cy G (pA G0 sz) → wd D cy G M (pA G0 sz) s.heap H locs → lv_has ls 8 [(0, .ref a0), (1, .ref a1), (3, .int v3)] → W p l e (rnX10_isSame b) s m args below meth c H locs u.1 u.2 (MQ below (va_Qi (fun (r : Int32) (u : gS × mS) => post u.1 u.2 r) (fun u t => va_P D vwCl (pl cy u.1 u.2) t.heap ∧ va_D (pA G0 sz) (pl cy u.1 u.2) ∧ wt u.1 ∧ ext G0 u.1) (pA G0 sz)) args s b.1 b.2 (pA G0 sz)) (F0 m 136 ls [])) : ∀ (u : uS) (G : gS) (M : mS) (v3 : Int32) (v4 : Int32) (v5 : Int32) (H : Heap) (locs : List Loc) (ls : Array Slot), a0 ∈ gL G → gK G a0 = 9 → a1 ∈ gL G → gK G a1 = 8 → ext G0 G → uL u b → nl_X10_isSame_155 b a0 a1 kb136 post u G M v3 v4 v5 → cX p s m args meth c cX10_isSame RX10 8 (some .boolean) wsX10_isSame D cy G (pA G0 sz) → wd D cy G M (pA G0 sz) s.heap H locs → lv_has ls 8 [(0, .ref a0), (1, .ref a1), (3, .int v3), (4, .int v4), (5, .int v5)] → W p l e (rnX10_isSame b) s m args below meth c H locs u.1 u.2 (MQ below (va_Qi (fun (r : Int32) (u : gS × mS) => post u.1 u.2 r) (fun u t => va_P D vwCl (pl cy u.1 u.2) t.heap ∧ va_D (pA G0 sz) (pl cy u.1 u.2) ∧ wt u.1 ∧ ext G0 u.1) (pA G0 sz)) args s b.1 b.2 (pA G0 sz)) (F0 m 155 ls []) := by
  intro u G M v3 v4 v5 H locs ls hL0 hK0 hL1 hK1 hext hu h cx w hl
  obtain ⟨I, n, hI, hB⟩ := h
  have key : ∀ n : Nat, ∀ (u : uS) (G : gS) (M : mS) (v3 : Int32) (v4 : Int32) (v5 : Int32) (H : Heap) (locs : List Loc) (ls : Array Slot), a0 ∈ gL G → gK G a0 = 9 → a1 ∈ gL G → gK G a1 = 8 → ext G0 G → uL u b → I n u G M v3 v4 v5 → cX p s m args meth c cX10_isSame RX10 8 (some .boolean) wsX10_isSame D cy G (pA G0 sz) → wd D cy G M (pA G0 sz) s.heap H locs → lv_has ls 8 [(0, .ref a0), (1, .ref a1), (3, .int v3), (4, .int v4), (5, .int v5)] → W p l e (rnX10_isSame b) s m args below meth c H locs u.1 u.2 (MQ below (va_Qi (fun (r : Int32) (u : gS × mS) => post u.1 u.2 r) (fun u t => va_P D vwCl (pl cy u.1 u.2) t.heap ∧ va_D (pA G0 sz) (pl cy u.1 u.2) ∧ wt u.1 ∧ ext G0 u.1) (pA G0 sz)) args s b.1 b.2 (pA G0 sz)) (F0 m 155 ls []) := by
    intro n
    induction n using Nat.strongRecOn with
    | ind n ih =>
      intro u G M v3 v4 v5 H locs ls hL0 hK0 hL1 hK1 hext hu hI cx w hl
      have h := hB n u G M v3 v4 v5 hI
      unfold nb_X10_isSame_155 at h
      obtain ⟨hx, hb, hml, hown, hts, hr, hlocks, hK, hA, hG, hsx⟩ := id cx
      have hR : (rnX10_isSame b).cells = b.1 ∧ (rnX10_isSame b).slots = b.2 := ⟨rfl, rfl⟩
      refine lv_iload hx hb dX10_isSame_155 (lv_at hl 4 rfl) ?_
      refine lv_bipush (v := (6 : Int32)) hx hb dX10_isSame_157 (by decide) ?_
      refine lv_icmp_ge (tgt := 189) hx hb dX10_isSame_159 (by decide) (fun k1 => ?_) (fun k1 => ?_)
      · have h := w_t h k1
        refine lv_aload_n hx hb dX10_isSame_189 rfl (lv_at hl 1 rfl) ?_
        refine lv_iload_n hx hb dX10_isSame_190 rfl (lv_at hl 2 rfl) ?_
        refine lv_bipush (v := (6 : Int32)) hx hb dX10_isSame_191 (by decide) ?_
        obtain ⟨M2, r3, y4, h⟩ := w_cl h
        refine r_callVi (As := [.int v3, .int ((6 : Int32))]) (rest := []) cx w hu hl.1 (k_X9_ant hG hL1 hK1 y4) (cwV 2 hts gX10_isSame_X9_ant rfl rfl rfl (by decide +kernel) ⟨(Nat.le_of_ble_eq_true rfl), (Nat.le_of_ble_eq_true rfl)⟩) hL1 hK1 (by decide) rfl rfl rfl (Nat.le_of_ble_eq_true rfl) dX10_isSame_193 (fun H locs w => ?_)
        refine lv_iload hx hb dX10_isSame_196 (lv_at hl 3 rfl) ?_
        refine lv_icmp_ne (tgt := 237) hx hb dX10_isSame_198 (by decide) (fun k5 => ?_) (fun k5 => ?_)
        · have h := w_f h k5
          exact bn_X10_isSame_237 hnm u G M2 H locs ls hL0 hK0 hL1 hK1 hext hu h cx w (lv_sub hl [] rfl)
        · have h := w_t h k5
          refine lv_aload_n hx hb dX10_isSame_201 rfl (lv_at hl 1 rfl) ?_
          refine lv_iload_n hx hb dX10_isSame_202 rfl (lv_at hl 2 rfl) ?_
          refine lv_bipush (v := (7 : Int32)) hx hb dX10_isSame_203 (by decide) ?_
          obtain ⟨M6, r7, y8, h⟩ := w_cl h
          refine r_callVi (As := [.int v3, .int ((7 : Int32))]) (rest := []) cx w hu hl.1 (k_X9_ant hG hL1 hK1 y8) (cwV 2 hts gX10_isSame_X9_ant rfl rfl rfl (by decide +kernel) ⟨(Nat.le_of_ble_eq_true rfl), (Nat.le_of_ble_eq_true rfl)⟩) hL1 hK1 (by decide) rfl rfl rfl (Nat.le_of_ble_eq_true rfl) dX10_isSame_205 (fun H locs w => ?_)
          refine lv_aload_n hx hb dX10_isSame_208 rfl (lv_at hl 0 rfl) ?_
          refine lv_iload_n hx hb dX10_isSame_209 rfl (lv_at hl 2 rfl) ?_
          refine lv_iload hx hb dX10_isSame_210 (lv_at hl 3 rfl) ?_
          refine lv_iconst (v := (1 : Int32)) hx hb dX10_isSame_212 (by decide) ?_
          refine rb_VI (b := b) (u := u) (rf := 0) (rl := 0) (As := [.int v3, .int v4, .int ((1 : Int32))]) (rest := [.int r7]) cx w hR hl.1 h (fun h => kn_X10_led hG hL0 hK0 h) (fun v => cwV 3 hts gX10_isSame_X10_led rfl rfl rfl (by decide +kernel) ⟨(Nat.le_of_ble_eq_true rfl), (Nat.le_of_ble_eq_true rfl)⟩) hL0 hK0 (by decide) rfl rfl rfl (Nat.le_of_ble_eq_true rfl) dX10_isSame_213 (fun u11 G9 M10 r12 H locs h hu xe cx w => ?_)
          obtain ⟨hL0, hK0⟩ := ext_wt xe hL0 hK0
          obtain ⟨hL1, hK1⟩ := ext_wt xe hL1 hK1
          have hext := ext_tr hext xe
          clear xe
          have hG := cX_wt cx
          refine lv_icmp_ne (tgt := 237) hx hb dX10_isSame_216 (by decide) (fun k13 => ?_) (fun k13 => ?_)
          · have h := w_f h k13
            exact bn_X10_isSame_237 hnm u11 G9 M10 H locs ls hL0 hK0 hL1 hK1 hext hu h cx w (lv_sub hl [] rfl)
          · have h := w_t h k13
            refine lv_aload_n hx hb dX10_isSame_219 rfl (lv_at hl 1 rfl) ?_
            refine lv_iload_n hx hb dX10_isSame_220 rfl (lv_at hl 2 rfl) ?_
            refine lv_bipush (v := (8 : Int32)) hx hb dX10_isSame_221 (by decide) ?_
            obtain ⟨M14, r15, y16, h⟩ := w_cl h
            refine r_callVi (As := [.int v3, .int ((8 : Int32))]) (rest := []) cx w hu hl.1 (k_X9_ant hG hL1 hK1 y16) (cwV 2 hts gX10_isSame_X9_ant rfl rfl rfl (by decide +kernel) ⟨(Nat.le_of_ble_eq_true rfl), (Nat.le_of_ble_eq_true rfl)⟩) hL1 hK1 (by decide) rfl rfl rfl (Nat.le_of_ble_eq_true rfl) dX10_isSame_223 (fun H locs w => ?_)
            refine lv_aload_n hx hb dX10_isSame_226 rfl (lv_at hl 0 rfl) ?_
            refine lv_iload_n hx hb dX10_isSame_227 rfl (lv_at hl 2 rfl) ?_
            refine lv_iload hx hb dX10_isSame_228 (lv_at hl 3 rfl) ?_
            refine lv_iconst (v := (2 : Int32)) hx hb dX10_isSame_230 (by decide) ?_
            refine rb_VI (b := b) (u := u11) (rf := 0) (rl := 0) (As := [.int v3, .int v4, .int ((2 : Int32))]) (rest := [.int r15]) cx w hR hl.1 h (fun h => kn_X10_led hG hL0 hK0 h) (fun v => cwV 3 hts gX10_isSame_X10_led rfl rfl rfl (by decide +kernel) ⟨(Nat.le_of_ble_eq_true rfl), (Nat.le_of_ble_eq_true rfl)⟩) hL0 hK0 (by decide) rfl rfl rfl (Nat.le_of_ble_eq_true rfl) dX10_isSame_231 (fun u19 G17 M18 r20 H locs h hu xe cx w => ?_)
            obtain ⟨hL0, hK0⟩ := ext_wt xe hL0 hK0
            obtain ⟨hL1, hK1⟩ := ext_wt xe hL1 hK1
            have hext := ext_tr hext xe
            clear xe
            have hG := cX_wt cx
            refine lv_icmp_eq (tgt := 239) hx hb dX10_isSame_234 (by decide) (fun k21 => ?_) (fun k21 => ?_)
            · have h := w_t h k21
              refine lv_iconst (v := (0 : Int32)) hx hb dX10_isSame_239 (by decide) ?_
              refine lv_istore (lv' := [(5, .int ((0 : Int32))), (0, .ref a0), (1, .ref a1), (3, .int v3), (4, .int v4)]) hx hb dX10_isSame_240 hl (by decide) rfl (fun ls hl => ?_)
              exact bn_X10_isSame_242 hnm (hkb136 := hkb136) u19 G17 M18 v3 ((0 : Int32)) H locs ls hL0 hK0 hL1 hK1 hext hu h cx w (lv_sub hl [1, 2, 3, 0] rfl)
            · have h := w_f h k21
              exact bn_X10_isSame_237 hnm u19 G17 M18 H locs ls hL0 hK0 hL1 hK1 hext hu h cx w (lv_sub hl [] rfl)
      · have h := w_f h k1
        refine lv_aload_n hx hb dX10_isSame_162 rfl (lv_at hl 1 rfl) ?_
        refine lv_iload_n hx hb dX10_isSame_163 rfl (lv_at hl 2 rfl) ?_
        refine lv_iload hx hb dX10_isSame_164 (lv_at hl 4 rfl) ?_
        obtain ⟨M22, r23, y24, h⟩ := w_cl h
        refine r_callVi (As := [.int v3, .int v5]) (rest := []) cx w hu hl.1 (k_X9_ant hG hL1 hK1 y24) (cwV 2 hts gX10_isSame_X9_ant rfl rfl rfl (by decide +kernel) ⟨(Nat.le_of_ble_eq_true rfl), (Nat.le_of_ble_eq_true rfl)⟩) hL1 hK1 (by decide) rfl rfl rfl (Nat.le_of_ble_eq_true rfl) dX10_isSame_166 (fun H locs w => ?_)
        refine lv_aload_n hx hb dX10_isSame_169 rfl (lv_at hl 0 rfl) ?_
        obtain ⟨q25, eq25, h⟩ := w_rf h
        obtain ⟨hLq25, hKq25⟩ := wt_q hG hL0 hK0 eq25
        have hKq25 : gK G q25 = 15 := hKq25
        refine r_getR (k := 6) cx w hL0 hK0 (by decide) rfl wb_X10_isSame_X10 (by decide) rfl eq25 (List.mem_of_getElem? (i := 3) rfl) dX10_isSame_170 ?_
        refine lv_iload_n hx hb dX10_isSame_173 rfl (lv_at hl 2 rfl) ?_
        obtain ⟨z26, h⟩ := w_ix h
        obtain ⟨q27, eq27, h⟩ := w_rf h
        obtain ⟨hLq27, hKq27⟩ := wt_q hG hLq25 hKq25 eq27
        have hKq27 : gK G q27 = 12 := hKq27
        refine r_aaldA cx w hLq25 hKq25 z26 eq27 dX10_isSame_174 ?_
        refine lv_iload hx hb dX10_isSame_175 (lv_at hl 4 rfl) ?_
        obtain ⟨z28, h⟩ := w_ix h
        refine r_iald cx w hLq27 hKq27 z28 dX10_isSame_177 ?_
        refine lv_icmp_eq (tgt := 183) hx hb dX10_isSame_178 (by decide) (fun k29 => ?_) (fun k29 => ?_)
        · have h := w_t h k29
          obtain ⟨x30, ex30, h⟩ := w_bd h
          refine lv_iinc (v := x30) (lv' := [(5, .int x30), (0, .ref a0), (1, .ref a1), (3, .int v3), (4, .int v4)]) hx hb dX10_isSame_183 hl (k := 4) rfl (by rw [ex30]; rfl) (by decide) rfl (fun ls hl => ?_)
          refine lv_goto (tgt := 155) hx hb dX10_isSame_186 (by decide) ?_
          obtain ⟨k, hk, hI⟩ := h
          exact ih k hk u G M22 v3 v4 x30 H locs ls hL0 hK0 hL1 hK1 hext hu hI cx w (lv_sub hl [1, 2, 3, 4, 0] rfl)
        · have h := w_f h k29
          refine lv_iconst (v := (0 : Int32)) hx hb dX10_isSame_181 (by decide) ?_
          obtain ⟨z31, h⟩ := w_ck h
          exact rb_nret (z_nar z31) h cx w hext hu dX10_isSame_182
  exact key n u G M v3 v4 v5 H locs ls hL0 hK0 hL1 hK1 hext hu hI cx w hl
set_option maxHeartbeats 4000000 in
set_option maxRecDepth 100000 in
theorem bn_X10_isSame_348 {p : Program} {l : Launch} {e : Env} {s : State} {m : MethodId} {args : Array Value} {below : List Frame} {meth : Method} {c : Code} {D : va_G} {cy : cyS} {b : uS} {G0 : gS} {sz : Nat} (hnm : meth.name = yX10_isSame.name)  {a0 : Nat} {a1 : Nat} {post : gS → mS → Int32 → Prop} : ∀ (u : uS) (G : gS) (M : mS) (s0 : Int32) (H : Heap) (locs : List Loc) (ls : Array Slot), a0 ∈ gL G → gK G a0 = 9 → a1 ∈ gL G → gK G a1 = 8 → ext G0 G → uL u b → nb_X10_isSame_348 b a0 a1 post u G M s0 → cX p s m args meth c cX10_isSame RX10 8 (some .boolean) wsX10_isSame D cy G (pA G0 sz) → wd D cy G M (pA G0 sz) s.heap H locs → lv_has ls 8 [] → W p l e (rnX10_isSame b) s m args below meth c H locs u.1 u.2 (MQ below (va_Qi (fun (r : Int32) (u : gS × mS) => post u.1 u.2 r) (fun u t => va_P D vwCl (pl cy u.1 u.2) t.heap ∧ va_D (pA G0 sz) (pl cy u.1 u.2) ∧ wt u.1 ∧ ext G0 u.1) (pA G0 sz)) args s b.1 b.2 (pA G0 sz)) (F0 m 348 ls [.int s0]) := by
  intro u G M s0 H locs ls hL0 hK0 hL1 hK1 hext hu h cx w hl
  unfold nb_X10_isSame_348 at h
  obtain ⟨hx, hb, hml, hown, hts, hr, hlocks, hK, hA, hG, hsx⟩ := id cx
  have hR : (rnX10_isSame b).cells = b.1 ∧ (rnX10_isSame b).slots = b.2 := ⟨rfl, rfl⟩
  obtain ⟨z1, h⟩ := w_ck h
  exact rb_nret (z_nar z1) h cx w hext hu dX10_isSame_348
set_option maxHeartbeats 4000000 in
set_option maxRecDepth 100000 in
theorem bn_X10_isSame_136 {p : Program} {l : Launch} {e : Env} {s : State} {m : MethodId} {args : Array Value} {below : List Frame} {meth : Method} {c : Code} {D : va_G} {cy : cyS} {b : uS} {G0 : gS} {sz : Nat} (hnm : meth.name = yX10_isSame.name)  {a0 : Nat} {a1 : Nat} {post : gS → mS → Int32 → Prop} : ∀ (u : uS) (G : gS) (M : mS) (v3 : Int32) (H : Heap) (locs : List Loc) (ls : Array Slot), a0 ∈ gL G → gK G a0 = 9 → a1 ∈ gL G → gK G a1 = 8 → ext G0 G → uL u b → nl_X10_isSame_136 b a0 a1 post u G M v3 → cX p s m args meth c cX10_isSame RX10 8 (some .boolean) wsX10_isSame D cy G (pA G0 sz) → wd D cy G M (pA G0 sz) s.heap H locs → lv_has ls 8 [(0, .ref a0), (1, .ref a1), (3, .int v3)] → W p l e (rnX10_isSame b) s m args below meth c H locs u.1 u.2 (MQ below (va_Qi (fun (r : Int32) (u : gS × mS) => post u.1 u.2 r) (fun u t => va_P D vwCl (pl cy u.1 u.2) t.heap ∧ va_D (pA G0 sz) (pl cy u.1 u.2) ∧ wt u.1 ∧ ext G0 u.1) (pA G0 sz)) args s b.1 b.2 (pA G0 sz)) (F0 m 136 ls []) := by
  intro u G M v3 H locs ls hL0 hK0 hL1 hK1 hext hu h cx w hl
  obtain ⟨I, n, hI, hB⟩ := h
  have key : ∀ n : Nat, ∀ (u : uS) (G : gS) (M : mS) (v3 : Int32) (H : Heap) (locs : List Loc) (ls : Array Slot), a0 ∈ gL G → gK G a0 = 9 → a1 ∈ gL G → gK G a1 = 8 → ext G0 G → uL u b → I n u G M v3 → cX p s m args meth c cX10_isSame RX10 8 (some .boolean) wsX10_isSame D cy G (pA G0 sz) → wd D cy G M (pA G0 sz) s.heap H locs → lv_has ls 8 [(0, .ref a0), (1, .ref a1), (3, .int v3)] → W p l e (rnX10_isSame b) s m args below meth c H locs u.1 u.2 (MQ below (va_Qi (fun (r : Int32) (u : gS × mS) => post u.1 u.2 r) (fun u t => va_P D vwCl (pl cy u.1 u.2) t.heap ∧ va_D (pA G0 sz) (pl cy u.1 u.2) ∧ wt u.1 ∧ ext G0 u.1) (pA G0 sz)) args s b.1 b.2 (pA G0 sz)) (F0 m 136 ls []) := by
    intro n
    induction n using Nat.strongRecOn with
    | ind n ih =>
      intro u G M v3 H locs ls hL0 hK0 hL1 hK1 hext hu hI cx w hl
      have h := hB n u G M v3 hI
      unfold nb_X10_isSame_136 at h
      obtain ⟨hx, hb, hml, hown, hts, hr, hlocks, hK, hA, hG, hsx⟩ := id cx
      have hR : (rnX10_isSame b).cells = b.1 ∧ (rnX10_isSame b).slots = b.2 := ⟨rfl, rfl⟩
      refine lv_iload_n hx hb dX10_isSame_136 rfl (lv_at hl 2 rfl) ?_
      refine lv_aload_n hx hb dX10_isSame_137 rfl (lv_at hl 0 rfl) ?_
      obtain ⟨q1, eq1, h⟩ := w_rf h
      obtain ⟨hLq1, hKq1⟩ := wt_q hG hL0 hK0 eq1
      have hKq1 : gK G q1 = 15 := hKq1
      refine r_getR (k := 6) cx w hL0 hK0 (by decide) rfl wb_X10_isSame_X10 (by decide) rfl eq1 (List.mem_of_getElem? (i := 3) rfl) dX10_isSame_138 ?_
      refine r_alen cx w hLq1 hKq1 (by decide) dX10_isSame_141 ?_
      refine lv_icmp_ge (tgt := 326) hx hb dX10_isSame_142 (by decide) (fun k2 => ?_) (fun k2 => ?_)
      · have h := w_t h k2
        refine lv_aload_n hx hb dX10_isSame_326 rfl (lv_at hl 1 rfl) ?_
        obtain ⟨M3, r4, y5, h⟩ := w_cl h
        refine r_callVd (As := []) (rest := []) cx w hu hl.1 (k_X9_mean hG hL1 hK1 y5) (cwV 0 hts gX10_isSame_X9_mean rfl rfl rfl (by decide +kernel) ⟨(Nat.le_of_ble_eq_true rfl), (Nat.le_of_ble_eq_true rfl)⟩) hL1 hK1 (by decide) rfl rfl rfl (Nat.le_of_ble_eq_true rfl) dX10_isSame_327 (fun H locs w => ?_)
        refine lv_aload_n hx hb dX10_isSame_330 rfl (lv_at hl 0 rfl) ?_
        refine rb_VI (b := b) (u := u) (rf := 0) (rl := 0) (As := []) (rest := [.double r4]) cx w hR hl.1 h (fun h => kn_X10_sum hG hL0 hK0 h) (fun v => cwV 0 hts gX10_isSame_X10_sum rfl rfl rfl (by decide +kernel) ⟨(Nat.le_of_ble_eq_true rfl), (Nat.le_of_ble_eq_true rfl)⟩) hL0 hK0 (by decide) rfl rfl rfl (Nat.le_of_ble_eq_true rfl) dX10_isSame_331 (fun u8 G6 M7 r9 H locs h hu xe cx w => ?_)
        obtain ⟨hL0, hK0⟩ := ext_wt xe hL0 hK0
        obtain ⟨hL1, hK1⟩ := ext_wt xe hL1 hK1
        have hext := ext_tr hext xe
        clear xe
        have hG := cX_wt cx
        refine lv_i2d hx hb dX10_isSame_334 ?_
        refine lv_ldc2d (v := 4661225614328463360) hx hb hown (hts (.constantDouble RX10 117 (4661225614328463360)) (List.mem_of_getElem? (i := 4) rfl)) dX10_isSame_335 ?_
        obtain ⟨z10, h⟩ := w_ck h
        refine lv_ddiv hx hb dX10_isSame_338 z10 ?_
        refine lv_dcmp hx hb dX10_isSame_339 ?_
        refine lv_if_ne (tgt := 347) hx hb dX10_isSame_340 (by decide) (fun k11 => ?_) (fun k11 => ?_)
        · have h := w_f h k11
          refine lv_iconst (v := (0 : Int32)) hx hb dX10_isSame_347 (by decide) ?_
          exact bn_X10_isSame_348 hnm u8 G6 M7 ((0 : Int32)) H locs ls hL0 hK0 hL1 hK1 hext hu h cx w (lv_sub hl [] rfl)
        · have h := w_t h k11
          refine lv_iconst (v := (1 : Int32)) hx hb dX10_isSame_343 (by decide) ?_
          refine lv_goto (tgt := 348) hx hb dX10_isSame_344 (by decide) ?_
          exact bn_X10_isSame_348 hnm u8 G6 M7 ((1 : Int32)) H locs ls hL0 hK0 hL1 hK1 hext hu h cx w (lv_sub hl [] rfl)
      · have h := w_f h k2
        refine lv_aload_n hx hb dX10_isSame_145 rfl (lv_at hl 0 rfl) ?_
        refine lv_iload_n hx hb dX10_isSame_146 rfl (lv_at hl 2 rfl) ?_
        refine rb_VI (b := b) (u := u) (rf := 1) (rl := 26) (As := [.int v3]) (rest := []) cx w hR hl.1 h (fun h => kn_X10_period hG hL0 hK0 h) (fun v => cwV 1 hts gX10_isSame_X10_period rfl rfl rfl (by decide +kernel) ⟨(Nat.le_of_ble_eq_true rfl), (Nat.le_of_ble_eq_true rfl)⟩) hL0 hK0 (by decide) rfl rfl rfl (Nat.le_of_ble_eq_true rfl) dX10_isSame_147 (fun u14 G12 M13 r15 H locs h hu xe cx w => ?_)
        obtain ⟨hL0, hK0⟩ := ext_wt xe hL0 hK0
        obtain ⟨hL1, hK1⟩ := ext_wt xe hL1 hK1
        have hext := ext_tr hext xe
        clear xe
        have hG := cX_wt cx
        refine lv_istore (lv' := [(4, .int r15), (0, .ref a0), (1, .ref a1), (3, .int v3)]) hx hb dX10_isSame_150 hl (by decide) rfl (fun ls hl => ?_)
        refine lv_iconst (v := (0 : Int32)) hx hb dX10_isSame_152 (by decide) ?_
        refine lv_istore (lv' := [(5, .int ((0 : Int32))), (4, .int r15), (0, .ref a0), (1, .ref a1), (3, .int v3)]) hx hb dX10_isSame_153 hl (by decide) rfl (fun ls hl => ?_)
        exact bn_X10_isSame_155 hnm (hkb136 := fun u G M v3 H locs ls hL0 hK0 hL1 hK1 hext hu h cx w hl => by obtain ⟨k, hk, hI⟩ := h; exact ih k hk u G M v3 H locs ls hL0 hK0 hL1 hK1 hext hu hI cx w hl) u14 G12 M13 v3 r15 ((0 : Int32)) H locs ls hL0 hK0 hL1 hK1 hext hu h cx w (lv_sub hl [2, 3, 4, 1, 0] rfl)
  exact key n u G M v3 H locs ls hL0 hK0 hL1 hK1 hext hu hI cx w hl
set_option maxHeartbeats 4000000 in
set_option maxRecDepth 100000 in
theorem bn_X10_isSame_109 {p : Program} {l : Launch} {e : Env} {s : State} {m : MethodId} {args : Array Value} {below : List Frame} {meth : Method} {c : Code} {D : va_G} {cy : cyS} {b : uS} {G0 : gS} {sz : Nat} (hnm : meth.name = yX10_isSame.name)  {a0 : Nat} {a1 : Nat} {post : gS → mS → Int32 → Prop} : ∀ (u : uS) (G : gS) (M : mS) (v2 : Nat) (v3 : Int32) (H : Heap) (locs : List Loc) (ls : Array Slot), a0 ∈ gL G → gK G a0 = 9 → a1 ∈ gL G → gK G a1 = 8 → v2 ∈ gL G → gK G v2 = 12 → ext G0 G → uL u b → nl_X10_isSame_109 b a0 a1 post u G M v2 v3 → cX p s m args meth c cX10_isSame RX10 8 (some .boolean) wsX10_isSame D cy G (pA G0 sz) → wd D cy G M (pA G0 sz) s.heap H locs → lv_has ls 8 [(0, .ref a0), (1, .ref a1), (2, .ref v2), (3, .int v3)] → W p l e (rnX10_isSame b) s m args below meth c H locs u.1 u.2 (MQ below (va_Qi (fun (r : Int32) (u : gS × mS) => post u.1 u.2 r) (fun u t => va_P D vwCl (pl cy u.1 u.2) t.heap ∧ va_D (pA G0 sz) (pl cy u.1 u.2) ∧ wt u.1 ∧ ext G0 u.1) (pA G0 sz)) args s b.1 b.2 (pA G0 sz)) (F0 m 109 ls []) := by
  intro u G M v2 v3 H locs ls hL0 hK0 hL1 hK1 v2L v2K hext hu h cx w hl
  obtain ⟨I, n, hI, hB⟩ := h
  have key : ∀ n : Nat, ∀ (u : uS) (G : gS) (M : mS) (v2 : Nat) (v3 : Int32) (H : Heap) (locs : List Loc) (ls : Array Slot), a0 ∈ gL G → gK G a0 = 9 → a1 ∈ gL G → gK G a1 = 8 → v2 ∈ gL G → gK G v2 = 12 → ext G0 G → uL u b → I n u G M v2 v3 → cX p s m args meth c cX10_isSame RX10 8 (some .boolean) wsX10_isSame D cy G (pA G0 sz) → wd D cy G M (pA G0 sz) s.heap H locs → lv_has ls 8 [(0, .ref a0), (1, .ref a1), (2, .ref v2), (3, .int v3)] → W p l e (rnX10_isSame b) s m args below meth c H locs u.1 u.2 (MQ below (va_Qi (fun (r : Int32) (u : gS × mS) => post u.1 u.2 r) (fun u t => va_P D vwCl (pl cy u.1 u.2) t.heap ∧ va_D (pA G0 sz) (pl cy u.1 u.2) ∧ wt u.1 ∧ ext G0 u.1) (pA G0 sz)) args s b.1 b.2 (pA G0 sz)) (F0 m 109 ls []) := by
    intro n
    induction n using Nat.strongRecOn with
    | ind n ih =>
      intro u G M v2 v3 H locs ls hL0 hK0 hL1 hK1 v2L v2K hext hu hI cx w hl
      have h := hB n u G M v2 v3 hI
      unfold nb_X10_isSame_109 at h
      obtain ⟨hx, hb, hml, hown, hts, hr, hlocks, hK, hA, hG, hsx⟩ := id cx
      have hR : (rnX10_isSame b).cells = b.1 ∧ (rnX10_isSame b).slots = b.2 := ⟨rfl, rfl⟩
      refine lv_iload_n hx hb dX10_isSame_109 rfl (lv_at hl 3 rfl) ?_
      refine lv_bipush (v := (6 : Int32)) hx hb dX10_isSame_110 (by decide) ?_
      refine lv_icmp_ge (tgt := 134) hx hb dX10_isSame_112 (by decide) (fun k1 => ?_) (fun k1 => ?_)
      · have h := w_t h k1
        refine lv_iconst (v := (0 : Int32)) hx hb dX10_isSame_134 (by decide) ?_
        refine lv_istore_n (lv' := [(3, .int ((0 : Int32))), (0, .ref a0), (1, .ref a1), (2, .ref v2)]) hx hb dX10_isSame_135 rfl hl (by decide) rfl (fun ls hl => ?_)
        exact bn_X10_isSame_136 hnm u G M ((0 : Int32)) H locs ls hL0 hK0 hL1 hK1 hext hu h cx w (lv_sub hl [1, 2, 0] rfl)
      · have h := w_f h k1
        refine lv_aload_n hx hb dX10_isSame_115 rfl (lv_at hl 1 rfl) ?_
        refine lv_iload_n hx hb dX10_isSame_116 rfl (lv_at hl 3 rfl) ?_
        obtain ⟨M2, r3, y4, h⟩ := w_cl h
        refine r_callVi (As := [.int v3]) (rest := []) cx w hu hl.1 (k_X9_colour hG hL1 hK1 y4) (cwV 1 hts gX10_isSame_X9_colour rfl rfl rfl (by decide +kernel) ⟨(Nat.le_of_ble_eq_true rfl), (Nat.le_of_ble_eq_true rfl)⟩) hL1 hK1 (by decide) rfl rfl rfl (Nat.le_of_ble_eq_true rfl) dX10_isSame_117 (fun H locs w => ?_)
        refine lv_aload_n hx hb dX10_isSame_120 rfl (lv_at hl 2 rfl) ?_
        refine lv_iload_n hx hb dX10_isSame_121 rfl (lv_at hl 3 rfl) ?_
        obtain ⟨z5, h⟩ := w_ix h
        refine r_iald cx w v2L v2K z5 dX10_isSame_122 ?_
        refine lv_icmp_eq (tgt := 128) hx hb dX10_isSame_123 (by decide) (fun k6 => ?_) (fun k6 => ?_)
        · have h := w_t h k6
          obtain ⟨x7, ex7, h⟩ := w_bd h
          refine lv_iinc (v := x7) (lv' := [(3, .int x7), (0, .ref a0), (1, .ref a1), (2, .ref v2)]) hx hb dX10_isSame_128 hl (k := 3) rfl (by rw [ex7]; rfl) (by decide) rfl (fun ls hl => ?_)
          refine lv_goto (tgt := 109) hx hb dX10_isSame_131 (by decide) ?_
          obtain ⟨k, hk, hI⟩ := h
          exact ih k hk u G M2 v2 x7 H locs ls hL0 hK0 hL1 hK1 v2L v2K hext hu hI cx w (lv_sub hl [1, 2, 3, 0] rfl)
        · have h := w_f h k6
          refine lv_iconst (v := (0 : Int32)) hx hb dX10_isSame_126 (by decide) ?_
          obtain ⟨z8, h⟩ := w_ck h
          exact rb_nret (z_nar z8) h cx w hext hu dX10_isSame_127
  exact key n u G M v2 v3 H locs ls hL0 hK0 hL1 hK1 v2L v2K hext hu hI cx w hl
set_option maxHeartbeats 4000000 in
set_option maxRecDepth 100000 in
theorem bn_X10_isSame_36 {p : Program} {l : Launch} {e : Env} {s : State} {m : MethodId} {args : Array Value} {below : List Frame} {meth : Method} {c : Code} {D : va_G} {cy : cyS} {b : uS} {G0 : gS} {sz : Nat} (hnm : meth.name = yX10_isSame.name)  {a0 : Nat} {a1 : Nat} {post : gS → mS → Int32 → Prop} : ∀ (u : uS) (G : gS) (M : mS) (v2 : Nat) (v3 : Int32) (H : Heap) (locs : List Loc) (ls : Array Slot), a0 ∈ gL G → gK G a0 = 9 → a1 ∈ gL G → gK G a1 = 8 → v2 ∈ gL G → gK G v2 = 12 → ext G0 G → uL u b → nl_X10_isSame_36 b a0 a1 post u G M v2 v3 → cX p s m args meth c cX10_isSame RX10 8 (some .boolean) wsX10_isSame D cy G (pA G0 sz) → wd D cy G M (pA G0 sz) s.heap H locs → lv_has ls 8 [(0, .ref a0), (1, .ref a1), (2, .ref v2), (3, .int v3)] → W p l e (rnX10_isSame b) s m args below meth c H locs u.1 u.2 (MQ below (va_Qi (fun (r : Int32) (u : gS × mS) => post u.1 u.2 r) (fun u t => va_P D vwCl (pl cy u.1 u.2) t.heap ∧ va_D (pA G0 sz) (pl cy u.1 u.2) ∧ wt u.1 ∧ ext G0 u.1) (pA G0 sz)) args s b.1 b.2 (pA G0 sz)) (F0 m 36 ls []) := by
  intro u G M v2 v3 H locs ls hL0 hK0 hL1 hK1 v2L v2K hext hu h cx w hl
  obtain ⟨I, n, hI, hB⟩ := h
  have key : ∀ n : Nat, ∀ (u : uS) (G : gS) (M : mS) (v2 : Nat) (v3 : Int32) (H : Heap) (locs : List Loc) (ls : Array Slot), a0 ∈ gL G → gK G a0 = 9 → a1 ∈ gL G → gK G a1 = 8 → v2 ∈ gL G → gK G v2 = 12 → ext G0 G → uL u b → I n u G M v2 v3 → cX p s m args meth c cX10_isSame RX10 8 (some .boolean) wsX10_isSame D cy G (pA G0 sz) → wd D cy G M (pA G0 sz) s.heap H locs → lv_has ls 8 [(0, .ref a0), (1, .ref a1), (2, .ref v2), (3, .int v3)] → W p l e (rnX10_isSame b) s m args below meth c H locs u.1 u.2 (MQ below (va_Qi (fun (r : Int32) (u : gS × mS) => post u.1 u.2 r) (fun u t => va_P D vwCl (pl cy u.1 u.2) t.heap ∧ va_D (pA G0 sz) (pl cy u.1 u.2) ∧ wt u.1 ∧ ext G0 u.1) (pA G0 sz)) args s b.1 b.2 (pA G0 sz)) (F0 m 36 ls []) := by
    intro n
    induction n using Nat.strongRecOn with
    | ind n ih =>
      intro u G M v2 v3 H locs ls hL0 hK0 hL1 hK1 v2L v2K hext hu hI cx w hl
      have h := hB n u G M v2 v3 hI
      unfold nb_X10_isSame_36 at h
      obtain ⟨hx, hb, hml, hown, hts, hr, hlocks, hK, hA, hG, hsx⟩ := id cx
      have hR : (rnX10_isSame b).cells = b.1 ∧ (rnX10_isSame b).slots = b.2 := ⟨rfl, rfl⟩
      refine lv_iload_n hx hb dX10_isSame_36 rfl (lv_at hl 3 rfl) ?_
      refine lv_bipush (v := (64 : Int32)) hx hb dX10_isSame_37 (by decide) ?_
      refine lv_icmp_ge (tgt := 107) hx hb dX10_isSame_39 (by decide) (fun k1 => ?_) (fun k1 => ?_)
      · have h := w_t h k1
        refine lv_iconst (v := (0 : Int32)) hx hb dX10_isSame_107 (by decide) ?_
        refine lv_istore_n (lv' := [(3, .int ((0 : Int32))), (0, .ref a0), (1, .ref a1), (2, .ref v2)]) hx hb dX10_isSame_108 rfl hl (by decide) rfl (fun ls hl => ?_)
        exact bn_X10_isSame_109 hnm u G M v2 ((0 : Int32)) H locs ls hL0 hK0 hL1 hK1 v2L v2K hext hu h cx w (lv_sub hl [1, 2, 3, 0] rfl)
      · have h := w_f h k1
        refine lv_aload_n hx hb dX10_isSame_42 rfl (lv_at hl 1 rfl) ?_
        refine lv_iload_n hx hb dX10_isSame_43 rfl (lv_at hl 3 rfl) ?_
        obtain ⟨M2, r3, y4, h⟩ := w_cl h
        refine r_callVi (As := [.int v3]) (rest := []) cx w hu hl.1 (k_X9_row hG hL1 hK1 y4) (cwV 1 hts gX10_isSame_X9_row rfl rfl rfl (by decide +kernel) ⟨(Nat.le_of_ble_eq_true rfl), (Nat.le_of_ble_eq_true rfl)⟩) hL1 hK1 (by decide) rfl rfl rfl (Nat.le_of_ble_eq_true rfl) dX10_isSame_44 (fun H locs w => ?_)
        refine lv_aload_n hx hb dX10_isSame_47 rfl (lv_at hl 0 rfl) ?_
        refine lv_iload_n hx hb dX10_isSame_48 rfl (lv_at hl 3 rfl) ?_
        refine rb_VI (b := b) (u := u) (rf := 0) (rl := 0) (As := [.int v3]) (rest := [.int r3]) cx w hR hl.1 h (fun h => kn_X10_darkIn hG hL0 hK0 h) (fun v => cwV 1 hts gX10_isSame_X10_darkIn rfl rfl rfl (by decide +kernel) ⟨(Nat.le_of_ble_eq_true rfl), (Nat.le_of_ble_eq_true rfl)⟩) hL0 hK0 (by decide) rfl rfl rfl (Nat.le_of_ble_eq_true rfl) dX10_isSame_49 (fun u7 G5 M6 r8 H locs h hu xe cx w => ?_)
        obtain ⟨hL0, hK0⟩ := ext_wt xe hL0 hK0
        obtain ⟨hL1, hK1⟩ := ext_wt xe hL1 hK1
        obtain ⟨v2L, v2K⟩ := ext_wt xe v2L v2K
        have hext := ext_tr hext xe
        clear xe
        have hG := cX_wt cx
        refine lv_icmp_eq (tgt := 57) hx hb dX10_isSame_52 (by decide) (fun k9 => ?_) (fun k9 => ?_)
        · have h := w_t h k9
          refine lv_aload_n hx hb dX10_isSame_57 rfl (lv_at hl 0 rfl) ?_
          obtain ⟨q10, eq10, h⟩ := w_rf h
          obtain ⟨hLq10, hKq10⟩ := wt_q hG hL0 hK0 eq10
          have hKq10 : gK G5 q10 = 15 := hKq10
          refine r_getR (k := 5) cx w hL0 hK0 (by decide) rfl wb_X10_isSame_X10 (by decide) rfl eq10 (List.mem_of_getElem? (i := 2) rfl) dX10_isSame_58 ?_
          refine lv_iload_n hx hb dX10_isSame_61 rfl (lv_at hl 3 rfl) ?_
          obtain ⟨z11, h⟩ := w_ix h
          obtain ⟨q12, eq12, h⟩ := w_rf h
          obtain ⟨hLq12, hKq12⟩ := wt_q hG hLq10 hKq10 eq12
          have hKq12 : gK G5 q12 = 12 := hKq12
          refine r_aaldA cx w hLq10 hKq10 z11 eq12 dX10_isSame_62 ?_
          refine lv_astore (lv' := [(4, .ref q12), (0, .ref a0), (1, .ref a1), (2, .ref v2), (3, .int v3)]) hx hb dX10_isSame_63 hl (by decide) rfl (fun ls hl => ?_)
          refine lv_aload hx hb dX10_isSame_65 (lv_at hl 0 rfl) ?_
          refine r_alen cx w hLq12 hKq12 (by decide) dX10_isSame_67 ?_
          obtain ⟨x13, ex13, h⟩ := w_bd h
          refine r_topI ex13 ?_
          refine lv_istore (lv' := [(5, .int x13), (4, .ref q12), (0, .ref a0), (1, .ref a1), (2, .ref v2), (3, .int v3)]) hx hb dX10_isSame_68 hl (by decide) rfl (fun ls hl => ?_)
          refine lv_iconst (v := (0 : Int32)) hx hb dX10_isSame_70 (by decide) ?_
          refine lv_istore (lv' := [(6, .int ((0 : Int32))), (5, .int x13), (4, .ref q12), (0, .ref a0), (1, .ref a1), (2, .ref v2), (3, .int v3)]) hx hb dX10_isSame_71 hl (by decide) rfl (fun ls hl => ?_)
          exact bn_X10_isSame_73 hnm (hkb36 := fun u G M v2 v3 H locs ls hL0 hK0 hL1 hK1 v2L v2K hext hu h cx w hl => by obtain ⟨k, hk, hI⟩ := h; exact ih k hk u G M v2 v3 H locs ls hL0 hK0 hL1 hK1 v2L v2K hext hu hI cx w hl) u7 G5 M6 v2 v3 q12 x13 ((0 : Int32)) H locs ls hL0 hK0 hL1 hK1 v2L v2K hLq12 hKq12 hext hu h cx w (lv_sub hl [3, 4, 5, 6, 2, 1, 0] rfl)
        · have h := w_f h k9
          refine lv_iconst (v := (0 : Int32)) hx hb dX10_isSame_55 (by decide) ?_
          obtain ⟨z14, h⟩ := w_ck h
          exact rb_nret (z_nar z14) h cx w hext hu dX10_isSame_56
  exact key n u G M v2 v3 H locs ls hL0 hK0 hL1 hK1 v2L v2K hext hu hI cx w hl
set_option maxHeartbeats 4000000 in
set_option maxRecDepth 100000 in
theorem bn_X10_isSame_2 {p : Program} {l : Launch} {e : Env} {s : State} {m : MethodId} {args : Array Value} {below : List Frame} {meth : Method} {c : Code} {D : va_G} {cy : cyS} {b : uS} {G0 : gS} {sz : Nat} (hnm : meth.name = yX10_isSame.name)  {a0 : Nat} {a1 : Nat} {post : gS → mS → Int32 → Prop} : ∀ (u : uS) (G : gS) (M : mS) (v2 : Int32) (H : Heap) (locs : List Loc) (ls : Array Slot), a0 ∈ gL G → gK G a0 = 9 → a1 ∈ gL G → gK G a1 = 8 → ext G0 G → uL u b → nl_X10_isSame_2 b a0 a1 post u G M v2 → cX p s m args meth c cX10_isSame RX10 8 (some .boolean) wsX10_isSame D cy G (pA G0 sz) → wd D cy G M (pA G0 sz) s.heap H locs → lv_has ls 8 [(0, .ref a0), (1, .ref a1), (2, .int v2)] → W p l e (rnX10_isSame b) s m args below meth c H locs u.1 u.2 (MQ below (va_Qi (fun (r : Int32) (u : gS × mS) => post u.1 u.2 r) (fun u t => va_P D vwCl (pl cy u.1 u.2) t.heap ∧ va_D (pA G0 sz) (pl cy u.1 u.2) ∧ wt u.1 ∧ ext G0 u.1) (pA G0 sz)) args s b.1 b.2 (pA G0 sz)) (F0 m 2 ls []) := by
  intro u G M v2 H locs ls hL0 hK0 hL1 hK1 hext hu h cx w hl
  obtain ⟨I, n, hI, hB⟩ := h
  have key : ∀ n : Nat, ∀ (u : uS) (G : gS) (M : mS) (v2 : Int32) (H : Heap) (locs : List Loc) (ls : Array Slot), a0 ∈ gL G → gK G a0 = 9 → a1 ∈ gL G → gK G a1 = 8 → ext G0 G → uL u b → I n u G M v2 → cX p s m args meth c cX10_isSame RX10 8 (some .boolean) wsX10_isSame D cy G (pA G0 sz) → wd D cy G M (pA G0 sz) s.heap H locs → lv_has ls 8 [(0, .ref a0), (1, .ref a1), (2, .int v2)] → W p l e (rnX10_isSame b) s m args below meth c H locs u.1 u.2 (MQ below (va_Qi (fun (r : Int32) (u : gS × mS) => post u.1 u.2 r) (fun u t => va_P D vwCl (pl cy u.1 u.2) t.heap ∧ va_D (pA G0 sz) (pl cy u.1 u.2) ∧ wt u.1 ∧ ext G0 u.1) (pA G0 sz)) args s b.1 b.2 (pA G0 sz)) (F0 m 2 ls []) := by
    intro n
    induction n using Nat.strongRecOn with
    | ind n ih =>
      intro u G M v2 H locs ls hL0 hK0 hL1 hK1 hext hu hI cx w hl
      have h := hB n u G M v2 hI
      unfold nb_X10_isSame_2 at h
      obtain ⟨hx, hb, hml, hown, hts, hr, hlocks, hK, hA, hG, hsx⟩ := id cx
      have hR : (rnX10_isSame b).cells = b.1 ∧ (rnX10_isSame b).slots = b.2 := ⟨rfl, rfl⟩
      refine lv_iload_n hx hb dX10_isSame_2 rfl (lv_at hl 2 rfl) ?_
      refine lv_bipush (v := (11 : Int32)) hx hb dX10_isSame_3 (by decide) ?_
      refine lv_icmp_ge (tgt := 29) hx hb dX10_isSame_5 (by decide) (fun k1 => ?_) (fun k1 => ?_)
      · have h := w_t h k1
        refine lv_bipush (v := (6 : Int32)) hx hb dX10_isSame_29 (by decide) ?_
        refine rb_newI (b := b) (u := u) cx w hR (List.mem_of_getElem? (i := 1) rfl) h dX10_isSame_31 (fun q2 u5 G3 M4 H h hu xe hLq2 hKq2 cx w => ?_)
        obtain ⟨hL0, hK0⟩ := ext_wt xe hL0 hK0
        obtain ⟨hL1, hK1⟩ := ext_wt xe hL1 hK1
        have hext := ext_tr hext xe
        clear xe
        have hG := cX_wt cx
        refine lv_astore_n (lv' := [(2, .ref q2), (0, .ref a0), (1, .ref a1)]) hx hb dX10_isSame_33 rfl hl (by decide) rfl (fun ls hl => ?_)
        refine lv_iconst (v := (0 : Int32)) hx hb dX10_isSame_34 (by decide) ?_
        refine lv_istore_n (lv' := [(3, .int ((0 : Int32))), (2, .ref q2), (0, .ref a0), (1, .ref a1)]) hx hb dX10_isSame_35 rfl hl (by decide) rfl (fun ls hl => ?_)
        exact bn_X10_isSame_36 hnm u5 G3 M4 q2 ((0 : Int32)) H locs ls hL0 hK0 hL1 hK1 hLq2 hKq2 hext hu h cx w (lv_sub hl [2, 3, 1, 0] rfl)
      · have h := w_f h k1
        refine lv_aload_n hx hb dX10_isSame_8 rfl (lv_at hl 1 rfl) ?_
        refine lv_iload_n hx hb dX10_isSame_9 rfl (lv_at hl 2 rfl) ?_
        obtain ⟨M6, r7, y8, h⟩ := w_cl h
        refine r_callVi (As := [.int v2]) (rest := []) cx w hu hl.1 (k_X9_count hG hL1 hK1 y8) (cwV 1 hts gX10_isSame_X9_count rfl rfl rfl (by decide +kernel) ⟨(Nat.le_of_ble_eq_true rfl), (Nat.le_of_ble_eq_true rfl)⟩) hL1 hK1 (by decide) rfl rfl rfl (Nat.le_of_ble_eq_true rfl) dX10_isSame_10 (fun H locs w => ?_)
        refine lv_aload_n hx hb dX10_isSame_13 rfl (lv_at hl 0 rfl) ?_
        refine lv_iload_n hx hb dX10_isSame_14 rfl (lv_at hl 2 rfl) ?_
        refine rb_VI (b := b) (u := u) (rf := 2) (rl := 48) (As := [.int v2]) (rest := [.int r7]) cx w hR hl.1 h (fun h => kn_X10_counted hG hL0 hK0 h) (fun v => cwV 1 hts gX10_isSame_X10_counted rfl rfl rfl (by decide +kernel) ⟨(Nat.le_of_ble_eq_true rfl), (Nat.le_of_ble_eq_true rfl)⟩) hL0 hK0 (by decide) rfl rfl rfl (Nat.le_of_ble_eq_true rfl) dX10_isSame_15 (fun u11 G9 M10 r12 H locs h hu xe cx w => ?_)
        obtain ⟨hL0, hK0⟩ := ext_wt xe hL0 hK0
        obtain ⟨hL1, hK1⟩ := ext_wt xe hL1 hK1
        have hext := ext_tr hext xe
        clear xe
        have hG := cX_wt cx
        refine lv_icmp_eq (tgt := 23) hx hb dX10_isSame_18 (by decide) (fun k13 => ?_) (fun k13 => ?_)
        · have h := w_t h k13
          obtain ⟨x14, ex14, h⟩ := w_bd h
          refine lv_iinc (v := x14) (lv' := [(2, .int x14), (0, .ref a0), (1, .ref a1)]) hx hb dX10_isSame_23 hl (k := 2) rfl (by rw [ex14]; rfl) (by decide) rfl (fun ls hl => ?_)
          refine lv_goto (tgt := 2) hx hb dX10_isSame_26 (by decide) ?_
          obtain ⟨k, hk, hI⟩ := h
          exact ih k hk u11 G9 M10 x14 H locs ls hL0 hK0 hL1 hK1 hext hu hI cx w (lv_sub hl [1, 2, 0] rfl)
        · have h := w_f h k13
          refine lv_iconst (v := (0 : Int32)) hx hb dX10_isSame_21 (by decide) ?_
          obtain ⟨z15, h⟩ := w_ck h
          exact rb_nret (z_nar z15) h cx w hext hu dX10_isSame_22
  exact key n u G M v2 H locs ls hL0 hK0 hL1 hK1 hext hu hI cx w hl
set_option maxHeartbeats 4000000 in
set_option maxRecDepth 100000 in
theorem kn_X10_isSame {l : Launch} {D : va_G} {cy : cyS} {G : gS} {M : mS} {b : uS} {a0 : Nat} {a1 : Nat} {post : gS → mS → Int32 → Prop} (hG : wt G) (hL0 : a0 ∈ gL G) (hK0 : gK G a0 = 9) (hL1 : a1 ∈ gL G) (hK1 : gK G a1 = 8) (h : n_X10_isSame b G M a0 a1 post) : cbI l yX10_isSame wsX10_isSame (rnX10_isSame b) D cy G M [.ref a0, .ref a1] b post := by
  unfold n_X10_isSame at h
  refine cbI_of (cc := cX10_isSame) (nL := 8) (ret := (some .boolean)) (lv := [(0, .ref a0), (1, .ref a1)]) hG (by decide) rfl (Nat.le_of_ble_eq_true rfl) rfl ?_
  intro p e s m args below meth c sz ls hnm cx w hl
  obtain ⟨hx, hb, hml, hown, hts, hr, hlocks, hK, hA, -, hsx⟩ := id cx
  have hext := ext_rf (G := G)
  have hu : uL (0, 0) b := ⟨Nat.zero_le _, Nat.zero_le _⟩
  have hR : (rnX10_isSame b).cells = b.1 ∧ (rnX10_isSame b).slots = b.2 := ⟨rfl, rfl⟩
  refine lv_iconst (v := (0 : Int32)) hx hb dX10_isSame_0 (by decide) ?_
  refine lv_istore_n (lv' := [(2, .int ((0 : Int32))), (0, .ref a0), (1, .ref a1)]) hx hb dX10_isSame_1 rfl hl (by decide) rfl (fun ls hl => ?_)
  exact bn_X10_isSame_2 hnm (0, 0) G M ((0 : Int32)) s.heap [] ls hL0 hK0 hL1 hK1 hext hu h cx w (lv_sub hl [1, 2, 0] rfl)
