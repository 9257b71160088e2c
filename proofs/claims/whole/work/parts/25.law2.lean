def fc_6 (G : gS) (M : mS) (x mm o : Nat) (c1 : Int32) (post : gS → mS → Prop) : Prop := p_cl (m_L_colour G M x c1 o) (fun M1 r2 => p_cl (m_X12_colour G M1 mm c1) (fun M4 r5 => p_cl (m_X12_thrown G M4 mm) (fun M7 r8 => (p_if (r8 = r2) ((p_if (r2 = 0) (p_ix (0 : Int32) (gN G o) ((p_if ((lg_cmp (mJ M7 o (Int32.toNatClampNeg (0 : Int32))) (Int32.toInt64 r5)) = 0) (post G M7) (False)))) (post G M7))) (False)))))
set_option maxHeartbeats 4000000 in
set_option maxRecDepth 100000 in
theorem lc_6 {p : Program} {e : Env} {s : State} {m : MethodId} {args : Array Value} {below : List Frame} {meth : Method} {c : Code} {A : Nat → Prop} {l : Launch} {D : va_G} {cy : cyS} {G : gS} {M : mS} {H : Heap} {locs : List Loc} {ls : Array Slot} {Q : State → Prop} {x mm o b L k0 n0 : Nat} {xs : Nat → Int32} {i c1 : Int32} {post : gS → mS → Prop} (hst : l.stackTraces = false) (cx : cX p s m args meth c cL_law RL 9 (some .boolean) wsL_law D cy G A) (w : wd D cy G M A s.heap H locs) (hl : lv_has ls 9 [(0, .ref b), (1, .ref x), (2, .ref mm), (3, .ref o), (4, .int i)]) (hX : va_X b L xs s s.heap ∧ b < s.heap.size ∧ ¬ A b) (hkk : k0 + 20 ≤ 601024 ∧ n0 + 6000 ≤ 7293034) (hL1 : x ∈ gL G) (hK1 : gK G x = 8) (hL2 : mm ∈ gL G) (hK2 : gK G mm = 11) (hL3 : o ∈ gL G) (hK3 : gK G o = 13) (hi1 : vp_in (i + (1 : Int32)) L) (hc1 : c1 = xs (Int32.toNatClampNeg (i + (1 : Int32)))) (h : fc_6 G M x mm o c1 post) (hk : ∀ (G1 : gS) (M1 : mS) (H1 : Heap) (locs1 : List Loc) (ls1 : Array Slot), post G1 M1 → ext G G1 → cX p s m args meth c cL_law RL 9 (some .boolean) wsL_law D cy G1 A → wd D cy G1 M1 A s.heap H1 locs1 → lv_has ls1 9 [(0, .ref b), (1, .ref x), (2, .ref mm), (3, .ref o), (4, .int i)] → W p l e room_1 s m args below meth c H1 locs1 (k0 + 20) (n0 + 6000) Q (F0 m 1389 ls1 [])) : W p l e room_1 s m args below meth c H locs k0 n0 Q (F0 m 454 ls []) := by
  obtain ⟨hx, hb, hml, hown, hts, hr, hlocks, hK, hA, hG, hsx⟩ := id cx
  obtain ⟨hkc, hks⟩ := hkk
  have hext := ext_rf (G := G)
  unfold fc_6 at h
  refine lv_aload_n hx hb dL_law_454 rfl (lv_at hl 1 rfl) ?_
  refine lv_aload_n hx hb dL_law_455 rfl (lv_at hl 0 rfl) ?_
  refine lv_iload hx hb dL_law_456 (lv_at hl 4 rfl) ?_
  refine lv_iconst (v := (1 : Int32)) hx hb dL_law_458 (by decide) ?_
  refine lv_iadd hx hb dL_law_459 ?_
  refine va_sld hx hb hX.1 hX.2.1 hX.2.2 w.2.2 hi1 dL_law_460 ?_
  refine r_topI hc1 ?_
  refine lv_aload_n hx hb dL_law_461 rfl (lv_at hl 3 rfl) ?_
  obtain ⟨M1, r2, y3, h⟩ := w_cl h
  refine r_callSW (As := [.ref x, .int c1, .ref o]) (rest := []) cx w ⟨by show _ ≤ 601024; omega, by show _ ≤ 7293034; omega⟩ hl.1 (k_L_colour hG hst hL1 hK1 hL3 hK3 y3) (vx_cwSW 3 hts gL_law_L_colour rfl rfl rfl (by decide +kernel) ⟨Nat.le_of_ble_eq_true rfl, Nat.le_of_ble_eq_true rfl⟩) rfl rfl (Nat.le_of_ble_eq_true rfl) dL_law_462 (fun H locs w => ?_)
  refine lv_istore (lv' := [(5, .int r2), (0, .ref b), (1, .ref x), (2, .ref mm), (3, .ref o), (4, .int i)]) hx hb dL_law_465 hl (by decide) rfl (fun ls hl => ?_)
  refine lv_aload_n hx hb dL_law_467 rfl (lv_at hl 3 rfl) ?_
  refine lv_aload_n hx hb dL_law_468 rfl (lv_at hl 1 rfl) ?_
  refine lv_iload hx hb dL_law_469 (lv_at hl 5 rfl) ?_
  refine lv_iconst (v := (1 : Int32)) hx hb dL_law_471 (by decide) ?_
  refine lv_iadd hx hb dL_law_472 ?_
  refine va_sld hx hb hX.1 hX.2.1 hX.2.2 w.2.2 hi1 dL_law_473 ?_
  refine r_topI hc1 ?_
  obtain ⟨M4, r5, y6, h⟩ := w_cl h
  refine r_callVi (As := [.int c1]) (rest := []) cx w ⟨by show _ ≤ 601024; omega, by show _ ≤ 7293034; omega⟩ hl.1 (k_X12_colour hG hL2 hK2 y6) (cwV 1 hts gL_law_X12_colour rfl rfl rfl (by decide +kernel) ⟨Nat.le_of_ble_eq_true rfl, Nat.le_of_ble_eq_true rfl⟩) hL2 hK2 (by decide) rfl rfl rfl (Nat.le_of_ble_eq_true rfl) dL_law_474 (fun H locs w => ?_)
  refine lv_istore (lv' := [(6, .int r5), (5, .int r2), (0, .ref b), (1, .ref x), (2, .ref mm), (3, .ref o), (4, .int i)]) hx hb dL_law_477 hl (by decide) rfl (fun ls hl => ?_)
  refine lv_aload_n hx hb dL_law_479 rfl (lv_at hl 4 rfl) ?_
  obtain ⟨M7, r8, y9, h⟩ := w_cl h
  refine r_callVi (As := []) (rest := []) cx w ⟨by show _ ≤ 601024; omega, by show _ ≤ 7293034; omega⟩ hl.1 (k_X12_thrown hG hL2 hK2 y9) (cwV 0 hts gL_law_X12_thrown rfl rfl rfl (by decide +kernel) ⟨Nat.le_of_ble_eq_true rfl, Nat.le_of_ble_eq_true rfl⟩) hL2 hK2 (by decide) rfl rfl rfl (Nat.le_of_ble_eq_true rfl) dL_law_480 (fun H locs w => ?_)
  refine lv_iload hx hb dL_law_483 (lv_at hl 1 rfl) ?_
  refine lv_icmp_eq (tgt := 490) hx hb dL_law_485 (by decide) (fun k10 => ?_) (fun k10 => ?_)
  · have h := w_t h k10
    refine lv_iload hx hb dL_law_490 (lv_at hl 1 rfl) ?_
    refine lv_if_ne (tgt := 507) hx hb dL_law_492 (by decide) (fun k11 => ?_) (fun k11 => ?_)
    · have h := w_f h k11
      refine lv_goto (tgt := 1389) hx hb dL_law_507 (by decide) ?_
      refine W.widen (k := k0 + 20) (n := n0 + 6000) (by omega) (by omega) ?_
      exact hk _ _ _ _ _ h hext cx w (lv_sub hl [2, 3, 4, 5, 6] rfl)
    · have h := w_t h k11
      refine lv_aload_n hx hb dL_law_495 rfl (lv_at hl 5 rfl) ?_
      refine lv_iconst (v := (0 : Int32)) hx hb dL_law_496 (by decide) ?_
      obtain ⟨z12, h⟩ := w_ix h
      refine r_lald cx w hL3 hK3 z12 dL_law_497 ?_
      refine lv_iload hx hb dL_law_498 (lv_at hl 0 rfl) ?_
      refine lv_i2l (v := (Int32.toInt64 r5)) hx hb dL_law_500 rfl ?_
      refine W.lcmp hx hb dL_law_501 ?_
      refine lv_if_eq (tgt := 507) hx hb dL_law_502 (by decide) (fun k13 => ?_) (fun k13 => ?_)
      · have h := w_t h k13
        refine lv_goto (tgt := 1389) hx hb dL_law_507 (by decide) ?_
        refine W.widen (k := k0 + 20) (n := n0 + 6000) (by omega) (by omega) ?_
        exact hk _ _ _ _ _ h hext cx w (lv_sub hl [2, 3, 4, 5, 6] rfl)
      · have h := w_f h k13
        refine lv_iconst (v := (0 : Int32)) hx hb dL_law_505 (by decide) ?_
        exact h.elim
  · have h := w_f h k10
    refine lv_iconst (v := (0 : Int32)) hx hb dL_law_488 (by decide) ?_
    exact h.elim
def fc_7 (G : gS) (M : mS) (x mm o : Nat) (c1 : Int32) (post : gS → mS → Prop) : Prop := p_cl (m_L_row G M x c1 o) (fun M1 r2 => p_cl (m_X12_row G M1 mm c1) (fun M4 r5 => p_cl (m_X12_thrown G M4 mm) (fun M7 r8 => (p_if (r8 = r2) ((p_if (r2 = 0) (p_ix (0 : Int32) (gN G o) ((p_if ((lg_cmp (mJ M7 o (Int32.toNatClampNeg (0 : Int32))) (Int32.toInt64 r5)) = 0) (post G M7) (False)))) (post G M7))) (False)))))
set_option maxHeartbeats 4000000 in
set_option maxRecDepth 100000 in
theorem lc_7 {p : Program} {e : Env} {s : State} {m : MethodId} {args : Array Value} {below : List Frame} {meth : Method} {c : Code} {A : Nat → Prop} {l : Launch} {D : va_G} {cy : cyS} {G : gS} {M : mS} {H : Heap} {locs : List Loc} {ls : Array Slot} {Q : State → Prop} {x mm o b L k0 n0 : Nat} {xs : Nat → Int32} {i c1 : Int32} {post : gS → mS → Prop} (hst : l.stackTraces = false) (cx : cX p s m args meth c cL_law RL 9 (some .boolean) wsL_law D cy G A) (w : wd D cy G M A s.heap H locs) (hl : lv_has ls 9 [(0, .ref b), (1, .ref x), (2, .ref mm), (3, .ref o), (4, .int i)]) (hX : va_X b L xs s s.heap ∧ b < s.heap.size ∧ ¬ A b) (hkk : k0 + 20 ≤ 601024 ∧ n0 + 6000 ≤ 7293034) (hL1 : x ∈ gL G) (hK1 : gK G x = 8) (hL2 : mm ∈ gL G) (hK2 : gK G mm = 11) (hL3 : o ∈ gL G) (hK3 : gK G o = 13) (hi1 : vp_in (i + (1 : Int32)) L) (hc1 : c1 = xs (Int32.toNatClampNeg (i + (1 : Int32)))) (h : fc_7 G M x mm o c1 post) (hk : ∀ (G1 : gS) (M1 : mS) (H1 : Heap) (locs1 : List Loc) (ls1 : Array Slot), post G1 M1 → ext G G1 → cX p s m args meth c cL_law RL 9 (some .boolean) wsL_law D cy G1 A → wd D cy G1 M1 A s.heap H1 locs1 → lv_has ls1 9 [(0, .ref b), (1, .ref x), (2, .ref mm), (3, .ref o), (4, .int i)] → W p l e room_1 s m args below meth c H1 locs1 (k0 + 20) (n0 + 6000) Q (F0 m 1389 ls1 [])) : W p l e room_1 s m args below meth c H locs k0 n0 Q (F0 m 510 ls []) := by
  obtain ⟨hx, hb, hml, hown, hts, hr, hlocks, hK, hA, hG, hsx⟩ := id cx
  obtain ⟨hkc, hks⟩ := hkk
  have hext := ext_rf (G := G)
  unfold fc_7 at h
  refine lv_aload_n hx hb dL_law_510 rfl (lv_at hl 1 rfl) ?_
  refine lv_aload_n hx hb dL_law_511 rfl (lv_at hl 0 rfl) ?_
  refine lv_iload hx hb dL_law_512 (lv_at hl 4 rfl) ?_
  refine lv_iconst (v := (1 : Int32)) hx hb dL_law_514 (by decide) ?_
  refine lv_iadd hx hb dL_law_515 ?_
  refine va_sld hx hb hX.1 hX.2.1 hX.2.2 w.2.2 hi1 dL_law_516 ?_
  refine r_topI hc1 ?_
  refine lv_aload_n hx hb dL_law_517 rfl (lv_at hl 3 rfl) ?_
  obtain ⟨M1, r2, y3, h⟩ := w_cl h
  refine r_callSW (As := [.ref x, .int c1, .ref o]) (rest := []) cx w ⟨by show _ ≤ 601024; omega, by show _ ≤ 7293034; omega⟩ hl.1 (k_L_row hG hst hL1 hK1 hL3 hK3 y3) (vx_cwSW 3 hts gL_law_L_row rfl rfl rfl (by decide +kernel) ⟨Nat.le_of_ble_eq_true rfl, Nat.le_of_ble_eq_true rfl⟩) rfl rfl (Nat.le_of_ble_eq_true rfl) dL_law_518 (fun H locs w => ?_)
  refine lv_istore (lv' := [(5, .int r2), (0, .ref b), (1, .ref x), (2, .ref mm), (3, .ref o), (4, .int i)]) hx hb dL_law_521 hl (by decide) rfl (fun ls hl => ?_)
  refine lv_aload_n hx hb dL_law_523 rfl (lv_at hl 3 rfl) ?_
  refine lv_aload_n hx hb dL_law_524 rfl (lv_at hl 1 rfl) ?_
  refine lv_iload hx hb dL_law_525 (lv_at hl 5 rfl) ?_
  refine lv_iconst (v := (1 : Int32)) hx hb dL_law_527 (by decide) ?_
  refine lv_iadd hx hb dL_law_528 ?_
  refine va_sld hx hb hX.1 hX.2.1 hX.2.2 w.2.2 hi1 dL_law_529 ?_
  refine r_topI hc1 ?_
  obtain ⟨M4, r5, y6, h⟩ := w_cl h
  refine r_callVi (As := [.int c1]) (rest := []) cx w ⟨by show _ ≤ 601024; omega, by show _ ≤ 7293034; omega⟩ hl.1 (k_X12_row hG hL2 hK2 y6) (cwV 1 hts gL_law_X12_row rfl rfl rfl (by decide +kernel) ⟨Nat.le_of_ble_eq_true rfl, Nat.le_of_ble_eq_true rfl⟩) hL2 hK2 (by decide) rfl rfl rfl (Nat.le_of_ble_eq_true rfl) dL_law_530 (fun H locs w => ?_)
  refine lv_istore (lv' := [(6, .int r5), (5, .int r2), (0, .ref b), (1, .ref x), (2, .ref mm), (3, .ref o), (4, .int i)]) hx hb dL_law_533 hl (by decide) rfl (fun ls hl => ?_)
  refine lv_aload_n hx hb dL_law_535 rfl (lv_at hl 4 rfl) ?_
  obtain ⟨M7, r8, y9, h⟩ := w_cl h
  refine r_callVi (As := []) (rest := []) cx w ⟨by show _ ≤ 601024; omega, by show _ ≤ 7293034; omega⟩ hl.1 (k_X12_thrown hG hL2 hK2 y9) (cwV 0 hts gL_law_X12_thrown rfl rfl rfl (by decide +kernel) ⟨Nat.le_of_ble_eq_true rfl, Nat.le_of_ble_eq_true rfl⟩) hL2 hK2 (by decide) rfl rfl rfl (Nat.le_of_ble_eq_true rfl) dL_law_536 (fun H locs w => ?_)
  refine lv_iload hx hb dL_law_539 (lv_at hl 1 rfl) ?_
  refine lv_icmp_eq (tgt := 546) hx hb dL_law_541 (by decide) (fun k10 => ?_) (fun k10 => ?_)
  · have h := w_t h k10
    refine lv_iload hx hb dL_law_546 (lv_at hl 1 rfl) ?_
    refine lv_if_ne (tgt := 563) hx hb dL_law_548 (by decide) (fun k11 => ?_) (fun k11 => ?_)
    · have h := w_f h k11
      refine lv_goto (tgt := 1389) hx hb dL_law_563 (by decide) ?_
      refine W.widen (k := k0 + 20) (n := n0 + 6000) (by omega) (by omega) ?_
      exact hk _ _ _ _ _ h hext cx w (lv_sub hl [2, 3, 4, 5, 6] rfl)
    · have h := w_t h k11
      refine lv_aload_n hx hb dL_law_551 rfl (lv_at hl 5 rfl) ?_
      refine lv_iconst (v := (0 : Int32)) hx hb dL_law_552 (by decide) ?_
      obtain ⟨z12, h⟩ := w_ix h
      refine r_lald cx w hL3 hK3 z12 dL_law_553 ?_
      refine lv_iload hx hb dL_law_554 (lv_at hl 0 rfl) ?_
      refine lv_i2l (v := (Int32.toInt64 r5)) hx hb dL_law_556 rfl ?_
      refine W.lcmp hx hb dL_law_557 ?_
      refine lv_if_eq (tgt := 563) hx hb dL_law_558 (by decide) (fun k13 => ?_) (fun k13 => ?_)
      · have h := w_t h k13
        refine lv_goto (tgt := 1389) hx hb dL_law_563 (by decide) ?_
        refine W.widen (k := k0 + 20) (n := n0 + 6000) (by omega) (by omega) ?_
        exact hk _ _ _ _ _ h hext cx w (lv_sub hl [2, 3, 4, 5, 6] rfl)
      · have h := w_f h k13
        refine lv_iconst (v := (0 : Int32)) hx hb dL_law_561 (by decide) ?_
        exact h.elim
  · have h := w_f h k10
    refine lv_iconst (v := (0 : Int32)) hx hb dL_law_544 (by decide) ?_
    exact h.elim
def fc_8 (G : gS) (M : mS) (x mm o : Nat) (c1 c2 : Int32) (post : gS → mS → Prop) : Prop := p_cl (m_L_turn G M x c1 c2 o) (fun M1 r2 => p_cl (m_X12_turn G M1 mm c1 c2) (fun M4 r5 => p_cl (m_X12_thrown G M4 mm) (fun M7 r8 => (p_if (r8 = r2) ((p_if (r2 = 0) (p_ix (0 : Int32) (gN G o) ((p_if ((lg_cmp (mJ M7 o (Int32.toNatClampNeg (0 : Int32))) (Int32.toInt64 r5)) = 0) (post G M7) (False)))) (post G M7))) (False)))))
set_option maxHeartbeats 4000000 in
set_option maxRecDepth 100000 in
theorem lc_8 {p : Program} {e : Env} {s : State} {m : MethodId} {args : Array Value} {below : List Frame} {meth : Method} {c : Code} {A : Nat → Prop} {l : Launch} {D : va_G} {cy : cyS} {G : gS} {M : mS} {H : Heap} {locs : List Loc} {ls : Array Slot} {Q : State → Prop} {x mm o b L k0 n0 : Nat} {xs : Nat → Int32} {i c1 c2 : Int32} {post : gS → mS → Prop} (hst : l.stackTraces = false) (cx : cX p s m args meth c cL_law RL 9 (some .boolean) wsL_law D cy G A) (w : wd D cy G M A s.heap H locs) (hl : lv_has ls 9 [(0, .ref b), (1, .ref x), (2, .ref mm), (3, .ref o), (4, .int i)]) (hX : va_X b L xs s s.heap ∧ b < s.heap.size ∧ ¬ A b) (hkk : k0 + 20 ≤ 601024 ∧ n0 + 6000 ≤ 7293034) (hL1 : x ∈ gL G) (hK1 : gK G x = 8) (hL2 : mm ∈ gL G) (hK2 : gK G mm = 11) (hL3 : o ∈ gL G) (hK3 : gK G o = 13) (hi1 : vp_in (i + (1 : Int32)) L) (hc1 : c1 = xs (Int32.toNatClampNeg (i + (1 : Int32)))) (hi2 : vp_in (i + (2 : Int32)) L) (hc2 : c2 = xs (Int32.toNatClampNeg (i + (2 : Int32)))) (h : fc_8 G M x mm o c1 c2 post) (hk : ∀ (G1 : gS) (M1 : mS) (H1 : Heap) (locs1 : List Loc) (ls1 : Array Slot), post G1 M1 → ext G G1 → cX p s m args meth c cL_law RL 9 (some .boolean) wsL_law D cy G1 A → wd D cy G1 M1 A s.heap H1 locs1 → lv_has ls1 9 [(0, .ref b), (1, .ref x), (2, .ref mm), (3, .ref o), (4, .int i)] → W p l e room_1 s m args below meth c H1 locs1 (k0 + 20) (n0 + 6000) Q (F0 m 1389 ls1 [])) : W p l e room_1 s m args below meth c H locs k0 n0 Q (F0 m 566 ls []) := by
  obtain ⟨hx, hb, hml, hown, hts, hr, hlocks, hK, hA, hG, hsx⟩ := id cx
  obtain ⟨hkc, hks⟩ := hkk
  have hext := ext_rf (G := G)
  unfold fc_8 at h
  refine lv_aload_n hx hb dL_law_566 rfl (lv_at hl 1 rfl) ?_
  refine lv_aload_n hx hb dL_law_567 rfl (lv_at hl 0 rfl) ?_
  refine lv_iload hx hb dL_law_568 (lv_at hl 4 rfl) ?_
  refine lv_iconst (v := (1 : Int32)) hx hb dL_law_570 (by decide) ?_
  refine lv_iadd hx hb dL_law_571 ?_
  refine va_sld hx hb hX.1 hX.2.1 hX.2.2 w.2.2 hi1 dL_law_572 ?_
  refine r_topI hc1 ?_
  refine lv_aload_n hx hb dL_law_573 rfl (lv_at hl 0 rfl) ?_
  refine lv_iload hx hb dL_law_574 (lv_at hl 4 rfl) ?_
  refine lv_iconst (v := (2 : Int32)) hx hb dL_law_576 (by decide) ?_
  refine lv_iadd hx hb dL_law_577 ?_
  refine va_sld hx hb hX.1 hX.2.1 hX.2.2 w.2.2 hi2 dL_law_578 ?_
  refine r_topI hc2 ?_
  refine lv_aload_n hx hb dL_law_579 rfl (lv_at hl 3 rfl) ?_
  obtain ⟨M1, r2, y3, h⟩ := w_cl h
  refine r_callSW (As := [.ref x, .int c1, .int c2, .ref o]) (rest := []) cx w ⟨by show _ ≤ 601024; omega, by show _ ≤ 7293034; omega⟩ hl.1 (k_L_turn hG hst hL1 hK1 hL3 hK3 y3) (vx_cwSW 4 hts gL_law_L_turn rfl rfl rfl (by decide +kernel) ⟨Nat.le_of_ble_eq_true rfl, Nat.le_of_ble_eq_true rfl⟩) rfl rfl (Nat.le_of_ble_eq_true rfl) dL_law_580 (fun H locs w => ?_)
  refine lv_istore (lv' := [(5, .int r2), (0, .ref b), (1, .ref x), (2, .ref mm), (3, .ref o), (4, .int i)]) hx hb dL_law_583 hl (by decide) rfl (fun ls hl => ?_)
  refine lv_aload_n hx hb dL_law_585 rfl (lv_at hl 3 rfl) ?_
  refine lv_aload_n hx hb dL_law_586 rfl (lv_at hl 1 rfl) ?_
  refine lv_iload hx hb dL_law_587 (lv_at hl 5 rfl) ?_
  refine lv_iconst (v := (1 : Int32)) hx hb dL_law_589 (by decide) ?_
  refine lv_iadd hx hb dL_law_590 ?_
  refine va_sld hx hb hX.1 hX.2.1 hX.2.2 w.2.2 hi1 dL_law_591 ?_
  refine r_topI hc1 ?_
  refine lv_aload_n hx hb dL_law_592 rfl (lv_at hl 1 rfl) ?_
  refine lv_iload hx hb dL_law_593 (lv_at hl 5 rfl) ?_
  refine lv_iconst (v := (2 : Int32)) hx hb dL_law_595 (by decide) ?_
  refine lv_iadd hx hb dL_law_596 ?_
  refine va_sld hx hb hX.1 hX.2.1 hX.2.2 w.2.2 hi2 dL_law_597 ?_
  refine r_topI hc2 ?_
  obtain ⟨M4, r5, y6, h⟩ := w_cl h
  refine r_callVi (As := [.int c1, .int c2]) (rest := []) cx w ⟨by show _ ≤ 601024; omega, by show _ ≤ 7293034; omega⟩ hl.1 (k_X12_turn hG hL2 hK2 y6) (cwV 2 hts gL_law_X12_turn rfl rfl rfl (by decide +kernel) ⟨Nat.le_of_ble_eq_true rfl, Nat.le_of_ble_eq_true rfl⟩) hL2 hK2 (by decide) rfl rfl rfl (Nat.le_of_ble_eq_true rfl) dL_law_598 (fun H locs w => ?_)
  refine lv_istore (lv' := [(6, .int r5), (5, .int r2), (0, .ref b), (1, .ref x), (2, .ref mm), (3, .ref o), (4, .int i)]) hx hb dL_law_601 hl (by decide) rfl (fun ls hl => ?_)
  refine lv_aload_n hx hb dL_law_603 rfl (lv_at hl 4 rfl) ?_
  obtain ⟨M7, r8, y9, h⟩ := w_cl h
  refine r_callVi (As := []) (rest := []) cx w ⟨by show _ ≤ 601024; omega, by show _ ≤ 7293034; omega⟩ hl.1 (k_X12_thrown hG hL2 hK2 y9) (cwV 0 hts gL_law_X12_thrown rfl rfl rfl (by decide +kernel) ⟨Nat.le_of_ble_eq_true rfl, Nat.le_of_ble_eq_true rfl⟩) hL2 hK2 (by decide) rfl rfl rfl (Nat.le_of_ble_eq_true rfl) dL_law_604 (fun H locs w => ?_)
  refine lv_iload hx hb dL_law_607 (lv_at hl 1 rfl) ?_
  refine lv_icmp_eq (tgt := 614) hx hb dL_law_609 (by decide) (fun k10 => ?_) (fun k10 => ?_)
  · have h := w_t h k10
    refine lv_iload hx hb dL_law_614 (lv_at hl 1 rfl) ?_
    refine lv_if_ne (tgt := 631) hx hb dL_law_616 (by decide) (fun k11 => ?_) (fun k11 => ?_)
    · have h := w_f h k11
      refine lv_goto (tgt := 1389) hx hb dL_law_631 (by decide) ?_
      refine W.widen (k := k0 + 20) (n := n0 + 6000) (by omega) (by omega) ?_
      exact hk _ _ _ _ _ h hext cx w (lv_sub hl [2, 3, 4, 5, 6] rfl)
    · have h := w_t h k11
      refine lv_aload_n hx hb dL_law_619 rfl (lv_at hl 5 rfl) ?_
      refine lv_iconst (v := (0 : Int32)) hx hb dL_law_620 (by decide) ?_
      obtain ⟨z12, h⟩ := w_ix h
      refine r_lald cx w hL3 hK3 z12 dL_law_621 ?_
      refine lv_iload hx hb dL_law_622 (lv_at hl 0 rfl) ?_
      refine lv_i2l (v := (Int32.toInt64 r5)) hx hb dL_law_624 rfl ?_
      refine W.lcmp hx hb dL_law_625 ?_
      refine lv_if_eq (tgt := 631) hx hb dL_law_626 (by decide) (fun k13 => ?_) (fun k13 => ?_)
      · have h := w_t h k13
        refine lv_goto (tgt := 1389) hx hb dL_law_631 (by decide) ?_
        refine W.widen (k := k0 + 20) (n := n0 + 6000) (by omega) (by omega) ?_
        exact hk _ _ _ _ _ h hext cx w (lv_sub hl [2, 3, 4, 5, 6] rfl)
      · have h := w_f h k13
        refine lv_iconst (v := (0 : Int32)) hx hb dL_law_629 (by decide) ?_
        exact h.elim
  · have h := w_f h k10
    refine lv_iconst (v := (0 : Int32)) hx hb dL_law_612 (by decide) ?_
    exact h.elim
def fc_9 (G : gS) (M : mS) (x mm o : Nat) (c1 c2 : Int32) (post : gS → mS → Prop) : Prop := p_cl (m_L_ant G M x c1 c2 o) (fun M1 r2 => p_cl (m_X12_ant G M1 mm c1 c2) (fun M4 r5 => p_cl (m_X12_thrown G M4 mm) (fun M7 r8 => (p_if (r8 = r2) ((p_if (r2 = 0) (p_ix (0 : Int32) (gN G o) ((p_if ((lg_cmp (mJ M7 o (Int32.toNatClampNeg (0 : Int32))) (Int32.toInt64 r5)) = 0) (post G M7) (False)))) (post G M7))) (False)))))
set_option maxHeartbeats 4000000 in
set_option maxRecDepth 100000 in
theorem lc_9 {p : Program} {e : Env} {s : State} {m : MethodId} {args : Array Value} {below : List Frame} {meth : Method} {c : Code} {A : Nat → Prop} {l : Launch} {D : va_G} {cy : cyS} {G : gS} {M : mS} {H : Heap} {locs : List Loc} {ls : Array Slot} {Q : State → Prop} {x mm o b L k0 n0 : Nat} {xs : Nat → Int32} {i c1 c2 : Int32} {post : gS → mS → Prop} (hst : l.stackTraces = false) (cx : cX p s m args meth c cL_law RL 9 (some .boolean) wsL_law D cy G A) (w : wd D cy G M A s.heap H locs) (hl : lv_has ls 9 [(0, .ref b), (1, .ref x), (2, .ref mm), (3, .ref o), (4, .int i)]) (hX : va_X b L xs s s.heap ∧ b < s.heap.size ∧ ¬ A b) (hkk : k0 + 20 ≤ 601024 ∧ n0 + 6000 ≤ 7293034) (hL1 : x ∈ gL G) (hK1 : gK G x = 8) (hL2 : mm ∈ gL G) (hK2 : gK G mm = 11) (hL3 : o ∈ gL G) (hK3 : gK G o = 13) (hi1 : vp_in (i + (1 : Int32)) L) (hc1 : c1 = xs (Int32.toNatClampNeg (i + (1 : Int32)))) (hi2 : vp_in (i + (2 : Int32)) L) (hc2 : c2 = xs (Int32.toNatClampNeg (i + (2 : Int32)))) (h : fc_9 G M x mm o c1 c2 post) (hk : ∀ (G1 : gS) (M1 : mS) (H1 : Heap) (locs1 : List Loc) (ls1 : Array Slot), post G1 M1 → ext G G1 → cX p s m args meth c cL_law RL 9 (some .boolean) wsL_law D cy G1 A → wd D cy G1 M1 A s.heap H1 locs1 → lv_has ls1 9 [(0, .ref b), (1, .ref x), (2, .ref mm), (3, .ref o), (4, .int i)] → W p l e room_1 s m args below meth c H1 locs1 (k0 + 20) (n0 + 6000) Q (F0 m 1389 ls1 [])) : W p l e room_1 s m args below meth c H locs k0 n0 Q (F0 m 634 ls []) := by
  obtain ⟨hx, hb, hml, hown, hts, hr, hlocks, hK, hA, hG, hsx⟩ := id cx
  obtain ⟨hkc, hks⟩ := hkk
  have hext := ext_rf (G := G)
  unfold fc_9 at h
  refine lv_aload_n hx hb dL_law_634 rfl (lv_at hl 1 rfl) ?_
  refine lv_aload_n hx hb dL_law_635 rfl (lv_at hl 0 rfl) ?_
  refine lv_iload hx hb dL_law_636 (lv_at hl 4 rfl) ?_
  refine lv_iconst (v := (1 : Int32)) hx hb dL_law_638 (by decide) ?_
  refine lv_iadd hx hb dL_law_639 ?_
  refine va_sld hx hb hX.1 hX.2.1 hX.2.2 w.2.2 hi1 dL_law_640 ?_
  refine r_topI hc1 ?_
  refine lv_aload_n hx hb dL_law_641 rfl (lv_at hl 0 rfl) ?_
  refine lv_iload hx hb dL_law_642 (lv_at hl 4 rfl) ?_
  refine lv_iconst (v := (2 : Int32)) hx hb dL_law_644 (by decide) ?_
  refine lv_iadd hx hb dL_law_645 ?_
  refine va_sld hx hb hX.1 hX.2.1 hX.2.2 w.2.2 hi2 dL_law_646 ?_
  refine r_topI hc2 ?_
  refine lv_aload_n hx hb dL_law_647 rfl (lv_at hl 3 rfl) ?_
  obtain ⟨M1, r2, y3, h⟩ := w_cl h
  refine r_callSW (As := [.ref x, .int c1, .int c2, .ref o]) (rest := []) cx w ⟨by show _ ≤ 601024; omega, by show _ ≤ 7293034; omega⟩ hl.1 (k_L_ant hG hst hL1 hK1 hL3 hK3 y3) (vx_cwSW 4 hts gL_law_L_ant rfl rfl rfl (by decide +kernel) ⟨Nat.le_of_ble_eq_true rfl, Nat.le_of_ble_eq_true rfl⟩) rfl rfl (Nat.le_of_ble_eq_true rfl) dL_law_648 (fun H locs w => ?_)
  refine lv_istore (lv' := [(5, .int r2), (0, .ref b), (1, .ref x), (2, .ref mm), (3, .ref o), (4, .int i)]) hx hb dL_law_651 hl (by decide) rfl (fun ls hl => ?_)
  refine lv_aload_n hx hb dL_law_653 rfl (lv_at hl 3 rfl) ?_
  refine lv_aload_n hx hb dL_law_654 rfl (lv_at hl 1 rfl) ?_
  refine lv_iload hx hb dL_law_655 (lv_at hl 5 rfl) ?_
  refine lv_iconst (v := (1 : Int32)) hx hb dL_law_657 (by decide) ?_
  refine lv_iadd hx hb dL_law_658 ?_
  refine va_sld hx hb hX.1 hX.2.1 hX.2.2 w.2.2 hi1 dL_law_659 ?_
  refine r_topI hc1 ?_
  refine lv_aload_n hx hb dL_law_660 rfl (lv_at hl 1 rfl) ?_
  refine lv_iload hx hb dL_law_661 (lv_at hl 5 rfl) ?_
  refine lv_iconst (v := (2 : Int32)) hx hb dL_law_663 (by decide) ?_
  refine lv_iadd hx hb dL_law_664 ?_
  refine va_sld hx hb hX.1 hX.2.1 hX.2.2 w.2.2 hi2 dL_law_665 ?_
  refine r_topI hc2 ?_
  obtain ⟨M4, r5, y6, h⟩ := w_cl h
  refine r_callVi (As := [.int c1, .int c2]) (rest := []) cx w ⟨by show _ ≤ 601024; omega, by show _ ≤ 7293034; omega⟩ hl.1 (k_X12_ant hG hL2 hK2 y6) (cwV 2 hts gL_law_X12_ant rfl rfl rfl (by decide +kernel) ⟨Nat.le_of_ble_eq_true rfl, Nat.le_of_ble_eq_true rfl⟩) hL2 hK2 (by decide) rfl rfl rfl (Nat.le_of_ble_eq_true rfl) dL_law_666 (fun H locs w => ?_)
  refine lv_istore (lv' := [(6, .int r5), (5, .int r2), (0, .ref b), (1, .ref x), (2, .ref mm), (3, .ref o), (4, .int i)]) hx hb dL_law_669 hl (by decide) rfl (fun ls hl => ?_)
  refine lv_aload_n hx hb dL_law_671 rfl (lv_at hl 4 rfl) ?_
  obtain ⟨M7, r8, y9, h⟩ := w_cl h
  refine r_callVi (As := []) (rest := []) cx w ⟨by show _ ≤ 601024; omega, by show _ ≤ 7293034; omega⟩ hl.1 (k_X12_thrown hG hL2 hK2 y9) (cwV 0 hts gL_law_X12_thrown rfl rfl rfl (by decide +kernel) ⟨Nat.le_of_ble_eq_true rfl, Nat.le_of_ble_eq_true rfl⟩) hL2 hK2 (by decide) rfl rfl rfl (Nat.le_of_ble_eq_true rfl) dL_law_672 (fun H locs w => ?_)
  refine lv_iload hx hb dL_law_675 (lv_at hl 1 rfl) ?_
  refine lv_icmp_eq (tgt := 682) hx hb dL_law_677 (by decide) (fun k10 => ?_) (fun k10 => ?_)
  · have h := w_t h k10
    refine lv_iload hx hb dL_law_682 (lv_at hl 1 rfl) ?_
    refine lv_if_ne (tgt := 699) hx hb dL_law_684 (by decide) (fun k11 => ?_) (fun k11 => ?_)
    · have h := w_f h k11
      refine lv_goto (tgt := 1389) hx hb dL_law_699 (by decide) ?_
      refine W.widen (k := k0 + 20) (n := n0 + 6000) (by omega) (by omega) ?_
      exact hk _ _ _ _ _ h hext cx w (lv_sub hl [2, 3, 4, 5, 6] rfl)
    · have h := w_t h k11
      refine lv_aload_n hx hb dL_law_687 rfl (lv_at hl 5 rfl) ?_
      refine lv_iconst (v := (0 : Int32)) hx hb dL_law_688 (by decide) ?_
      obtain ⟨z12, h⟩ := w_ix h
      refine r_lald cx w hL3 hK3 z12 dL_law_689 ?_
      refine lv_iload hx hb dL_law_690 (lv_at hl 0 rfl) ?_
      refine lv_i2l (v := (Int32.toInt64 r5)) hx hb dL_law_692 rfl ?_
      refine W.lcmp hx hb dL_law_693 ?_
      refine lv_if_eq (tgt := 699) hx hb dL_law_694 (by decide) (fun k13 => ?_) (fun k13 => ?_)
      · have h := w_t h k13
        refine lv_goto (tgt := 1389) hx hb dL_law_699 (by decide) ?_
        refine W.widen (k := k0 + 20) (n := n0 + 6000) (by omega) (by omega) ?_
        exact hk _ _ _ _ _ h hext cx w (lv_sub hl [2, 3, 4, 5, 6] rfl)
      · have h := w_f h k13
        refine lv_iconst (v := (0 : Int32)) hx hb dL_law_697 (by decide) ?_
        exact h.elim
  · have h := w_f h k10
    refine lv_iconst (v := (0 : Int32)) hx hb dL_law_680 (by decide) ?_
    exact h.elim
def fc_10 (G : gS) (M : mS) (x mm o : Nat) (c1 c2 c3 : Int32) (post : gS → mS → Prop) : Prop := p_cl (m_L_paint G M x c1 c2 c3 o) (fun M1 r2 => p_cl (m_X12_paint G M1 mm c1 c2 c3) (fun M4 r5 => p_cl (m_X12_thrown G M4 mm) (fun M7 r8 => (p_if (r8 = r2) ((p_if (r2 = 0) (p_ix (0 : Int32) (gN G o) ((p_if ((lg_cmp (mJ M7 o (Int32.toNatClampNeg (0 : Int32))) (Int32.toInt64 r5)) = 0) (post G M7) (False)))) (post G M7))) (False)))))
set_option maxHeartbeats 4000000 in
set_option maxRecDepth 100000 in
theorem lc_10 {p : Program} {e : Env} {s : State} {m : MethodId} {args : Array Value} {below : List Frame} {meth : Method} {c : Code} {A : Nat → Prop} {l : Launch} {D : va_G} {cy : cyS} {G : gS} {M : mS} {H : Heap} {locs : List Loc} {ls : Array Slot} {Q : State → Prop} {x mm o b L k0 n0 : Nat} {xs : Nat → Int32} {i c1 c2 c3 : Int32} {post : gS → mS → Prop} (hst : l.stackTraces = false) (cx : cX p s m args meth c cL_law RL 9 (some .boolean) wsL_law D cy G A) (w : wd D cy G M A s.heap H locs) (hl : lv_has ls 9 [(0, .ref b), (1, .ref x), (2, .ref mm), (3, .ref o), (4, .int i)]) (hX : va_X b L xs s s.heap ∧ b < s.heap.size ∧ ¬ A b) (hkk : k0 + 20 ≤ 601024 ∧ n0 + 6000 ≤ 7293034) (hL1 : x ∈ gL G) (hK1 : gK G x = 8) (hL2 : mm ∈ gL G) (hK2 : gK G mm = 11) (hL3 : o ∈ gL G) (hK3 : gK G o = 13) (hi1 : vp_in (i + (1 : Int32)) L) (hc1 : c1 = xs (Int32.toNatClampNeg (i + (1 : Int32)))) (hi2 : vp_in (i + (2 : Int32)) L) (hc2 : c2 = xs (Int32.toNatClampNeg (i + (2 : Int32)))) (hi3 : vp_in (i + (3 : Int32)) L) (hc3 : c3 = xs (Int32.toNatClampNeg (i + (3 : Int32)))) (h : fc_10 G M x mm o c1 c2 c3 post) (hk : ∀ (G1 : gS) (M1 : mS) (H1 : Heap) (locs1 : List Loc) (ls1 : Array Slot), post G1 M1 → ext G G1 → cX p s m args meth c cL_law RL 9 (some .boolean) wsL_law D cy G1 A → wd D cy G1 M1 A s.heap H1 locs1 → lv_has ls1 9 [(0, .ref b), (1, .ref x), (2, .ref mm), (3, .ref o), (4, .int i)] → W p l e room_1 s m args below meth c H1 locs1 (k0 + 20) (n0 + 6000) Q (F0 m 1389 ls1 [])) : W p l e room_1 s m args below meth c H locs k0 n0 Q (F0 m 702 ls []) := by
  obtain ⟨hx, hb, hml, hown, hts, hr, hlocks, hK, hA, hG, hsx⟩ := id cx
  obtain ⟨hkc, hks⟩ := hkk
  have hext := ext_rf (G := G)
  unfold fc_10 at h
  refine lv_aload_n hx hb dL_law_702 rfl (lv_at hl 1 rfl) ?_
  refine lv_aload_n hx hb dL_law_703 rfl (lv_at hl 0 rfl) ?_
  refine lv_iload hx hb dL_law_704 (lv_at hl 4 rfl) ?_
  refine lv_iconst (v := (1 : Int32)) hx hb dL_law_706 (by decide) ?_
  refine lv_iadd hx hb dL_law_707 ?_
  refine va_sld hx hb hX.1 hX.2.1 hX.2.2 w.2.2 hi1 dL_law_708 ?_
  refine r_topI hc1 ?_
  refine lv_aload_n hx hb dL_law_709 rfl (lv_at hl 0 rfl) ?_
  refine lv_iload hx hb dL_law_710 (lv_at hl 4 rfl) ?_
  refine lv_iconst (v := (2 : Int32)) hx hb dL_law_712 (by decide) ?_
  refine lv_iadd hx hb dL_law_713 ?_
  refine va_sld hx hb hX.1 hX.2.1 hX.2.2 w.2.2 hi2 dL_law_714 ?_
  refine r_topI hc2 ?_
  refine lv_aload_n hx hb dL_law_715 rfl (lv_at hl 0 rfl) ?_
  refine lv_iload hx hb dL_law_716 (lv_at hl 4 rfl) ?_
  refine lv_iconst (v := (3 : Int32)) hx hb dL_law_718 (by decide) ?_
  refine lv_iadd hx hb dL_law_719 ?_
  refine va_sld hx hb hX.1 hX.2.1 hX.2.2 w.2.2 hi3 dL_law_720 ?_
  refine r_topI hc3 ?_
  refine lv_aload_n hx hb dL_law_721 rfl (lv_at hl 3 rfl) ?_
  obtain ⟨M1, r2, y3, h⟩ := w_cl h
  refine r_callSW (As := [.ref x, .int c1, .int c2, .int c3, .ref o]) (rest := []) cx w ⟨by show _ ≤ 601024; omega, by show _ ≤ 7293034; omega⟩ hl.1 (k_L_paint hG hst hL1 hK1 hL3 hK3 y3) (vx_cwSW 5 hts gL_law_L_paint rfl rfl rfl (by decide +kernel) ⟨Nat.le_of_ble_eq_true rfl, Nat.le_of_ble_eq_true rfl⟩) rfl rfl (Nat.le_of_ble_eq_true rfl) dL_law_722 (fun H locs w => ?_)
  refine lv_istore (lv' := [(5, .int r2), (0, .ref b), (1, .ref x), (2, .ref mm), (3, .ref o), (4, .int i)]) hx hb dL_law_725 hl (by decide) rfl (fun ls hl => ?_)
  refine lv_aload_n hx hb dL_law_727 rfl (lv_at hl 3 rfl) ?_
  refine lv_aload_n hx hb dL_law_728 rfl (lv_at hl 1 rfl) ?_
  refine lv_iload hx hb dL_law_729 (lv_at hl 5 rfl) ?_
  refine lv_iconst (v := (1 : Int32)) hx hb dL_law_731 (by decide) ?_
  refine lv_iadd hx hb dL_law_732 ?_
  refine va_sld hx hb hX.1 hX.2.1 hX.2.2 w.2.2 hi1 dL_law_733 ?_
  refine r_topI hc1 ?_
  refine lv_aload_n hx hb dL_law_734 rfl (lv_at hl 1 rfl) ?_
  refine lv_iload hx hb dL_law_735 (lv_at hl 5 rfl) ?_
  refine lv_iconst (v := (2 : Int32)) hx hb dL_law_737 (by decide) ?_
  refine lv_iadd hx hb dL_law_738 ?_
  refine va_sld hx hb hX.1 hX.2.1 hX.2.2 w.2.2 hi2 dL_law_739 ?_
  refine r_topI hc2 ?_
  refine lv_aload_n hx hb dL_law_740 rfl (lv_at hl 1 rfl) ?_
  refine lv_iload hx hb dL_law_741 (lv_at hl 5 rfl) ?_
  refine lv_iconst (v := (3 : Int32)) hx hb dL_law_743 (by decide) ?_
  refine lv_iadd hx hb dL_law_744 ?_
  refine va_sld hx hb hX.1 hX.2.1 hX.2.2 w.2.2 hi3 dL_law_745 ?_
  refine r_topI hc3 ?_
  obtain ⟨M4, r5, y6, h⟩ := w_cl h
  refine r_callVi (As := [.int c1, .int c2, .int c3]) (rest := []) cx w ⟨by show _ ≤ 601024; omega, by show _ ≤ 7293034; omega⟩ hl.1 (k_X12_paint hG hL2 hK2 y6) (cwV 3 hts gL_law_X12_paint rfl rfl rfl (by decide +kernel) ⟨Nat.le_of_ble_eq_true rfl, Nat.le_of_ble_eq_true rfl⟩) hL2 hK2 (by decide) rfl rfl rfl (Nat.le_of_ble_eq_true rfl) dL_law_746 (fun H locs w => ?_)
  refine lv_istore (lv' := [(6, .int r5), (5, .int r2), (0, .ref b), (1, .ref x), (2, .ref mm), (3, .ref o), (4, .int i)]) hx hb dL_law_749 hl (by decide) rfl (fun ls hl => ?_)
  refine lv_aload_n hx hb dL_law_751 rfl (lv_at hl 4 rfl) ?_
  obtain ⟨M7, r8, y9, h⟩ := w_cl h
  refine r_callVi (As := []) (rest := []) cx w ⟨by show _ ≤ 601024; omega, by show _ ≤ 7293034; omega⟩ hl.1 (k_X12_thrown hG hL2 hK2 y9) (cwV 0 hts gL_law_X12_thrown rfl rfl rfl (by decide +kernel) ⟨Nat.le_of_ble_eq_true rfl, Nat.le_of_ble_eq_true rfl⟩) hL2 hK2 (by decide) rfl rfl rfl (Nat.le_of_ble_eq_true rfl) dL_law_752 (fun H locs w => ?_)
  refine lv_iload hx hb dL_law_755 (lv_at hl 1 rfl) ?_
  refine lv_icmp_eq (tgt := 762) hx hb dL_law_757 (by decide) (fun k10 => ?_) (fun k10 => ?_)
  · have h := w_t h k10
    refine lv_iload hx hb dL_law_762 (lv_at hl 1 rfl) ?_
    refine lv_if_ne (tgt := 779) hx hb dL_law_764 (by decide) (fun k11 => ?_) (fun k11 => ?_)
    · have h := w_f h k11
      refine lv_goto (tgt := 1389) hx hb dL_law_779 (by decide) ?_
      refine W.widen (k := k0 + 20) (n := n0 + 6000) (by omega) (by omega) ?_
      exact hk _ _ _ _ _ h hext cx w (lv_sub hl [2, 3, 4, 5, 6] rfl)
    · have h := w_t h k11
      refine lv_aload_n hx hb dL_law_767 rfl (lv_at hl 5 rfl) ?_
      refine lv_iconst (v := (0 : Int32)) hx hb dL_law_768 (by decide) ?_
      obtain ⟨z12, h⟩ := w_ix h
      refine r_lald cx w hL3 hK3 z12 dL_law_769 ?_
      refine lv_iload hx hb dL_law_770 (lv_at hl 0 rfl) ?_
      refine lv_i2l (v := (Int32.toInt64 r5)) hx hb dL_law_772 rfl ?_
      refine W.lcmp hx hb dL_law_773 ?_
      refine lv_if_eq (tgt := 779) hx hb dL_law_774 (by decide) (fun k13 => ?_) (fun k13 => ?_)
      · have h := w_t h k13
        refine lv_goto (tgt := 1389) hx hb dL_law_779 (by decide) ?_
        refine W.widen (k := k0 + 20) (n := n0 + 6000) (by omega) (by omega) ?_
        exact hk _ _ _ _ _ h hext cx w (lv_sub hl [2, 3, 4, 5, 6] rfl)
      · have h := w_f h k13
        refine lv_iconst (v := (0 : Int32)) hx hb dL_law_777 (by decide) ?_
        exact h.elim
  · have h := w_f h k10
    refine lv_iconst (v := (0 : Int32)) hx hb dL_law_760 (by decide) ?_
    exact h.elim
def fc_11 (G : gS) (M : mS) (x mm o : Nat) (c1 c2 : Int32) (post : gS → mS → Prop) : Prop := p_cl (m_L_wash G M x c1 c2 o) (fun M1 r2 => p_cl (m_X12_wash G M1 mm c1 c2) (fun M4 r5 => p_cl (m_X12_thrown G M4 mm) (fun M7 r8 => (p_if (r8 = r2) ((p_if (r2 = 0) (p_ix (0 : Int32) (gN G o) ((p_if ((lg_cmp (mJ M7 o (Int32.toNatClampNeg (0 : Int32))) (Int32.toInt64 r5)) = 0) (post G M7) (False)))) (post G M7))) (False)))))
set_option maxHeartbeats 4000000 in
set_option maxRecDepth 100000 in
theorem lc_11 {p : Program} {e : Env} {s : State} {m : MethodId} {args : Array Value} {below : List Frame} {meth : Method} {c : Code} {A : Nat → Prop} {l : Launch} {D : va_G} {cy : cyS} {G : gS} {M : mS} {H : Heap} {locs : List Loc} {ls : Array Slot} {Q : State → Prop} {x mm o b L k0 n0 : Nat} {xs : Nat → Int32} {i c1 c2 : Int32} {post : gS → mS → Prop} (hst : l.stackTraces = false) (cx : cX p s m args meth c cL_law RL 9 (some .boolean) wsL_law D cy G A) (w : wd D cy G M A s.heap H locs) (hl : lv_has ls 9 [(0, .ref b), (1, .ref x), (2, .ref mm), (3, .ref o), (4, .int i)]) (hX : va_X b L xs s s.heap ∧ b < s.heap.size ∧ ¬ A b) (hkk : k0 + 20 ≤ 601024 ∧ n0 + 6000 ≤ 7293034) (hL1 : x ∈ gL G) (hK1 : gK G x = 8) (hL2 : mm ∈ gL G) (hK2 : gK G mm = 11) (hL3 : o ∈ gL G) (hK3 : gK G o = 13) (hi1 : vp_in (i + (1 : Int32)) L) (hc1 : c1 = xs (Int32.toNatClampNeg (i + (1 : Int32)))) (hi2 : vp_in (i + (2 : Int32)) L) (hc2 : c2 = xs (Int32.toNatClampNeg (i + (2 : Int32)))) (h : fc_11 G M x mm o c1 c2 post) (hk : ∀ (G1 : gS) (M1 : mS) (H1 : Heap) (locs1 : List Loc) (ls1 : Array Slot), post G1 M1 → ext G G1 → cX p s m args meth c cL_law RL 9 (some .boolean) wsL_law D cy G1 A → wd D cy G1 M1 A s.heap H1 locs1 → lv_has ls1 9 [(0, .ref b), (1, .ref x), (2, .ref mm), (3, .ref o), (4, .int i)] → W p l e room_1 s m args below meth c H1 locs1 (k0 + 20) (n0 + 6000) Q (F0 m 1389 ls1 [])) : W p l e room_1 s m args below meth c H locs k0 n0 Q (F0 m 782 ls []) := by
  obtain ⟨hx, hb, hml, hown, hts, hr, hlocks, hK, hA, hG, hsx⟩ := id cx
  obtain ⟨hkc, hks⟩ := hkk
  have hext := ext_rf (G := G)
  unfold fc_11 at h
  refine lv_aload_n hx hb dL_law_782 rfl (lv_at hl 1 rfl) ?_
  refine lv_aload_n hx hb dL_law_783 rfl (lv_at hl 0 rfl) ?_
  refine lv_iload hx hb dL_law_784 (lv_at hl 4 rfl) ?_
  refine lv_iconst (v := (1 : Int32)) hx hb dL_law_786 (by decide) ?_
  refine lv_iadd hx hb dL_law_787 ?_
  refine va_sld hx hb hX.1 hX.2.1 hX.2.2 w.2.2 hi1 dL_law_788 ?_
  refine r_topI hc1 ?_
  refine lv_aload_n hx hb dL_law_789 rfl (lv_at hl 0 rfl) ?_
  refine lv_iload hx hb dL_law_790 (lv_at hl 4 rfl) ?_
  refine lv_iconst (v := (2 : Int32)) hx hb dL_law_792 (by decide) ?_
  refine lv_iadd hx hb dL_law_793 ?_
  refine va_sld hx hb hX.1 hX.2.1 hX.2.2 w.2.2 hi2 dL_law_794 ?_
  refine r_topI hc2 ?_
  refine lv_aload_n hx hb dL_law_795 rfl (lv_at hl 3 rfl) ?_
  obtain ⟨M1, r2, y3, h⟩ := w_cl h
  refine r_callSW (As := [.ref x, .int c1, .int c2, .ref o]) (rest := []) cx w ⟨by show _ ≤ 601024; omega, by show _ ≤ 7293034; omega⟩ hl.1 (k_L_wash hG hst hL1 hK1 hL3 hK3 y3) (vx_cwSW 4 hts gL_law_L_wash rfl rfl rfl (by decide +kernel) ⟨Nat.le_of_ble_eq_true rfl, Nat.le_of_ble_eq_true rfl⟩) rfl rfl (Nat.le_of_ble_eq_true rfl) dL_law_796 (fun H locs w => ?_)
  refine lv_istore (lv' := [(5, .int r2), (0, .ref b), (1, .ref x), (2, .ref mm), (3, .ref o), (4, .int i)]) hx hb dL_law_799 hl (by decide) rfl (fun ls hl => ?_)
  refine lv_aload_n hx hb dL_law_801 rfl (lv_at hl 3 rfl) ?_
  refine lv_aload_n hx hb dL_law_802 rfl (lv_at hl 1 rfl) ?_
  refine lv_iload hx hb dL_law_803 (lv_at hl 5 rfl) ?_
  refine lv_iconst (v := (1 : Int32)) hx hb dL_law_805 (by decide) ?_
  refine lv_iadd hx hb dL_law_806 ?_
  refine va_sld hx hb hX.1 hX.2.1 hX.2.2 w.2.2 hi1 dL_law_807 ?_
  refine r_topI hc1 ?_
  refine lv_aload_n hx hb dL_law_808 rfl (lv_at hl 1 rfl) ?_
  refine lv_iload hx hb dL_law_809 (lv_at hl 5 rfl) ?_
  refine lv_iconst (v := (2 : Int32)) hx hb dL_law_811 (by decide) ?_
  refine lv_iadd hx hb dL_law_812 ?_
  refine va_sld hx hb hX.1 hX.2.1 hX.2.2 w.2.2 hi2 dL_law_813 ?_
  refine r_topI hc2 ?_
  obtain ⟨M4, r5, y6, h⟩ := w_cl h
  refine r_callVi (As := [.int c1, .int c2]) (rest := []) cx w ⟨by show _ ≤ 601024; omega, by show _ ≤ 7293034; omega⟩ hl.1 (k_X12_wash hG hL2 hK2 y6) (cwV 2 hts gL_law_X12_wash rfl rfl rfl (by decide +kernel) ⟨Nat.le_of_ble_eq_true rfl, Nat.le_of_ble_eq_true rfl⟩) hL2 hK2 (by decide) rfl rfl rfl (Nat.le_of_ble_eq_true rfl) dL_law_814 (fun H locs w => ?_)
  refine lv_istore (lv' := [(6, .int r5), (5, .int r2), (0, .ref b), (1, .ref x), (2, .ref mm), (3, .ref o), (4, .int i)]) hx hb dL_law_817 hl (by decide) rfl (fun ls hl => ?_)
  refine lv_aload_n hx hb dL_law_819 rfl (lv_at hl 4 rfl) ?_
  obtain ⟨M7, r8, y9, h⟩ := w_cl h
  refine r_callVi (As := []) (rest := []) cx w ⟨by show _ ≤ 601024; omega, by show _ ≤ 7293034; omega⟩ hl.1 (k_X12_thrown hG hL2 hK2 y9) (cwV 0 hts gL_law_X12_thrown rfl rfl rfl (by decide +kernel) ⟨Nat.le_of_ble_eq_true rfl, Nat.le_of_ble_eq_true rfl⟩) hL2 hK2 (by decide) rfl rfl rfl (Nat.le_of_ble_eq_true rfl) dL_law_820 (fun H locs w => ?_)
  refine lv_iload hx hb dL_law_823 (lv_at hl 1 rfl) ?_
  refine lv_icmp_eq (tgt := 830) hx hb dL_law_825 (by decide) (fun k10 => ?_) (fun k10 => ?_)
  · have h := w_t h k10
    refine lv_iload hx hb dL_law_830 (lv_at hl 1 rfl) ?_
    refine lv_if_ne (tgt := 847) hx hb dL_law_832 (by decide) (fun k11 => ?_) (fun k11 => ?_)
    · have h := w_f h k11
      refine lv_goto (tgt := 1389) hx hb dL_law_847 (by decide) ?_
      refine W.widen (k := k0 + 20) (n := n0 + 6000) (by omega) (by omega) ?_
      exact hk _ _ _ _ _ h hext cx w (lv_sub hl [2, 3, 4, 5, 6] rfl)
    · have h := w_t h k11
      refine lv_aload_n hx hb dL_law_835 rfl (lv_at hl 5 rfl) ?_
      refine lv_iconst (v := (0 : Int32)) hx hb dL_law_836 (by decide) ?_
      obtain ⟨z12, h⟩ := w_ix h
      refine r_lald cx w hL3 hK3 z12 dL_law_837 ?_
      refine lv_iload hx hb dL_law_838 (lv_at hl 0 rfl) ?_
      refine lv_i2l (v := (Int32.toInt64 r5)) hx hb dL_law_840 rfl ?_
      refine W.lcmp hx hb dL_law_841 ?_
      refine lv_if_eq (tgt := 847) hx hb dL_law_842 (by decide) (fun k13 => ?_) (fun k13 => ?_)
      · have h := w_t h k13
        refine lv_goto (tgt := 1389) hx hb dL_law_847 (by decide) ?_
        refine W.widen (k := k0 + 20) (n := n0 + 6000) (by omega) (by omega) ?_
        exact hk _ _ _ _ _ h hext cx w (lv_sub hl [2, 3, 4, 5, 6] rfl)
      · have h := w_f h k13
        refine lv_iconst (v := (0 : Int32)) hx hb dL_law_845 (by decide) ?_
        exact h.elim
  · have h := w_f h k10
    refine lv_iconst (v := (0 : Int32)) hx hb dL_law_828 (by decide) ?_
    exact h.elim
