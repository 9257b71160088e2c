-- X9_feed, with its throws
theorem wj_X9_feed_X6 : ∀ w ∈ wsX60, w ∈ wsX9_feed := by decide +kernel
theorem wj_X9_feed_X9 : ∀ w ∈ wsX90, w ∈ wsX9_feed := by decide +kernel
theorem wg_X9_feed_59 : ∀ w ∈ (vx_atS RX9 63 "java/lang/IllegalStateException" ex_names).filter goodWord, w ∈ wsX9_feed := by decide +kernel
abbrev rtX9_feed : Room := { frames := 6, cells := 1, slots := 6, locals := 120 }
def t_X9_feed (G : gS) (M : mS) (a0 : Nat) (c1 : Int32) (c2 : Int32) (c3 : Int32) (c4 : Int32) (c5 : Int32) : Option (mS × (Int32 ⊕ String)) := o_rf (gP G a0 0) (fun q1 => o_cl (m_X6_hasRoom G M q1 (20 : Int32)) (fun M2 r3 => (if r3 = 0 then some (M2, Sum.inr "java/lang/IllegalStateException") else o_rf (gP G a0 0) (fun q6 => o_cl (m_X6_append G M2 q6 c1) (fun M7 r8 => o_rf (gP G a0 0) (fun q10 => o_cl (m_X6_append G M7 q10 c2) (fun M11 r12 => o_rf (gP G a0 0) (fun q14 => o_cl (m_X6_append G M11 q14 c3) (fun M15 r16 => o_rf (gP G a0 0) (fun q18 => o_cl (m_X6_append G M15 q18 c4) (fun M19 r20 => o_rf (gP G a0 0) (fun q22 => o_cl (m_X6_append G M19 q22 c5) (fun M23 r24 => o_rf (gP G a0 0) (fun q26 => some (M23, Sum.inl (mI M23 q26 1))))))))))))))))
set_option maxHeartbeats 4000000 in
set_option maxRecDepth 100000 in
theorem kt_X9_feed {l : Launch} {D : va_G} {cy : cyS} {G : gS} {M M' : mS} {r : Int32 ⊕ String} {a0 : Nat} {c1 : Int32} {c2 : Int32} {c3 : Int32} {c4 : Int32} {c5 : Int32} (hG : wt G) (hst : l.stackTraces = false) (hL0 : a0 ∈ gL G) (hK0 : gK G a0 = 8) (h : t_X9_feed G M a0 c1 c2 c3 c4 c5 = some (M', r)) : ctX l yX9_feed wsX9_feed rtX9_feed D cy G M [.ref a0, .int c1, .int c2, .int c3, .int c4, .int c5] M' r := by
  unfold t_X9_feed at h
  refine ctX_of (cc := cX9_feed) (nL := 6) (ret := (some .int)) (lv := [(0, .ref a0), (1, .int c1), (2, .int c2), (3, .int c3), (4, .int c4), (5, .int c5)]) hG (by decide) rfl (Nat.le_of_ble_eq_true rfl) rfl ?_
  intro p e s m args below meth c A ls cx hex w hl
  obtain ⟨hx, hb, hml, hown, hts, hr, hlocks, hK, hA, -, hsx⟩ := id cx
  have hkn : 0 ≤ (rtX9_feed).cells ∧ 0 ≤ (rtX9_feed).slots := ⟨Nat.zero_le _, Nat.zero_le _⟩
  refine lv_aload_n hx hb dX9_feed_0 rfl (lv_at hl 0 rfl) ?_
  obtain ⟨q1, eq1, h⟩ := x_rf h
  obtain ⟨hLq1, hKq1⟩ := wt_q hG hL0 hK0 eq1
  have hKq1 : gK G q1 = 5 := hKq1
  refine r_getR (k := 0) cx w hL0 hK0 (by decide) rfl wj_X9_feed_X9 (by decide) rfl eq1 (List.mem_of_getElem? (i := 3) rfl) dX9_feed_1 ?_
  refine lv_bipush (v := (20 : Int32)) hx hb dX9_feed_4 (by decide) ?_
  obtain ⟨M2, r3, y4, h⟩ := x_cl h
  refine r_callVi (As := [.int ((20 : Int32))]) (rest := []) cx w hkn hl.1 (k_X6_hasRoom hG hLq1 hKq1 y4) (cwV 1 hts gX9_feed_X6_hasRoom rfl rfl rfl (by decide +kernel) ⟨Nat.le_of_ble_eq_true rfl, Nat.le_of_ble_eq_true rfl⟩) hLq1 hKq1 (by decide) rfl rfl rfl (Nat.le_of_ble_eq_true rfl) dX9_feed_6 (fun H locs w => ?_)
  refine lv_if_ne (tgt := 22) hx hb dX9_feed_9 (by decide) (fun k5 => ?_) (fun k5 => ?_)
  · have h := x_f h k5
    refine lv_aload_n hx hb dX9_feed_22 rfl (lv_at hl 0 rfl) ?_
    obtain ⟨q6, eq6, h⟩ := x_rf h
    obtain ⟨hLq6, hKq6⟩ := wt_q hG hL0 hK0 eq6
    have hKq6 : gK G q6 = 5 := hKq6
    refine r_getR (k := 0) cx w hL0 hK0 (by decide) rfl wj_X9_feed_X9 (by decide) rfl eq6 (List.mem_of_getElem? (i := 3) rfl) dX9_feed_23 ?_
    refine lv_iload_n hx hb dX9_feed_26 rfl (lv_at hl 1 rfl) ?_
    obtain ⟨M7, r8, y9, h⟩ := x_cl h
    refine r_callVv (As := [.int c1]) (rest := []) cx w hkn hl.1 (k_X6_append hG hLq6 hKq6 y9) (cwV 1 hts gX9_feed_X6_append rfl rfl rfl (by decide +kernel) ⟨Nat.le_of_ble_eq_true rfl, Nat.le_of_ble_eq_true rfl⟩) hLq6 hKq6 (by decide) rfl rfl rfl (Nat.le_of_ble_eq_true rfl) dX9_feed_27 (fun H locs w => ?_)
    refine lv_aload_n hx hb dX9_feed_30 rfl (lv_at hl 0 rfl) ?_
    obtain ⟨q10, eq10, h⟩ := x_rf h
    obtain ⟨hLq10, hKq10⟩ := wt_q hG hL0 hK0 eq10
    have hKq10 : gK G q10 = 5 := hKq10
    refine r_getR (k := 0) cx w hL0 hK0 (by decide) rfl wj_X9_feed_X9 (by decide) rfl eq10 (List.mem_of_getElem? (i := 3) rfl) dX9_feed_31 ?_
    refine lv_iload_n hx hb dX9_feed_34 rfl (lv_at hl 2 rfl) ?_
    obtain ⟨M11, r12, y13, h⟩ := x_cl h
    refine r_callVv (As := [.int c2]) (rest := []) cx w hkn hl.1 (k_X6_append hG hLq10 hKq10 y13) (cwV 1 hts gX9_feed_X6_append rfl rfl rfl (by decide +kernel) ⟨Nat.le_of_ble_eq_true rfl, Nat.le_of_ble_eq_true rfl⟩) hLq10 hKq10 (by decide) rfl rfl rfl (Nat.le_of_ble_eq_true rfl) dX9_feed_35 (fun H locs w => ?_)
    refine lv_aload_n hx hb dX9_feed_38 rfl (lv_at hl 0 rfl) ?_
    obtain ⟨q14, eq14, h⟩ := x_rf h
    obtain ⟨hLq14, hKq14⟩ := wt_q hG hL0 hK0 eq14
    have hKq14 : gK G q14 = 5 := hKq14
    refine r_getR (k := 0) cx w hL0 hK0 (by decide) rfl wj_X9_feed_X9 (by decide) rfl eq14 (List.mem_of_getElem? (i := 3) rfl) dX9_feed_39 ?_
    refine lv_iload_n hx hb dX9_feed_42 rfl (lv_at hl 3 rfl) ?_
    obtain ⟨M15, r16, y17, h⟩ := x_cl h
    refine r_callVv (As := [.int c3]) (rest := []) cx w hkn hl.1 (k_X6_append hG hLq14 hKq14 y17) (cwV 1 hts gX9_feed_X6_append rfl rfl rfl (by decide +kernel) ⟨Nat.le_of_ble_eq_true rfl, Nat.le_of_ble_eq_true rfl⟩) hLq14 hKq14 (by decide) rfl rfl rfl (Nat.le_of_ble_eq_true rfl) dX9_feed_43 (fun H locs w => ?_)
    refine lv_aload_n hx hb dX9_feed_46 rfl (lv_at hl 0 rfl) ?_
    obtain ⟨q18, eq18, h⟩ := x_rf h
    obtain ⟨hLq18, hKq18⟩ := wt_q hG hL0 hK0 eq18
    have hKq18 : gK G q18 = 5 := hKq18
    refine r_getR (k := 0) cx w hL0 hK0 (by decide) rfl wj_X9_feed_X9 (by decide) rfl eq18 (List.mem_of_getElem? (i := 3) rfl) dX9_feed_47 ?_
    refine lv_iload hx hb dX9_feed_50 (lv_at hl 4 rfl) ?_
    obtain ⟨M19, r20, y21, h⟩ := x_cl h
    refine r_callVv (As := [.int c4]) (rest := []) cx w hkn hl.1 (k_X6_append hG hLq18 hKq18 y21) (cwV 1 hts gX9_feed_X6_append rfl rfl rfl (by decide +kernel) ⟨Nat.le_of_ble_eq_true rfl, Nat.le_of_ble_eq_true rfl⟩) hLq18 hKq18 (by decide) rfl rfl rfl (Nat.le_of_ble_eq_true rfl) dX9_feed_52 (fun H locs w => ?_)
    refine lv_aload_n hx hb dX9_feed_55 rfl (lv_at hl 0 rfl) ?_
    obtain ⟨q22, eq22, h⟩ := x_rf h
    obtain ⟨hLq22, hKq22⟩ := wt_q hG hL0 hK0 eq22
    have hKq22 : gK G q22 = 5 := hKq22
    refine r_getR (k := 0) cx w hL0 hK0 (by decide) rfl wj_X9_feed_X9 (by decide) rfl eq22 (List.mem_of_getElem? (i := 3) rfl) dX9_feed_56 ?_
    refine lv_iload hx hb dX9_feed_59 (lv_at hl 5 rfl) ?_
    obtain ⟨M23, r24, y25, h⟩ := x_cl h
    refine r_callVv (As := [.int c5]) (rest := []) cx w hkn hl.1 (k_X6_append hG hLq22 hKq22 y25) (cwV 1 hts gX9_feed_X6_append rfl rfl rfl (by decide +kernel) ⟨Nat.le_of_ble_eq_true rfl, Nat.le_of_ble_eq_true rfl⟩) hLq22 hKq22 (by decide) rfl rfl rfl (Nat.le_of_ble_eq_true rfl) dX9_feed_61 (fun H locs w => ?_)
    refine lv_aload_n hx hb dX9_feed_64 rfl (lv_at hl 0 rfl) ?_
    obtain ⟨q26, eq26, h⟩ := x_rf h
    obtain ⟨hLq26, hKq26⟩ := wt_q hG hL0 hK0 eq26
    have hKq26 : gK G q26 = 5 := hKq26
    refine r_getR (k := 0) cx w hL0 hK0 (by decide) rfl wj_X9_feed_X9 (by decide) rfl eq26 (List.mem_of_getElem? (i := 3) rfl) dX9_feed_65 ?_
    refine r_getI (k := 1) (v := .int (mI M23 q26 1)) cx w hLq26 hKq26 (by decide) rfl wj_X9_feed_X6 (by decide) rfl (List.mem_of_getElem? (i := 4) rfl) dX9_feed_68 ?_
    exact r_xiret cx w h dX9_feed_71
  · have h := x_t h k5
    exact r_throw (cls := "java/lang/IllegalStateException") (text := "the tape holds at most 2000 bytes") (ik := 59) (is := 61) (ic := 63) cx w hst hex hl.1 h (by decide +kernel) (List.mem_of_getElem? (i := 1) rfl) (List.mem_of_getElem? (i := 2) rfl) (List.mem_of_getElem? (i := 0) rfl) (List.mem_of_getElem? (i := 1) rfl) wg_X9_feed_59 ng_59 ot_59 dX9_feed_12 dX9_feed_15 dX9_feed_16 dX9_feed_18 dX9_feed_21 (Nat.le_of_ble_eq_true rfl) (Nat.le_of_ble_eq_true rfl) (Nat.le_of_ble_eq_true rfl) (Nat.le_of_ble_eq_true rfl)
-- X9_trim, with its throws
theorem wj_X9_trim_X6 : ∀ w ∈ wsX60, w ∈ wsX9_trim := by decide +kernel
theorem wj_X9_trim_X9 : ∀ w ∈ wsX90, w ∈ wsX9_trim := by decide +kernel
theorem wg_X9_trim_73 : ∀ w ∈ (vx_atS RX9 77 "java/lang/IllegalArgumentException" ex_names).filter goodWord, w ∈ wsX9_trim := by decide +kernel
abbrev rtX9_trim : Room := { frames := 6, cells := 1, slots := 6, locals := 120 }
def t_X9_trim_15 (G : gS) (a0 : Nat) (c1 : Int32)  (M : mS)  : Option (mS × (Int32 ⊕ String)) := some (M, Sum.inr "java/lang/IllegalArgumentException")
def t_X9_trim (G : gS) (M : mS) (a0 : Nat) (c1 : Int32) : Option (mS × (Int32 ⊕ String)) := (if c1 < 0 then t_X9_trim_15 G a0 c1 M else o_rf (gP G a0 0) (fun q2 => (if c1 ≤ (mI M q2 1) then o_rf (gP G a0 0) (fun q4 => o_wI M q4 1 c1 (fun M5 => some (M5, Sum.inl c1))) else t_X9_trim_15 G a0 c1 M)))
set_option maxHeartbeats 4000000 in
set_option maxRecDepth 100000 in
theorem bt_X9_trim_15 {p : Program} {e : Env} {s : State} {m : MethodId} {args : Array Value} {below : List Frame} {meth : Method} {c : Code} {A : Nat → Prop} {l : Launch} {D : va_G} {cy : cyS} {G : gS} (cx : cX p s m args meth c cX9_trim RX9 2 (some .int) wsX9_trim D cy G A) (hst : l.stackTraces = false) (hex : ∀ x ∈ c.exceptionTable.toList, False) (hkn : 0 ≤ (rtX9_trim).cells ∧ 0 ≤ (rtX9_trim).slots) {M' : mS} {r : Int32 ⊕ String} {a0 : Nat} {c1 : Int32} (hL0 : a0 ∈ gL G) (hK0 : gK G a0 = 8)  : ∀ (M : mS) (H : Heap) (locs : List Loc) (ls : Array Slot), t_X9_trim_15 G a0 c1 M = some (M', r) → wd D cy G M A s.heap H locs → lv_has ls 2 [] → W p l e rtX9_trim s m args below meth c H locs 0 0 (vx_MQ below (va_Qi (fun (r' : Int32) (_ : Unit) => r = .inl r') (fun _ t => wOut D cy G M' t) A) (vx_X (fun (_ : Unit) => True) (fun E _ t => r = .inr E ∧ wOut D cy G M' t) A) args s 1 6 A) (F0 m 15 ls []) := by
  obtain ⟨hx, hb, hml, hown, hts, hr, hlocks, hK, hA, hG, hsx⟩ := id cx
  intro M H locs ls h w hl
  unfold t_X9_trim_15 at h
  exact r_throw (cls := "java/lang/IllegalArgumentException") (text := "no such length of the tape") (ik := 73) (is := 75) (ic := 77) cx w hst hex hl.1 h (by decide +kernel) (List.mem_of_getElem? (i := 1) rfl) (List.mem_of_getElem? (i := 2) rfl) (List.mem_of_getElem? (i := 1) rfl) (List.mem_of_getElem? (i := 0) rfl) wg_X9_trim_73 ng_73 ot_73 dX9_trim_15 dX9_trim_18 dX9_trim_19 dX9_trim_21 dX9_trim_24 (Nat.le_of_ble_eq_true rfl) (Nat.le_of_ble_eq_true rfl) (Nat.le_of_ble_eq_true rfl) (Nat.le_of_ble_eq_true rfl)
set_option maxHeartbeats 4000000 in
set_option maxRecDepth 100000 in
theorem kt_X9_trim {l : Launch} {D : va_G} {cy : cyS} {G : gS} {M M' : mS} {r : Int32 ⊕ String} {a0 : Nat} {c1 : Int32} (hG : wt G) (hst : l.stackTraces = false) (hL0 : a0 ∈ gL G) (hK0 : gK G a0 = 8) (h : t_X9_trim G M a0 c1 = some (M', r)) : ctX l yX9_trim wsX9_trim rtX9_trim D cy G M [.ref a0, .int c1] M' r := by
  unfold t_X9_trim at h
  refine ctX_of (cc := cX9_trim) (nL := 2) (ret := (some .int)) (lv := [(0, .ref a0), (1, .int c1)]) hG (by decide) rfl (Nat.le_of_ble_eq_true rfl) rfl ?_
  intro p e s m args below meth c A ls cx hex w hl
  obtain ⟨hx, hb, hml, hown, hts, hr, hlocks, hK, hA, -, hsx⟩ := id cx
  have hkn : 0 ≤ (rtX9_trim).cells ∧ 0 ≤ (rtX9_trim).slots := ⟨Nat.zero_le _, Nat.zero_le _⟩
  refine lv_iload_n hx hb dX9_trim_0 rfl (lv_at hl 1 rfl) ?_
  refine lv_if_lt (tgt := 15) hx hb dX9_trim_1 (by decide) (fun k1 => ?_) (fun k1 => ?_)
  · have h := x_t h k1
    exact bt_X9_trim_15 cx hst hex hkn hL0 hK0 M s.heap [] ls h w (lv_sub hl [] rfl)
  · have h := x_f h k1
    refine lv_iload_n hx hb dX9_trim_4 rfl (lv_at hl 1 rfl) ?_
    refine lv_aload_n hx hb dX9_trim_5 rfl (lv_at hl 0 rfl) ?_
    obtain ⟨q2, eq2, h⟩ := x_rf h
    obtain ⟨hLq2, hKq2⟩ := wt_q hG hL0 hK0 eq2
    have hKq2 : gK G q2 = 5 := hKq2
    refine r_getR (k := 0) cx w hL0 hK0 (by decide) rfl wj_X9_trim_X9 (by decide) rfl eq2 (List.mem_of_getElem? (i := 3) rfl) dX9_trim_6 ?_
    refine r_getI (k := 1) (v := .int (mI M q2 1)) cx w hLq2 hKq2 (by decide) rfl wj_X9_trim_X6 (by decide) rfl (List.mem_of_getElem? (i := 4) rfl) dX9_trim_9 ?_
    refine lv_icmp_le (tgt := 25) hx hb dX9_trim_12 (by decide) (fun k3 => ?_) (fun k3 => ?_)
    · have h := x_t h k3
      refine lv_aload_n hx hb dX9_trim_25 rfl (lv_at hl 0 rfl) ?_
      obtain ⟨q4, eq4, h⟩ := x_rf h
      obtain ⟨hLq4, hKq4⟩ := wt_q hG hL0 hK0 eq4
      have hKq4 : gK G q4 = 5 := hKq4
      refine r_getR (k := 0) cx w hL0 hK0 (by decide) rfl wj_X9_trim_X9 (by decide) rfl eq4 (List.mem_of_getElem? (i := 3) rfl) dX9_trim_26 ?_
      refine lv_iload_n hx hb dX9_trim_29 rfl (lv_at hl 1 rfl) ?_
      obtain ⟨M5, eM5, h⟩ := x_wI h
      refine r_putI (k := 1) (ty := .int) cx w tyX6 tyX6_ok nmX6 hLq4 hKq4 (by decide) rfl wj_X9_trim_X6 (by decide) rfl rfl rfl rfl st_5_1 (ln_5 _ _ (by decide)) (List.mem_of_getElem? (i := 4) rfl) dX9_trim_30 eM5 (fun H locs w => ?_)
      refine lv_iload_n hx hb dX9_trim_33 rfl (lv_at hl 1 rfl) ?_
      exact r_xiret cx w h dX9_trim_34
    · have h := x_f h k3
      exact bt_X9_trim_15 cx hst hex hkn hL0 hK0 M s.heap [] ls h w (lv_sub hl [] rfl)
-- X9_count, with its throws
theorem wj_X9_count_X3 : ∀ w ∈ wsX30, w ∈ wsX9_count := by decide +kernel
theorem wj_X9_count_X6 : ∀ w ∈ wsX60, w ∈ wsX9_count := by decide +kernel
theorem wj_X9_count_X8 : ∀ w ∈ wsX80, w ∈ wsX9_count := by decide +kernel
theorem wj_X9_count_X9 : ∀ w ∈ wsX90, w ∈ wsX9_count := by decide +kernel
theorem wg_X9_count_92 : ∀ w ∈ (vx_atS RX9 96 "java/lang/IndexOutOfBoundsException" ex_names).filter goodWord, w ∈ wsX9_count := by decide +kernel
abbrev rtX9_count : Room := { frames := 6, cells := 1, slots := 6, locals := 120 }
def t_X9_count_10 (G : gS) (a0 : Nat) (c1 : Int32)  (M : mS)  : Option (mS × (Int32 ⊕ String)) := some (M, Sum.inr "java/lang/IndexOutOfBoundsException")
def t_X9_count (G : gS) (M : mS) (a0 : Nat) (c1 : Int32) : Option (mS × (Int32 ⊕ String)) := (if c1 < 0 then t_X9_count_10 G a0 c1 M else (if c1 < (11 : Int32) then (if c1 = 0 then o_rf (gP G a0 2) (fun q4 => some (M, Sum.inl (mI M q4 5))) else if c1 = 1 then o_rf (gP G a0 1) (fun q6 => some (M, Sum.inl (mI M q6 0))) else if c1 = 2 then o_rf (gP G a0 2) (fun q8 => some (M, Sum.inl (mI M q8 4))) else if c1 = 3 then o_rf (gP G a0 1) (fun q10 => some (M, Sum.inl (mI M q10 3))) else if c1 = 4 then o_rf (gP G a0 2) (fun q12 => o_cl (m_X8_total G M q12 c1) (fun M13 r14 => some (M13, Sum.inl r14))) else if c1 = 5 then o_rf (gP G a0 2) (fun q17 => o_cl (m_X8_total G M q17 c1) (fun M18 r19 => some (M18, Sum.inl r19))) else if c1 = 6 then o_rf (gP G a0 2) (fun q22 => o_cl (m_X8_total G M q22 c1) (fun M23 r24 => some (M23, Sum.inl r24))) else if c1 = 7 then o_rf (gP G a0 2) (fun q27 => o_cl (m_X8_total G M q27 c1) (fun M28 r29 => some (M28, Sum.inl r29))) else if c1 = 8 then o_rf (gP G a0 2) (fun q32 => o_cl (m_X8_total G M q32 c1) (fun M33 r34 => some (M33, Sum.inl r34))) else if c1 = 9 then o_rf (gP G a0 2) (fun q37 => o_cl (m_X8_total G M q37 c1) (fun M38 r39 => some (M38, Sum.inl r39))) else if c1 = 10 then o_rf (gP G a0 0) (fun q42 => some (M, Sum.inl (mI M q42 1))) else o_rf (gP G a0 2) (fun q43 => o_cl (m_X8_total G M q43 c1) (fun M44 r45 => some (M44, Sum.inl r45)))) else t_X9_count_10 G a0 c1 M))
set_option maxHeartbeats 4000000 in
set_option maxRecDepth 100000 in
theorem bt_X9_count_10 {p : Program} {e : Env} {s : State} {m : MethodId} {args : Array Value} {below : List Frame} {meth : Method} {c : Code} {A : Nat → Prop} {l : Launch} {D : va_G} {cy : cyS} {G : gS} (cx : cX p s m args meth c cX9_count RX9 2 (some .int) wsX9_count D cy G A) (hst : l.stackTraces = false) (hex : ∀ x ∈ c.exceptionTable.toList, False) (hkn : 0 ≤ (rtX9_count).cells ∧ 0 ≤ (rtX9_count).slots) {M' : mS} {r : Int32 ⊕ String} {a0 : Nat} {c1 : Int32} (hL0 : a0 ∈ gL G) (hK0 : gK G a0 = 8)  : ∀ (M : mS) (H : Heap) (locs : List Loc) (ls : Array Slot), t_X9_count_10 G a0 c1 M = some (M', r) → wd D cy G M A s.heap H locs → lv_has ls 2 [] → W p l e rtX9_count s m args below meth c H locs 0 0 (vx_MQ below (va_Qi (fun (r' : Int32) (_ : Unit) => r = .inl r') (fun _ t => wOut D cy G M' t) A) (vx_X (fun (_ : Unit) => True) (fun E _ t => r = .inr E ∧ wOut D cy G M' t) A) args s 1 6 A) (F0 m 10 ls []) := by
  obtain ⟨hx, hb, hml, hown, hts, hr, hlocks, hK, hA, hG, hsx⟩ := id cx
  intro M H locs ls h w hl
  unfold t_X9_count_10 at h
  exact r_throw (cls := "java/lang/IndexOutOfBoundsException") (text := "what is not 0 to 10") (ik := 92) (is := 94) (ic := 96) cx w hst hex hl.1 h (by decide +kernel) (List.mem_of_getElem? (i := 1) rfl) (List.mem_of_getElem? (i := 2) rfl) (List.mem_of_getElem? (i := 2) rfl) (List.mem_of_getElem? (i := 2) rfl) wg_X9_count_92 ng_92 ot_92 dX9_count_10 dX9_count_13 dX9_count_14 dX9_count_16 dX9_count_19 (Nat.le_of_ble_eq_true rfl) (Nat.le_of_ble_eq_true rfl) (Nat.le_of_ble_eq_true rfl) (Nat.le_of_ble_eq_true rfl)
set_option maxHeartbeats 4000000 in
set_option maxRecDepth 100000 in
theorem kt_X9_count {l : Launch} {D : va_G} {cy : cyS} {G : gS} {M M' : mS} {r : Int32 ⊕ String} {a0 : Nat} {c1 : Int32} (hG : wt G) (hst : l.stackTraces = false) (hL0 : a0 ∈ gL G) (hK0 : gK G a0 = 8) (h : t_X9_count G M a0 c1 = some (M', r)) : ctX l yX9_count wsX9_count rtX9_count D cy G M [.ref a0, .int c1] M' r := by
  unfold t_X9_count at h
  refine ctX_of (cc := cX9_count) (nL := 2) (ret := (some .int)) (lv := [(0, .ref a0), (1, .int c1)]) hG (by decide) rfl (Nat.le_of_ble_eq_true rfl) rfl ?_
  intro p e s m args below meth c A ls cx hex w hl
  obtain ⟨hx, hb, hml, hown, hts, hr, hlocks, hK, hA, -, hsx⟩ := id cx
  have hkn : 0 ≤ (rtX9_count).cells ∧ 0 ≤ (rtX9_count).slots := ⟨Nat.zero_le _, Nat.zero_le _⟩
  refine lv_iload_n hx hb dX9_count_0 rfl (lv_at hl 1 rfl) ?_
  refine lv_if_lt (tgt := 10) hx hb dX9_count_1 (by decide) (fun k1 => ?_) (fun k1 => ?_)
  · have h := x_t h k1
    exact bt_X9_count_10 cx hst hex hkn hL0 hK0 M s.heap [] ls h w (lv_sub hl [] rfl)
  · have h := x_f h k1
    refine lv_iload_n hx hb dX9_count_4 rfl (lv_at hl 1 rfl) ?_
    refine lv_bipush (v := (11 : Int32)) hx hb dX9_count_5 (by decide) ?_
    refine lv_icmp_lt (tgt := 20) hx hb dX9_count_7 (by decide) (fun k2 => ?_) (fun k2 => ?_)
    · have h := x_t h k2
      refine lv_iload_n hx hb dX9_count_20 rfl (lv_at hl 1 rfl) ?_
      rcases Decidable.em (c1 = 0) with k3 | k3
      · have h := x_t h k3
        rw [k3]
        refine lv_tableIn (tgt := 80) hx hb dX9_count_21 (by decide) (by decide) rfl (by decide) ?_
        refine lv_aload_n hx hb dX9_count_80 rfl (lv_at hl 0 rfl) ?_
        obtain ⟨q4, eq4, h⟩ := x_rf h
        obtain ⟨hLq4, hKq4⟩ := wt_q hG hL0 hK0 eq4
        have hKq4 : gK G q4 = 7 := hKq4
        refine r_getR (k := 2) cx w hL0 hK0 (by decide) rfl wj_X9_count_X9 (by decide) rfl eq4 (List.mem_of_getElem? (i := 3) rfl) dX9_count_81 ?_
        refine r_getI (k := 5) (v := .int (mI M q4 5)) cx w hLq4 hKq4 (by decide) rfl wj_X9_count_X8 (by decide) rfl (List.mem_of_getElem? (i := 4) rfl) dX9_count_84 ?_
        exact r_xiret cx w h dX9_count_87
      · have h := x_f h k3
        rcases Decidable.em (c1 = 1) with k5 | k5
        · have h := x_t h k5
          rw [k5]
          refine lv_tableIn (tgt := 88) hx hb dX9_count_21 (by decide) (by decide) rfl (by decide) ?_
          refine lv_aload_n hx hb dX9_count_88 rfl (lv_at hl 0 rfl) ?_
          obtain ⟨q6, eq6, h⟩ := x_rf h
          obtain ⟨hLq6, hKq6⟩ := wt_q hG hL0 hK0 eq6
          have hKq6 : gK G q6 = 2 := hKq6
          refine r_getR (k := 1) cx w hL0 hK0 (by decide) rfl wj_X9_count_X9 (by decide) rfl eq6 (List.mem_of_getElem? (i := 5) rfl) dX9_count_89 ?_
          refine r_getI (k := 0) (v := .int (mI M q6 0)) cx w hLq6 hKq6 (by decide) rfl wj_X9_count_X3 (by decide) rfl (List.mem_of_getElem? (i := 6) rfl) dX9_count_92 ?_
          exact r_xiret cx w h dX9_count_95
        · have h := x_f h k5
          rcases Decidable.em (c1 = 2) with k7 | k7
          · have h := x_t h k7
            rw [k7]
            refine lv_tableIn (tgt := 96) hx hb dX9_count_21 (by decide) (by decide) rfl (by decide) ?_
            refine lv_aload_n hx hb dX9_count_96 rfl (lv_at hl 0 rfl) ?_
            obtain ⟨q8, eq8, h⟩ := x_rf h
            obtain ⟨hLq8, hKq8⟩ := wt_q hG hL0 hK0 eq8
            have hKq8 : gK G q8 = 7 := hKq8
            refine r_getR (k := 2) cx w hL0 hK0 (by decide) rfl wj_X9_count_X9 (by decide) rfl eq8 (List.mem_of_getElem? (i := 3) rfl) dX9_count_97 ?_
            refine r_getI (k := 4) (v := .int (mI M q8 4)) cx w hLq8 hKq8 (by decide) rfl wj_X9_count_X8 (by decide) rfl (List.mem_of_getElem? (i := 7) rfl) dX9_count_100 ?_
            exact r_xiret cx w h dX9_count_103
          · have h := x_f h k7
            rcases Decidable.em (c1 = 3) with k9 | k9
            · have h := x_t h k9
              rw [k9]
              refine lv_tableIn (tgt := 104) hx hb dX9_count_21 (by decide) (by decide) rfl (by decide) ?_
              refine lv_aload_n hx hb dX9_count_104 rfl (lv_at hl 0 rfl) ?_
              obtain ⟨q10, eq10, h⟩ := x_rf h
              obtain ⟨hLq10, hKq10⟩ := wt_q hG hL0 hK0 eq10
              have hKq10 : gK G q10 = 2 := hKq10
              refine r_getR (k := 1) cx w hL0 hK0 (by decide) rfl wj_X9_count_X9 (by decide) rfl eq10 (List.mem_of_getElem? (i := 5) rfl) dX9_count_105 ?_
              refine r_getI (k := 3) (v := .int (mI M q10 3)) cx w hLq10 hKq10 (by decide) rfl wj_X9_count_X3 (by decide) rfl (List.mem_of_getElem? (i := 8) rfl) dX9_count_108 ?_
              exact r_xiret cx w h dX9_count_111
            · have h := x_f h k9
              rcases Decidable.em (c1 = 4) with k11 | k11
              · have h := x_t h k11
                rw [k11]
                refine lv_tableIn (tgt := 120) hx hb dX9_count_21 (by decide) (by decide) rfl (by decide) ?_
                refine lv_aload_n hx hb dX9_count_120 rfl (lv_at hl 0 rfl) ?_
                obtain ⟨q12, eq12, h⟩ := x_rf h
                obtain ⟨hLq12, hKq12⟩ := wt_q hG hL0 hK0 eq12
                have hKq12 : gK G q12 = 7 := hKq12
                refine r_getR (k := 2) cx w hL0 hK0 (by decide) rfl wj_X9_count_X9 (by decide) rfl eq12 (List.mem_of_getElem? (i := 3) rfl) dX9_count_121 ?_
                refine lv_iload_n hx hb dX9_count_124 rfl (lv_at hl 1 rfl) ?_
                obtain ⟨M13, r14, y15, h⟩ := x_cl h
                refine r_callVi (As := [.int c1]) (rest := []) cx w hkn hl.1 (k_X8_total hG hLq12 hKq12 y15) (cwV 1 hts gX9_count_X8_total rfl rfl rfl (by decide +kernel) ⟨Nat.le_of_ble_eq_true rfl, Nat.le_of_ble_eq_true rfl⟩) hLq12 hKq12 (by decide) rfl rfl rfl (Nat.le_of_ble_eq_true rfl) dX9_count_125 (fun H locs w => ?_)
                exact r_xiret cx w h dX9_count_128
              · have h := x_f h k11
                rcases Decidable.em (c1 = 5) with k16 | k16
                · have h := x_t h k16
                  rw [k16]
                  refine lv_tableIn (tgt := 120) hx hb dX9_count_21 (by decide) (by decide) rfl (by decide) ?_
                  refine lv_aload_n hx hb dX9_count_120 rfl (lv_at hl 0 rfl) ?_
                  obtain ⟨q17, eq17, h⟩ := x_rf h
                  obtain ⟨hLq17, hKq17⟩ := wt_q hG hL0 hK0 eq17
                  have hKq17 : gK G q17 = 7 := hKq17
                  refine r_getR (k := 2) cx w hL0 hK0 (by decide) rfl wj_X9_count_X9 (by decide) rfl eq17 (List.mem_of_getElem? (i := 3) rfl) dX9_count_121 ?_
                  refine lv_iload_n hx hb dX9_count_124 rfl (lv_at hl 1 rfl) ?_
                  obtain ⟨M18, r19, y20, h⟩ := x_cl h
                  refine r_callVi (As := [.int c1]) (rest := []) cx w hkn hl.1 (k_X8_total hG hLq17 hKq17 y20) (cwV 1 hts gX9_count_X8_total rfl rfl rfl (by decide +kernel) ⟨Nat.le_of_ble_eq_true rfl, Nat.le_of_ble_eq_true rfl⟩) hLq17 hKq17 (by decide) rfl rfl rfl (Nat.le_of_ble_eq_true rfl) dX9_count_125 (fun H locs w => ?_)
                  exact r_xiret cx w h dX9_count_128
                · have h := x_f h k16
                  rcases Decidable.em (c1 = 6) with k21 | k21
                  · have h := x_t h k21
                    rw [k21]
                    refine lv_tableIn (tgt := 120) hx hb dX9_count_21 (by decide) (by decide) rfl (by decide) ?_
                    refine lv_aload_n hx hb dX9_count_120 rfl (lv_at hl 0 rfl) ?_
                    obtain ⟨q22, eq22, h⟩ := x_rf h
                    obtain ⟨hLq22, hKq22⟩ := wt_q hG hL0 hK0 eq22
                    have hKq22 : gK G q22 = 7 := hKq22
                    refine r_getR (k := 2) cx w hL0 hK0 (by decide) rfl wj_X9_count_X9 (by decide) rfl eq22 (List.mem_of_getElem? (i := 3) rfl) dX9_count_121 ?_
                    refine lv_iload_n hx hb dX9_count_124 rfl (lv_at hl 1 rfl) ?_
                    obtain ⟨M23, r24, y25, h⟩ := x_cl h
                    refine r_callVi (As := [.int c1]) (rest := []) cx w hkn hl.1 (k_X8_total hG hLq22 hKq22 y25) (cwV 1 hts gX9_count_X8_total rfl rfl rfl (by decide +kernel) ⟨Nat.le_of_ble_eq_true rfl, Nat.le_of_ble_eq_true rfl⟩) hLq22 hKq22 (by decide) rfl rfl rfl (Nat.le_of_ble_eq_true rfl) dX9_count_125 (fun H locs w => ?_)
                    exact r_xiret cx w h dX9_count_128
                  · have h := x_f h k21
                    rcases Decidable.em (c1 = 7) with k26 | k26
                    · have h := x_t h k26
                      rw [k26]
                      refine lv_tableIn (tgt := 120) hx hb dX9_count_21 (by decide) (by decide) rfl (by decide) ?_
                      refine lv_aload_n hx hb dX9_count_120 rfl (lv_at hl 0 rfl) ?_
                      obtain ⟨q27, eq27, h⟩ := x_rf h
                      obtain ⟨hLq27, hKq27⟩ := wt_q hG hL0 hK0 eq27
                      have hKq27 : gK G q27 = 7 := hKq27
                      refine r_getR (k := 2) cx w hL0 hK0 (by decide) rfl wj_X9_count_X9 (by decide) rfl eq27 (List.mem_of_getElem? (i := 3) rfl) dX9_count_121 ?_
                      refine lv_iload_n hx hb dX9_count_124 rfl (lv_at hl 1 rfl) ?_
                      obtain ⟨M28, r29, y30, h⟩ := x_cl h
                      refine r_callVi (As := [.int c1]) (rest := []) cx w hkn hl.1 (k_X8_total hG hLq27 hKq27 y30) (cwV 1 hts gX9_count_X8_total rfl rfl rfl (by decide +kernel) ⟨Nat.le_of_ble_eq_true rfl, Nat.le_of_ble_eq_true rfl⟩) hLq27 hKq27 (by decide) rfl rfl rfl (Nat.le_of_ble_eq_true rfl) dX9_count_125 (fun H locs w => ?_)
                      exact r_xiret cx w h dX9_count_128
                    · have h := x_f h k26
                      rcases Decidable.em (c1 = 8) with k31 | k31
                      · have h := x_t h k31
                        rw [k31]
                        refine lv_tableIn (tgt := 120) hx hb dX9_count_21 (by decide) (by decide) rfl (by decide) ?_
                        refine lv_aload_n hx hb dX9_count_120 rfl (lv_at hl 0 rfl) ?_
                        obtain ⟨q32, eq32, h⟩ := x_rf h
                        obtain ⟨hLq32, hKq32⟩ := wt_q hG hL0 hK0 eq32
                        have hKq32 : gK G q32 = 7 := hKq32
                        refine r_getR (k := 2) cx w hL0 hK0 (by decide) rfl wj_X9_count_X9 (by decide) rfl eq32 (List.mem_of_getElem? (i := 3) rfl) dX9_count_121 ?_
                        refine lv_iload_n hx hb dX9_count_124 rfl (lv_at hl 1 rfl) ?_
                        obtain ⟨M33, r34, y35, h⟩ := x_cl h
                        refine r_callVi (As := [.int c1]) (rest := []) cx w hkn hl.1 (k_X8_total hG hLq32 hKq32 y35) (cwV 1 hts gX9_count_X8_total rfl rfl rfl (by decide +kernel) ⟨Nat.le_of_ble_eq_true rfl, Nat.le_of_ble_eq_true rfl⟩) hLq32 hKq32 (by decide) rfl rfl rfl (Nat.le_of_ble_eq_true rfl) dX9_count_125 (fun H locs w => ?_)
                        exact r_xiret cx w h dX9_count_128
                      · have h := x_f h k31
                        rcases Decidable.em (c1 = 9) with k36 | k36
                        · have h := x_t h k36
                          rw [k36]
                          refine lv_tableIn (tgt := 120) hx hb dX9_count_21 (by decide) (by decide) rfl (by decide) ?_
                          refine lv_aload_n hx hb dX9_count_120 rfl (lv_at hl 0 rfl) ?_
                          obtain ⟨q37, eq37, h⟩ := x_rf h
                          obtain ⟨hLq37, hKq37⟩ := wt_q hG hL0 hK0 eq37
                          have hKq37 : gK G q37 = 7 := hKq37
                          refine r_getR (k := 2) cx w hL0 hK0 (by decide) rfl wj_X9_count_X9 (by decide) rfl eq37 (List.mem_of_getElem? (i := 3) rfl) dX9_count_121 ?_
                          refine lv_iload_n hx hb dX9_count_124 rfl (lv_at hl 1 rfl) ?_
                          obtain ⟨M38, r39, y40, h⟩ := x_cl h
                          refine r_callVi (As := [.int c1]) (rest := []) cx w hkn hl.1 (k_X8_total hG hLq37 hKq37 y40) (cwV 1 hts gX9_count_X8_total rfl rfl rfl (by decide +kernel) ⟨Nat.le_of_ble_eq_true rfl, Nat.le_of_ble_eq_true rfl⟩) hLq37 hKq37 (by decide) rfl rfl rfl (Nat.le_of_ble_eq_true rfl) dX9_count_125 (fun H locs w => ?_)
                          exact r_xiret cx w h dX9_count_128
                        · have h := x_f h k36
                          rcases Decidable.em (c1 = 10) with k41 | k41
                          · have h := x_t h k41
                            rw [k41]
                            refine lv_tableIn (tgt := 112) hx hb dX9_count_21 (by decide) (by decide) rfl (by decide) ?_
                            refine lv_aload_n hx hb dX9_count_112 rfl (lv_at hl 0 rfl) ?_
                            obtain ⟨q42, eq42, h⟩ := x_rf h
                            obtain ⟨hLq42, hKq42⟩ := wt_q hG hL0 hK0 eq42
                            have hKq42 : gK G q42 = 5 := hKq42
                            refine r_getR (k := 0) cx w hL0 hK0 (by decide) rfl wj_X9_count_X9 (by decide) rfl eq42 (List.mem_of_getElem? (i := 9) rfl) dX9_count_113 ?_
                            refine r_getI (k := 1) (v := .int (mI M q42 1)) cx w hLq42 hKq42 (by decide) rfl wj_X9_count_X6 (by decide) rfl (List.mem_of_getElem? (i := 10) rfl) dX9_count_116 ?_
                            exact r_xiret cx w h dX9_count_119
                          · have h := x_f h k41
                            refine lv_tableOut (tgt := 120) hx hb dX9_count_21 (by have nk3 : Int32.toInt c1 ≠ 0 := fun hh => k3 (Int32.toInt_inj.mp hh); have nk5 : Int32.toInt c1 ≠ 1 := fun hh => k5 (Int32.toInt_inj.mp hh); have nk7 : Int32.toInt c1 ≠ 2 := fun hh => k7 (Int32.toInt_inj.mp hh); have nk9 : Int32.toInt c1 ≠ 3 := fun hh => k9 (Int32.toInt_inj.mp hh); have nk11 : Int32.toInt c1 ≠ 4 := fun hh => k11 (Int32.toInt_inj.mp hh); have nk16 : Int32.toInt c1 ≠ 5 := fun hh => k16 (Int32.toInt_inj.mp hh); have nk21 : Int32.toInt c1 ≠ 6 := fun hh => k21 (Int32.toInt_inj.mp hh); have nk26 : Int32.toInt c1 ≠ 7 := fun hh => k26 (Int32.toInt_inj.mp hh); have nk31 : Int32.toInt c1 ≠ 8 := fun hh => k31 (Int32.toInt_inj.mp hh); have nk36 : Int32.toInt c1 ≠ 9 := fun hh => k36 (Int32.toInt_inj.mp hh); have nk41 : Int32.toInt c1 ≠ 10 := fun hh => k41 (Int32.toInt_inj.mp hh); omega) (by decide) ?_
                            refine lv_aload_n hx hb dX9_count_120 rfl (lv_at hl 0 rfl) ?_
                            obtain ⟨q43, eq43, h⟩ := x_rf h
                            obtain ⟨hLq43, hKq43⟩ := wt_q hG hL0 hK0 eq43
                            have hKq43 : gK G q43 = 7 := hKq43
                            refine r_getR (k := 2) cx w hL0 hK0 (by decide) rfl wj_X9_count_X9 (by decide) rfl eq43 (List.mem_of_getElem? (i := 3) rfl) dX9_count_121 ?_
                            refine lv_iload_n hx hb dX9_count_124 rfl (lv_at hl 1 rfl) ?_
                            obtain ⟨M44, r45, y46, h⟩ := x_cl h
                            refine r_callVi (As := [.int c1]) (rest := []) cx w hkn hl.1 (k_X8_total hG hLq43 hKq43 y46) (cwV 1 hts gX9_count_X8_total rfl rfl rfl (by decide +kernel) ⟨Nat.le_of_ble_eq_true rfl, Nat.le_of_ble_eq_true rfl⟩) hLq43 hKq43 (by decide) rfl rfl rfl (Nat.le_of_ble_eq_true rfl) dX9_count_125 (fun H locs w => ?_)
                            exact r_xiret cx w h dX9_count_128
    · have h := x_f h k2
      exact bt_X9_count_10 cx hst hex hkn hL0 hK0 M s.heap [] ls h w (lv_sub hl [] rfl)
-- X9_stone, with its throws
theorem wj_X9_stone_X9 : ∀ w ∈ wsX90, w ∈ wsX9_stone := by decide +kernel
theorem wg_X9_stone_92 : ∀ w ∈ (vx_atS RX9 96 "java/lang/IndexOutOfBoundsException" ex_names).filter goodWord, w ∈ wsX9_stone := by decide +kernel
abbrev rtX9_stone : Room := { frames := 6, cells := 1, slots := 6, locals := 120 }
def t_X9_stone (G : gS) (M : mS) (a0 : Nat) (c1 : Int32) (c2 : Int32) : Option (mS × (Int32 ⊕ String)) := o_cl (m_X9_isStone G M c1 c2) (fun M1 r2 => (if r2 = 0 then some (M1, Sum.inr "java/lang/IndexOutOfBoundsException") else o_rf (gP G a0 2) (fun q5 => o_cl (m_X8_colourAt G M1 q5 ((c2 * (64 : Int32)) + c1)) (fun M6 r7 => some (M6, Sum.inl r7)))))
set_option maxHeartbeats 4000000 in
set_option maxRecDepth 100000 in
theorem kt_X9_stone {l : Launch} {D : va_G} {cy : cyS} {G : gS} {M M' : mS} {r : Int32 ⊕ String} {a0 : Nat} {c1 : Int32} {c2 : Int32} (hG : wt G) (hst : l.stackTraces = false) (hL0 : a0 ∈ gL G) (hK0 : gK G a0 = 8) (h : t_X9_stone G M a0 c1 c2 = some (M', r)) : ctX l yX9_stone wsX9_stone rtX9_stone D cy G M [.ref a0, .int c1, .int c2] M' r := by
  unfold t_X9_stone at h
  refine ctX_of (cc := cX9_stone) (nL := 3) (ret := (some .int)) (lv := [(0, .ref a0), (1, .int c1), (2, .int c2)]) hG (by decide) rfl (Nat.le_of_ble_eq_true rfl) rfl ?_
  intro p e s m args below meth c A ls cx hex w hl
  obtain ⟨hx, hb, hml, hown, hts, hr, hlocks, hK, hA, -, hsx⟩ := id cx
  have hkn : 0 ≤ (rtX9_stone).cells ∧ 0 ≤ (rtX9_stone).slots := ⟨Nat.zero_le _, Nat.zero_le _⟩
  refine lv_iload_n hx hb dX9_stone_0 rfl (lv_at hl 1 rfl) ?_
  refine lv_iload_n hx hb dX9_stone_1 rfl (lv_at hl 2 rfl) ?_
  obtain ⟨M1, r2, y3, h⟩ := x_cl h
  refine r_callSi (As := [.int c1, .int c2]) (rest := []) cx w hkn hl.1 (k_X9_isStone hG y3) (va_cwS 2 hts gX9_stone_X9_isStone rfl rfl rfl (by decide +kernel) ⟨Nat.le_of_ble_eq_true rfl, Nat.le_of_ble_eq_true rfl⟩) rfl rfl (Nat.le_of_ble_eq_true rfl) dX9_stone_2 (fun H locs w => ?_)
  refine lv_if_ne (tgt := 18) hx hb dX9_stone_5 (by decide) (fun k4 => ?_) (fun k4 => ?_)
  · have h := x_f h k4
    refine lv_aload_n hx hb dX9_stone_18 rfl (lv_at hl 0 rfl) ?_
    obtain ⟨q5, eq5, h⟩ := x_rf h
    obtain ⟨hLq5, hKq5⟩ := wt_q hG hL0 hK0 eq5
    have hKq5 : gK G q5 = 7 := hKq5
    refine r_getR (k := 2) cx w hL0 hK0 (by decide) rfl wj_X9_stone_X9 (by decide) rfl eq5 (List.mem_of_getElem? (i := 3) rfl) dX9_stone_19 ?_
    refine lv_iload_n hx hb dX9_stone_22 rfl (lv_at hl 2 rfl) ?_
    refine lv_bipush (v := (64 : Int32)) hx hb dX9_stone_23 (by decide) ?_
    refine lv_imul hx hb dX9_stone_25 ?_
    refine lv_iload_n hx hb dX9_stone_26 rfl (lv_at hl 1 rfl) ?_
    refine lv_iadd hx hb dX9_stone_27 ?_
    obtain ⟨M6, r7, y8, h⟩ := x_cl h
    refine r_callVi (As := [.int (((c2 * (64 : Int32)) + c1))]) (rest := []) cx w hkn hl.1 (k_X8_colourAt hG hLq5 hKq5 y8) (cwV 1 hts gX9_stone_X8_colourAt rfl rfl rfl (by decide +kernel) ⟨Nat.le_of_ble_eq_true rfl, Nat.le_of_ble_eq_true rfl⟩) hLq5 hKq5 (by decide) rfl rfl rfl (Nat.le_of_ble_eq_true rfl) dX9_stone_28 (fun H locs w => ?_)
    exact r_xiret cx w h dX9_stone_31
  · have h := x_t h k4
    exact r_throw (cls := "java/lang/IndexOutOfBoundsException") (text := "no such stone") (ik := 92) (is := 117) (ic := 96) cx w hst hex hl.1 h (by decide +kernel) (List.mem_of_getElem? (i := 1) rfl) (List.mem_of_getElem? (i := 2) rfl) (List.mem_of_getElem? (i := 3) rfl) (List.mem_of_getElem? (i := 2) rfl) wg_X9_stone_92 ng_92 ot_92 dX9_stone_8 dX9_stone_11 dX9_stone_12 dX9_stone_14 dX9_stone_17 (Nat.le_of_ble_eq_true rfl) (Nat.le_of_ble_eq_true rfl) (Nat.le_of_ble_eq_true rfl) (Nat.le_of_ble_eq_true rfl)
-- X9_colour, with its throws
theorem wj_X9_colour_X8 : ∀ w ∈ wsX80, w ∈ wsX9_colour := by decide +kernel
theorem wj_X9_colour_X9 : ∀ w ∈ wsX90, w ∈ wsX9_colour := by decide +kernel
theorem wg_X9_colour_92 : ∀ w ∈ (vx_atS RX9 96 "java/lang/IndexOutOfBoundsException" ex_names).filter goodWord, w ∈ wsX9_colour := by decide +kernel
abbrev rtX9_colour : Room := { frames := 6, cells := 1, slots := 6, locals := 120 }
def t_X9_colour (G : gS) (M : mS) (a0 : Nat) (c1 : Int32) : Option (mS × (Int32 ⊕ String)) := o_cl (m_X9_isColour G M c1) (fun M1 r2 => (if r2 = 0 then some (M1, Sum.inr "java/lang/IndexOutOfBoundsException") else o_rf (gP G a0 2) (fun q5 => o_rf (gP G q5 2) (fun q6 => o_ix c1 (gN G q6) (some (M1, Sum.inl (mI M1 q6 (Int32.toNatClampNeg c1))))))))
set_option maxHeartbeats 4000000 in
set_option maxRecDepth 100000 in
theorem kt_X9_colour {l : Launch} {D : va_G} {cy : cyS} {G : gS} {M M' : mS} {r : Int32 ⊕ String} {a0 : Nat} {c1 : Int32} (hG : wt G) (hst : l.stackTraces = false) (hL0 : a0 ∈ gL G) (hK0 : gK G a0 = 8) (h : t_X9_colour G M a0 c1 = some (M', r)) : ctX l yX9_colour wsX9_colour rtX9_colour D cy G M [.ref a0, .int c1] M' r := by
  unfold t_X9_colour at h
  refine ctX_of (cc := cX9_colour) (nL := 2) (ret := (some .int)) (lv := [(0, .ref a0), (1, .int c1)]) hG (by decide) rfl (Nat.le_of_ble_eq_true rfl) rfl ?_
  intro p e s m args below meth c A ls cx hex w hl
  obtain ⟨hx, hb, hml, hown, hts, hr, hlocks, hK, hA, -, hsx⟩ := id cx
  have hkn : 0 ≤ (rtX9_colour).cells ∧ 0 ≤ (rtX9_colour).slots := ⟨Nat.zero_le _, Nat.zero_le _⟩
  refine lv_iload_n hx hb dX9_colour_0 rfl (lv_at hl 1 rfl) ?_
  obtain ⟨M1, r2, y3, h⟩ := x_cl h
  refine r_callSi (As := [.int c1]) (rest := []) cx w hkn hl.1 (k_X9_isColour hG y3) (va_cwS 1 hts gX9_colour_X9_isColour rfl rfl rfl (by decide +kernel) ⟨Nat.le_of_ble_eq_true rfl, Nat.le_of_ble_eq_true rfl⟩) rfl rfl (Nat.le_of_ble_eq_true rfl) dX9_colour_1 (fun H locs w => ?_)
  refine lv_if_ne (tgt := 17) hx hb dX9_colour_4 (by decide) (fun k4 => ?_) (fun k4 => ?_)
  · have h := x_f h k4
    refine lv_aload_n hx hb dX9_colour_17 rfl (lv_at hl 0 rfl) ?_
    obtain ⟨q5, eq5, h⟩ := x_rf h
    obtain ⟨hLq5, hKq5⟩ := wt_q hG hL0 hK0 eq5
    have hKq5 : gK G q5 = 7 := hKq5
    refine r_getR (k := 2) cx w hL0 hK0 (by decide) rfl wj_X9_colour_X9 (by decide) rfl eq5 (List.mem_of_getElem? (i := 3) rfl) dX9_colour_18 ?_
    obtain ⟨q6, eq6, h⟩ := x_rf h
    obtain ⟨hLq6, hKq6⟩ := wt_q hG hLq5 hKq5 eq6
    have hKq6 : gK G q6 = 12 := hKq6
    refine r_getR (k := 2) cx w hLq5 hKq5 (by decide) rfl wj_X9_colour_X8 (by decide) rfl eq6 (List.mem_of_getElem? (i := 4) rfl) dX9_colour_21 ?_
    refine lv_iload_n hx hb dX9_colour_24 rfl (lv_at hl 1 rfl) ?_
    obtain ⟨z7, h⟩ := x_ix h
    refine r_iald cx w hLq6 hKq6 z7 dX9_colour_25 ?_
    exact r_xiret cx w h dX9_colour_26
  · have h := x_t h k4
    exact r_throw (cls := "java/lang/IndexOutOfBoundsException") (text := "no such colour") (ik := 92) (is := 125) (ic := 96) cx w hst hex hl.1 h (by decide +kernel) (List.mem_of_getElem? (i := 1) rfl) (List.mem_of_getElem? (i := 2) rfl) (List.mem_of_getElem? (i := 4) rfl) (List.mem_of_getElem? (i := 2) rfl) wg_X9_colour_92 ng_92 ot_92 dX9_colour_7 dX9_colour_10 dX9_colour_11 dX9_colour_13 dX9_colour_16 (Nat.le_of_ble_eq_true rfl) (Nat.le_of_ble_eq_true rfl) (Nat.le_of_ble_eq_true rfl) (Nat.le_of_ble_eq_true rfl)
-- X9_row, with its throws
theorem wj_X9_row_X8 : ∀ w ∈ wsX80, w ∈ wsX9_row := by decide +kernel
theorem wj_X9_row_X9 : ∀ w ∈ wsX90, w ∈ wsX9_row := by decide +kernel
theorem wg_X9_row_92 : ∀ w ∈ (vx_atS RX9 96 "java/lang/IndexOutOfBoundsException" ex_names).filter goodWord, w ∈ wsX9_row := by decide +kernel
abbrev rtX9_row : Room := { frames := 6, cells := 1, slots := 6, locals := 120 }
def t_X9_row (G : gS) (M : mS) (a0 : Nat) (c1 : Int32) : Option (mS × (Int32 ⊕ String)) := o_cl (m_X9_isLine G M c1) (fun M1 r2 => (if r2 = 0 then some (M1, Sum.inr "java/lang/IndexOutOfBoundsException") else o_rf (gP G a0 2) (fun q5 => o_rf (gP G q5 1) (fun q6 => o_ix c1 (gN G q6) (some (M1, Sum.inl (mI M1 q6 (Int32.toNatClampNeg c1))))))))
set_option maxHeartbeats 4000000 in
set_option maxRecDepth 100000 in
theorem kt_X9_row {l : Launch} {D : va_G} {cy : cyS} {G : gS} {M M' : mS} {r : Int32 ⊕ String} {a0 : Nat} {c1 : Int32} (hG : wt G) (hst : l.stackTraces = false) (hL0 : a0 ∈ gL G) (hK0 : gK G a0 = 8) (h : t_X9_row G M a0 c1 = some (M', r)) : ctX l yX9_row wsX9_row rtX9_row D cy G M [.ref a0, .int c1] M' r := by
  unfold t_X9_row at h
  refine ctX_of (cc := cX9_row) (nL := 2) (ret := (some .int)) (lv := [(0, .ref a0), (1, .int c1)]) hG (by decide) rfl (Nat.le_of_ble_eq_true rfl) rfl ?_
  intro p e s m args below meth c A ls cx hex w hl
  obtain ⟨hx, hb, hml, hown, hts, hr, hlocks, hK, hA, -, hsx⟩ := id cx
  have hkn : 0 ≤ (rtX9_row).cells ∧ 0 ≤ (rtX9_row).slots := ⟨Nat.zero_le _, Nat.zero_le _⟩
  refine lv_iload_n hx hb dX9_row_0 rfl (lv_at hl 1 rfl) ?_
  obtain ⟨M1, r2, y3, h⟩ := x_cl h
  refine r_callSi (As := [.int c1]) (rest := []) cx w hkn hl.1 (k_X9_isLine hG y3) (va_cwS 1 hts gX9_row_X9_isLine rfl rfl rfl (by decide +kernel) ⟨Nat.le_of_ble_eq_true rfl, Nat.le_of_ble_eq_true rfl⟩) rfl rfl (Nat.le_of_ble_eq_true rfl) dX9_row_1 (fun H locs w => ?_)
  refine lv_if_ne (tgt := 17) hx hb dX9_row_4 (by decide) (fun k4 => ?_) (fun k4 => ?_)
  · have h := x_f h k4
    refine lv_aload_n hx hb dX9_row_17 rfl (lv_at hl 0 rfl) ?_
    obtain ⟨q5, eq5, h⟩ := x_rf h
    obtain ⟨hLq5, hKq5⟩ := wt_q hG hL0 hK0 eq5
    have hKq5 : gK G q5 = 7 := hKq5
    refine r_getR (k := 2) cx w hL0 hK0 (by decide) rfl wj_X9_row_X9 (by decide) rfl eq5 (List.mem_of_getElem? (i := 3) rfl) dX9_row_18 ?_
    obtain ⟨q6, eq6, h⟩ := x_rf h
    obtain ⟨hLq6, hKq6⟩ := wt_q hG hLq5 hKq5 eq6
    have hKq6 : gK G q6 = 12 := hKq6
    refine r_getR (k := 1) cx w hLq5 hKq5 (by decide) rfl wj_X9_row_X8 (by decide) rfl eq6 (List.mem_of_getElem? (i := 4) rfl) dX9_row_21 ?_
    refine lv_iload_n hx hb dX9_row_24 rfl (lv_at hl 1 rfl) ?_
    obtain ⟨z7, h⟩ := x_ix h
    refine r_iald cx w hLq6 hKq6 z7 dX9_row_25 ?_
    exact r_xiret cx w h dX9_row_26
  · have h := x_t h k4
    exact r_throw (cls := "java/lang/IndexOutOfBoundsException") (text := "no such row") (ik := 92) (is := 134) (ic := 96) cx w hst hex hl.1 h (by decide +kernel) (List.mem_of_getElem? (i := 1) rfl) (List.mem_of_getElem? (i := 2) rfl) (List.mem_of_getElem? (i := 5) rfl) (List.mem_of_getElem? (i := 2) rfl) wg_X9_row_92 ng_92 ot_92 dX9_row_7 dX9_row_10 dX9_row_11 dX9_row_13 dX9_row_16 (Nat.le_of_ble_eq_true rfl) (Nat.le_of_ble_eq_true rfl) (Nat.le_of_ble_eq_true rfl) (Nat.le_of_ble_eq_true rfl)
-- X9_turn, with its throws
theorem wj_X9_turn_X3 : ∀ w ∈ wsX30, w ∈ wsX9_turn := by decide +kernel
theorem wj_X9_turn_X9 : ∀ w ∈ wsX90, w ∈ wsX9_turn := by decide +kernel
theorem wg_X9_turn_92 : ∀ w ∈ (vx_atS RX9 96 "java/lang/IndexOutOfBoundsException" ex_names).filter goodWord, w ∈ wsX9_turn := by decide +kernel
abbrev rtX9_turn : Room := { frames := 6, cells := 1, slots := 6, locals := 120 }
def t_X9_turn_22 (G : gS) (a0 : Nat) (c1 : Int32) (c2 : Int32)  (M : mS)  : Option (mS × (Int32 ⊕ String)) := some (M, Sum.inr "java/lang/IndexOutOfBoundsException")
def t_X9_turn (G : gS) (M : mS) (a0 : Nat) (c1 : Int32) (c2 : Int32) : Option (mS × (Int32 ⊕ String)) := (if c1 < 0 then t_X9_turn_22 G a0 c1 c2 M else o_rf (gP G a0 1) (fun q2 => (if (mI M q2 0) ≤ c1 then t_X9_turn_22 G a0 c1 c2 M else o_cl (m_X9_isColour G M c2) (fun M4 r5 => (if r5 = 0 then t_X9_turn_22 G a0 c1 c2 M4 else o_rf (gP G a0 1) (fun q8 => o_cl (m_X3_turnFor G M4 q8 c1 c2) (fun M9 r10 => some (M9, Sum.inl r10))))))))
set_option maxHeartbeats 4000000 in
set_option maxRecDepth 100000 in
theorem bt_X9_turn_22 {p : Program} {e : Env} {s : State} {m : MethodId} {args : Array Value} {below : List Frame} {meth : Method} {c : Code} {A : Nat → Prop} {l : Launch} {D : va_G} {cy : cyS} {G : gS} (cx : cX p s m args meth c cX9_turn RX9 3 (some .int) wsX9_turn D cy G A) (hst : l.stackTraces = false) (hex : ∀ x ∈ c.exceptionTable.toList, False) (hkn : 0 ≤ (rtX9_turn).cells ∧ 0 ≤ (rtX9_turn).slots) {M' : mS} {r : Int32 ⊕ String} {a0 : Nat} {c1 : Int32} {c2 : Int32} (hL0 : a0 ∈ gL G) (hK0 : gK G a0 = 8)  : ∀ (M : mS) (H : Heap) (locs : List Loc) (ls : Array Slot), t_X9_turn_22 G a0 c1 c2 M = some (M', r) → wd D cy G M A s.heap H locs → lv_has ls 3 [] → W p l e rtX9_turn s m args below meth c H locs 0 0 (vx_MQ below (va_Qi (fun (r' : Int32) (_ : Unit) => r = .inl r') (fun _ t => wOut D cy G M' t) A) (vx_X (fun (_ : Unit) => True) (fun E _ t => r = .inr E ∧ wOut D cy G M' t) A) args s 1 6 A) (F0 m 22 ls []) := by
  obtain ⟨hx, hb, hml, hown, hts, hr, hlocks, hK, hA, hG, hsx⟩ := id cx
  intro M H locs ls h w hl
  unfold t_X9_turn_22 at h
  exact r_throw (cls := "java/lang/IndexOutOfBoundsException") (text := "no such rule or colour") (ik := 92) (is := 139) (ic := 96) cx w hst hex hl.1 h (by decide +kernel) (List.mem_of_getElem? (i := 1) rfl) (List.mem_of_getElem? (i := 2) rfl) (List.mem_of_getElem? (i := 6) rfl) (List.mem_of_getElem? (i := 2) rfl) wg_X9_turn_92 ng_92 ot_92 dX9_turn_22 dX9_turn_25 dX9_turn_26 dX9_turn_28 dX9_turn_31 (Nat.le_of_ble_eq_true rfl) (Nat.le_of_ble_eq_true rfl) (Nat.le_of_ble_eq_true rfl) (Nat.le_of_ble_eq_true rfl)
set_option maxHeartbeats 4000000 in
set_option maxRecDepth 100000 in
theorem kt_X9_turn {l : Launch} {D : va_G} {cy : cyS} {G : gS} {M M' : mS} {r : Int32 ⊕ String} {a0 : Nat} {c1 : Int32} {c2 : Int32} (hG : wt G) (hst : l.stackTraces = false) (hL0 : a0 ∈ gL G) (hK0 : gK G a0 = 8) (h : t_X9_turn G M a0 c1 c2 = some (M', r)) : ctX l yX9_turn wsX9_turn rtX9_turn D cy G M [.ref a0, .int c1, .int c2] M' r := by
  unfold t_X9_turn at h
  refine ctX_of (cc := cX9_turn) (nL := 3) (ret := (some .int)) (lv := [(0, .ref a0), (1, .int c1), (2, .int c2)]) hG (by decide) rfl (Nat.le_of_ble_eq_true rfl) rfl ?_
  intro p e s m args below meth c A ls cx hex w hl
  obtain ⟨hx, hb, hml, hown, hts, hr, hlocks, hK, hA, -, hsx⟩ := id cx
  have hkn : 0 ≤ (rtX9_turn).cells ∧ 0 ≤ (rtX9_turn).slots := ⟨Nat.zero_le _, Nat.zero_le _⟩
  refine lv_iload_n hx hb dX9_turn_0 rfl (lv_at hl 1 rfl) ?_
  refine lv_if_lt (tgt := 22) hx hb dX9_turn_1 (by decide) (fun k1 => ?_) (fun k1 => ?_)
  · have h := x_t h k1
    exact bt_X9_turn_22 cx hst hex hkn hL0 hK0 M s.heap [] ls h w (lv_sub hl [] rfl)
  · have h := x_f h k1
    refine lv_iload_n hx hb dX9_turn_4 rfl (lv_at hl 1 rfl) ?_
    refine lv_aload_n hx hb dX9_turn_5 rfl (lv_at hl 0 rfl) ?_
    obtain ⟨q2, eq2, h⟩ := x_rf h
    obtain ⟨hLq2, hKq2⟩ := wt_q hG hL0 hK0 eq2
    have hKq2 : gK G q2 = 2 := hKq2
    refine r_getR (k := 1) cx w hL0 hK0 (by decide) rfl wj_X9_turn_X9 (by decide) rfl eq2 (List.mem_of_getElem? (i := 3) rfl) dX9_turn_6 ?_
    refine r_getI (k := 0) (v := .int (mI M q2 0)) cx w hLq2 hKq2 (by decide) rfl wj_X9_turn_X3 (by decide) rfl (List.mem_of_getElem? (i := 4) rfl) dX9_turn_9 ?_
    refine lv_icmp_ge (tgt := 22) hx hb dX9_turn_12 (by decide) (fun k3 => ?_) (fun k3 => ?_)
    · have h := x_t h k3
      exact bt_X9_turn_22 cx hst hex hkn hL0 hK0 M s.heap [] ls h w (lv_sub hl [] rfl)
    · have h := x_f h k3
      refine lv_iload_n hx hb dX9_turn_15 rfl (lv_at hl 2 rfl) ?_
      obtain ⟨M4, r5, y6, h⟩ := x_cl h
      refine r_callSi (As := [.int c2]) (rest := []) cx w hkn hl.1 (k_X9_isColour hG y6) (va_cwS 1 hts gX9_turn_X9_isColour rfl rfl rfl (by decide +kernel) ⟨Nat.le_of_ble_eq_true rfl, Nat.le_of_ble_eq_true rfl⟩) rfl rfl (Nat.le_of_ble_eq_true rfl) dX9_turn_16 (fun H locs w => ?_)
      refine lv_if_ne (tgt := 32) hx hb dX9_turn_19 (by decide) (fun k7 => ?_) (fun k7 => ?_)
      · have h := x_f h k7
        refine lv_aload_n hx hb dX9_turn_32 rfl (lv_at hl 0 rfl) ?_
        obtain ⟨q8, eq8, h⟩ := x_rf h
        obtain ⟨hLq8, hKq8⟩ := wt_q hG hL0 hK0 eq8
        have hKq8 : gK G q8 = 2 := hKq8
        refine r_getR (k := 1) cx w hL0 hK0 (by decide) rfl wj_X9_turn_X9 (by decide) rfl eq8 (List.mem_of_getElem? (i := 3) rfl) dX9_turn_33 ?_
        refine lv_iload_n hx hb dX9_turn_36 rfl (lv_at hl 1 rfl) ?_
        refine lv_iload_n hx hb dX9_turn_37 rfl (lv_at hl 2 rfl) ?_
        obtain ⟨M9, r10, y11, h⟩ := x_cl h
        refine r_callVi (As := [.int c1, .int c2]) (rest := []) cx w hkn hl.1 (k_X3_turnFor hG hLq8 hKq8 y11) (cwV 2 hts gX9_turn_X3_turnFor rfl rfl rfl (by decide +kernel) ⟨Nat.le_of_ble_eq_true rfl, Nat.le_of_ble_eq_true rfl⟩) hLq8 hKq8 (by decide) rfl rfl rfl (Nat.le_of_ble_eq_true rfl) dX9_turn_38 (fun H locs w => ?_)
        exact r_xiret cx w h dX9_turn_41
      · have h := x_t h k7
        exact bt_X9_turn_22 cx hst hex hkn hL0 hK0 M4 H locs ls h w (lv_sub hl [] rfl)
-- X9_ant, with its throws
theorem wj_X9_ant_X8 : ∀ w ∈ wsX80, w ∈ wsX9_ant := by decide +kernel
theorem wj_X9_ant_X9 : ∀ w ∈ wsX90, w ∈ wsX9_ant := by decide +kernel
theorem wg_X9_ant_92 : ∀ w ∈ (vx_atS RX9 96 "java/lang/IndexOutOfBoundsException" ex_names).filter goodWord, w ∈ wsX9_ant := by decide +kernel
abbrev rtX9_ant : Room := { frames := 6, cells := 1, slots := 6, locals := 120 }
def t_X9_ant_18 (G : gS) (a0 : Nat) (c1 : Int32) (c2 : Int32)  (M : mS)  : Option (mS × (Int32 ⊕ String)) := some (M, Sum.inr "java/lang/IndexOutOfBoundsException")
def t_X9_ant (G : gS) (M : mS) (a0 : Nat) (c1 : Int32) (c2 : Int32) : Option (mS × (Int32 ⊕ String)) := o_cl (m_X9_isAnt G M a0 c1) (fun M1 r2 => (if r2 = 0 then t_X9_ant_18 G a0 c1 c2 M1 else (if c2 < 0 then t_X9_ant_18 G a0 c1 c2 M1 else (if c2 < (9 : Int32) then o_rf (gP G a0 2) (fun q7 => o_rf (gP G q7 3) (fun q8 => o_ix c1 (gN G q8) (o_rf (gP G q8 (Int32.toNatClampNeg c1)) (fun q10 => o_cl (m_X0_answer G M1 q10 c2) (fun M11 r12 => some (M11, Sum.inl r12)))))) else t_X9_ant_18 G a0 c1 c2 M1))))
set_option maxHeartbeats 4000000 in
set_option maxRecDepth 100000 in
theorem bt_X9_ant_18 {p : Program} {e : Env} {s : State} {m : MethodId} {args : Array Value} {below : List Frame} {meth : Method} {c : Code} {A : Nat → Prop} {l : Launch} {D : va_G} {cy : cyS} {G : gS} (cx : cX p s m args meth c cX9_ant RX9 3 (some .int) wsX9_ant D cy G A) (hst : l.stackTraces = false) (hex : ∀ x ∈ c.exceptionTable.toList, False) (hkn : 0 ≤ (rtX9_ant).cells ∧ 0 ≤ (rtX9_ant).slots) {M' : mS} {r : Int32 ⊕ String} {a0 : Nat} {c1 : Int32} {c2 : Int32} (hL0 : a0 ∈ gL G) (hK0 : gK G a0 = 8)  : ∀ (M : mS) (H : Heap) (locs : List Loc) (ls : Array Slot), t_X9_ant_18 G a0 c1 c2 M = some (M', r) → wd D cy G M A s.heap H locs → lv_has ls 3 [] → W p l e rtX9_ant s m args below meth c H locs 0 0 (vx_MQ below (va_Qi (fun (r' : Int32) (_ : Unit) => r = .inl r') (fun _ t => wOut D cy G M' t) A) (vx_X (fun (_ : Unit) => True) (fun E _ t => r = .inr E ∧ wOut D cy G M' t) A) args s 1 6 A) (F0 m 18 ls []) := by
  obtain ⟨hx, hb, hml, hown, hts, hr, hlocks, hK, hA, hG, hsx⟩ := id cx
  intro M H locs ls h w hl
  unfold t_X9_ant_18 at h
  exact r_throw (cls := "java/lang/IndexOutOfBoundsException") (text := "no such ant, or what is not 0 to 8") (ik := 92) (is := 148) (ic := 96) cx w hst hex hl.1 h (by decide +kernel) (List.mem_of_getElem? (i := 1) rfl) (List.mem_of_getElem? (i := 2) rfl) (List.mem_of_getElem? (i := 7) rfl) (List.mem_of_getElem? (i := 2) rfl) wg_X9_ant_92 ng_92 ot_92 dX9_ant_18 dX9_ant_21 dX9_ant_22 dX9_ant_24 dX9_ant_27 (Nat.le_of_ble_eq_true rfl) (Nat.le_of_ble_eq_true rfl) (Nat.le_of_ble_eq_true rfl) (Nat.le_of_ble_eq_true rfl)
set_option maxHeartbeats 4000000 in
set_option maxRecDepth 100000 in
theorem kt_X9_ant {l : Launch} {D : va_G} {cy : cyS} {G : gS} {M M' : mS} {r : Int32 ⊕ String} {a0 : Nat} {c1 : Int32} {c2 : Int32} (hG : wt G) (hst : l.stackTraces = false) (hL0 : a0 ∈ gL G) (hK0 : gK G a0 = 8) (h : t_X9_ant G M a0 c1 c2 = some (M', r)) : ctX l yX9_ant wsX9_ant rtX9_ant D cy G M [.ref a0, .int c1, .int c2] M' r := by
  unfold t_X9_ant at h
  refine ctX_of (cc := cX9_ant) (nL := 3) (ret := (some .int)) (lv := [(0, .ref a0), (1, .int c1), (2, .int c2)]) hG (by decide) rfl (Nat.le_of_ble_eq_true rfl) rfl ?_
  intro p e s m args below meth c A ls cx hex w hl
  obtain ⟨hx, hb, hml, hown, hts, hr, hlocks, hK, hA, -, hsx⟩ := id cx
  have hkn : 0 ≤ (rtX9_ant).cells ∧ 0 ≤ (rtX9_ant).slots := ⟨Nat.zero_le _, Nat.zero_le _⟩
  refine lv_aload_n hx hb dX9_ant_0 rfl (lv_at hl 0 rfl) ?_
  refine lv_iload_n hx hb dX9_ant_1 rfl (lv_at hl 1 rfl) ?_
  obtain ⟨M1, r2, y3, h⟩ := x_cl h
  refine r_callVi (As := [.int c1]) (rest := []) cx w hkn hl.1 (k_X9_isAnt hG hL0 hK0 y3) (cwV 1 hts gX9_ant_X9_isAnt rfl rfl rfl (by decide +kernel) ⟨Nat.le_of_ble_eq_true rfl, Nat.le_of_ble_eq_true rfl⟩) hL0 hK0 (by decide) rfl rfl rfl (Nat.le_of_ble_eq_true rfl) dX9_ant_2 (fun H locs w => ?_)
  refine lv_if_eq (tgt := 18) hx hb dX9_ant_5 (by decide) (fun k4 => ?_) (fun k4 => ?_)
  · have h := x_t h k4
    exact bt_X9_ant_18 cx hst hex hkn hL0 hK0 M1 H locs ls h w (lv_sub hl [] rfl)
  · have h := x_f h k4
    refine lv_iload_n hx hb dX9_ant_8 rfl (lv_at hl 2 rfl) ?_
    refine lv_if_lt (tgt := 18) hx hb dX9_ant_9 (by decide) (fun k5 => ?_) (fun k5 => ?_)
    · have h := x_t h k5
      exact bt_X9_ant_18 cx hst hex hkn hL0 hK0 M1 H locs ls h w (lv_sub hl [] rfl)
    · have h := x_f h k5
      refine lv_iload_n hx hb dX9_ant_12 rfl (lv_at hl 2 rfl) ?_
      refine lv_bipush (v := (9 : Int32)) hx hb dX9_ant_13 (by decide) ?_
      refine lv_icmp_lt (tgt := 28) hx hb dX9_ant_15 (by decide) (fun k6 => ?_) (fun k6 => ?_)
      · have h := x_t h k6
        refine lv_aload_n hx hb dX9_ant_28 rfl (lv_at hl 0 rfl) ?_
        obtain ⟨q7, eq7, h⟩ := x_rf h
        obtain ⟨hLq7, hKq7⟩ := wt_q hG hL0 hK0 eq7
        have hKq7 : gK G q7 = 7 := hKq7
        refine r_getR (k := 2) cx w hL0 hK0 (by decide) rfl wj_X9_ant_X9 (by decide) rfl eq7 (List.mem_of_getElem? (i := 3) rfl) dX9_ant_29 ?_
        obtain ⟨q8, eq8, h⟩ := x_rf h
        obtain ⟨hLq8, hKq8⟩ := wt_q hG hLq7 hKq7 eq8
        have hKq8 : gK G q8 = 14 := hKq8
        refine r_getR (k := 3) cx w hLq7 hKq7 (by decide) rfl wj_X9_ant_X8 (by decide) rfl eq8 (List.mem_of_getElem? (i := 4) rfl) dX9_ant_32 ?_
        refine lv_iload_n hx hb dX9_ant_35 rfl (lv_at hl 1 rfl) ?_
        obtain ⟨z9, h⟩ := x_ix h
        obtain ⟨q10, eq10, h⟩ := x_rf h
        obtain ⟨hLq10, hKq10⟩ := wt_q hG hLq8 hKq8 eq10
        have hKq10 : gK G q10 = 0 := hKq10
        refine r_aald cx w hLq8 hKq8 z9 eq10 dX9_ant_36 ?_
        refine lv_iload_n hx hb dX9_ant_37 rfl (lv_at hl 2 rfl) ?_
        obtain ⟨M11, r12, y13, h⟩ := x_cl h
        refine r_callVi (As := [.int c2]) (rest := []) cx w hkn hl.1 (k_X0_answer hG hLq10 hKq10 y13) (cwV 1 hts gX9_ant_X0_answer rfl rfl rfl (by decide +kernel) ⟨Nat.le_of_ble_eq_true rfl, Nat.le_of_ble_eq_true rfl⟩) hLq10 hKq10 (by decide) rfl rfl rfl (Nat.le_of_ble_eq_true rfl) dX9_ant_38 (fun H locs w => ?_)
        exact r_xiret cx w h dX9_ant_41
      · have h := x_f h k6
        exact bt_X9_ant_18 cx hst hex hkn hL0 hK0 M1 H locs ls h w (lv_sub hl [] rfl)
-- X9_paint, with its throws
theorem wj_X9_paint_X9 : ∀ w ∈ wsX90, w ∈ wsX9_paint := by decide +kernel
theorem wg_X9_paint_73 : ∀ w ∈ (vx_atS RX9 77 "java/lang/IllegalArgumentException" ex_names).filter goodWord, w ∈ wsX9_paint := by decide +kernel
theorem wg_X9_paint_92 : ∀ w ∈ (vx_atS RX9 96 "java/lang/IndexOutOfBoundsException" ex_names).filter goodWord, w ∈ wsX9_paint := by decide +kernel
abbrev rtX9_paint : Room := { frames := 6, cells := 1, slots := 6, locals := 120 }
def t_X9_paint (G : gS) (M : mS) (a0 : Nat) (c1 : Int32) (c2 : Int32) (c3 : Int32) : Option (mS × (Int32 ⊕ String)) := o_cl (m_X9_isStone G M c1 c2) (fun M1 r2 => (if r2 = 0 then some (M1, Sum.inr "java/lang/IndexOutOfBoundsException") else o_cl (m_X9_isColour G M1 c3) (fun M5 r6 => (if r6 = 0 then some (M5, Sum.inr "java/lang/IllegalArgumentException") else o_bd (((c2 * (64 : Int32)) + c1)) (fun x9 => o_rf (gP G a0 2) (fun q10 => o_cl (m_X8_colourAt G M5 q10 x9) (fun M11 r12 => o_rf (gP G a0 2) (fun q14 => o_cl (m_X8_setStone G M11 q14 x9 c3) (fun M15 r16 => some (M15, Sum.inl r12))))))))))
set_option maxHeartbeats 4000000 in
set_option maxRecDepth 100000 in
theorem kt_X9_paint {l : Launch} {D : va_G} {cy : cyS} {G : gS} {M M' : mS} {r : Int32 ⊕ String} {a0 : Nat} {c1 : Int32} {c2 : Int32} {c3 : Int32} (hG : wt G) (hst : l.stackTraces = false) (hL0 : a0 ∈ gL G) (hK0 : gK G a0 = 8) (h : t_X9_paint G M a0 c1 c2 c3 = some (M', r)) : ctX l yX9_paint wsX9_paint rtX9_paint D cy G M [.ref a0, .int c1, .int c2, .int c3] M' r := by
  unfold t_X9_paint at h
  refine ctX_of (cc := cX9_paint) (nL := 6) (ret := (some .int)) (lv := [(0, .ref a0), (1, .int c1), (2, .int c2), (3, .int c3)]) hG (by decide) rfl (Nat.le_of_ble_eq_true rfl) rfl ?_
  intro p e s m args below meth c A ls cx hex w hl
  obtain ⟨hx, hb, hml, hown, hts, hr, hlocks, hK, hA, -, hsx⟩ := id cx
  have hkn : 0 ≤ (rtX9_paint).cells ∧ 0 ≤ (rtX9_paint).slots := ⟨Nat.zero_le _, Nat.zero_le _⟩
  refine lv_iload_n hx hb dX9_paint_0 rfl (lv_at hl 1 rfl) ?_
  refine lv_iload_n hx hb dX9_paint_1 rfl (lv_at hl 2 rfl) ?_
  obtain ⟨M1, r2, y3, h⟩ := x_cl h
  refine r_callSi (As := [.int c1, .int c2]) (rest := []) cx w hkn hl.1 (k_X9_isStone hG y3) (va_cwS 2 hts gX9_paint_X9_isStone rfl rfl rfl (by decide +kernel) ⟨Nat.le_of_ble_eq_true rfl, Nat.le_of_ble_eq_true rfl⟩) rfl rfl (Nat.le_of_ble_eq_true rfl) dX9_paint_2 (fun H locs w => ?_)
  refine lv_if_ne (tgt := 18) hx hb dX9_paint_5 (by decide) (fun k4 => ?_) (fun k4 => ?_)
  · have h := x_f h k4
    refine lv_iload_n hx hb dX9_paint_18 rfl (lv_at hl 3 rfl) ?_
    obtain ⟨M5, r6, y7, h⟩ := x_cl h
    refine r_callSi (As := [.int c3]) (rest := []) cx w hkn hl.1 (k_X9_isColour hG y7) (va_cwS 1 hts gX9_paint_X9_isColour rfl rfl rfl (by decide +kernel) ⟨Nat.le_of_ble_eq_true rfl, Nat.le_of_ble_eq_true rfl⟩) rfl rfl (Nat.le_of_ble_eq_true rfl) dX9_paint_19 (fun H locs w => ?_)
    refine lv_if_ne (tgt := 35) hx hb dX9_paint_22 (by decide) (fun k8 => ?_) (fun k8 => ?_)
    · have h := x_f h k8
      refine lv_iload_n hx hb dX9_paint_35 rfl (lv_at hl 2 rfl) ?_
      refine lv_bipush (v := (64 : Int32)) hx hb dX9_paint_36 (by decide) ?_
      refine lv_imul hx hb dX9_paint_38 ?_
      refine lv_iload_n hx hb dX9_paint_39 rfl (lv_at hl 1 rfl) ?_
      refine lv_iadd hx hb dX9_paint_40 ?_
      obtain ⟨x9, ex9, h⟩ := x_bd h
      refine r_topI ex9 ?_
      refine lv_istore (lv' := [(4, .int x9), (0, .ref a0), (1, .int c1), (2, .int c2), (3, .int c3)]) hx hb dX9_paint_41 hl (by decide) rfl (fun ls hl => ?_)
      refine lv_aload_n hx hb dX9_paint_43 rfl (lv_at hl 1 rfl) ?_
      obtain ⟨q10, eq10, h⟩ := x_rf h
      obtain ⟨hLq10, hKq10⟩ := wt_q hG hL0 hK0 eq10
      have hKq10 : gK G q10 = 7 := hKq10
      refine r_getR (k := 2) cx w hL0 hK0 (by decide) rfl wj_X9_paint_X9 (by decide) rfl eq10 (List.mem_of_getElem? (i := 5) rfl) dX9_paint_44 ?_
      refine lv_iload hx hb dX9_paint_47 (lv_at hl 0 rfl) ?_
      obtain ⟨M11, r12, y13, h⟩ := x_cl h
      refine r_callVi (As := [.int x9]) (rest := []) cx w hkn hl.1 (k_X8_colourAt hG hLq10 hKq10 y13) (cwV 1 hts gX9_paint_X8_colourAt rfl rfl rfl (by decide +kernel) ⟨Nat.le_of_ble_eq_true rfl, Nat.le_of_ble_eq_true rfl⟩) hLq10 hKq10 (by decide) rfl rfl rfl (Nat.le_of_ble_eq_true rfl) dX9_paint_49 (fun H locs w => ?_)
      refine lv_istore (lv' := [(5, .int r12), (4, .int x9), (0, .ref a0), (1, .int c1), (2, .int c2), (3, .int c3)]) hx hb dX9_paint_52 hl (by decide) rfl (fun ls hl => ?_)
      refine lv_aload_n hx hb dX9_paint_54 rfl (lv_at hl 2 rfl) ?_
      obtain ⟨q14, eq14, h⟩ := x_rf h
      obtain ⟨hLq14, hKq14⟩ := wt_q hG hL0 hK0 eq14
      have hKq14 : gK G q14 = 7 := hKq14
      refine r_getR (k := 2) cx w hL0 hK0 (by decide) rfl wj_X9_paint_X9 (by decide) rfl eq14 (List.mem_of_getElem? (i := 5) rfl) dX9_paint_55 ?_
      refine lv_iload hx hb dX9_paint_58 (lv_at hl 1 rfl) ?_
      refine lv_iload_n hx hb dX9_paint_60 rfl (lv_at hl 5 rfl) ?_
      obtain ⟨M15, r16, y17, h⟩ := x_cl h
      refine r_callVv (As := [.int x9, .int c3]) (rest := []) cx w hkn hl.1 (k_X8_setStone hG hLq14 hKq14 y17) (cwV 2 hts gX9_paint_X8_setStone rfl rfl rfl (by decide +kernel) ⟨Nat.le_of_ble_eq_true rfl, Nat.le_of_ble_eq_true rfl⟩) hLq14 hKq14 (by decide) rfl rfl rfl (Nat.le_of_ble_eq_true rfl) dX9_paint_61 (fun H locs w => ?_)
      refine lv_iload hx hb dX9_paint_64 (lv_at hl 0 rfl) ?_
      exact r_xiret cx w h dX9_paint_66
    · have h := x_t h k8
      exact r_throw (cls := "java/lang/IllegalArgumentException") (text := "no such colour") (ik := 73) (is := 125) (ic := 77) cx w hst hex hl.1 h (by decide +kernel) (List.mem_of_getElem? (i := 3) rfl) (List.mem_of_getElem? (i := 4) rfl) (List.mem_of_getElem? (i := 4) rfl) (List.mem_of_getElem? (i := 0) rfl) wg_X9_paint_73 ng_73 ot_73 dX9_paint_25 dX9_paint_28 dX9_paint_29 dX9_paint_31 dX9_paint_34 (Nat.le_of_ble_eq_true rfl) (Nat.le_of_ble_eq_true rfl) (Nat.le_of_ble_eq_true rfl) (Nat.le_of_ble_eq_true rfl)
  · have h := x_t h k4
    exact r_throw (cls := "java/lang/IndexOutOfBoundsException") (text := "no such stone") (ik := 92) (is := 117) (ic := 96) cx w hst hex hl.1 h (by decide +kernel) (List.mem_of_getElem? (i := 1) rfl) (List.mem_of_getElem? (i := 2) rfl) (List.mem_of_getElem? (i := 3) rfl) (List.mem_of_getElem? (i := 2) rfl) wg_X9_paint_92 ng_92 ot_92 dX9_paint_8 dX9_paint_11 dX9_paint_12 dX9_paint_14 dX9_paint_17 (Nat.le_of_ble_eq_true rfl) (Nat.le_of_ble_eq_true rfl) (Nat.le_of_ble_eq_true rfl) (Nat.le_of_ble_eq_true rfl)
-- X9_wash, with its throws
theorem wj_X9_wash_X9 : ∀ w ∈ wsX90, w ∈ wsX9_wash := by decide +kernel
theorem wg_X9_wash_73 : ∀ w ∈ (vx_atS RX9 77 "java/lang/IllegalArgumentException" ex_names).filter goodWord, w ∈ wsX9_wash := by decide +kernel
theorem wg_X9_wash_92 : ∀ w ∈ (vx_atS RX9 96 "java/lang/IndexOutOfBoundsException" ex_names).filter goodWord, w ∈ wsX9_wash := by decide +kernel
abbrev rtX9_wash : Room := { frames := 6, cells := 1, slots := 6, locals := 120 }
def t_X9_wash_14 (G : gS) (a0 : Nat) (c1 : Int32) (c2 : Int32)  (M : mS)  : Option (mS × (Int32 ⊕ String)) := some (M, Sum.inr "java/lang/IndexOutOfBoundsException")
def t_X9_wash (G : gS) (M : mS) (a0 : Nat) (c1 : Int32) (c2 : Int32) : Option (mS × (Int32 ⊕ String)) := o_cl (m_X9_isLine G M c1) (fun M1 r2 => (if r2 = 0 then t_X9_wash_14 G a0 c1 c2 M1 else o_cl (m_X9_isLine G M1 c2) (fun M5 r6 => (if r6 = 0 then t_X9_wash_14 G a0 c1 c2 M5 else (if c1 ≤ c2 then o_rf (gP G a0 2) (fun q10 => o_cl (m_X8_washRows G M5 q10 c1 c2) (fun M11 r12 => some (M11, Sum.inl r12))) else some (M5, Sum.inr "java/lang/IllegalArgumentException"))))))
set_option maxHeartbeats 4000000 in
set_option maxRecDepth 100000 in
theorem bt_X9_wash_14 {p : Program} {e : Env} {s : State} {m : MethodId} {args : Array Value} {below : List Frame} {meth : Method} {c : Code} {A : Nat → Prop} {l : Launch} {D : va_G} {cy : cyS} {G : gS} (cx : cX p s m args meth c cX9_wash RX9 3 (some .int) wsX9_wash D cy G A) (hst : l.stackTraces = false) (hex : ∀ x ∈ c.exceptionTable.toList, False) (hkn : 0 ≤ (rtX9_wash).cells ∧ 0 ≤ (rtX9_wash).slots) {M' : mS} {r : Int32 ⊕ String} {a0 : Nat} {c1 : Int32} {c2 : Int32} (hL0 : a0 ∈ gL G) (hK0 : gK G a0 = 8)  : ∀ (M : mS) (H : Heap) (locs : List Loc) (ls : Array Slot), t_X9_wash_14 G a0 c1 c2 M = some (M', r) → wd D cy G M A s.heap H locs → lv_has ls 3 [] → W p l e rtX9_wash s m args below meth c H locs 0 0 (vx_MQ below (va_Qi (fun (r' : Int32) (_ : Unit) => r = .inl r') (fun _ t => wOut D cy G M' t) A) (vx_X (fun (_ : Unit) => True) (fun E _ t => r = .inr E ∧ wOut D cy G M' t) A) args s 1 6 A) (F0 m 14 ls []) := by
  obtain ⟨hx, hb, hml, hown, hts, hr, hlocks, hK, hA, hG, hsx⟩ := id cx
  intro M H locs ls h w hl
  unfold t_X9_wash_14 at h
  exact r_throw (cls := "java/lang/IndexOutOfBoundsException") (text := "no such row") (ik := 92) (is := 134) (ic := 96) cx w hst hex hl.1 h (by decide +kernel) (List.mem_of_getElem? (i := 1) rfl) (List.mem_of_getElem? (i := 2) rfl) (List.mem_of_getElem? (i := 5) rfl) (List.mem_of_getElem? (i := 2) rfl) wg_X9_wash_92 ng_92 ot_92 dX9_wash_14 dX9_wash_17 dX9_wash_18 dX9_wash_20 dX9_wash_23 (Nat.le_of_ble_eq_true rfl) (Nat.le_of_ble_eq_true rfl) (Nat.le_of_ble_eq_true rfl) (Nat.le_of_ble_eq_true rfl)
set_option maxHeartbeats 4000000 in
set_option maxRecDepth 100000 in
theorem kt_X9_wash {l : Launch} {D : va_G} {cy : cyS} {G : gS} {M M' : mS} {r : Int32 ⊕ String} {a0 : Nat} {c1 : Int32} {c2 : Int32} (hG : wt G) (hst : l.stackTraces = false) (hL0 : a0 ∈ gL G) (hK0 : gK G a0 = 8) (h : t_X9_wash G M a0 c1 c2 = some (M', r)) : ctX l yX9_wash wsX9_wash rtX9_wash D cy G M [.ref a0, .int c1, .int c2] M' r := by
  unfold t_X9_wash at h
  refine ctX_of (cc := cX9_wash) (nL := 3) (ret := (some .int)) (lv := [(0, .ref a0), (1, .int c1), (2, .int c2)]) hG (by decide) rfl (Nat.le_of_ble_eq_true rfl) rfl ?_
  intro p e s m args below meth c A ls cx hex w hl
  obtain ⟨hx, hb, hml, hown, hts, hr, hlocks, hK, hA, -, hsx⟩ := id cx
  have hkn : 0 ≤ (rtX9_wash).cells ∧ 0 ≤ (rtX9_wash).slots := ⟨Nat.zero_le _, Nat.zero_le _⟩
  refine lv_iload_n hx hb dX9_wash_0 rfl (lv_at hl 1 rfl) ?_
  obtain ⟨M1, r2, y3, h⟩ := x_cl h
  refine r_callSi (As := [.int c1]) (rest := []) cx w hkn hl.1 (k_X9_isLine hG y3) (va_cwS 1 hts gX9_wash_X9_isLine rfl rfl rfl (by decide +kernel) ⟨Nat.le_of_ble_eq_true rfl, Nat.le_of_ble_eq_true rfl⟩) rfl rfl (Nat.le_of_ble_eq_true rfl) dX9_wash_1 (fun H locs w => ?_)
  refine lv_if_eq (tgt := 14) hx hb dX9_wash_4 (by decide) (fun k4 => ?_) (fun k4 => ?_)
  · have h := x_t h k4
    exact bt_X9_wash_14 cx hst hex hkn hL0 hK0 M1 H locs ls h w (lv_sub hl [] rfl)
  · have h := x_f h k4
    refine lv_iload_n hx hb dX9_wash_7 rfl (lv_at hl 2 rfl) ?_
    obtain ⟨M5, r6, y7, h⟩ := x_cl h
    refine r_callSi (As := [.int c2]) (rest := []) cx w hkn hl.1 (k_X9_isLine hG y7) (va_cwS 1 hts gX9_wash_X9_isLine rfl rfl rfl (by decide +kernel) ⟨Nat.le_of_ble_eq_true rfl, Nat.le_of_ble_eq_true rfl⟩) rfl rfl (Nat.le_of_ble_eq_true rfl) dX9_wash_8 (fun H locs w => ?_)
    refine lv_if_ne (tgt := 24) hx hb dX9_wash_11 (by decide) (fun k8 => ?_) (fun k8 => ?_)
    · have h := x_f h k8
      refine lv_iload_n hx hb dX9_wash_24 rfl (lv_at hl 1 rfl) ?_
      refine lv_iload_n hx hb dX9_wash_25 rfl (lv_at hl 2 rfl) ?_
      refine lv_icmp_le (tgt := 39) hx hb dX9_wash_26 (by decide) (fun k9 => ?_) (fun k9 => ?_)
      · have h := x_t h k9
        refine lv_aload_n hx hb dX9_wash_39 rfl (lv_at hl 0 rfl) ?_
        obtain ⟨q10, eq10, h⟩ := x_rf h
        obtain ⟨hLq10, hKq10⟩ := wt_q hG hL0 hK0 eq10
        have hKq10 : gK G q10 = 7 := hKq10
        refine r_getR (k := 2) cx w hL0 hK0 (by decide) rfl wj_X9_wash_X9 (by decide) rfl eq10 (List.mem_of_getElem? (i := 5) rfl) dX9_wash_40 ?_
        refine lv_iload_n hx hb dX9_wash_43 rfl (lv_at hl 1 rfl) ?_
        refine lv_iload_n hx hb dX9_wash_44 rfl (lv_at hl 2 rfl) ?_
        obtain ⟨M11, r12, y13, h⟩ := x_cl h
        refine r_callVi (As := [.int c1, .int c2]) (rest := []) cx w hkn hl.1 (k_X8_washRows hG hLq10 hKq10 y13) (cwV 2 hts gX9_wash_X8_washRows rfl rfl rfl (by decide +kernel) ⟨Nat.le_of_ble_eq_true rfl, Nat.le_of_ble_eq_true rfl⟩) hLq10 hKq10 (by decide) rfl rfl rfl (Nat.le_of_ble_eq_true rfl) dX9_wash_45 (fun H locs w => ?_)
        exact r_xiret cx w h dX9_wash_48
      · have h := x_f h k9
        exact r_throw (cls := "java/lang/IllegalArgumentException") (text := "the first row is behind the last one") (ik := 73) (is := 163) (ic := 77) cx w hst hex hl.1 h (by decide +kernel) (List.mem_of_getElem? (i := 3) rfl) (List.mem_of_getElem? (i := 4) rfl) (List.mem_of_getElem? (i := 8) rfl) (List.mem_of_getElem? (i := 0) rfl) wg_X9_wash_73 ng_73 ot_73 dX9_wash_29 dX9_wash_32 dX9_wash_33 dX9_wash_35 dX9_wash_38 (Nat.le_of_ble_eq_true rfl) (Nat.le_of_ble_eq_true rfl) (Nat.le_of_ble_eq_true rfl) (Nat.le_of_ble_eq_true rfl)
    · have h := x_t h k8
      exact bt_X9_wash_14 cx hst hex hkn hL0 hK0 M5 H locs ls h w (lv_sub hl [] rfl)
-- X9_face, with its throws
theorem wj_X9_face_X0 : ∀ w ∈ wsX00, w ∈ wsX9_face := by decide +kernel
theorem wj_X9_face_X8 : ∀ w ∈ wsX80, w ∈ wsX9_face := by decide +kernel
theorem wj_X9_face_X9 : ∀ w ∈ wsX90, w ∈ wsX9_face := by decide +kernel
theorem wg_X9_face_92 : ∀ w ∈ (vx_atS RX9 96 "java/lang/IndexOutOfBoundsException" ex_names).filter goodWord, w ∈ wsX9_face := by decide +kernel
abbrev rtX9_face : Room := { frames := 6, cells := 1, slots := 6, locals := 120 }
def t_X9_face_17 (G : gS) (a0 : Nat) (c1 : Int32) (c2 : Int32)  (M : mS)  : Option (mS × (Int32 ⊕ String)) := some (M, Sum.inr "java/lang/IndexOutOfBoundsException")
def t_X9_face (G : gS) (M : mS) (a0 : Nat) (c1 : Int32) (c2 : Int32) : Option (mS × (Int32 ⊕ String)) := o_cl (m_X9_isAnt G M a0 c1) (fun M1 r2 => (if r2 = 0 then t_X9_face_17 G a0 c1 c2 M1 else (if c2 < 0 then t_X9_face_17 G a0 c1 c2 M1 else (if c2 < (4 : Int32) then o_rf (gP G a0 2) (fun q7 => o_rf (gP G q7 3) (fun q8 => o_ix c1 (gN G q8) (o_rf (gP G q8 (Int32.toNatClampNeg c1)) (fun q10 => o_bd ((mI M1 q10 3)) (fun x11 => o_rf (gP G a0 2) (fun q12 => o_rf (gP G q12 3) (fun q13 => o_ix c1 (gN G q13) (o_rf (gP G q13 (Int32.toNatClampNeg c1)) (fun q15 => o_cl (m_X0_turnTo G M1 q15 c2) (fun M16 r17 => some (M16, Sum.inl x11))))))))))) else t_X9_face_17 G a0 c1 c2 M1))))
set_option maxHeartbeats 4000000 in
set_option maxRecDepth 100000 in
theorem bt_X9_face_17 {p : Program} {e : Env} {s : State} {m : MethodId} {args : Array Value} {below : List Frame} {meth : Method} {c : Code} {A : Nat → Prop} {l : Launch} {D : va_G} {cy : cyS} {G : gS} (cx : cX p s m args meth c cX9_face RX9 4 (some .int) wsX9_face D cy G A) (hst : l.stackTraces = false) (hex : ∀ x ∈ c.exceptionTable.toList, False) (hkn : 0 ≤ (rtX9_face).cells ∧ 0 ≤ (rtX9_face).slots) {M' : mS} {r : Int32 ⊕ String} {a0 : Nat} {c1 : Int32} {c2 : Int32} (hL0 : a0 ∈ gL G) (hK0 : gK G a0 = 8)  : ∀ (M : mS) (H : Heap) (locs : List Loc) (ls : Array Slot), t_X9_face_17 G a0 c1 c2 M = some (M', r) → wd D cy G M A s.heap H locs → lv_has ls 4 [] → W p l e rtX9_face s m args below meth c H locs 0 0 (vx_MQ below (va_Qi (fun (r' : Int32) (_ : Unit) => r = .inl r') (fun _ t => wOut D cy G M' t) A) (vx_X (fun (_ : Unit) => True) (fun E _ t => r = .inr E ∧ wOut D cy G M' t) A) args s 1 6 A) (F0 m 17 ls []) := by
  obtain ⟨hx, hb, hml, hown, hts, hr, hlocks, hK, hA, hG, hsx⟩ := id cx
  intro M H locs ls h w hl
  unfold t_X9_face_17 at h
  exact r_throw (cls := "java/lang/IndexOutOfBoundsException") (text := "no such ant or side") (ik := 92) (is := 168) (ic := 96) cx w hst hex hl.1 h (by decide +kernel) (List.mem_of_getElem? (i := 1) rfl) (List.mem_of_getElem? (i := 2) rfl) (List.mem_of_getElem? (i := 9) rfl) (List.mem_of_getElem? (i := 2) rfl) wg_X9_face_92 ng_92 ot_92 dX9_face_17 dX9_face_20 dX9_face_21 dX9_face_23 dX9_face_26 (Nat.le_of_ble_eq_true rfl) (Nat.le_of_ble_eq_true rfl) (Nat.le_of_ble_eq_true rfl) (Nat.le_of_ble_eq_true rfl)
set_option maxHeartbeats 4000000 in
set_option maxRecDepth 100000 in
theorem kt_X9_face {l : Launch} {D : va_G} {cy : cyS} {G : gS} {M M' : mS} {r : Int32 ⊕ String} {a0 : Nat} {c1 : Int32} {c2 : Int32} (hG : wt G) (hst : l.stackTraces = false) (hL0 : a0 ∈ gL G) (hK0 : gK G a0 = 8) (h : t_X9_face G M a0 c1 c2 = some (M', r)) : ctX l yX9_face wsX9_face rtX9_face D cy G M [.ref a0, .int c1, .int c2] M' r := by
  unfold t_X9_face at h
  refine ctX_of (cc := cX9_face) (nL := 4) (ret := (some .int)) (lv := [(0, .ref a0), (1, .int c1), (2, .int c2)]) hG (by decide) rfl (Nat.le_of_ble_eq_true rfl) rfl ?_
  intro p e s m args below meth c A ls cx hex w hl
  obtain ⟨hx, hb, hml, hown, hts, hr, hlocks, hK, hA, -, hsx⟩ := id cx
  have hkn : 0 ≤ (rtX9_face).cells ∧ 0 ≤ (rtX9_face).slots := ⟨Nat.zero_le _, Nat.zero_le _⟩
  refine lv_aload_n hx hb dX9_face_0 rfl (lv_at hl 0 rfl) ?_
  refine lv_iload_n hx hb dX9_face_1 rfl (lv_at hl 1 rfl) ?_
  obtain ⟨M1, r2, y3, h⟩ := x_cl h
  refine r_callVi (As := [.int c1]) (rest := []) cx w hkn hl.1 (k_X9_isAnt hG hL0 hK0 y3) (cwV 1 hts gX9_face_X9_isAnt rfl rfl rfl (by decide +kernel) ⟨Nat.le_of_ble_eq_true rfl, Nat.le_of_ble_eq_true rfl⟩) hL0 hK0 (by decide) rfl rfl rfl (Nat.le_of_ble_eq_true rfl) dX9_face_2 (fun H locs w => ?_)
  refine lv_if_eq (tgt := 17) hx hb dX9_face_5 (by decide) (fun k4 => ?_) (fun k4 => ?_)
  · have h := x_t h k4
    exact bt_X9_face_17 cx hst hex hkn hL0 hK0 M1 H locs ls h w (lv_sub hl [] rfl)
  · have h := x_f h k4
    refine lv_iload_n hx hb dX9_face_8 rfl (lv_at hl 2 rfl) ?_
    refine lv_if_lt (tgt := 17) hx hb dX9_face_9 (by decide) (fun k5 => ?_) (fun k5 => ?_)
    · have h := x_t h k5
      exact bt_X9_face_17 cx hst hex hkn hL0 hK0 M1 H locs ls h w (lv_sub hl [] rfl)
    · have h := x_f h k5
      refine lv_iload_n hx hb dX9_face_12 rfl (lv_at hl 2 rfl) ?_
      refine lv_iconst (v := (4 : Int32)) hx hb dX9_face_13 (by decide) ?_
      refine lv_icmp_lt (tgt := 27) hx hb dX9_face_14 (by decide) (fun k6 => ?_) (fun k6 => ?_)
      · have h := x_t h k6
        refine lv_aload_n hx hb dX9_face_27 rfl (lv_at hl 0 rfl) ?_
        obtain ⟨q7, eq7, h⟩ := x_rf h
        obtain ⟨hLq7, hKq7⟩ := wt_q hG hL0 hK0 eq7
        have hKq7 : gK G q7 = 7 := hKq7
        refine r_getR (k := 2) cx w hL0 hK0 (by decide) rfl wj_X9_face_X9 (by decide) rfl eq7 (List.mem_of_getElem? (i := 3) rfl) dX9_face_28 ?_
        obtain ⟨q8, eq8, h⟩ := x_rf h
        obtain ⟨hLq8, hKq8⟩ := wt_q hG hLq7 hKq7 eq8
        have hKq8 : gK G q8 = 14 := hKq8
        refine r_getR (k := 3) cx w hLq7 hKq7 (by decide) rfl wj_X9_face_X8 (by decide) rfl eq8 (List.mem_of_getElem? (i := 4) rfl) dX9_face_31 ?_
        refine lv_iload_n hx hb dX9_face_34 rfl (lv_at hl 1 rfl) ?_
        obtain ⟨z9, h⟩ := x_ix h
        obtain ⟨q10, eq10, h⟩ := x_rf h
        obtain ⟨hLq10, hKq10⟩ := wt_q hG hLq8 hKq8 eq10
        have hKq10 : gK G q10 = 0 := hKq10
        refine r_aald cx w hLq8 hKq8 z9 eq10 dX9_face_35 ?_
        refine r_getI (k := 3) (v := .int (mI M1 q10 3)) cx w hLq10 hKq10 (by decide) rfl wj_X9_face_X0 (by decide) rfl (List.mem_of_getElem? (i := 5) rfl) dX9_face_36 ?_
        obtain ⟨x11, ex11, h⟩ := x_bd h
        refine r_topI ex11 ?_
        refine lv_istore_n (lv' := [(3, .int x11), (0, .ref a0), (1, .int c1), (2, .int c2)]) hx hb dX9_face_39 rfl hl (by decide) rfl (fun ls hl => ?_)
        refine lv_aload_n hx hb dX9_face_40 rfl (lv_at hl 1 rfl) ?_
        obtain ⟨q12, eq12, h⟩ := x_rf h
        obtain ⟨hLq12, hKq12⟩ := wt_q hG hL0 hK0 eq12
        have hKq12 : gK G q12 = 7 := hKq12
        refine r_getR (k := 2) cx w hL0 hK0 (by decide) rfl wj_X9_face_X9 (by decide) rfl eq12 (List.mem_of_getElem? (i := 3) rfl) dX9_face_41 ?_
        obtain ⟨q13, eq13, h⟩ := x_rf h
        obtain ⟨hLq13, hKq13⟩ := wt_q hG hLq12 hKq12 eq13
        have hKq13 : gK G q13 = 14 := hKq13
        refine r_getR (k := 3) cx w hLq12 hKq12 (by decide) rfl wj_X9_face_X8 (by decide) rfl eq13 (List.mem_of_getElem? (i := 4) rfl) dX9_face_44 ?_
        refine lv_iload_n hx hb dX9_face_47 rfl (lv_at hl 2 rfl) ?_
        obtain ⟨z14, h⟩ := x_ix h
        obtain ⟨q15, eq15, h⟩ := x_rf h
        obtain ⟨hLq15, hKq15⟩ := wt_q hG hLq13 hKq13 eq15
        have hKq15 : gK G q15 = 0 := hKq15
        refine r_aald cx w hLq13 hKq13 z14 eq15 dX9_face_48 ?_
        refine lv_iload_n hx hb dX9_face_49 rfl (lv_at hl 3 rfl) ?_
        obtain ⟨M16, r17, y18, h⟩ := x_cl h
        refine r_callVv (As := [.int c2]) (rest := []) cx w hkn hl.1 (k_X0_turnTo hG hLq15 hKq15 y18) (cwV 1 hts gX9_face_X0_turnTo rfl rfl rfl (by decide +kernel) ⟨Nat.le_of_ble_eq_true rfl, Nat.le_of_ble_eq_true rfl⟩) hLq15 hKq15 (by decide) rfl rfl rfl (Nat.le_of_ble_eq_true rfl) dX9_face_50 (fun H locs w => ?_)
        refine lv_iload_n hx hb dX9_face_53 rfl (lv_at hl 0 rfl) ?_
        exact r_xiret cx w h dX9_face_54
      · have h := x_f h k6
        exact bt_X9_face_17 cx hst hex hkn hL0 hK0 M1 H locs ls h w (lv_sub hl [] rfl)
-- X9_halt, with its throws
theorem wj_X9_halt_X0 : ∀ w ∈ wsX00, w ∈ wsX9_halt := by decide +kernel
theorem wj_X9_halt_X8 : ∀ w ∈ wsX80, w ∈ wsX9_halt := by decide +kernel
theorem wj_X9_halt_X9 : ∀ w ∈ wsX90, w ∈ wsX9_halt := by decide +kernel
theorem wg_X9_halt_92 : ∀ w ∈ (vx_atS RX9 96 "java/lang/IndexOutOfBoundsException" ex_names).filter goodWord, w ∈ wsX9_halt := by decide +kernel
abbrev rtX9_halt : Room := { frames := 6, cells := 1, slots := 6, locals := 120 }
def t_X9_halt_47 (G : gS) (a0 : Nat) (c1 : Int32)  (M : mS) (s0 : Nat) (s1 : Int32) : Option (mS × (Int32 ⊕ String)) := o_ck (s1 = 0 ∨ s1 = 1) (o_wI M s0 4 s1 (fun M2 => o_rf (gP G a0 2) (fun q3 => o_rf (gP G q3 3) (fun q4 => o_ix c1 (gN G q4) (o_rf (gP G q4 (Int32.toNatClampNeg c1)) (fun q6 => o_ck ((mI M2 q6 4) = 0 ∨ (mI M2 q6 4) = 1) (some (M2, Sum.inl (mI M2 q6 4)))))))))
def t_X9_halt (G : gS) (M : mS) (a0 : Nat) (c1 : Int32) : Option (mS × (Int32 ⊕ String)) := o_cl (m_X9_isAnt G M a0 c1) (fun M1 r2 => (if r2 = 0 then some (M1, Sum.inr "java/lang/IndexOutOfBoundsException") else o_rf (gP G a0 2) (fun q5 => o_rf (gP G q5 3) (fun q6 => o_ix c1 (gN G q6) (o_rf (gP G q6 (Int32.toNatClampNeg c1)) (fun q8 => o_rf (gP G a0 2) (fun q9 => o_rf (gP G q9 3) (fun q10 => o_ix c1 (gN G q10) (o_rf (gP G q10 (Int32.toNatClampNeg c1)) (fun q12 => (if (mI M1 q12 4) = 0 then t_X9_halt_47 G a0 c1 M1 q8 ((1 : Int32)) else t_X9_halt_47 G a0 c1 M1 q8 ((0 : Int32)))))))))))))
set_option maxHeartbeats 4000000 in
set_option maxRecDepth 100000 in
theorem bt_X9_halt_47 {p : Program} {e : Env} {s : State} {m : MethodId} {args : Array Value} {below : List Frame} {meth : Method} {c : Code} {A : Nat → Prop} {l : Launch} {D : va_G} {cy : cyS} {G : gS} (cx : cX p s m args meth c cX9_halt RX9 2 (some .boolean) wsX9_halt D cy G A) (hst : l.stackTraces = false) (hex : ∀ x ∈ c.exceptionTable.toList, False) (hkn : 0 ≤ (rtX9_halt).cells ∧ 0 ≤ (rtX9_halt).slots) {M' : mS} {r : Int32 ⊕ String} {a0 : Nat} {c1 : Int32} (hL0 : a0 ∈ gL G) (hK0 : gK G a0 = 8)  : ∀ (M : mS) (s0 : Nat) (s1 : Int32) (H : Heap) (locs : List Loc) (ls : Array Slot), s0 ∈ gL G → gK G s0 = 0 → t_X9_halt_47 G a0 c1 M s0 s1 = some (M', r) → wd D cy G M A s.heap H locs → lv_has ls 2 [(0, .ref a0), (1, .int c1)] → W p l e rtX9_halt s m args below meth c H locs 0 0 (vx_MQ below (va_Qi (fun (r' : Int32) (_ : Unit) => r = .inl r') (fun _ t => wOut D cy G M' t) A) (vx_X (fun (_ : Unit) => True) (fun E _ t => r = .inr E ∧ wOut D cy G M' t) A) args s 1 6 A) (F0 m 47 ls [.int s1, .ref s0]) := by
  obtain ⟨hx, hb, hml, hown, hts, hr, hlocks, hK, hA, hG, hsx⟩ := id cx
  intro M s0 s1 H locs ls sL0 sK0 h w hl
  unfold t_X9_halt_47 at h
  obtain ⟨z1, h⟩ := x_ck h
  obtain ⟨M2, eM2, h⟩ := x_wI h
  refine r_putI (k := 4) (ty := .boolean) cx w tyX0 tyX0_ok nmX0 sL0 sK0 (by decide) rfl wj_X9_halt_X0 (by decide) rfl rfl (z_nar z1) (z_fit z1) st_0_4 (ln_0 _ _ (by decide)) (List.mem_of_getElem? (i := 5) rfl) dX9_halt_47 eM2 (fun H locs w => ?_)
  refine lv_aload_n hx hb dX9_halt_50 rfl (lv_at hl 0 rfl) ?_
  obtain ⟨q3, eq3, h⟩ := x_rf h
  obtain ⟨hLq3, hKq3⟩ := wt_q hG hL0 hK0 eq3
  have hKq3 : gK G q3 = 7 := hKq3
  refine r_getR (k := 2) cx w hL0 hK0 (by decide) rfl wj_X9_halt_X9 (by decide) rfl eq3 (List.mem_of_getElem? (i := 3) rfl) dX9_halt_51 ?_
  obtain ⟨q4, eq4, h⟩ := x_rf h
  obtain ⟨hLq4, hKq4⟩ := wt_q hG hLq3 hKq3 eq4
  have hKq4 : gK G q4 = 14 := hKq4
  refine r_getR (k := 3) cx w hLq3 hKq3 (by decide) rfl wj_X9_halt_X8 (by decide) rfl eq4 (List.mem_of_getElem? (i := 4) rfl) dX9_halt_54 ?_
  refine lv_iload_n hx hb dX9_halt_57 rfl (lv_at hl 1 rfl) ?_
  obtain ⟨z5, h⟩ := x_ix h
  obtain ⟨q6, eq6, h⟩ := x_rf h
  obtain ⟨hLq6, hKq6⟩ := wt_q hG hLq4 hKq4 eq6
  have hKq6 : gK G q6 = 0 := hKq6
  refine r_aald cx w hLq4 hKq4 z5 eq6 dX9_halt_58 ?_
  refine r_getI (k := 4) (v := .int (mI M2 q6 4)) cx w hLq6 hKq6 (by decide) rfl wj_X9_halt_X0 (by decide) rfl (List.mem_of_getElem? (i := 5) rfl) dX9_halt_59 ?_
  obtain ⟨z7, h⟩ := x_ck h
  exact r_xzret cx w z7 h dX9_halt_62
set_option maxHeartbeats 4000000 in
set_option maxRecDepth 100000 in
theorem kt_X9_halt {l : Launch} {D : va_G} {cy : cyS} {G : gS} {M M' : mS} {r : Int32 ⊕ String} {a0 : Nat} {c1 : Int32} (hG : wt G) (hst : l.stackTraces = false) (hL0 : a0 ∈ gL G) (hK0 : gK G a0 = 8) (h : t_X9_halt G M a0 c1 = some (M', r)) : ctX l yX9_halt wsX9_halt rtX9_halt D cy G M [.ref a0, .int c1] M' r := by
  unfold t_X9_halt at h
  refine ctX_of (cc := cX9_halt) (nL := 2) (ret := (some .boolean)) (lv := [(0, .ref a0), (1, .int c1)]) hG (by decide) rfl (Nat.le_of_ble_eq_true rfl) rfl ?_
  intro p e s m args below meth c A ls cx hex w hl
  obtain ⟨hx, hb, hml, hown, hts, hr, hlocks, hK, hA, -, hsx⟩ := id cx
  have hkn : 0 ≤ (rtX9_halt).cells ∧ 0 ≤ (rtX9_halt).slots := ⟨Nat.zero_le _, Nat.zero_le _⟩
  refine lv_aload_n hx hb dX9_halt_0 rfl (lv_at hl 0 rfl) ?_
  refine lv_iload_n hx hb dX9_halt_1 rfl (lv_at hl 1 rfl) ?_
  obtain ⟨M1, r2, y3, h⟩ := x_cl h
  refine r_callVi (As := [.int c1]) (rest := []) cx w hkn hl.1 (k_X9_isAnt hG hL0 hK0 y3) (cwV 1 hts gX9_halt_X9_isAnt rfl rfl rfl (by decide +kernel) ⟨Nat.le_of_ble_eq_true rfl, Nat.le_of_ble_eq_true rfl⟩) hL0 hK0 (by decide) rfl rfl rfl (Nat.le_of_ble_eq_true rfl) dX9_halt_2 (fun H locs w => ?_)
  refine lv_if_ne (tgt := 18) hx hb dX9_halt_5 (by decide) (fun k4 => ?_) (fun k4 => ?_)
  · have h := x_f h k4
    refine lv_aload_n hx hb dX9_halt_18 rfl (lv_at hl 0 rfl) ?_
    obtain ⟨q5, eq5, h⟩ := x_rf h
    obtain ⟨hLq5, hKq5⟩ := wt_q hG hL0 hK0 eq5
    have hKq5 : gK G q5 = 7 := hKq5
    refine r_getR (k := 2) cx w hL0 hK0 (by decide) rfl wj_X9_halt_X9 (by decide) rfl eq5 (List.mem_of_getElem? (i := 3) rfl) dX9_halt_19 ?_
    obtain ⟨q6, eq6, h⟩ := x_rf h
    obtain ⟨hLq6, hKq6⟩ := wt_q hG hLq5 hKq5 eq6
    have hKq6 : gK G q6 = 14 := hKq6
    refine r_getR (k := 3) cx w hLq5 hKq5 (by decide) rfl wj_X9_halt_X8 (by decide) rfl eq6 (List.mem_of_getElem? (i := 4) rfl) dX9_halt_22 ?_
    refine lv_iload_n hx hb dX9_halt_25 rfl (lv_at hl 1 rfl) ?_
    obtain ⟨z7, h⟩ := x_ix h
    obtain ⟨q8, eq8, h⟩ := x_rf h
    obtain ⟨hLq8, hKq8⟩ := wt_q hG hLq6 hKq6 eq8
    have hKq8 : gK G q8 = 0 := hKq8
    refine r_aald cx w hLq6 hKq6 z7 eq8 dX9_halt_26 ?_
    refine lv_aload_n hx hb dX9_halt_27 rfl (lv_at hl 0 rfl) ?_
    obtain ⟨q9, eq9, h⟩ := x_rf h
    obtain ⟨hLq9, hKq9⟩ := wt_q hG hL0 hK0 eq9
    have hKq9 : gK G q9 = 7 := hKq9
    refine r_getR (k := 2) cx w hL0 hK0 (by decide) rfl wj_X9_halt_X9 (by decide) rfl eq9 (List.mem_of_getElem? (i := 3) rfl) dX9_halt_28 ?_
    obtain ⟨q10, eq10, h⟩ := x_rf h
    obtain ⟨hLq10, hKq10⟩ := wt_q hG hLq9 hKq9 eq10
    have hKq10 : gK G q10 = 14 := hKq10
    refine r_getR (k := 3) cx w hLq9 hKq9 (by decide) rfl wj_X9_halt_X8 (by decide) rfl eq10 (List.mem_of_getElem? (i := 4) rfl) dX9_halt_31 ?_
    refine lv_iload_n hx hb dX9_halt_34 rfl (lv_at hl 1 rfl) ?_
    obtain ⟨z11, h⟩ := x_ix h
    obtain ⟨q12, eq12, h⟩ := x_rf h
    obtain ⟨hLq12, hKq12⟩ := wt_q hG hLq10 hKq10 eq12
    have hKq12 : gK G q12 = 0 := hKq12
    refine r_aald cx w hLq10 hKq10 z11 eq12 dX9_halt_35 ?_
    refine r_getI (k := 4) (v := .int (mI M1 q12 4)) cx w hLq12 hKq12 (by decide) rfl wj_X9_halt_X0 (by decide) rfl (List.mem_of_getElem? (i := 5) rfl) dX9_halt_36 ?_
    refine lv_if_ne (tgt := 46) hx hb dX9_halt_39 (by decide) (fun k13 => ?_) (fun k13 => ?_)
    · have h := x_f h k13
      refine lv_iconst (v := (0 : Int32)) hx hb dX9_halt_46 (by decide) ?_
      exact bt_X9_halt_47 cx hst hex hkn hL0 hK0 M1 q8 ((0 : Int32)) H locs ls hLq8 hKq8 h w (lv_sub hl [0, 1] rfl)
    · have h := x_t h k13
      refine lv_iconst (v := (1 : Int32)) hx hb dX9_halt_42 (by decide) ?_
      refine lv_goto (tgt := 47) hx hb dX9_halt_43 (by decide) ?_
      exact bt_X9_halt_47 cx hst hex hkn hL0 hK0 M1 q8 ((1 : Int32)) H locs ls hLq8 hKq8 h w (lv_sub hl [0, 1] rfl)
  · have h := x_t h k4
    exact r_throw (cls := "java/lang/IndexOutOfBoundsException") (text := "no such ant") (ik := 92) (is := 176) (ic := 96) cx w hst hex hl.1 h (by decide +kernel) (List.mem_of_getElem? (i := 1) rfl) (List.mem_of_getElem? (i := 2) rfl) (List.mem_of_getElem? (i := 10) rfl) (List.mem_of_getElem? (i := 2) rfl) wg_X9_halt_92 ng_92 ot_92 dX9_halt_8 dX9_halt_11 dX9_halt_12 dX9_halt_14 dX9_halt_17 (Nat.le_of_ble_eq_true rfl) (Nat.le_of_ble_eq_true rfl) (Nat.le_of_ble_eq_true rfl) (Nat.le_of_ble_eq_true rfl)
-- X9_place, with its throws
theorem wj_X9_place_X8 : ∀ w ∈ wsX80, w ∈ wsX9_place := by decide +kernel
theorem wj_X9_place_X9 : ∀ w ∈ wsX90, w ∈ wsX9_place := by decide +kernel
theorem wg_X9_place_92 : ∀ w ∈ (vx_atS RX9 96 "java/lang/IndexOutOfBoundsException" ex_names).filter goodWord, w ∈ wsX9_place := by decide +kernel
abbrev rtX9_place : Room := { frames := 6, cells := 1, slots := 6, locals := 120 }
def t_X9_place_16 (G : gS) (a0 : Nat) (c1 : Int32) (c2 : Int32) (c3 : Int32)  (M : mS)  : Option (mS × (Int32 ⊕ String)) := some (M, Sum.inr "java/lang/IndexOutOfBoundsException")
def t_X9_place (G : gS) (M : mS) (a0 : Nat) (c1 : Int32) (c2 : Int32) (c3 : Int32) : Option (mS × (Int32 ⊕ String)) := o_cl (m_X9_isAnt G M a0 c1) (fun M1 r2 => (if r2 = 0 then t_X9_place_16 G a0 c1 c2 c3 M1 else o_cl (m_X9_isStone G M1 c2 c3) (fun M5 r6 => (if r6 = 0 then t_X9_place_16 G a0 c1 c2 c3 M5 else o_rf (gP G a0 2) (fun q9 => o_rf (gP G q9 3) (fun q10 => o_ix c1 (gN G q10) (o_rf (gP G q10 (Int32.toNatClampNeg c1)) (fun q12 => o_cl (m_X0_stoneUnder G M5 q12) (fun M13 r14 => o_rf (gP G a0 2) (fun q16 => o_rf (gP G q16 3) (fun q17 => o_ix c1 (gN G q17) (o_rf (gP G q17 (Int32.toNatClampNeg c1)) (fun q19 => o_cl (m_X0_moveTo G M13 q19 c2 c3) (fun M20 r21 => some (M20, Sum.inl r14)))))))))))))))
set_option maxHeartbeats 4000000 in
set_option maxRecDepth 100000 in
theorem bt_X9_place_16 {p : Program} {e : Env} {s : State} {m : MethodId} {args : Array Value} {below : List Frame} {meth : Method} {c : Code} {A : Nat → Prop} {l : Launch} {D : va_G} {cy : cyS} {G : gS} (cx : cX p s m args meth c cX9_place RX9 5 (some .int) wsX9_place D cy G A) (hst : l.stackTraces = false) (hex : ∀ x ∈ c.exceptionTable.toList, False) (hkn : 0 ≤ (rtX9_place).cells ∧ 0 ≤ (rtX9_place).slots) {M' : mS} {r : Int32 ⊕ String} {a0 : Nat} {c1 : Int32} {c2 : Int32} {c3 : Int32} (hL0 : a0 ∈ gL G) (hK0 : gK G a0 = 8)  : ∀ (M : mS) (H : Heap) (locs : List Loc) (ls : Array Slot), t_X9_place_16 G a0 c1 c2 c3 M = some (M', r) → wd D cy G M A s.heap H locs → lv_has ls 5 [] → W p l e rtX9_place s m args below meth c H locs 0 0 (vx_MQ below (va_Qi (fun (r' : Int32) (_ : Unit) => r = .inl r') (fun _ t => wOut D cy G M' t) A) (vx_X (fun (_ : Unit) => True) (fun E _ t => r = .inr E ∧ wOut D cy G M' t) A) args s 1 6 A) (F0 m 16 ls []) := by
  obtain ⟨hx, hb, hml, hown, hts, hr, hlocks, hK, hA, hG, hsx⟩ := id cx
  intro M H locs ls h w hl
  unfold t_X9_place_16 at h
  exact r_throw (cls := "java/lang/IndexOutOfBoundsException") (text := "no such ant or stone") (ik := 92) (is := 182) (ic := 96) cx w hst hex hl.1 h (by decide +kernel) (List.mem_of_getElem? (i := 1) rfl) (List.mem_of_getElem? (i := 2) rfl) (List.mem_of_getElem? (i := 11) rfl) (List.mem_of_getElem? (i := 2) rfl) wg_X9_place_92 ng_92 ot_92 dX9_place_16 dX9_place_19 dX9_place_20 dX9_place_22 dX9_place_25 (Nat.le_of_ble_eq_true rfl) (Nat.le_of_ble_eq_true rfl) (Nat.le_of_ble_eq_true rfl) (Nat.le_of_ble_eq_true rfl)
set_option maxHeartbeats 4000000 in
set_option maxRecDepth 100000 in
theorem kt_X9_place {l : Launch} {D : va_G} {cy : cyS} {G : gS} {M M' : mS} {r : Int32 ⊕ String} {a0 : Nat} {c1 : Int32} {c2 : Int32} {c3 : Int32} (hG : wt G) (hst : l.stackTraces = false) (hL0 : a0 ∈ gL G) (hK0 : gK G a0 = 8) (h : t_X9_place G M a0 c1 c2 c3 = some (M', r)) : ctX l yX9_place wsX9_place rtX9_place D cy G M [.ref a0, .int c1, .int c2, .int c3] M' r := by
  unfold t_X9_place at h
  refine ctX_of (cc := cX9_place) (nL := 5) (ret := (some .int)) (lv := [(0, .ref a0), (1, .int c1), (2, .int c2), (3, .int c3)]) hG (by decide) rfl (Nat.le_of_ble_eq_true rfl) rfl ?_
  intro p e s m args below meth c A ls cx hex w hl
  obtain ⟨hx, hb, hml, hown, hts, hr, hlocks, hK, hA, -, hsx⟩ := id cx
  have hkn : 0 ≤ (rtX9_place).cells ∧ 0 ≤ (rtX9_place).slots := ⟨Nat.zero_le _, Nat.zero_le _⟩
  refine lv_aload_n hx hb dX9_place_0 rfl (lv_at hl 0 rfl) ?_
  refine lv_iload_n hx hb dX9_place_1 rfl (lv_at hl 1 rfl) ?_
  obtain ⟨M1, r2, y3, h⟩ := x_cl h
  refine r_callVi (As := [.int c1]) (rest := []) cx w hkn hl.1 (k_X9_isAnt hG hL0 hK0 y3) (cwV 1 hts gX9_place_X9_isAnt rfl rfl rfl (by decide +kernel) ⟨Nat.le_of_ble_eq_true rfl, Nat.le_of_ble_eq_true rfl⟩) hL0 hK0 (by decide) rfl rfl rfl (Nat.le_of_ble_eq_true rfl) dX9_place_2 (fun H locs w => ?_)
  refine lv_if_eq (tgt := 16) hx hb dX9_place_5 (by decide) (fun k4 => ?_) (fun k4 => ?_)
  · have h := x_t h k4
    exact bt_X9_place_16 cx hst hex hkn hL0 hK0 M1 H locs ls h w (lv_sub hl [] rfl)
  · have h := x_f h k4
    refine lv_iload_n hx hb dX9_place_8 rfl (lv_at hl 2 rfl) ?_
    refine lv_iload_n hx hb dX9_place_9 rfl (lv_at hl 3 rfl) ?_
    obtain ⟨M5, r6, y7, h⟩ := x_cl h
    refine r_callSi (As := [.int c2, .int c3]) (rest := []) cx w hkn hl.1 (k_X9_isStone hG y7) (va_cwS 2 hts gX9_place_X9_isStone rfl rfl rfl (by decide +kernel) ⟨Nat.le_of_ble_eq_true rfl, Nat.le_of_ble_eq_true rfl⟩) rfl rfl (Nat.le_of_ble_eq_true rfl) dX9_place_10 (fun H locs w => ?_)
    refine lv_if_ne (tgt := 26) hx hb dX9_place_13 (by decide) (fun k8 => ?_) (fun k8 => ?_)
    · have h := x_f h k8
      refine lv_aload_n hx hb dX9_place_26 rfl (lv_at hl 0 rfl) ?_
      obtain ⟨q9, eq9, h⟩ := x_rf h
      obtain ⟨hLq9, hKq9⟩ := wt_q hG hL0 hK0 eq9
      have hKq9 : gK G q9 = 7 := hKq9
      refine r_getR (k := 2) cx w hL0 hK0 (by decide) rfl wj_X9_place_X9 (by decide) rfl eq9 (List.mem_of_getElem? (i := 3) rfl) dX9_place_27 ?_
      obtain ⟨q10, eq10, h⟩ := x_rf h
      obtain ⟨hLq10, hKq10⟩ := wt_q hG hLq9 hKq9 eq10
      have hKq10 : gK G q10 = 14 := hKq10
      refine r_getR (k := 3) cx w hLq9 hKq9 (by decide) rfl wj_X9_place_X8 (by decide) rfl eq10 (List.mem_of_getElem? (i := 4) rfl) dX9_place_30 ?_
      refine lv_iload_n hx hb dX9_place_33 rfl (lv_at hl 1 rfl) ?_
      obtain ⟨z11, h⟩ := x_ix h
      obtain ⟨q12, eq12, h⟩ := x_rf h
      obtain ⟨hLq12, hKq12⟩ := wt_q hG hLq10 hKq10 eq12
      have hKq12 : gK G q12 = 0 := hKq12
      refine r_aald cx w hLq10 hKq10 z11 eq12 dX9_place_34 ?_
      obtain ⟨M13, r14, y15, h⟩ := x_cl h
      refine r_callVi (As := []) (rest := []) cx w hkn hl.1 (k_X0_stoneUnder hG hLq12 hKq12 y15) (cwV 0 hts gX9_place_X0_stoneUnder rfl rfl rfl (by decide +kernel) ⟨Nat.le_of_ble_eq_true rfl, Nat.le_of_ble_eq_true rfl⟩) hLq12 hKq12 (by decide) rfl rfl rfl (Nat.le_of_ble_eq_true rfl) dX9_place_35 (fun H locs w => ?_)
      refine lv_istore (lv' := [(4, .int r14), (0, .ref a0), (1, .int c1), (2, .int c2), (3, .int c3)]) hx hb dX9_place_38 hl (by decide) rfl (fun ls hl => ?_)
      refine lv_aload_n hx hb dX9_place_40 rfl (lv_at hl 1 rfl) ?_
      obtain ⟨q16, eq16, h⟩ := x_rf h
      obtain ⟨hLq16, hKq16⟩ := wt_q hG hL0 hK0 eq16
      have hKq16 : gK G q16 = 7 := hKq16
      refine r_getR (k := 2) cx w hL0 hK0 (by decide) rfl wj_X9_place_X9 (by decide) rfl eq16 (List.mem_of_getElem? (i := 3) rfl) dX9_place_41 ?_
      obtain ⟨q17, eq17, h⟩ := x_rf h
      obtain ⟨hLq17, hKq17⟩ := wt_q hG hLq16 hKq16 eq17
      have hKq17 : gK G q17 = 14 := hKq17
      refine r_getR (k := 3) cx w hLq16 hKq16 (by decide) rfl wj_X9_place_X8 (by decide) rfl eq17 (List.mem_of_getElem? (i := 4) rfl) dX9_place_44 ?_
      refine lv_iload_n hx hb dX9_place_47 rfl (lv_at hl 2 rfl) ?_
      obtain ⟨z18, h⟩ := x_ix h
      obtain ⟨q19, eq19, h⟩ := x_rf h
      obtain ⟨hLq19, hKq19⟩ := wt_q hG hLq17 hKq17 eq19
      have hKq19 : gK G q19 = 0 := hKq19
      refine r_aald cx w hLq17 hKq17 z18 eq19 dX9_place_48 ?_
      refine lv_iload_n hx hb dX9_place_49 rfl (lv_at hl 3 rfl) ?_
      refine lv_iload_n hx hb dX9_place_50 rfl (lv_at hl 4 rfl) ?_
      obtain ⟨M20, r21, y22, h⟩ := x_cl h
      refine r_callVv (As := [.int c2, .int c3]) (rest := []) cx w hkn hl.1 (k_X0_moveTo hG hLq19 hKq19 y22) (cwV 2 hts gX9_place_X0_moveTo rfl rfl rfl (by decide +kernel) ⟨Nat.le_of_ble_eq_true rfl, Nat.le_of_ble_eq_true rfl⟩) hLq19 hKq19 (by decide) rfl rfl rfl (Nat.le_of_ble_eq_true rfl) dX9_place_51 (fun H locs w => ?_)
      refine lv_iload hx hb dX9_place_54 (lv_at hl 0 rfl) ?_
      exact r_xiret cx w h dX9_place_56
    · have h := x_t h k8
      exact bt_X9_place_16 cx hst hex hkn hL0 hK0 M5 H locs ls h w (lv_sub hl [] rfl)
-- X9_pass, with its throws
theorem wj_X9_pass_X9 : ∀ w ∈ wsX90, w ∈ wsX9_pass := by decide +kernel
theorem wg_X9_pass_73 : ∀ w ∈ (vx_atS RX9 77 "java/lang/IllegalArgumentException" ex_names).filter goodWord, w ∈ wsX9_pass := by decide +kernel
abbrev rtX9_pass : Room := { frames := 7, cells := 1, slots := 6, locals := 178 }
def t_X9_pass_12 (G : gS) (a0 : Nat) (c1 : Int32)  (M : mS)  : Option (mS × (Int32 ⊕ String)) := some (M, Sum.inr "java/lang/IllegalArgumentException")
def t_X9_pass (G : gS) (M : mS) (a0 : Nat) (c1 : Int32) : Option (mS × (Int32 ⊕ String)) := (if c1 < (1 : Int32) then t_X9_pass_12 G a0 c1 M else (if c1 ≤ (1000 : Int32) then o_rf (gP G a0 2) (fun q3 => o_cl (m_X8_darkStones G M q3) (fun M4 r5 => o_rf (gP G a0 5) (fun q7 => o_rf (gP G a0 2) (fun q8 => o_cl (m_X5_makeSteps G M4 q7 q8 c1) (fun M9 r10 => o_rf (gP G a0 2) (fun q12 => o_cl (m_X8_darkStones G M9 q12) (fun M13 r14 => some (M13, Sum.inl (r14 - r5))))))))) else t_X9_pass_12 G a0 c1 M))
set_option maxHeartbeats 4000000 in
set_option maxRecDepth 100000 in
theorem bt_X9_pass_12 {p : Program} {e : Env} {s : State} {m : MethodId} {args : Array Value} {below : List Frame} {meth : Method} {c : Code} {A : Nat → Prop} {l : Launch} {D : va_G} {cy : cyS} {G : gS} (cx : cX p s m args meth c cX9_pass RX9 3 (some .int) wsX9_pass D cy G A) (hst : l.stackTraces = false) (hex : ∀ x ∈ c.exceptionTable.toList, False) (hkn : 0 ≤ (rtX9_pass).cells ∧ 0 ≤ (rtX9_pass).slots) {M' : mS} {r : Int32 ⊕ String} {a0 : Nat} {c1 : Int32} (hL0 : a0 ∈ gL G) (hK0 : gK G a0 = 8)  : ∀ (M : mS) (H : Heap) (locs : List Loc) (ls : Array Slot), t_X9_pass_12 G a0 c1 M = some (M', r) → wd D cy G M A s.heap H locs → lv_has ls 3 [] → W p l e rtX9_pass s m args below meth c H locs 0 0 (vx_MQ below (va_Qi (fun (r' : Int32) (_ : Unit) => r = .inl r') (fun _ t => wOut D cy G M' t) A) (vx_X (fun (_ : Unit) => True) (fun E _ t => r = .inr E ∧ wOut D cy G M' t) A) args s 1 6 A) (F0 m 12 ls []) := by
  obtain ⟨hx, hb, hml, hown, hts, hr, hlocks, hK, hA, hG, hsx⟩ := id cx
  intro M H locs ls h w hl
  unfold t_X9_pass_12 at h
  exact r_throw (cls := "java/lang/IllegalArgumentException") (text := "steps is not 1 to 1000") (ik := 73) (is := 190) (ic := 77) cx w hst hex hl.1 h (by decide +kernel) (List.mem_of_getElem? (i := 1) rfl) (List.mem_of_getElem? (i := 2) rfl) (List.mem_of_getElem? (i := 12) rfl) (List.mem_of_getElem? (i := 0) rfl) wg_X9_pass_73 ng_73 ot_73 dX9_pass_12 dX9_pass_15 dX9_pass_16 dX9_pass_18 dX9_pass_21 (Nat.le_of_ble_eq_true rfl) (Nat.le_of_ble_eq_true rfl) (Nat.le_of_ble_eq_true rfl) (Nat.le_of_ble_eq_true rfl)
set_option maxHeartbeats 4000000 in
set_option maxRecDepth 100000 in
theorem kt_X9_pass {l : Launch} {D : va_G} {cy : cyS} {G : gS} {M M' : mS} {r : Int32 ⊕ String} {a0 : Nat} {c1 : Int32} (hG : wt G) (hst : l.stackTraces = false) (hL0 : a0 ∈ gL G) (hK0 : gK G a0 = 8) (h : t_X9_pass G M a0 c1 = some (M', r)) : ctX l yX9_pass wsX9_pass rtX9_pass D cy G M [.ref a0, .int c1] M' r := by
  unfold t_X9_pass at h
  refine ctX_of (cc := cX9_pass) (nL := 3) (ret := (some .int)) (lv := [(0, .ref a0), (1, .int c1)]) hG (by decide) rfl (Nat.le_of_ble_eq_true rfl) rfl ?_
  intro p e s m args below meth c A ls cx hex w hl
  obtain ⟨hx, hb, hml, hown, hts, hr, hlocks, hK, hA, -, hsx⟩ := id cx
  have hkn : 0 ≤ (rtX9_pass).cells ∧ 0 ≤ (rtX9_pass).slots := ⟨Nat.zero_le _, Nat.zero_le _⟩
  refine lv_iload_n hx hb dX9_pass_0 rfl (lv_at hl 1 rfl) ?_
  refine lv_iconst (v := (1 : Int32)) hx hb dX9_pass_1 (by decide) ?_
  refine lv_icmp_lt (tgt := 12) hx hb dX9_pass_2 (by decide) (fun k1 => ?_) (fun k1 => ?_)
  · have h := x_t h k1
    exact bt_X9_pass_12 cx hst hex hkn hL0 hK0 M s.heap [] ls h w (lv_sub hl [] rfl)
  · have h := x_f h k1
    refine lv_iload_n hx hb dX9_pass_5 rfl (lv_at hl 1 rfl) ?_
    refine lv_sipush (v := (1000 : Int32)) hx hb dX9_pass_6 (by decide) ?_
    refine lv_icmp_le (tgt := 22) hx hb dX9_pass_9 (by decide) (fun k2 => ?_) (fun k2 => ?_)
    · have h := x_t h k2
      refine lv_aload_n hx hb dX9_pass_22 rfl (lv_at hl 0 rfl) ?_
      obtain ⟨q3, eq3, h⟩ := x_rf h
      obtain ⟨hLq3, hKq3⟩ := wt_q hG hL0 hK0 eq3
      have hKq3 : gK G q3 = 7 := hKq3
      refine r_getR (k := 2) cx w hL0 hK0 (by decide) rfl wj_X9_pass_X9 (by decide) rfl eq3 (List.mem_of_getElem? (i := 3) rfl) dX9_pass_23 ?_
      obtain ⟨M4, r5, y6, h⟩ := x_cl h
      refine r_callVi (As := []) (rest := []) cx w hkn hl.1 (k_X8_darkStones hG hLq3 hKq3 y6) (cwV 0 hts gX9_pass_X8_darkStones rfl rfl rfl (by decide +kernel) ⟨Nat.le_of_ble_eq_true rfl, Nat.le_of_ble_eq_true rfl⟩) hLq3 hKq3 (by decide) rfl rfl rfl (Nat.le_of_ble_eq_true rfl) dX9_pass_26 (fun H locs w => ?_)
      refine lv_istore_n (lv' := [(2, .int r5), (0, .ref a0), (1, .int c1)]) hx hb dX9_pass_29 rfl hl (by decide) rfl (fun ls hl => ?_)
      refine lv_aload_n hx hb dX9_pass_30 rfl (lv_at hl 1 rfl) ?_
      obtain ⟨q7, eq7, h⟩ := x_rf h
      obtain ⟨hLq7, hKq7⟩ := wt_q hG hL0 hK0 eq7
      have hKq7 : gK G q7 = 4 := hKq7
      refine r_getR (k := 5) cx w hL0 hK0 (by decide) rfl wj_X9_pass_X9 (by decide) rfl eq7 (List.mem_of_getElem? (i := 4) rfl) dX9_pass_31 ?_
      refine lv_aload_n hx hb dX9_pass_34 rfl (lv_at hl 1 rfl) ?_
      obtain ⟨q8, eq8, h⟩ := x_rf h
      obtain ⟨hLq8, hKq8⟩ := wt_q hG hL0 hK0 eq8
      have hKq8 : gK G q8 = 7 := hKq8
      refine r_getR (k := 2) cx w hL0 hK0 (by decide) rfl wj_X9_pass_X9 (by decide) rfl eq8 (List.mem_of_getElem? (i := 3) rfl) dX9_pass_35 ?_
      refine lv_iload_n hx hb dX9_pass_38 rfl (lv_at hl 2 rfl) ?_
      obtain ⟨M9, r10, y11, h⟩ := x_cl h
      refine r_callVv (As := [.ref q8, .int c1]) (rest := []) cx w hkn hl.1 (k_X5_makeSteps hG hLq7 hKq7 hLq8 hKq8 y11) (cwV 2 hts gX9_pass_X5_makeSteps rfl rfl rfl (by decide +kernel) ⟨Nat.le_of_ble_eq_true rfl, Nat.le_of_ble_eq_true rfl⟩) hLq7 hKq7 (by decide) rfl rfl rfl (Nat.le_of_ble_eq_true rfl) dX9_pass_39 (fun H locs w => ?_)
      refine lv_aload_n hx hb dX9_pass_42 rfl (lv_at hl 1 rfl) ?_
      obtain ⟨q12, eq12, h⟩ := x_rf h
      obtain ⟨hLq12, hKq12⟩ := wt_q hG hL0 hK0 eq12
      have hKq12 : gK G q12 = 7 := hKq12
      refine r_getR (k := 2) cx w hL0 hK0 (by decide) rfl wj_X9_pass_X9 (by decide) rfl eq12 (List.mem_of_getElem? (i := 3) rfl) dX9_pass_43 ?_
      obtain ⟨M13, r14, y15, h⟩ := x_cl h
      refine r_callVi (As := []) (rest := []) cx w hkn hl.1 (k_X8_darkStones hG hLq12 hKq12 y15) (cwV 0 hts gX9_pass_X8_darkStones rfl rfl rfl (by decide +kernel) ⟨Nat.le_of_ble_eq_true rfl, Nat.le_of_ble_eq_true rfl⟩) hLq12 hKq12 (by decide) rfl rfl rfl (Nat.le_of_ble_eq_true rfl) dX9_pass_46 (fun H locs w => ?_)
      refine lv_iload_n hx hb dX9_pass_49 rfl (lv_at hl 0 rfl) ?_
      refine lv_isub hx hb dX9_pass_50 ?_
      exact r_xiret cx w h dX9_pass_51
    · have h := x_f h k2
      exact bt_X9_pass_12 cx hst hex hkn hL0 hK0 M s.heap [] ls h w (lv_sub hl [] rfl)
-- X9_foresee, with its throws
theorem wj_X9_foresee_X9 : ∀ w ∈ wsX90, w ∈ wsX9_foresee := by decide +kernel
theorem wg_X9_foresee_73 : ∀ w ∈ (vx_atS RX9 77 "java/lang/IllegalArgumentException" ex_names).filter goodWord, w ∈ wsX9_foresee := by decide +kernel
theorem wg_X9_foresee_92 : ∀ w ∈ (vx_atS RX9 96 "java/lang/IndexOutOfBoundsException" ex_names).filter goodWord, w ∈ wsX9_foresee := by decide +kernel
abbrev rtX9_foresee : Room := { frames := 7, cells := 1, slots := 6, locals := 178 }
def t_X9_foresee_12 (G : gS) (a0 : Nat) (c1 : Int32) (c2 : Int32)  (M : mS)  : Option (mS × (Int32 ⊕ String)) := some (M, Sum.inr "java/lang/IllegalArgumentException")
def t_X9_foresee_33 (G : gS) (a0 : Nat) (c1 : Int32) (c2 : Int32)  (M : mS)  : Option (mS × (Int32 ⊕ String)) := some (M, Sum.inr "java/lang/IndexOutOfBoundsException")
def t_X9_foresee (G : gS) (M : mS) (a0 : Nat) (c1 : Int32) (c2 : Int32) : Option (mS × (Int32 ⊕ String)) := (if c1 < (1 : Int32) then t_X9_foresee_12 G a0 c1 c2 M else (if c1 ≤ (1000 : Int32) then (if c2 < (4 : Int32) then t_X9_foresee_33 G a0 c1 c2 M else (if c2 ≤ (9 : Int32) then o_rf (gP G a0 3) (fun q5 => o_rf (gP G a0 2) (fun q6 => o_cl (m_X8_copyFrom G M q5 q6) (fun M7 r8 => o_rf (gP G a0 5) (fun q10 => o_rf (gP G a0 3) (fun q11 => o_cl (m_X5_makeSteps G M7 q10 q11 c1) (fun M12 r13 => o_rf (gP G a0 3) (fun q15 => o_cl (m_X8_total G M12 q15 c2) (fun M16 r17 => some (M16, Sum.inl r17))))))))) else t_X9_foresee_33 G a0 c1 c2 M)) else t_X9_foresee_12 G a0 c1 c2 M))
set_option maxHeartbeats 4000000 in
set_option maxRecDepth 100000 in
theorem bt_X9_foresee_12 {p : Program} {e : Env} {s : State} {m : MethodId} {args : Array Value} {below : List Frame} {meth : Method} {c : Code} {A : Nat → Prop} {l : Launch} {D : va_G} {cy : cyS} {G : gS} (cx : cX p s m args meth c cX9_foresee RX9 3 (some .int) wsX9_foresee D cy G A) (hst : l.stackTraces = false) (hex : ∀ x ∈ c.exceptionTable.toList, False) (hkn : 0 ≤ (rtX9_foresee).cells ∧ 0 ≤ (rtX9_foresee).slots) {M' : mS} {r : Int32 ⊕ String} {a0 : Nat} {c1 : Int32} {c2 : Int32} (hL0 : a0 ∈ gL G) (hK0 : gK G a0 = 8)  : ∀ (M : mS) (H : Heap) (locs : List Loc) (ls : Array Slot), t_X9_foresee_12 G a0 c1 c2 M = some (M', r) → wd D cy G M A s.heap H locs → lv_has ls 3 [] → W p l e rtX9_foresee s m args below meth c H locs 0 0 (vx_MQ below (va_Qi (fun (r' : Int32) (_ : Unit) => r = .inl r') (fun _ t => wOut D cy G M' t) A) (vx_X (fun (_ : Unit) => True) (fun E _ t => r = .inr E ∧ wOut D cy G M' t) A) args s 1 6 A) (F0 m 12 ls []) := by
  obtain ⟨hx, hb, hml, hown, hts, hr, hlocks, hK, hA, hG, hsx⟩ := id cx
  intro M H locs ls h w hl
  unfold t_X9_foresee_12 at h
  exact r_throw (cls := "java/lang/IllegalArgumentException") (text := "steps is not 1 to 1000") (ik := 73) (is := 190) (ic := 77) cx w hst hex hl.1 h (by decide +kernel) (List.mem_of_getElem? (i := 1) rfl) (List.mem_of_getElem? (i := 2) rfl) (List.mem_of_getElem? (i := 12) rfl) (List.mem_of_getElem? (i := 0) rfl) wg_X9_foresee_73 ng_73 ot_73 dX9_foresee_12 dX9_foresee_15 dX9_foresee_16 dX9_foresee_18 dX9_foresee_21 (Nat.le_of_ble_eq_true rfl) (Nat.le_of_ble_eq_true rfl) (Nat.le_of_ble_eq_true rfl) (Nat.le_of_ble_eq_true rfl)
set_option maxHeartbeats 4000000 in
set_option maxRecDepth 100000 in
theorem bt_X9_foresee_33 {p : Program} {e : Env} {s : State} {m : MethodId} {args : Array Value} {below : List Frame} {meth : Method} {c : Code} {A : Nat → Prop} {l : Launch} {D : va_G} {cy : cyS} {G : gS} (cx : cX p s m args meth c cX9_foresee RX9 3 (some .int) wsX9_foresee D cy G A) (hst : l.stackTraces = false) (hex : ∀ x ∈ c.exceptionTable.toList, False) (hkn : 0 ≤ (rtX9_foresee).cells ∧ 0 ≤ (rtX9_foresee).slots) {M' : mS} {r : Int32 ⊕ String} {a0 : Nat} {c1 : Int32} {c2 : Int32} (hL0 : a0 ∈ gL G) (hK0 : gK G a0 = 8)  : ∀ (M : mS) (H : Heap) (locs : List Loc) (ls : Array Slot), t_X9_foresee_33 G a0 c1 c2 M = some (M', r) → wd D cy G M A s.heap H locs → lv_has ls 3 [] → W p l e rtX9_foresee s m args below meth c H locs 0 0 (vx_MQ below (va_Qi (fun (r' : Int32) (_ : Unit) => r = .inl r') (fun _ t => wOut D cy G M' t) A) (vx_X (fun (_ : Unit) => True) (fun E _ t => r = .inr E ∧ wOut D cy G M' t) A) args s 1 6 A) (F0 m 33 ls []) := by
  obtain ⟨hx, hb, hml, hown, hts, hr, hlocks, hK, hA, hG, hsx⟩ := id cx
  intro M H locs ls h w hl
  unfold t_X9_foresee_33 at h
  exact r_throw (cls := "java/lang/IndexOutOfBoundsException") (text := "what is not 4 to 9") (ik := 92) (is := 199) (ic := 96) cx w hst hex hl.1 h (by decide +kernel) (List.mem_of_getElem? (i := 3) rfl) (List.mem_of_getElem? (i := 4) rfl) (List.mem_of_getElem? (i := 13) rfl) (List.mem_of_getElem? (i := 2) rfl) wg_X9_foresee_92 ng_92 ot_92 dX9_foresee_33 dX9_foresee_36 dX9_foresee_37 dX9_foresee_39 dX9_foresee_42 (Nat.le_of_ble_eq_true rfl) (Nat.le_of_ble_eq_true rfl) (Nat.le_of_ble_eq_true rfl) (Nat.le_of_ble_eq_true rfl)
set_option maxHeartbeats 4000000 in
set_option maxRecDepth 100000 in
theorem kt_X9_foresee {l : Launch} {D : va_G} {cy : cyS} {G : gS} {M M' : mS} {r : Int32 ⊕ String} {a0 : Nat} {c1 : Int32} {c2 : Int32} (hG : wt G) (hst : l.stackTraces = false) (hL0 : a0 ∈ gL G) (hK0 : gK G a0 = 8) (h : t_X9_foresee G M a0 c1 c2 = some (M', r)) : ctX l yX9_foresee wsX9_foresee rtX9_foresee D cy G M [.ref a0, .int c1, .int c2] M' r := by
  unfold t_X9_foresee at h
  refine ctX_of (cc := cX9_foresee) (nL := 3) (ret := (some .int)) (lv := [(0, .ref a0), (1, .int c1), (2, .int c2)]) hG (by decide) rfl (Nat.le_of_ble_eq_true rfl) rfl ?_
  intro p e s m args below meth c A ls cx hex w hl
  obtain ⟨hx, hb, hml, hown, hts, hr, hlocks, hK, hA, -, hsx⟩ := id cx
  have hkn : 0 ≤ (rtX9_foresee).cells ∧ 0 ≤ (rtX9_foresee).slots := ⟨Nat.zero_le _, Nat.zero_le _⟩
  refine lv_iload_n hx hb dX9_foresee_0 rfl (lv_at hl 1 rfl) ?_
  refine lv_iconst (v := (1 : Int32)) hx hb dX9_foresee_1 (by decide) ?_
  refine lv_icmp_lt (tgt := 12) hx hb dX9_foresee_2 (by decide) (fun k1 => ?_) (fun k1 => ?_)
  · have h := x_t h k1
    exact bt_X9_foresee_12 cx hst hex hkn hL0 hK0 M s.heap [] ls h w (lv_sub hl [] rfl)
  · have h := x_f h k1
    refine lv_iload_n hx hb dX9_foresee_5 rfl (lv_at hl 1 rfl) ?_
    refine lv_sipush (v := (1000 : Int32)) hx hb dX9_foresee_6 (by decide) ?_
    refine lv_icmp_le (tgt := 22) hx hb dX9_foresee_9 (by decide) (fun k2 => ?_) (fun k2 => ?_)
    · have h := x_t h k2
      refine lv_iload_n hx hb dX9_foresee_22 rfl (lv_at hl 2 rfl) ?_
      refine lv_iconst (v := (4 : Int32)) hx hb dX9_foresee_23 (by decide) ?_
      refine lv_icmp_lt (tgt := 33) hx hb dX9_foresee_24 (by decide) (fun k3 => ?_) (fun k3 => ?_)
      · have h := x_t h k3
        exact bt_X9_foresee_33 cx hst hex hkn hL0 hK0 M s.heap [] ls h w (lv_sub hl [] rfl)
      · have h := x_f h k3
        refine lv_iload_n hx hb dX9_foresee_27 rfl (lv_at hl 2 rfl) ?_
        refine lv_bipush (v := (9 : Int32)) hx hb dX9_foresee_28 (by decide) ?_
        refine lv_icmp_le (tgt := 43) hx hb dX9_foresee_30 (by decide) (fun k4 => ?_) (fun k4 => ?_)
        · have h := x_t h k4
          refine lv_aload_n hx hb dX9_foresee_43 rfl (lv_at hl 0 rfl) ?_
          obtain ⟨q5, eq5, h⟩ := x_rf h
          obtain ⟨hLq5, hKq5⟩ := wt_q hG hL0 hK0 eq5
          have hKq5 : gK G q5 = 7 := hKq5
          refine r_getR (k := 3) cx w hL0 hK0 (by decide) rfl wj_X9_foresee_X9 (by decide) rfl eq5 (List.mem_of_getElem? (i := 5) rfl) dX9_foresee_44 ?_
          refine lv_aload_n hx hb dX9_foresee_47 rfl (lv_at hl 0 rfl) ?_
          obtain ⟨q6, eq6, h⟩ := x_rf h
          obtain ⟨hLq6, hKq6⟩ := wt_q hG hL0 hK0 eq6
          have hKq6 : gK G q6 = 7 := hKq6
          refine r_getR (k := 2) cx w hL0 hK0 (by decide) rfl wj_X9_foresee_X9 (by decide) rfl eq6 (List.mem_of_getElem? (i := 6) rfl) dX9_foresee_48 ?_
          obtain ⟨M7, r8, y9, h⟩ := x_cl h
          refine r_callVv (As := [.ref q6]) (rest := []) cx w hkn hl.1 (k_X8_copyFrom hG hLq5 hKq5 hLq6 hKq6 y9) (cwV 1 hts gX9_foresee_X8_copyFrom rfl rfl rfl (by decide +kernel) ⟨Nat.le_of_ble_eq_true rfl, Nat.le_of_ble_eq_true rfl⟩) hLq5 hKq5 (by decide) rfl rfl rfl (Nat.le_of_ble_eq_true rfl) dX9_foresee_51 (fun H locs w => ?_)
          refine lv_aload_n hx hb dX9_foresee_54 rfl (lv_at hl 0 rfl) ?_
          obtain ⟨q10, eq10, h⟩ := x_rf h
          obtain ⟨hLq10, hKq10⟩ := wt_q hG hL0 hK0 eq10
          have hKq10 : gK G q10 = 4 := hKq10
          refine r_getR (k := 5) cx w hL0 hK0 (by decide) rfl wj_X9_foresee_X9 (by decide) rfl eq10 (List.mem_of_getElem? (i := 7) rfl) dX9_foresee_55 ?_
          refine lv_aload_n hx hb dX9_foresee_58 rfl (lv_at hl 0 rfl) ?_
          obtain ⟨q11, eq11, h⟩ := x_rf h
          obtain ⟨hLq11, hKq11⟩ := wt_q hG hL0 hK0 eq11
          have hKq11 : gK G q11 = 7 := hKq11
          refine r_getR (k := 3) cx w hL0 hK0 (by decide) rfl wj_X9_foresee_X9 (by decide) rfl eq11 (List.mem_of_getElem? (i := 5) rfl) dX9_foresee_59 ?_
          refine lv_iload_n hx hb dX9_foresee_62 rfl (lv_at hl 1 rfl) ?_
          obtain ⟨M12, r13, y14, h⟩ := x_cl h
          refine r_callVv (As := [.ref q11, .int c1]) (rest := []) cx w hkn hl.1 (k_X5_makeSteps hG hLq10 hKq10 hLq11 hKq11 y14) (cwV 2 hts gX9_foresee_X5_makeSteps rfl rfl rfl (by decide +kernel) ⟨Nat.le_of_ble_eq_true rfl, Nat.le_of_ble_eq_true rfl⟩) hLq10 hKq10 (by decide) rfl rfl rfl (Nat.le_of_ble_eq_true rfl) dX9_foresee_63 (fun H locs w => ?_)
          refine lv_aload_n hx hb dX9_foresee_66 rfl (lv_at hl 0 rfl) ?_
          obtain ⟨q15, eq15, h⟩ := x_rf h
          obtain ⟨hLq15, hKq15⟩ := wt_q hG hL0 hK0 eq15
          have hKq15 : gK G q15 = 7 := hKq15
          refine r_getR (k := 3) cx w hL0 hK0 (by decide) rfl wj_X9_foresee_X9 (by decide) rfl eq15 (List.mem_of_getElem? (i := 5) rfl) dX9_foresee_67 ?_
          refine lv_iload_n hx hb dX9_foresee_70 rfl (lv_at hl 2 rfl) ?_
          obtain ⟨M16, r17, y18, h⟩ := x_cl h
          refine r_callVi (As := [.int c2]) (rest := []) cx w hkn hl.1 (k_X8_total hG hLq15 hKq15 y18) (cwV 1 hts gX9_foresee_X8_total rfl rfl rfl (by decide +kernel) ⟨Nat.le_of_ble_eq_true rfl, Nat.le_of_ble_eq_true rfl⟩) hLq15 hKq15 (by decide) rfl rfl rfl (Nat.le_of_ble_eq_true rfl) dX9_foresee_71 (fun H locs w => ?_)
          exact r_xiret cx w h dX9_foresee_74
        · have h := x_f h k4
          exact bt_X9_foresee_33 cx hst hex hkn hL0 hK0 M s.heap [] ls h w (lv_sub hl [] rfl)
    · have h := x_f h k2
      exact bt_X9_foresee_12 cx hst hex hkn hL0 hK0 M s.heap [] ls h w (lv_sub hl [] rfl)
-- X9_until, with its throws
theorem wj_X9_until_X8 : ∀ w ∈ wsX80, w ∈ wsX9_until := by decide +kernel
theorem wj_X9_until_X9 : ∀ w ∈ wsX90, w ∈ wsX9_until := by decide +kernel
theorem wg_X9_until_92 : ∀ w ∈ (vx_atS RX9 96 "java/lang/IndexOutOfBoundsException" ex_names).filter goodWord, w ∈ wsX9_until := by decide +kernel
abbrev rtX9_until : Room := { frames := 6, cells := 1, slots := 6, locals := 155 }
def t_X9_until_16 (G : gS) (a0 : Nat) (c1 : Int32) (c2 : Int32) (c3 : Int32)  (M : mS)  : Option (mS × (Int32 ⊕ String)) := some (M, Sum.inr "java/lang/IndexOutOfBoundsException")
def t_X9_until_48 (G : gS) (a0 : Nat) (c1 : Int32) (c2 : Int32) (c3 : Int32)  : Nat → mS → Int32 → Int32 → Option (mS × (Int32 ⊕ String))
  | 0, _, _, _ => none
  | n + 1, M, v4, v5 => (if (2000 : Int32) ≤ v5 then o_rf (gP G a0 3) (fun q2 => o_rf (gP G q2 3) (fun q3 => o_ix c1 (gN G q3) (o_rf (gP G q3 (Int32.toNatClampNeg c1)) (fun q5 => o_cl (m_X0_stoneUnder G M q5) (fun M6 r7 => (if r7 = v4 then some (M6, Sum.inl (2000 : Int32)) else some (M6, Sum.inl (-1 : Int32)))))))) else o_rf (gP G a0 3) (fun q10 => o_rf (gP G q10 3) (fun q11 => o_ix c1 (gN G q11) (o_rf (gP G q11 (Int32.toNatClampNeg c1)) (fun q13 => o_cl (m_X0_stoneUnder G M q13) (fun M14 r15 => (if r15 = v4 then some (M14, Sum.inl v5) else o_rf (gP G a0 5) (fun q18 => o_rf (gP G a0 3) (fun q19 => o_cl (m_X5_makeStep G M14 q18 q19) (fun M20 r21 => o_bd (v5 + 1 : Int32) (fun x23 => t_X9_until_48 G a0 c1 c2 c3 n M20 v4 x23)))))))))))
def t_X9_until (G : gS) (M : mS) (a0 : Nat) (c1 : Int32) (c2 : Int32) (c3 : Int32) : Option (mS × (Int32 ⊕ String)) := o_cl (m_X9_isAnt G M a0 c1) (fun M1 r2 => (if r2 = 0 then t_X9_until_16 G a0 c1 c2 c3 M1 else o_cl (m_X9_isStone G M1 c2 c3) (fun M5 r6 => (if r6 = 0 then t_X9_until_16 G a0 c1 c2 c3 M5 else o_bd (((c3 * (64 : Int32)) + c2)) (fun x9 => o_rf (gP G a0 3) (fun q10 => o_rf (gP G a0 2) (fun q11 => o_cl (m_X8_copyFrom G M5 q10 q11) (fun M12 r13 => t_X9_until_48 G a0 c1 c2 c3 fu M12 x9 ((0 : Int32))))))))))
set_option maxHeartbeats 4000000 in
set_option maxRecDepth 100000 in
theorem bt_X9_until_16 {p : Program} {e : Env} {s : State} {m : MethodId} {args : Array Value} {below : List Frame} {meth : Method} {c : Code} {A : Nat → Prop} {l : Launch} {D : va_G} {cy : cyS} {G : gS} (cx : cX p s m args meth c cX9_until RX9 6 (some .int) wsX9_until D cy G A) (hst : l.stackTraces = false) (hex : ∀ x ∈ c.exceptionTable.toList, False) (hkn : 0 ≤ (rtX9_until).cells ∧ 0 ≤ (rtX9_until).slots) {M' : mS} {r : Int32 ⊕ String} {a0 : Nat} {c1 : Int32} {c2 : Int32} {c3 : Int32} (hL0 : a0 ∈ gL G) (hK0 : gK G a0 = 8)  : ∀ (M : mS) (H : Heap) (locs : List Loc) (ls : Array Slot), t_X9_until_16 G a0 c1 c2 c3 M = some (M', r) → wd D cy G M A s.heap H locs → lv_has ls 6 [] → W p l e rtX9_until s m args below meth c H locs 0 0 (vx_MQ below (va_Qi (fun (r' : Int32) (_ : Unit) => r = .inl r') (fun _ t => wOut D cy G M' t) A) (vx_X (fun (_ : Unit) => True) (fun E _ t => r = .inr E ∧ wOut D cy G M' t) A) args s 1 6 A) (F0 m 16 ls []) := by
  obtain ⟨hx, hb, hml, hown, hts, hr, hlocks, hK, hA, hG, hsx⟩ := id cx
  intro M H locs ls h w hl
  unfold t_X9_until_16 at h
  exact r_throw (cls := "java/lang/IndexOutOfBoundsException") (text := "no such ant or stone") (ik := 92) (is := 182) (ic := 96) cx w hst hex hl.1 h (by decide +kernel) (List.mem_of_getElem? (i := 1) rfl) (List.mem_of_getElem? (i := 2) rfl) (List.mem_of_getElem? (i := 11) rfl) (List.mem_of_getElem? (i := 2) rfl) wg_X9_until_92 ng_92 ot_92 dX9_until_16 dX9_until_19 dX9_until_20 dX9_until_22 dX9_until_25 (Nat.le_of_ble_eq_true rfl) (Nat.le_of_ble_eq_true rfl) (Nat.le_of_ble_eq_true rfl) (Nat.le_of_ble_eq_true rfl)
set_option maxHeartbeats 4000000 in
set_option maxRecDepth 100000 in
theorem bt_X9_until_48 {p : Program} {e : Env} {s : State} {m : MethodId} {args : Array Value} {below : List Frame} {meth : Method} {c : Code} {A : Nat → Prop} {l : Launch} {D : va_G} {cy : cyS} {G : gS} (cx : cX p s m args meth c cX9_until RX9 6 (some .int) wsX9_until D cy G A) (hst : l.stackTraces = false) (hex : ∀ x ∈ c.exceptionTable.toList, False) (hkn : 0 ≤ (rtX9_until).cells ∧ 0 ≤ (rtX9_until).slots) {M' : mS} {r : Int32 ⊕ String} {a0 : Nat} {c1 : Int32} {c2 : Int32} {c3 : Int32} (hL0 : a0 ∈ gL G) (hK0 : gK G a0 = 8)  : ∀ (n : Nat), ∀ (M : mS) (v4 : Int32) (v5 : Int32) (H : Heap) (locs : List Loc) (ls : Array Slot), t_X9_until_48 G a0 c1 c2 c3 n M v4 v5 = some (M', r) → wd D cy G M A s.heap H locs → lv_has ls 6 [(0, .ref a0), (1, .int c1), (4, .int v4), (5, .int v5)] → W p l e rtX9_until s m args below meth c H locs 0 0 (vx_MQ below (va_Qi (fun (r' : Int32) (_ : Unit) => r = .inl r') (fun _ t => wOut D cy G M' t) A) (vx_X (fun (_ : Unit) => True) (fun E _ t => r = .inr E ∧ wOut D cy G M' t) A) args s 1 6 A) (F0 m 48 ls []) := by
  obtain ⟨hx, hb, hml, hown, hts, hr, hlocks, hK, hA, hG, hsx⟩ := id cx
  intro n
  induction n with
  | zero =>
    intro M v4 v5 H locs ls h w hl
    have h : none = some _ := h
    cases h
  | succ n ih =>
    intro M v4 v5 H locs ls h w hl
    rw [t_X9_until_48] at h
    refine lv_iload hx hb dX9_until_48 (lv_at hl 3 rfl) ?_
    refine lv_sipush (v := (2000 : Int32)) hx hb dX9_until_50 (by decide) ?_
    refine lv_icmp_ge (tgt := 93) hx hb dX9_until_53 (by decide) (fun k1 => ?_) (fun k1 => ?_)
    · have h := x_t h k1
      refine lv_aload_n hx hb dX9_until_93 rfl (lv_at hl 0 rfl) ?_
      obtain ⟨q2, eq2, h⟩ := x_rf h
      obtain ⟨hLq2, hKq2⟩ := wt_q hG hL0 hK0 eq2
      have hKq2 : gK G q2 = 7 := hKq2
      refine r_getR (k := 3) cx w hL0 hK0 (by decide) rfl wj_X9_until_X9 (by decide) rfl eq2 (List.mem_of_getElem? (i := 3) rfl) dX9_until_94 ?_
      obtain ⟨q3, eq3, h⟩ := x_rf h
      obtain ⟨hLq3, hKq3⟩ := wt_q hG hLq2 hKq2 eq3
      have hKq3 : gK G q3 = 14 := hKq3
      refine r_getR (k := 3) cx w hLq2 hKq2 (by decide) rfl wj_X9_until_X8 (by decide) rfl eq3 (List.mem_of_getElem? (i := 5) rfl) dX9_until_97 ?_
      refine lv_iload_n hx hb dX9_until_100 rfl (lv_at hl 1 rfl) ?_
      obtain ⟨z4, h⟩ := x_ix h
      obtain ⟨q5, eq5, h⟩ := x_rf h
      obtain ⟨hLq5, hKq5⟩ := wt_q hG hLq3 hKq3 eq5
      have hKq5 : gK G q5 = 0 := hKq5
      refine r_aald cx w hLq3 hKq3 z4 eq5 dX9_until_101 ?_
      obtain ⟨M6, r7, y8, h⟩ := x_cl h
      refine r_callVi (As := []) (rest := []) cx w hkn hl.1 (k_X0_stoneUnder hG hLq5 hKq5 y8) (cwV 0 hts gX9_until_X0_stoneUnder rfl rfl rfl (by decide +kernel) ⟨Nat.le_of_ble_eq_true rfl, Nat.le_of_ble_eq_true rfl⟩) hLq5 hKq5 (by decide) rfl rfl rfl (Nat.le_of_ble_eq_true rfl) dX9_until_102 (fun H locs w => ?_)
      refine lv_iload hx hb dX9_until_105 (lv_at hl 2 rfl) ?_
      refine lv_icmp_ne (tgt := 116) hx hb dX9_until_107 (by decide) (fun k9 => ?_) (fun k9 => ?_)
      · have h := x_f h k9
        refine lv_iconst (v := (-1 : Int32)) hx hb dX9_until_116 (by decide) ?_
        exact r_xiret cx w h dX9_until_117
      · have h := x_t h k9
        refine lv_sipush (v := (2000 : Int32)) hx hb dX9_until_110 (by decide) ?_
        refine lv_goto (tgt := 117) hx hb dX9_until_113 (by decide) ?_
        exact r_xiret cx w h dX9_until_117
    · have h := x_f h k1
      refine lv_aload_n hx hb dX9_until_56 rfl (lv_at hl 0 rfl) ?_
      obtain ⟨q10, eq10, h⟩ := x_rf h
      obtain ⟨hLq10, hKq10⟩ := wt_q hG hL0 hK0 eq10
      have hKq10 : gK G q10 = 7 := hKq10
      refine r_getR (k := 3) cx w hL0 hK0 (by decide) rfl wj_X9_until_X9 (by decide) rfl eq10 (List.mem_of_getElem? (i := 3) rfl) dX9_until_57 ?_
      obtain ⟨q11, eq11, h⟩ := x_rf h
      obtain ⟨hLq11, hKq11⟩ := wt_q hG hLq10 hKq10 eq11
      have hKq11 : gK G q11 = 14 := hKq11
      refine r_getR (k := 3) cx w hLq10 hKq10 (by decide) rfl wj_X9_until_X8 (by decide) rfl eq11 (List.mem_of_getElem? (i := 5) rfl) dX9_until_60 ?_
      refine lv_iload_n hx hb dX9_until_63 rfl (lv_at hl 1 rfl) ?_
      obtain ⟨z12, h⟩ := x_ix h
      obtain ⟨q13, eq13, h⟩ := x_rf h
      obtain ⟨hLq13, hKq13⟩ := wt_q hG hLq11 hKq11 eq13
      have hKq13 : gK G q13 = 0 := hKq13
      refine r_aald cx w hLq11 hKq11 z12 eq13 dX9_until_64 ?_
      obtain ⟨M14, r15, y16, h⟩ := x_cl h
      refine r_callVi (As := []) (rest := []) cx w hkn hl.1 (k_X0_stoneUnder hG hLq13 hKq13 y16) (cwV 0 hts gX9_until_X0_stoneUnder rfl rfl rfl (by decide +kernel) ⟨Nat.le_of_ble_eq_true rfl, Nat.le_of_ble_eq_true rfl⟩) hLq13 hKq13 (by decide) rfl rfl rfl (Nat.le_of_ble_eq_true rfl) dX9_until_65 (fun H locs w => ?_)
      refine lv_iload hx hb dX9_until_68 (lv_at hl 2 rfl) ?_
      refine lv_icmp_ne (tgt := 76) hx hb dX9_until_70 (by decide) (fun k17 => ?_) (fun k17 => ?_)
      · have h := x_f h k17
        refine lv_aload_n hx hb dX9_until_76 rfl (lv_at hl 0 rfl) ?_
        obtain ⟨q18, eq18, h⟩ := x_rf h
        obtain ⟨hLq18, hKq18⟩ := wt_q hG hL0 hK0 eq18
        have hKq18 : gK G q18 = 4 := hKq18
        refine r_getR (k := 5) cx w hL0 hK0 (by decide) rfl wj_X9_until_X9 (by decide) rfl eq18 (List.mem_of_getElem? (i := 6) rfl) dX9_until_77 ?_
        refine lv_aload_n hx hb dX9_until_80 rfl (lv_at hl 0 rfl) ?_
        obtain ⟨q19, eq19, h⟩ := x_rf h
        obtain ⟨hLq19, hKq19⟩ := wt_q hG hL0 hK0 eq19
        have hKq19 : gK G q19 = 7 := hKq19
        refine r_getR (k := 3) cx w hL0 hK0 (by decide) rfl wj_X9_until_X9 (by decide) rfl eq19 (List.mem_of_getElem? (i := 3) rfl) dX9_until_81 ?_
        obtain ⟨M20, r21, y22, h⟩ := x_cl h
        refine r_callVv (As := [.ref q19]) (rest := []) cx w hkn hl.1 (k_X5_makeStep hG hLq18 hKq18 hLq19 hKq19 y22) (cwV 1 hts gX9_until_X5_makeStep rfl rfl rfl (by decide +kernel) ⟨Nat.le_of_ble_eq_true rfl, Nat.le_of_ble_eq_true rfl⟩) hLq18 hKq18 (by decide) rfl rfl rfl (Nat.le_of_ble_eq_true rfl) dX9_until_84 (fun H locs w => ?_)
        obtain ⟨x23, ex23, h⟩ := x_bd h
        refine lv_iinc (v := x23) (lv' := [(5, .int x23), (0, .ref a0), (1, .int c1), (4, .int v4)]) hx hb dX9_until_87 hl (k := 3) rfl (by rw [ex23]; rfl) (by decide) rfl (fun ls hl => ?_)
        refine lv_goto (tgt := 48) hx hb dX9_until_90 (by decide) ?_
        exact ih M20 v4 x23 H locs ls h w (lv_sub hl [1, 2, 3, 0] rfl)
      · have h := x_t h k17
        refine lv_iload hx hb dX9_until_73 (lv_at hl 3 rfl) ?_
        exact r_xiret cx w h dX9_until_75
set_option maxHeartbeats 4000000 in
set_option maxRecDepth 100000 in
theorem kt_X9_until {l : Launch} {D : va_G} {cy : cyS} {G : gS} {M M' : mS} {r : Int32 ⊕ String} {a0 : Nat} {c1 : Int32} {c2 : Int32} {c3 : Int32} (hG : wt G) (hst : l.stackTraces = false) (hL0 : a0 ∈ gL G) (hK0 : gK G a0 = 8) (h : t_X9_until G M a0 c1 c2 c3 = some (M', r)) : ctX l yX9_until wsX9_until rtX9_until D cy G M [.ref a0, .int c1, .int c2, .int c3] M' r := by
  unfold t_X9_until at h
  refine ctX_of (cc := cX9_until) (nL := 6) (ret := (some .int)) (lv := [(0, .ref a0), (1, .int c1), (2, .int c2), (3, .int c3)]) hG (by decide) rfl (Nat.le_of_ble_eq_true rfl) rfl ?_
  intro p e s m args below meth c A ls cx hex w hl
  obtain ⟨hx, hb, hml, hown, hts, hr, hlocks, hK, hA, -, hsx⟩ := id cx
  have hkn : 0 ≤ (rtX9_until).cells ∧ 0 ≤ (rtX9_until).slots := ⟨Nat.zero_le _, Nat.zero_le _⟩
  refine lv_aload_n hx hb dX9_until_0 rfl (lv_at hl 0 rfl) ?_
  refine lv_iload_n hx hb dX9_until_1 rfl (lv_at hl 1 rfl) ?_
  obtain ⟨M1, r2, y3, h⟩ := x_cl h
  refine r_callVi (As := [.int c1]) (rest := []) cx w hkn hl.1 (k_X9_isAnt hG hL0 hK0 y3) (cwV 1 hts gX9_until_X9_isAnt rfl rfl rfl (by decide +kernel) ⟨Nat.le_of_ble_eq_true rfl, Nat.le_of_ble_eq_true rfl⟩) hL0 hK0 (by decide) rfl rfl rfl (Nat.le_of_ble_eq_true rfl) dX9_until_2 (fun H locs w => ?_)
  refine lv_if_eq (tgt := 16) hx hb dX9_until_5 (by decide) (fun k4 => ?_) (fun k4 => ?_)
  · have h := x_t h k4
    exact bt_X9_until_16 cx hst hex hkn hL0 hK0 M1 H locs ls h w (lv_sub hl [] rfl)
  · have h := x_f h k4
    refine lv_iload_n hx hb dX9_until_8 rfl (lv_at hl 2 rfl) ?_
    refine lv_iload_n hx hb dX9_until_9 rfl (lv_at hl 3 rfl) ?_
    obtain ⟨M5, r6, y7, h⟩ := x_cl h
    refine r_callSi (As := [.int c2, .int c3]) (rest := []) cx w hkn hl.1 (k_X9_isStone hG y7) (va_cwS 2 hts gX9_until_X9_isStone rfl rfl rfl (by decide +kernel) ⟨Nat.le_of_ble_eq_true rfl, Nat.le_of_ble_eq_true rfl⟩) rfl rfl (Nat.le_of_ble_eq_true rfl) dX9_until_10 (fun H locs w => ?_)
    refine lv_if_ne (tgt := 26) hx hb dX9_until_13 (by decide) (fun k8 => ?_) (fun k8 => ?_)
    · have h := x_f h k8
      refine lv_iload_n hx hb dX9_until_26 rfl (lv_at hl 3 rfl) ?_
      refine lv_bipush (v := (64 : Int32)) hx hb dX9_until_27 (by decide) ?_
      refine lv_imul hx hb dX9_until_29 ?_
      refine lv_iload_n hx hb dX9_until_30 rfl (lv_at hl 2 rfl) ?_
      refine lv_iadd hx hb dX9_until_31 ?_
      obtain ⟨x9, ex9, h⟩ := x_bd h
      refine r_topI ex9 ?_
      refine lv_istore (lv' := [(4, .int x9), (0, .ref a0), (1, .int c1), (2, .int c2), (3, .int c3)]) hx hb dX9_until_32 hl (by decide) rfl (fun ls hl => ?_)
      refine lv_aload_n hx hb dX9_until_34 rfl (lv_at hl 1 rfl) ?_
      obtain ⟨q10, eq10, h⟩ := x_rf h
      obtain ⟨hLq10, hKq10⟩ := wt_q hG hL0 hK0 eq10
      have hKq10 : gK G q10 = 7 := hKq10
      refine r_getR (k := 3) cx w hL0 hK0 (by decide) rfl wj_X9_until_X9 (by decide) rfl eq10 (List.mem_of_getElem? (i := 3) rfl) dX9_until_35 ?_
      refine lv_aload_n hx hb dX9_until_38 rfl (lv_at hl 1 rfl) ?_
      obtain ⟨q11, eq11, h⟩ := x_rf h
      obtain ⟨hLq11, hKq11⟩ := wt_q hG hL0 hK0 eq11
      have hKq11 : gK G q11 = 7 := hKq11
      refine r_getR (k := 2) cx w hL0 hK0 (by decide) rfl wj_X9_until_X9 (by decide) rfl eq11 (List.mem_of_getElem? (i := 4) rfl) dX9_until_39 ?_
      obtain ⟨M12, r13, y14, h⟩ := x_cl h
      refine r_callVv (As := [.ref q11]) (rest := []) cx w hkn hl.1 (k_X8_copyFrom hG hLq10 hKq10 hLq11 hKq11 y14) (cwV 1 hts gX9_until_X8_copyFrom rfl rfl rfl (by decide +kernel) ⟨Nat.le_of_ble_eq_true rfl, Nat.le_of_ble_eq_true rfl⟩) hLq10 hKq10 (by decide) rfl rfl rfl (Nat.le_of_ble_eq_true rfl) dX9_until_42 (fun H locs w => ?_)
      refine lv_iconst (v := (0 : Int32)) hx hb dX9_until_45 (by decide) ?_
      refine lv_istore (lv' := [(5, .int ((0 : Int32))), (4, .int x9), (0, .ref a0), (1, .int c1), (2, .int c2), (3, .int c3)]) hx hb dX9_until_46 hl (by decide) rfl (fun ls hl => ?_)
      exact bt_X9_until_48 cx hst hex hkn hL0 hK0 fu M12 x9 ((0 : Int32)) H locs ls h w (lv_sub hl [2, 3, 1, 0] rfl)
    · have h := x_t h k8
      exact bt_X9_until_16 cx hst hex hkn hL0 hK0 M5 H locs ls h w (lv_sub hl [] rfl)
-- X9_advise, with its throws
theorem wj_X9_advise_X9 : ∀ w ∈ wsX90, w ∈ wsX9_advise := by decide +kernel
theorem wg_X9_advise_73 : ∀ w ∈ (vx_atS RX9 77 "java/lang/IllegalArgumentException" ex_names).filter goodWord, w ∈ wsX9_advise := by decide +kernel
abbrev rtX9_advise : Room := { frames := 7, cells := 1, slots := 6, locals := 178 }
def t_X9_advise_12 (G : gS) (a0 : Nat) (c1 : Int32)  (M : mS)  : Option (mS × (Int32 ⊕ String)) := some (M, Sum.inr "java/lang/IllegalArgumentException")
def t_X9_advise_127 (G : gS) (a0 : Nat) (c1 : Int32) (kb58 : mS → Int32 → Int32 → Int32 → Option (mS × (Int32 ⊕ String))) (M : mS) (v2 : Int32) (v3 : Int32) (v4 : Int32) : Option (mS × (Int32 ⊕ String)) := o_bd (v4 + 8 : Int32) (fun x1 => kb58 M v2 v3 x1)
def t_X9_advise_58 (G : gS) (a0 : Nat) (c1 : Int32)  : Nat → mS → Int32 → Int32 → Int32 → Option (mS × (Int32 ⊕ String))
  | 0, _, _, _, _ => none
  | n + 1, M, v2, v3, v4 => (if (64 : Int32) ≤ v4 then some (M, Sum.inl v3) else o_rf (gP G a0 3) (fun q2 => o_rf (gP G a0 2) (fun q3 => o_cl (m_X8_copyFrom G M q2 q3) (fun M4 r5 => o_rf (gP G a0 3) (fun q7 => o_cl (m_X8_washRows G M4 q7 v4 ((v4 + (8 : Int32)) - (1 : Int32))) (fun M8 r9 => o_rf (gP G a0 5) (fun q11 => o_rf (gP G a0 3) (fun q12 => o_cl (m_X5_makeSteps G M8 q11 q12 c1) (fun M13 r14 => o_rf (gP G a0 3) (fun q16 => o_cl (m_X8_darkStones G M13 q16) (fun M17 r18 => (if v2 ≤ r18 then t_X9_advise_127 G a0 c1 (fun M v2 v3 v4 => t_X9_advise_58 G a0 c1 n M v2 v3 v4) M17 v2 v3 v4 else o_rf (gP G a0 3) (fun q21 => o_cl (m_X8_darkStones G M17 q21) (fun M22 r23 => t_X9_advise_127 G a0 c1 (fun M v2 v3 v4 => t_X9_advise_58 G a0 c1 n M v2 v3 v4) M22 r23 v4 v4))))))))))))))
def t_X9_advise (G : gS) (M : mS) (a0 : Nat) (c1 : Int32) : Option (mS × (Int32 ⊕ String)) := (if c1 < (1 : Int32) then t_X9_advise_12 G a0 c1 M else (if c1 ≤ (300 : Int32) then o_rf (gP G a0 3) (fun q3 => o_rf (gP G a0 2) (fun q4 => o_cl (m_X8_copyFrom G M q3 q4) (fun M5 r6 => o_rf (gP G a0 5) (fun q8 => o_rf (gP G a0 3) (fun q9 => o_cl (m_X5_makeSteps G M5 q8 q9 c1) (fun M10 r11 => o_rf (gP G a0 3) (fun q13 => o_cl (m_X8_darkStones G M10 q13) (fun M14 r15 => t_X9_advise_58 G a0 c1 fu M14 r15 ((-1 : Int32)) ((0 : Int32)))))))))) else t_X9_advise_12 G a0 c1 M))
set_option maxHeartbeats 4000000 in
set_option maxRecDepth 100000 in
theorem bt_X9_advise_12 {p : Program} {e : Env} {s : State} {m : MethodId} {args : Array Value} {below : List Frame} {meth : Method} {c : Code} {A : Nat → Prop} {l : Launch} {D : va_G} {cy : cyS} {G : gS} (cx : cX p s m args meth c cX9_advise RX9 5 (some .int) wsX9_advise D cy G A) (hst : l.stackTraces = false) (hex : ∀ x ∈ c.exceptionTable.toList, False) (hkn : 0 ≤ (rtX9_advise).cells ∧ 0 ≤ (rtX9_advise).slots) {M' : mS} {r : Int32 ⊕ String} {a0 : Nat} {c1 : Int32} (hL0 : a0 ∈ gL G) (hK0 : gK G a0 = 8)  : ∀ (M : mS) (H : Heap) (locs : List Loc) (ls : Array Slot), t_X9_advise_12 G a0 c1 M = some (M', r) → wd D cy G M A s.heap H locs → lv_has ls 5 [] → W p l e rtX9_advise s m args below meth c H locs 0 0 (vx_MQ below (va_Qi (fun (r' : Int32) (_ : Unit) => r = .inl r') (fun _ t => wOut D cy G M' t) A) (vx_X (fun (_ : Unit) => True) (fun E _ t => r = .inr E ∧ wOut D cy G M' t) A) args s 1 6 A) (F0 m 12 ls []) := by
  obtain ⟨hx, hb, hml, hown, hts, hr, hlocks, hK, hA, hG, hsx⟩ := id cx
  intro M H locs ls h w hl
  unfold t_X9_advise_12 at h
  exact r_throw (cls := "java/lang/IllegalArgumentException") (text := "steps is not 1 to 300") (ik := 73) (is := 208) (ic := 77) cx w hst hex hl.1 h (by decide +kernel) (List.mem_of_getElem? (i := 1) rfl) (List.mem_of_getElem? (i := 2) rfl) (List.mem_of_getElem? (i := 14) rfl) (List.mem_of_getElem? (i := 0) rfl) wg_X9_advise_73 ng_73 ot_73 dX9_advise_12 dX9_advise_15 dX9_advise_16 dX9_advise_18 dX9_advise_21 (Nat.le_of_ble_eq_true rfl) (Nat.le_of_ble_eq_true rfl) (Nat.le_of_ble_eq_true rfl) (Nat.le_of_ble_eq_true rfl)
set_option maxHeartbeats 4000000 in
set_option maxRecDepth 100000 in
theorem bt_X9_advise_127 {p : Program} {e : Env} {s : State} {m : MethodId} {args : Array Value} {below : List Frame} {meth : Method} {c : Code} {A : Nat → Prop} {l : Launch} {D : va_G} {cy : cyS} {G : gS} (cx : cX p s m args meth c cX9_advise RX9 5 (some .int) wsX9_advise D cy G A) (hst : l.stackTraces = false) (hex : ∀ x ∈ c.exceptionTable.toList, False) (hkn : 0 ≤ (rtX9_advise).cells ∧ 0 ≤ (rtX9_advise).slots) {M' : mS} {r : Int32 ⊕ String} {a0 : Nat} {c1 : Int32} (hL0 : a0 ∈ gL G) (hK0 : gK G a0 = 8) {kb58 : mS → Int32 → Int32 → Int32 → Option (mS × (Int32 ⊕ String))} (hkb58 : ∀ (M : mS) (v2 : Int32) (v3 : Int32) (v4 : Int32) (H : Heap) (locs : List Loc) (ls : Array Slot), kb58 M v2 v3 v4 = some (M', r) → wd D cy G M A s.heap H locs → lv_has ls 5 [(0, .ref a0), (1, .int c1), (2, .int v2), (3, .int v3), (4, .int v4)] → W p l e rtX9_advise s m args below meth c H locs 0 0 (vx_MQ below (va_Qi (fun (r' : Int32) (_ : Unit) => r = .inl r') (fun _ t => wOut D cy G M' t) A) (vx_X (fun (_ : Unit) => True) (fun E _ t => r = .inr E ∧ wOut D cy G M' t) A) args s 1 6 A) (F0 m 58 ls [])) : ∀ (M : mS) (v2 : Int32) (v3 : Int32) (v4 : Int32) (H : Heap) (locs : List Loc) (ls : Array Slot), t_X9_advise_127 G a0 c1 kb58 M v2 v3 v4 = some (M', r) → wd D cy G M A s.heap H locs → lv_has ls 5 [(0, .ref a0), (1, .int c1), (2, .int v2), (3, .int v3), (4, .int v4)] → W p l e rtX9_advise s m args below meth c H locs 0 0 (vx_MQ below (va_Qi (fun (r' : Int32) (_ : Unit) => r = .inl r') (fun _ t => wOut D cy G M' t) A) (vx_X (fun (_ : Unit) => True) (fun E _ t => r = .inr E ∧ wOut D cy G M' t) A) args s 1 6 A) (F0 m 127 ls []) := by
  obtain ⟨hx, hb, hml, hown, hts, hr, hlocks, hK, hA, hG, hsx⟩ := id cx
  intro M v2 v3 v4 H locs ls h w hl
  unfold t_X9_advise_127 at h
  obtain ⟨x1, ex1, h⟩ := x_bd h
  refine lv_iinc (v := x1) (lv' := [(4, .int x1), (0, .ref a0), (1, .int c1), (2, .int v2), (3, .int v3)]) hx hb dX9_advise_127 hl (k := 4) rfl (by rw [ex1]; rfl) (by decide) rfl (fun ls hl => ?_)
  refine lv_goto (tgt := 58) hx hb dX9_advise_130 (by decide) ?_
  exact hkb58 M v2 v3 x1 H locs ls h w (lv_sub hl [1, 2, 3, 4, 0] rfl)
set_option maxHeartbeats 4000000 in
set_option maxRecDepth 100000 in
theorem bt_X9_advise_58 {p : Program} {e : Env} {s : State} {m : MethodId} {args : Array Value} {below : List Frame} {meth : Method} {c : Code} {A : Nat → Prop} {l : Launch} {D : va_G} {cy : cyS} {G : gS} (cx : cX p s m args meth c cX9_advise RX9 5 (some .int) wsX9_advise D cy G A) (hst : l.stackTraces = false) (hex : ∀ x ∈ c.exceptionTable.toList, False) (hkn : 0 ≤ (rtX9_advise).cells ∧ 0 ≤ (rtX9_advise).slots) {M' : mS} {r : Int32 ⊕ String} {a0 : Nat} {c1 : Int32} (hL0 : a0 ∈ gL G) (hK0 : gK G a0 = 8)  : ∀ (n : Nat), ∀ (M : mS) (v2 : Int32) (v3 : Int32) (v4 : Int32) (H : Heap) (locs : List Loc) (ls : Array Slot), t_X9_advise_58 G a0 c1 n M v2 v3 v4 = some (M', r) → wd D cy G M A s.heap H locs → lv_has ls 5 [(0, .ref a0), (1, .int c1), (2, .int v2), (3, .int v3), (4, .int v4)] → W p l e rtX9_advise s m args below meth c H locs 0 0 (vx_MQ below (va_Qi (fun (r' : Int32) (_ : Unit) => r = .inl r') (fun _ t => wOut D cy G M' t) A) (vx_X (fun (_ : Unit) => True) (fun E _ t => r = .inr E ∧ wOut D cy G M' t) A) args s 1 6 A) (F0 m 58 ls []) := by
  obtain ⟨hx, hb, hml, hown, hts, hr, hlocks, hK, hA, hG, hsx⟩ := id cx
  intro n
  induction n with
  | zero =>
    intro M v2 v3 v4 H locs ls h w hl
    have h : none = some _ := h
    cases h
  | succ n ih =>
    intro M v2 v3 v4 H locs ls h w hl
    rw [t_X9_advise_58] at h
    refine lv_iload hx hb dX9_advise_58 (lv_at hl 4 rfl) ?_
    refine lv_bipush (v := (64 : Int32)) hx hb dX9_advise_60 (by decide) ?_
    refine lv_icmp_ge (tgt := 133) hx hb dX9_advise_62 (by decide) (fun k1 => ?_) (fun k1 => ?_)
    · have h := x_t h k1
      refine lv_iload_n hx hb dX9_advise_133 rfl (lv_at hl 3 rfl) ?_
      exact r_xiret cx w h dX9_advise_134
    · have h := x_f h k1
      refine lv_aload_n hx hb dX9_advise_65 rfl (lv_at hl 0 rfl) ?_
      obtain ⟨q2, eq2, h⟩ := x_rf h
      obtain ⟨hLq2, hKq2⟩ := wt_q hG hL0 hK0 eq2
      have hKq2 : gK G q2 = 7 := hKq2
      refine r_getR (k := 3) cx w hL0 hK0 (by decide) rfl wj_X9_advise_X9 (by decide) rfl eq2 (List.mem_of_getElem? (i := 3) rfl) dX9_advise_66 ?_
      refine lv_aload_n hx hb dX9_advise_69 rfl (lv_at hl 0 rfl) ?_
      obtain ⟨q3, eq3, h⟩ := x_rf h
      obtain ⟨hLq3, hKq3⟩ := wt_q hG hL0 hK0 eq3
      have hKq3 : gK G q3 = 7 := hKq3
      refine r_getR (k := 2) cx w hL0 hK0 (by decide) rfl wj_X9_advise_X9 (by decide) rfl eq3 (List.mem_of_getElem? (i := 4) rfl) dX9_advise_70 ?_
      obtain ⟨M4, r5, y6, h⟩ := x_cl h
      refine r_callVv (As := [.ref q3]) (rest := []) cx w hkn hl.1 (k_X8_copyFrom hG hLq2 hKq2 hLq3 hKq3 y6) (cwV 1 hts gX9_advise_X8_copyFrom rfl rfl rfl (by decide +kernel) ⟨Nat.le_of_ble_eq_true rfl, Nat.le_of_ble_eq_true rfl⟩) hLq2 hKq2 (by decide) rfl rfl rfl (Nat.le_of_ble_eq_true rfl) dX9_advise_73 (fun H locs w => ?_)
      refine lv_aload_n hx hb dX9_advise_76 rfl (lv_at hl 0 rfl) ?_
      obtain ⟨q7, eq7, h⟩ := x_rf h
      obtain ⟨hLq7, hKq7⟩ := wt_q hG hL0 hK0 eq7
      have hKq7 : gK G q7 = 7 := hKq7
      refine r_getR (k := 3) cx w hL0 hK0 (by decide) rfl wj_X9_advise_X9 (by decide) rfl eq7 (List.mem_of_getElem? (i := 3) rfl) dX9_advise_77 ?_
      refine lv_iload hx hb dX9_advise_80 (lv_at hl 4 rfl) ?_
      refine lv_iload hx hb dX9_advise_82 (lv_at hl 4 rfl) ?_
      refine lv_bipush (v := (8 : Int32)) hx hb dX9_advise_84 (by decide) ?_
      refine lv_iadd hx hb dX9_advise_86 ?_
      refine lv_iconst (v := (1 : Int32)) hx hb dX9_advise_87 (by decide) ?_
      refine lv_isub hx hb dX9_advise_88 ?_
      obtain ⟨M8, r9, y10, h⟩ := x_cl h
      refine r_callVi (As := [.int v4, .int (((v4 + (8 : Int32)) - (1 : Int32)))]) (rest := []) cx w hkn hl.1 (k_X8_washRows hG hLq7 hKq7 y10) (cwV 2 hts gX9_advise_X8_washRows rfl rfl rfl (by decide +kernel) ⟨Nat.le_of_ble_eq_true rfl, Nat.le_of_ble_eq_true rfl⟩) hLq7 hKq7 (by decide) rfl rfl rfl (Nat.le_of_ble_eq_true rfl) dX9_advise_89 (fun H locs w => ?_)
      refine lv_pop hx hb dX9_advise_92 rfl ?_
      refine lv_aload_n hx hb dX9_advise_93 rfl (lv_at hl 0 rfl) ?_
      obtain ⟨q11, eq11, h⟩ := x_rf h
      obtain ⟨hLq11, hKq11⟩ := wt_q hG hL0 hK0 eq11
      have hKq11 : gK G q11 = 4 := hKq11
      refine r_getR (k := 5) cx w hL0 hK0 (by decide) rfl wj_X9_advise_X9 (by decide) rfl eq11 (List.mem_of_getElem? (i := 5) rfl) dX9_advise_94 ?_
      refine lv_aload_n hx hb dX9_advise_97 rfl (lv_at hl 0 rfl) ?_
      obtain ⟨q12, eq12, h⟩ := x_rf h
      obtain ⟨hLq12, hKq12⟩ := wt_q hG hL0 hK0 eq12
      have hKq12 : gK G q12 = 7 := hKq12
      refine r_getR (k := 3) cx w hL0 hK0 (by decide) rfl wj_X9_advise_X9 (by decide) rfl eq12 (List.mem_of_getElem? (i := 3) rfl) dX9_advise_98 ?_
      refine lv_iload_n hx hb dX9_advise_101 rfl (lv_at hl 1 rfl) ?_
      obtain ⟨M13, r14, y15, h⟩ := x_cl h
      refine r_callVv (As := [.ref q12, .int c1]) (rest := []) cx w hkn hl.1 (k_X5_makeSteps hG hLq11 hKq11 hLq12 hKq12 y15) (cwV 2 hts gX9_advise_X5_makeSteps rfl rfl rfl (by decide +kernel) ⟨Nat.le_of_ble_eq_true rfl, Nat.le_of_ble_eq_true rfl⟩) hLq11 hKq11 (by decide) rfl rfl rfl (Nat.le_of_ble_eq_true rfl) dX9_advise_102 (fun H locs w => ?_)
      refine lv_aload_n hx hb dX9_advise_105 rfl (lv_at hl 0 rfl) ?_
      obtain ⟨q16, eq16, h⟩ := x_rf h
      obtain ⟨hLq16, hKq16⟩ := wt_q hG hL0 hK0 eq16
      have hKq16 : gK G q16 = 7 := hKq16
      refine r_getR (k := 3) cx w hL0 hK0 (by decide) rfl wj_X9_advise_X9 (by decide) rfl eq16 (List.mem_of_getElem? (i := 3) rfl) dX9_advise_106 ?_
      obtain ⟨M17, r18, y19, h⟩ := x_cl h
      refine r_callVi (As := []) (rest := []) cx w hkn hl.1 (k_X8_darkStones hG hLq16 hKq16 y19) (cwV 0 hts gX9_advise_X8_darkStones rfl rfl rfl (by decide +kernel) ⟨Nat.le_of_ble_eq_true rfl, Nat.le_of_ble_eq_true rfl⟩) hLq16 hKq16 (by decide) rfl rfl rfl (Nat.le_of_ble_eq_true rfl) dX9_advise_109 (fun H locs w => ?_)
      refine lv_iload_n hx hb dX9_advise_112 rfl (lv_at hl 2 rfl) ?_
      refine lv_icmp_ge (tgt := 127) hx hb dX9_advise_113 (by decide) (fun k20 => ?_) (fun k20 => ?_)
      · have h := x_t h k20
        exact bt_X9_advise_127 cx hst hex hkn hL0 hK0 (hkb58 := ih) M17 v2 v3 v4 H locs ls h w (lv_sub hl [0, 1, 2, 3, 4] rfl)
      · have h := x_f h k20
        refine lv_aload_n hx hb dX9_advise_116 rfl (lv_at hl 0 rfl) ?_
        obtain ⟨q21, eq21, h⟩ := x_rf h
        obtain ⟨hLq21, hKq21⟩ := wt_q hG hL0 hK0 eq21
        have hKq21 : gK G q21 = 7 := hKq21
        refine r_getR (k := 3) cx w hL0 hK0 (by decide) rfl wj_X9_advise_X9 (by decide) rfl eq21 (List.mem_of_getElem? (i := 3) rfl) dX9_advise_117 ?_
        obtain ⟨M22, r23, y24, h⟩ := x_cl h
        refine r_callVi (As := []) (rest := []) cx w hkn hl.1 (k_X8_darkStones hG hLq21 hKq21 y24) (cwV 0 hts gX9_advise_X8_darkStones rfl rfl rfl (by decide +kernel) ⟨Nat.le_of_ble_eq_true rfl, Nat.le_of_ble_eq_true rfl⟩) hLq21 hKq21 (by decide) rfl rfl rfl (Nat.le_of_ble_eq_true rfl) dX9_advise_120 (fun H locs w => ?_)
        refine lv_istore_n (lv' := [(2, .int r23), (0, .ref a0), (1, .int c1), (3, .int v3), (4, .int v4)]) hx hb dX9_advise_123 rfl hl (by decide) rfl (fun ls hl => ?_)
        refine lv_iload hx hb dX9_advise_124 (lv_at hl 4 rfl) ?_
        refine lv_istore_n (lv' := [(3, .int v4), (2, .int r23), (0, .ref a0), (1, .int c1), (4, .int v4)]) hx hb dX9_advise_126 rfl hl (by decide) rfl (fun ls hl => ?_)
        exact bt_X9_advise_127 cx hst hex hkn hL0 hK0 (hkb58 := ih) M22 r23 v4 v4 H locs ls h w (lv_sub hl [2, 3, 1, 0, 4] rfl)
set_option maxHeartbeats 4000000 in
set_option maxRecDepth 100000 in
theorem kt_X9_advise {l : Launch} {D : va_G} {cy : cyS} {G : gS} {M M' : mS} {r : Int32 ⊕ String} {a0 : Nat} {c1 : Int32} (hG : wt G) (hst : l.stackTraces = false) (hL0 : a0 ∈ gL G) (hK0 : gK G a0 = 8) (h : t_X9_advise G M a0 c1 = some (M', r)) : ctX l yX9_advise wsX9_advise rtX9_advise D cy G M [.ref a0, .int c1] M' r := by
  unfold t_X9_advise at h
  refine ctX_of (cc := cX9_advise) (nL := 5) (ret := (some .int)) (lv := [(0, .ref a0), (1, .int c1)]) hG (by decide) rfl (Nat.le_of_ble_eq_true rfl) rfl ?_
  intro p e s m args below meth c A ls cx hex w hl
  obtain ⟨hx, hb, hml, hown, hts, hr, hlocks, hK, hA, -, hsx⟩ := id cx
  have hkn : 0 ≤ (rtX9_advise).cells ∧ 0 ≤ (rtX9_advise).slots := ⟨Nat.zero_le _, Nat.zero_le _⟩
  refine lv_iload_n hx hb dX9_advise_0 rfl (lv_at hl 1 rfl) ?_
  refine lv_iconst (v := (1 : Int32)) hx hb dX9_advise_1 (by decide) ?_
  refine lv_icmp_lt (tgt := 12) hx hb dX9_advise_2 (by decide) (fun k1 => ?_) (fun k1 => ?_)
  · have h := x_t h k1
    exact bt_X9_advise_12 cx hst hex hkn hL0 hK0 M s.heap [] ls h w (lv_sub hl [] rfl)
  · have h := x_f h k1
    refine lv_iload_n hx hb dX9_advise_5 rfl (lv_at hl 1 rfl) ?_
    refine lv_sipush (v := (300 : Int32)) hx hb dX9_advise_6 (by decide) ?_
    refine lv_icmp_le (tgt := 22) hx hb dX9_advise_9 (by decide) (fun k2 => ?_) (fun k2 => ?_)
    · have h := x_t h k2
      refine lv_aload_n hx hb dX9_advise_22 rfl (lv_at hl 0 rfl) ?_
      obtain ⟨q3, eq3, h⟩ := x_rf h
      obtain ⟨hLq3, hKq3⟩ := wt_q hG hL0 hK0 eq3
      have hKq3 : gK G q3 = 7 := hKq3
      refine r_getR (k := 3) cx w hL0 hK0 (by decide) rfl wj_X9_advise_X9 (by decide) rfl eq3 (List.mem_of_getElem? (i := 3) rfl) dX9_advise_23 ?_
      refine lv_aload_n hx hb dX9_advise_26 rfl (lv_at hl 0 rfl) ?_
      obtain ⟨q4, eq4, h⟩ := x_rf h
      obtain ⟨hLq4, hKq4⟩ := wt_q hG hL0 hK0 eq4
      have hKq4 : gK G q4 = 7 := hKq4
      refine r_getR (k := 2) cx w hL0 hK0 (by decide) rfl wj_X9_advise_X9 (by decide) rfl eq4 (List.mem_of_getElem? (i := 4) rfl) dX9_advise_27 ?_
      obtain ⟨M5, r6, y7, h⟩ := x_cl h
      refine r_callVv (As := [.ref q4]) (rest := []) cx w hkn hl.1 (k_X8_copyFrom hG hLq3 hKq3 hLq4 hKq4 y7) (cwV 1 hts gX9_advise_X8_copyFrom rfl rfl rfl (by decide +kernel) ⟨Nat.le_of_ble_eq_true rfl, Nat.le_of_ble_eq_true rfl⟩) hLq3 hKq3 (by decide) rfl rfl rfl (Nat.le_of_ble_eq_true rfl) dX9_advise_30 (fun H locs w => ?_)
      refine lv_aload_n hx hb dX9_advise_33 rfl (lv_at hl 0 rfl) ?_
      obtain ⟨q8, eq8, h⟩ := x_rf h
      obtain ⟨hLq8, hKq8⟩ := wt_q hG hL0 hK0 eq8
      have hKq8 : gK G q8 = 4 := hKq8
      refine r_getR (k := 5) cx w hL0 hK0 (by decide) rfl wj_X9_advise_X9 (by decide) rfl eq8 (List.mem_of_getElem? (i := 5) rfl) dX9_advise_34 ?_
      refine lv_aload_n hx hb dX9_advise_37 rfl (lv_at hl 0 rfl) ?_
      obtain ⟨q9, eq9, h⟩ := x_rf h
      obtain ⟨hLq9, hKq9⟩ := wt_q hG hL0 hK0 eq9
      have hKq9 : gK G q9 = 7 := hKq9
      refine r_getR (k := 3) cx w hL0 hK0 (by decide) rfl wj_X9_advise_X9 (by decide) rfl eq9 (List.mem_of_getElem? (i := 3) rfl) dX9_advise_38 ?_
      refine lv_iload_n hx hb dX9_advise_41 rfl (lv_at hl 1 rfl) ?_
      obtain ⟨M10, r11, y12, h⟩ := x_cl h
      refine r_callVv (As := [.ref q9, .int c1]) (rest := []) cx w hkn hl.1 (k_X5_makeSteps hG hLq8 hKq8 hLq9 hKq9 y12) (cwV 2 hts gX9_advise_X5_makeSteps rfl rfl rfl (by decide +kernel) ⟨Nat.le_of_ble_eq_true rfl, Nat.le_of_ble_eq_true rfl⟩) hLq8 hKq8 (by decide) rfl rfl rfl (Nat.le_of_ble_eq_true rfl) dX9_advise_42 (fun H locs w => ?_)
      refine lv_aload_n hx hb dX9_advise_45 rfl (lv_at hl 0 rfl) ?_
      obtain ⟨q13, eq13, h⟩ := x_rf h
      obtain ⟨hLq13, hKq13⟩ := wt_q hG hL0 hK0 eq13
      have hKq13 : gK G q13 = 7 := hKq13
      refine r_getR (k := 3) cx w hL0 hK0 (by decide) rfl wj_X9_advise_X9 (by decide) rfl eq13 (List.mem_of_getElem? (i := 3) rfl) dX9_advise_46 ?_
      obtain ⟨M14, r15, y16, h⟩ := x_cl h
      refine r_callVi (As := []) (rest := []) cx w hkn hl.1 (k_X8_darkStones hG hLq13 hKq13 y16) (cwV 0 hts gX9_advise_X8_darkStones rfl rfl rfl (by decide +kernel) ⟨Nat.le_of_ble_eq_true rfl, Nat.le_of_ble_eq_true rfl⟩) hLq13 hKq13 (by decide) rfl rfl rfl (Nat.le_of_ble_eq_true rfl) dX9_advise_49 (fun H locs w => ?_)
      refine lv_istore_n (lv' := [(2, .int r15), (0, .ref a0), (1, .int c1)]) hx hb dX9_advise_52 rfl hl (by decide) rfl (fun ls hl => ?_)
      refine lv_iconst (v := (-1 : Int32)) hx hb dX9_advise_53 (by decide) ?_
      refine lv_istore_n (lv' := [(3, .int ((-1 : Int32))), (2, .int r15), (0, .ref a0), (1, .int c1)]) hx hb dX9_advise_54 rfl hl (by decide) rfl (fun ls hl => ?_)
      refine lv_iconst (v := (0 : Int32)) hx hb dX9_advise_55 (by decide) ?_
      refine lv_istore (lv' := [(4, .int ((0 : Int32))), (3, .int ((-1 : Int32))), (2, .int r15), (0, .ref a0), (1, .int c1)]) hx hb dX9_advise_56 hl (by decide) rfl (fun ls hl => ?_)
      exact bt_X9_advise_58 cx hst hex hkn hL0 hK0 fu M14 r15 ((-1 : Int32)) ((0 : Int32)) H locs ls h w (lv_sub hl [3, 4, 2, 1, 0] rfl)
    · have h := x_f h k2
      exact bt_X9_advise_12 cx hst hex hkn hL0 hK0 M s.heap [] ls h w (lv_sub hl [] rfl)
