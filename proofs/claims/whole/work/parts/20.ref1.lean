-- X11_copy
abbrev rmX11_copy : Room := { frames := 1, cells := 0, slots := 0, locals := 60 }
def m_X11_copy (G : gS) (M : mS) (a0 : Nat) (a1 : Nat) (a2 : Nat) : Option (mS × Unit) := o_ck (¬ (Int32.ofNat (gN G a1)) < 0 ∧ Int32.toNatClampNeg (Int32.ofNat (gN G a1)) ≤ gN G a1 ∧ Int32.toNatClampNeg (Int32.ofNat (gN G a1)) ≤ gN G a2) (o_wC M a2 (cpy0 (mI M a1) (mI M a2) (Int32.toNatClampNeg (Int32.ofNat (gN G a1)))) (fun M2 => some (M2, ())))
set_option maxHeartbeats 4000000 in
set_option maxRecDepth 100000 in
theorem k_X11_copy {l : Launch} {D : va_G} {cy : cyS} {G : gS} {M M' : mS} {a0 : Nat} {a1 : Nat} {a2 : Nat} (hG : wt G) (hL0 : a0 ∈ gL G) (hK0 : gK G a0 = 10) (hL1 : a1 ∈ gL G) (hK1 : gK G a1 = 12) (hL2 : a2 ∈ gL G) (hK2 : gK G a2 = 12) (h : m_X11_copy G M a0 a1 a2 = some (M', ())) : ctV l yX11_copy wsX11_copy rmX11_copy D cy G M [.ref a0, .ref a1, .ref a2] M' := by
  unfold m_X11_copy at h
  refine ctV_of (cc := cX11_copy) (nL := 3) (ret := none) (lv := [(0, .ref a0), (1, .ref a1), (2, .ref a2)]) hG (by decide) rfl ⟨rfl, rfl⟩ (Nat.le_of_ble_eq_true rfl) rfl ?_
  intro p e s m args below meth c A ls cx w hl
  obtain ⟨hx, hb, hml, hown, hts, hr, hlocks, hK, hA, -, hsx⟩ := id cx
  have hkn : 0 ≤ (rmX11_copy).cells ∧ 0 ≤ (rmX11_copy).slots := ⟨Nat.zero_le _, Nat.zero_le _⟩
  refine lv_aload_n hx hb dX11_copy_0 rfl (lv_at hl 1 rfl) ?_
  refine lv_iconst (v := (0 : Int32)) hx hb dX11_copy_1 (by decide) ?_
  refine lv_aload_n hx hb dX11_copy_2 rfl (lv_at hl 2 rfl) ?_
  refine lv_iconst (v := (0 : Int32)) hx hb dX11_copy_3 (by decide) ?_
  refine lv_aload_n hx hb dX11_copy_4 rfl (lv_at hl 1 rfl) ?_
  refine r_alen cx w hL1 hK1 (by decide) dX11_copy_5 ?_
  obtain ⟨z1, h⟩ := x_ck h
  obtain ⟨M2, eM2, h⟩ := x_wC h
  refine r_copy cx w (hml.trans hl.1.symm) (hts _ (List.mem_of_getElem? (i := 1) rfl)) (hts _ (List.mem_of_getElem? (i := 2) rfl)) (hts _ (List.mem_of_getElem? (i := 3) rfl)) (hts _ (List.mem_of_getElem? (i := 4) rfl)) hL1 hK1 hL2 hK2 z1 (Nat.le_of_ble_eq_true rfl) (Nat.le_of_ble_eq_true rfl) dX11_copy_6 eM2 (fun H locs w => ?_)
  exact r_vret cx w h dX11_copy_9
-- X11_forget
theorem wi_X11_forget_X11 : ∀ w ∈ wsX110, w ∈ wsX11_forget := by decide +kernel
abbrev rmX11_forget : Room := { frames := 0, cells := 0, slots := 0, locals := 0 }
def m_X11_forget_9 (G : gS) (a0 : Nat) (c1 : Int32)  : Nat → mS → Int32 → Option (mS × Unit)
  | 0, _, _ => none
  | n + 1, M, v2 => (if (120 : Int32) < v2 then some (M, ()) else o_rf (gP G a0 13) (fun q2 => o_ix (((121 : Int32) * c1) + v2) (gN G q2) (o_wI M q2 (Int32.toNatClampNeg (((121 : Int32) * c1) + v2)) (0 : Int32) (fun M4 => o_bd (v2 + 1 : Int32) (fun x5 => m_X11_forget_9 G a0 c1 n M4 x5)))))
def m_X11_forget (G : gS) (M : mS) (a0 : Nat) (c1 : Int32) : Option (mS × Unit) := o_rf (gP G a0 11) (fun q1 => o_ix c1 (gN G q1) (o_wI M q1 (Int32.toNatClampNeg c1) (0 : Int32) (fun M3 => m_X11_forget_9 G a0 c1 fu M3 ((0 : Int32)))))
set_option maxHeartbeats 4000000 in
set_option maxRecDepth 100000 in
theorem b_X11_forget_9 {p : Program} {e : Env} {s : State} {m : MethodId} {args : Array Value} {below : List Frame} {meth : Method} {c : Code} {A : Nat → Prop} {l : Launch} {D : va_G} {cy : cyS} {G : gS} (cx : cX p s m args meth c cX11_forget RX11 3 none wsX11_forget D cy G A) {k0 n0 : Nat} (hkn : k0 ≤ (rmX11_forget).cells ∧ n0 ≤ (rmX11_forget).slots) {M' : mS} {a0 : Nat} {c1 : Int32} (hL0 : a0 ∈ gL G) (hK0 : gK G a0 = 10)  : ∀ (n : Nat), ∀ (M : mS) (v2 : Int32) (H : Heap) (locs : List Loc) (ls : Array Slot), m_X11_forget_9 G a0 c1 n M v2 = some (M', ()) → wd D cy G M A s.heap H locs → lv_has ls 3 [(0, .ref a0), (1, .int c1), (2, .int v2)] → W p l e rmX11_forget s m args below meth c H locs k0 n0 (MQ below (va_Qv (fun (_ : Unit) => True) (fun _ t => wOut D cy G M' t) A) args s k0 n0 A) (F0 m 9 ls []) := by
  obtain ⟨hx, hb, hml, hown, hts, hr, hlocks, hK, hA, hG, hsx⟩ := id cx
  intro n
  induction n with
  | zero =>
    intro M v2 H locs ls h w hl
    have h : none = some _ := h
    cases h
  | succ n ih =>
    intro M v2 H locs ls h w hl
    rw [m_X11_forget_9] at h
    refine lv_iload_n hx hb dX11_forget_9 rfl (lv_at hl 2 rfl) ?_
    refine lv_bipush (v := (120 : Int32)) hx hb dX11_forget_10 (by decide) ?_
    refine lv_icmp_gt (tgt := 33) hx hb dX11_forget_12 (by decide) (fun k1 => ?_) (fun k1 => ?_)
    · have h := x_t h k1
      exact r_vret cx w h dX11_forget_33
    · have h := x_f h k1
      refine lv_aload_n hx hb dX11_forget_15 rfl (lv_at hl 0 rfl) ?_
      obtain ⟨q2, eq2, h⟩ := x_rf h
      obtain ⟨hLq2, hKq2⟩ := wt_q hG hL0 hK0 eq2
      have hKq2 : gK G q2 = 12 := hKq2
      refine r_getR (k := 13) cx w hL0 hK0 (by decide) rfl wi_X11_forget_X11 (by decide) rfl eq2 (List.mem_of_getElem? (i := 2) rfl) dX11_forget_16 ?_
      refine lv_bipush (v := (121 : Int32)) hx hb dX11_forget_19 (by decide) ?_
      refine lv_iload_n hx hb dX11_forget_21 rfl (lv_at hl 1 rfl) ?_
      refine lv_imul hx hb dX11_forget_22 ?_
      refine lv_iload_n hx hb dX11_forget_23 rfl (lv_at hl 2 rfl) ?_
      refine lv_iadd hx hb dX11_forget_24 ?_
      refine lv_iconst (v := (0 : Int32)) hx hb dX11_forget_25 (by decide) ?_
      obtain ⟨z3, h⟩ := x_ix h
      obtain ⟨M4, eM4, h⟩ := x_wI h
      refine r_iast cx w hLq2 hKq2 z3 dX11_forget_26 eM4 (fun H locs w => ?_)
      obtain ⟨x5, ex5, h⟩ := x_bd h
      refine lv_iinc (v := x5) (lv' := [(2, .int x5), (0, .ref a0), (1, .int c1)]) hx hb dX11_forget_27 hl (k := 2) rfl (by rw [ex5]; rfl) (by decide) rfl (fun ls hl => ?_)
      refine lv_goto (tgt := 9) hx hb dX11_forget_30 (by decide) ?_
      exact ih M4 x5 H locs ls h w (lv_sub hl [1, 2, 0] rfl)
set_option maxHeartbeats 4000000 in
set_option maxRecDepth 100000 in
theorem k_X11_forget {l : Launch} {D : va_G} {cy : cyS} {G : gS} {M M' : mS} {a0 : Nat} {c1 : Int32} (hG : wt G) (hL0 : a0 ∈ gL G) (hK0 : gK G a0 = 10) (h : m_X11_forget G M a0 c1 = some (M', ())) : ctV l yX11_forget wsX11_forget rmX11_forget D cy G M [.ref a0, .int c1] M' := by
  unfold m_X11_forget at h
  refine ctV_of (cc := cX11_forget) (nL := 3) (ret := none) (lv := [(0, .ref a0), (1, .int c1)]) hG (by decide) rfl ⟨rfl, rfl⟩ (Nat.le_of_ble_eq_true rfl) rfl ?_
  intro p e s m args below meth c A ls cx w hl
  obtain ⟨hx, hb, hml, hown, hts, hr, hlocks, hK, hA, -, hsx⟩ := id cx
  have hkn : 0 ≤ (rmX11_forget).cells ∧ 0 ≤ (rmX11_forget).slots := ⟨Nat.zero_le _, Nat.zero_le _⟩
  refine lv_aload_n hx hb dX11_forget_0 rfl (lv_at hl 0 rfl) ?_
  obtain ⟨q1, eq1, h⟩ := x_rf h
  obtain ⟨hLq1, hKq1⟩ := wt_q hG hL0 hK0 eq1
  have hKq1 : gK G q1 = 12 := hKq1
  refine r_getR (k := 11) cx w hL0 hK0 (by decide) rfl wi_X11_forget_X11 (by decide) rfl eq1 (List.mem_of_getElem? (i := 1) rfl) dX11_forget_1 ?_
  refine lv_iload_n hx hb dX11_forget_4 rfl (lv_at hl 1 rfl) ?_
  refine lv_iconst (v := (0 : Int32)) hx hb dX11_forget_5 (by decide) ?_
  obtain ⟨z2, h⟩ := x_ix h
  obtain ⟨M3, eM3, h⟩ := x_wI h
  refine r_iast cx w hLq1 hKq1 z2 dX11_forget_6 eM3 (fun H locs w => ?_)
  refine lv_iconst (v := (0 : Int32)) hx hb dX11_forget_7 (by decide) ?_
  refine lv_istore_n (lv' := [(2, .int ((0 : Int32))), (0, .ref a0), (1, .int c1)]) hx hb dX11_forget_8 rfl hl (by decide) rfl (fun ls hl => ?_)
  exact b_X11_forget_9 cx hkn hL0 hK0 fu M3 ((0 : Int32)) H locs ls h w (lv_sub hl [1, 2, 0] rfl)
-- X11_begin
theorem wi_X11_begin_X10 : ∀ w ∈ wsX100, w ∈ wsX11_begin := by decide +kernel
theorem wi_X11_begin_X11 : ∀ w ∈ wsX110, w ∈ wsX11_begin := by decide +kernel
theorem wi_X11_begin_X12 : ∀ w ∈ wsX120, w ∈ wsX11_begin := by decide +kernel
abbrev rmX11_begin : Room := { frames := 2, cells := 0, slots := 0, locals := 82 }
def m_X11_begin_87 (G : gS) (a0 : Nat) (kb40 : mS → Int32 → Option (mS × Unit)) (kb55 : mS → Int32 → Int32 → Option (mS × Unit)) (M : mS) (v1 : Int32) (v2 : Int32) (s0 : Nat) (s1 : Int32) (s2 : Int32) (s3 : Int32) : Option (mS × Unit) := o_ix s1 (gN G s0) (o_wI M s0 (Int32.toNatClampNeg s1) (s2 + s3) (fun M2 => o_bd (v2 + 1 : Int32) (fun x3 => kb55 M2 v1 x3)))
def m_X11_begin_55 (G : gS) (a0 : Nat) (kb40 : mS → Int32 → Option (mS × Unit)) : Nat → mS → Int32 → Int32 → Option (mS × Unit)
  | 0, _, _, _ => none
  | n + 1, M, v1, v2 => (if (64 : Int32) ≤ v2 then o_bd (v1 + 1 : Int32) (fun x2 => kb40 M x2) else o_rf (gP G a0 5) (fun q3 => o_ix v1 (gN G q3) (o_rf (gP G a0 4) (fun q5 => o_ix (((64 : Int32) * v1) + v2) (gN G q5) ((if (mI M q5 (Int32.toNatClampNeg (((64 : Int32) * v1) + v2))) ≤ 0 then m_X11_begin_87 G a0 kb40 (fun M v1 v2 => m_X11_begin_55 G a0 kb40 n M v1 v2) M v1 v2 q3 v1 ((mI M q3 (Int32.toNatClampNeg v1))) ((0 : Int32)) else m_X11_begin_87 G a0 kb40 (fun M v1 v2 => m_X11_begin_55 G a0 kb40 n M v1 v2) M v1 v2 q3 v1 ((mI M q3 (Int32.toNatClampNeg v1))) ((1 : Int32))))))))
def m_X11_begin_157 (G : gS) (a0 : Nat)  : Nat → mS → Int32 → Option (mS × Unit)
  | 0, _, _ => none
  | n + 1, M, v1 => (if (6 : Int32) ≤ v1 then some (M, ()) else o_rf (gP G a0 9) (fun q2 => o_ix v1 (gN G q2) (o_wI M q2 (Int32.toNatClampNeg v1) (0 : Int32) (fun M4 => o_rf (gP G a0 10) (fun q5 => o_ix v1 (gN G q5) (o_wI M4 q5 (Int32.toNatClampNeg v1) (0 : Int32) (fun M7 => o_cl (m_X11_forget G M7 a0 v1) (fun M8 r9 => o_bd (v1 + 1 : Int32) (fun x11 => m_X11_begin_157 G a0 n M8 x11)))))))))
def m_X11_begin_40 (G : gS) (a0 : Nat)  : Nat → mS → Int32 → Option (mS × Unit)
  | 0, _, _ => none
  | n + 1, M, v1 => (if (64 : Int32) ≤ v1 then o_rf (gP G a0 15) (fun q2 => o_rf (gP G q2 11) (fun q3 => o_rf (gP G q3 7) (fun q4 => o_rf (gP G a0 6) (fun q5 => o_cl (m_X11_copy G M a0 q4 q5) (fun M6 r7 => o_rf (gP G a0 15) (fun q9 => o_rf (gP G q9 11) (fun q10 => o_rf (gP G q10 8) (fun q11 => o_rf (gP G a0 7) (fun q12 => o_cl (m_X11_copy G M6 a0 q11 q12) (fun M13 r14 => o_rf (gP G a0 15) (fun q16 => o_rf (gP G q16 11) (fun q17 => o_rf (gP G q17 9) (fun q18 => o_rf (gP G a0 8) (fun q19 => o_cl (m_X11_copy G M13 a0 q18 q19) (fun M20 r21 => m_X11_begin_157 G a0 fu M20 ((0 : Int32))))))))))))))))) else o_rf (gP G a0 5) (fun q23 => o_ix v1 (gN G q23) (o_wI M q23 (Int32.toNatClampNeg v1) (0 : Int32) (fun M25 => m_X11_begin_55 G a0 (fun M v1 => m_X11_begin_40 G a0 n M v1) fu M25 v1 ((0 : Int32))))))
def m_X11_begin (G : gS) (M : mS) (a0 : Nat) : Option (mS × Unit) := o_wI M a0 0 (0 : Int32) (fun M1 => o_wI M1 a0 1 (0 : Int32) (fun M2 => o_wI M2 a0 2 (0 : Int32) (fun M3 => o_wI M3 a0 3 (0 : Int32) (fun M4 => o_rf (gP G a0 15) (fun q5 => o_rf (gP G q5 11) (fun q6 => o_rf (gP G q6 10) (fun q7 => o_rf (gP G a0 4) (fun q8 => o_cl (m_X11_copy G M4 a0 q7 q8) (fun M9 r10 => m_X11_begin_40 G a0 fu M9 ((0 : Int32)))))))))))
set_option maxHeartbeats 4000000 in
set_option maxRecDepth 100000 in
theorem b_X11_begin_87 {p : Program} {e : Env} {s : State} {m : MethodId} {args : Array Value} {below : List Frame} {meth : Method} {c : Code} {A : Nat → Prop} {l : Launch} {D : va_G} {cy : cyS} {G : gS} (cx : cX p s m args meth c cX11_begin RX11 3 none wsX11_begin D cy G A) {k0 n0 : Nat} (hkn : k0 ≤ (rmX11_begin).cells ∧ n0 ≤ (rmX11_begin).slots) {M' : mS} {a0 : Nat} (hL0 : a0 ∈ gL G) (hK0 : gK G a0 = 10) {kb40 : mS → Int32 → Option (mS × Unit)} (hkb40 : ∀ (M : mS) (v1 : Int32) (H : Heap) (locs : List Loc) (ls : Array Slot), kb40 M v1 = some (M', ()) → wd D cy G M A s.heap H locs → lv_has ls 3 [(0, .ref a0), (1, .int v1)] → W p l e rmX11_begin s m args below meth c H locs k0 n0 (MQ below (va_Qv (fun (_ : Unit) => True) (fun _ t => wOut D cy G M' t) A) args s k0 n0 A) (F0 m 40 ls [])) {kb55 : mS → Int32 → Int32 → Option (mS × Unit)} (hkb55 : ∀ (M : mS) (v1 : Int32) (v2 : Int32) (H : Heap) (locs : List Loc) (ls : Array Slot), kb55 M v1 v2 = some (M', ()) → wd D cy G M A s.heap H locs → lv_has ls 3 [(0, .ref a0), (1, .int v1), (2, .int v2)] → W p l e rmX11_begin s m args below meth c H locs k0 n0 (MQ below (va_Qv (fun (_ : Unit) => True) (fun _ t => wOut D cy G M' t) A) args s k0 n0 A) (F0 m 55 ls [])) : ∀ (M : mS) (v1 : Int32) (v2 : Int32) (s0 : Nat) (s1 : Int32) (s2 : Int32) (s3 : Int32) (H : Heap) (locs : List Loc) (ls : Array Slot), s0 ∈ gL G → gK G s0 = 12 → m_X11_begin_87 G a0 kb40 kb55 M v1 v2 s0 s1 s2 s3 = some (M', ()) → wd D cy G M A s.heap H locs → lv_has ls 3 [(0, .ref a0), (1, .int v1), (2, .int v2)] → W p l e rmX11_begin s m args below meth c H locs k0 n0 (MQ below (va_Qv (fun (_ : Unit) => True) (fun _ t => wOut D cy G M' t) A) args s k0 n0 A) (F0 m 87 ls [.int s3, .int s2, .int s1, .ref s0]) := by
  obtain ⟨hx, hb, hml, hown, hts, hr, hlocks, hK, hA, hG, hsx⟩ := id cx
  intro M v1 v2 s0 s1 s2 s3 H locs ls sL0 sK0 h w hl
  unfold m_X11_begin_87 at h
  refine lv_iadd hx hb dX11_begin_87 ?_
  obtain ⟨z1, h⟩ := x_ix h
  obtain ⟨M2, eM2, h⟩ := x_wI h
  refine r_iast cx w sL0 sK0 z1 dX11_begin_88 eM2 (fun H locs w => ?_)
  obtain ⟨x3, ex3, h⟩ := x_bd h
  refine lv_iinc (v := x3) (lv' := [(2, .int x3), (0, .ref a0), (1, .int v1)]) hx hb dX11_begin_89 hl (k := 2) rfl (by rw [ex3]; rfl) (by decide) rfl (fun ls hl => ?_)
  refine lv_goto (tgt := 55) hx hb dX11_begin_92 (by decide) ?_
  exact hkb55 M2 v1 x3 H locs ls h w (lv_sub hl [1, 2, 0] rfl)
set_option maxHeartbeats 4000000 in
set_option maxRecDepth 100000 in
theorem b_X11_begin_55 {p : Program} {e : Env} {s : State} {m : MethodId} {args : Array Value} {below : List Frame} {meth : Method} {c : Code} {A : Nat → Prop} {l : Launch} {D : va_G} {cy : cyS} {G : gS} (cx : cX p s m args meth c cX11_begin RX11 3 none wsX11_begin D cy G A) {k0 n0 : Nat} (hkn : k0 ≤ (rmX11_begin).cells ∧ n0 ≤ (rmX11_begin).slots) {M' : mS} {a0 : Nat} (hL0 : a0 ∈ gL G) (hK0 : gK G a0 = 10) {kb40 : mS → Int32 → Option (mS × Unit)} (hkb40 : ∀ (M : mS) (v1 : Int32) (H : Heap) (locs : List Loc) (ls : Array Slot), kb40 M v1 = some (M', ()) → wd D cy G M A s.heap H locs → lv_has ls 3 [(0, .ref a0), (1, .int v1)] → W p l e rmX11_begin s m args below meth c H locs k0 n0 (MQ below (va_Qv (fun (_ : Unit) => True) (fun _ t => wOut D cy G M' t) A) args s k0 n0 A) (F0 m 40 ls [])) : ∀ (n : Nat), ∀ (M : mS) (v1 : Int32) (v2 : Int32) (H : Heap) (locs : List Loc) (ls : Array Slot), m_X11_begin_55 G a0 kb40 n M v1 v2 = some (M', ()) → wd D cy G M A s.heap H locs → lv_has ls 3 [(0, .ref a0), (1, .int v1), (2, .int v2)] → W p l e rmX11_begin s m args below meth c H locs k0 n0 (MQ below (va_Qv (fun (_ : Unit) => True) (fun _ t => wOut D cy G M' t) A) args s k0 n0 A) (F0 m 55 ls []) := by
  obtain ⟨hx, hb, hml, hown, hts, hr, hlocks, hK, hA, hG, hsx⟩ := id cx
  intro n
  induction n with
  | zero =>
    intro M v1 v2 H locs ls h w hl
    have h : none = some _ := h
    cases h
  | succ n ih =>
    intro M v1 v2 H locs ls h w hl
    rw [m_X11_begin_55] at h
    refine lv_iload_n hx hb dX11_begin_55 rfl (lv_at hl 2 rfl) ?_
    refine lv_bipush (v := (64 : Int32)) hx hb dX11_begin_56 (by decide) ?_
    refine lv_icmp_ge (tgt := 95) hx hb dX11_begin_58 (by decide) (fun k1 => ?_) (fun k1 => ?_)
    · have h := x_t h k1
      obtain ⟨x2, ex2, h⟩ := x_bd h
      refine lv_iinc (v := x2) (lv' := [(1, .int x2), (0, .ref a0), (2, .int v2)]) hx hb dX11_begin_95 hl (k := 1) rfl (by rw [ex2]; rfl) (by decide) rfl (fun ls hl => ?_)
      refine lv_goto (tgt := 40) hx hb dX11_begin_98 (by decide) ?_
      exact hkb40 M x2 H locs ls h w (lv_sub hl [1, 0] rfl)
    · have h := x_f h k1
      refine lv_aload_n hx hb dX11_begin_61 rfl (lv_at hl 0 rfl) ?_
      obtain ⟨q3, eq3, h⟩ := x_rf h
      obtain ⟨hLq3, hKq3⟩ := wt_q hG hL0 hK0 eq3
      have hKq3 : gK G q3 = 12 := hKq3
      refine r_getR (k := 5) cx w hL0 hK0 (by decide) rfl wi_X11_begin_X11 (by decide) rfl eq3 (List.mem_of_getElem? (i := 7) rfl) dX11_begin_62 ?_
      refine lv_iload_n hx hb dX11_begin_65 rfl (lv_at hl 1 rfl) ?_
      refine lv_dup2_11 hx hb dX11_begin_66 rfl rfl ?_
      obtain ⟨z4, h⟩ := x_ix h
      refine r_iald cx w hLq3 hKq3 z4 dX11_begin_67 ?_
      refine lv_aload_n hx hb dX11_begin_68 rfl (lv_at hl 0 rfl) ?_
      obtain ⟨q5, eq5, h⟩ := x_rf h
      obtain ⟨hLq5, hKq5⟩ := wt_q hG hL0 hK0 eq5
      have hKq5 : gK G q5 = 12 := hKq5
      refine r_getR (k := 4) cx w hL0 hK0 (by decide) rfl wi_X11_begin_X11 (by decide) rfl eq5 (List.mem_of_getElem? (i := 6) rfl) dX11_begin_69 ?_
      refine lv_bipush (v := (64 : Int32)) hx hb dX11_begin_72 (by decide) ?_
      refine lv_iload_n hx hb dX11_begin_74 rfl (lv_at hl 1 rfl) ?_
      refine lv_imul hx hb dX11_begin_75 ?_
      refine lv_iload_n hx hb dX11_begin_76 rfl (lv_at hl 2 rfl) ?_
      refine lv_iadd hx hb dX11_begin_77 ?_
      obtain ⟨z6, h⟩ := x_ix h
      refine r_iald cx w hLq5 hKq5 z6 dX11_begin_78 ?_
      refine lv_if_le (tgt := 86) hx hb dX11_begin_79 (by decide) (fun k7 => ?_) (fun k7 => ?_)
      · have h := x_t h k7
        refine lv_iconst (v := (0 : Int32)) hx hb dX11_begin_86 (by decide) ?_
        exact b_X11_begin_87 cx hkn hL0 hK0 (hkb40 := hkb40) (hkb55 := ih) M v1 v2 q3 v1 ((mI M q3 (Int32.toNatClampNeg v1))) ((0 : Int32)) H locs ls hLq3 hKq3 h w (lv_sub hl [0, 1, 2] rfl)
      · have h := x_f h k7
        refine lv_iconst (v := (1 : Int32)) hx hb dX11_begin_82 (by decide) ?_
        refine lv_goto (tgt := 87) hx hb dX11_begin_83 (by decide) ?_
        exact b_X11_begin_87 cx hkn hL0 hK0 (hkb40 := hkb40) (hkb55 := ih) M v1 v2 q3 v1 ((mI M q3 (Int32.toNatClampNeg v1))) ((1 : Int32)) H locs ls hLq3 hKq3 h w (lv_sub hl [0, 1, 2] rfl)
set_option maxHeartbeats 4000000 in
set_option maxRecDepth 100000 in
theorem b_X11_begin_157 {p : Program} {e : Env} {s : State} {m : MethodId} {args : Array Value} {below : List Frame} {meth : Method} {c : Code} {A : Nat → Prop} {l : Launch} {D : va_G} {cy : cyS} {G : gS} (cx : cX p s m args meth c cX11_begin RX11 3 none wsX11_begin D cy G A) {k0 n0 : Nat} (hkn : k0 ≤ (rmX11_begin).cells ∧ n0 ≤ (rmX11_begin).slots) {M' : mS} {a0 : Nat} (hL0 : a0 ∈ gL G) (hK0 : gK G a0 = 10)  : ∀ (n : Nat), ∀ (M : mS) (v1 : Int32) (H : Heap) (locs : List Loc) (ls : Array Slot), m_X11_begin_157 G a0 n M v1 = some (M', ()) → wd D cy G M A s.heap H locs → lv_has ls 3 [(0, .ref a0), (1, .int v1)] → W p l e rmX11_begin s m args below meth c H locs k0 n0 (MQ below (va_Qv (fun (_ : Unit) => True) (fun _ t => wOut D cy G M' t) A) args s k0 n0 A) (F0 m 157 ls []) := by
  obtain ⟨hx, hb, hml, hown, hts, hr, hlocks, hK, hA, hG, hsx⟩ := id cx
  intro n
  induction n with
  | zero =>
    intro M v1 H locs ls h w hl
    have h : none = some _ := h
    cases h
  | succ n ih =>
    intro M v1 H locs ls h w hl
    rw [m_X11_begin_157] at h
    refine lv_iload_n hx hb dX11_begin_157 rfl (lv_at hl 1 rfl) ?_
    refine lv_bipush (v := (6 : Int32)) hx hb dX11_begin_158 (by decide) ?_
    refine lv_icmp_ge (tgt := 188) hx hb dX11_begin_160 (by decide) (fun k1 => ?_) (fun k1 => ?_)
    · have h := x_t h k1
      exact r_vret cx w h dX11_begin_188
    · have h := x_f h k1
      refine lv_aload_n hx hb dX11_begin_163 rfl (lv_at hl 0 rfl) ?_
      obtain ⟨q2, eq2, h⟩ := x_rf h
      obtain ⟨hLq2, hKq2⟩ := wt_q hG hL0 hK0 eq2
      have hKq2 : gK G q2 = 12 := hKq2
      refine r_getR (k := 9) cx w hL0 hK0 (by decide) rfl wi_X11_begin_X11 (by decide) rfl eq2 (List.mem_of_getElem? (i := 11) rfl) dX11_begin_164 ?_
      refine lv_iload_n hx hb dX11_begin_167 rfl (lv_at hl 1 rfl) ?_
      refine lv_iconst (v := (0 : Int32)) hx hb dX11_begin_168 (by decide) ?_
      obtain ⟨z3, h⟩ := x_ix h
      obtain ⟨M4, eM4, h⟩ := x_wI h
      refine r_iast cx w hLq2 hKq2 z3 dX11_begin_169 eM4 (fun H locs w => ?_)
      refine lv_aload_n hx hb dX11_begin_170 rfl (lv_at hl 0 rfl) ?_
      obtain ⟨q5, eq5, h⟩ := x_rf h
      obtain ⟨hLq5, hKq5⟩ := wt_q hG hL0 hK0 eq5
      have hKq5 : gK G q5 = 12 := hKq5
      refine r_getR (k := 10) cx w hL0 hK0 (by decide) rfl wi_X11_begin_X11 (by decide) rfl eq5 (List.mem_of_getElem? (i := 12) rfl) dX11_begin_171 ?_
      refine lv_iload_n hx hb dX11_begin_174 rfl (lv_at hl 1 rfl) ?_
      refine lv_iconst (v := (0 : Int32)) hx hb dX11_begin_175 (by decide) ?_
      obtain ⟨z6, h⟩ := x_ix h
      obtain ⟨M7, eM7, h⟩ := x_wI h
      refine r_iast cx w hLq5 hKq5 z6 dX11_begin_176 eM7 (fun H locs w => ?_)
      refine lv_aload_n hx hb dX11_begin_177 rfl (lv_at hl 0 rfl) ?_
      refine lv_iload_n hx hb dX11_begin_178 rfl (lv_at hl 1 rfl) ?_
      obtain ⟨M8, r9, y10, h⟩ := x_cl h
      refine r_callVv (As := [.int v1]) (rest := []) cx w hkn hl.1 (k_X11_forget hG hL0 hK0 y10) (cwV 1 hts gX11_begin_X11_forget rfl rfl rfl (by decide +kernel) ⟨Nat.le_of_ble_eq_true rfl, Nat.le_of_ble_eq_true rfl⟩) hL0 hK0 (by decide) rfl rfl rfl (Nat.le_of_ble_eq_true rfl) dX11_begin_179 (fun H locs w => ?_)
      obtain ⟨x11, ex11, h⟩ := x_bd h
      refine lv_iinc (v := x11) (lv' := [(1, .int x11), (0, .ref a0)]) hx hb dX11_begin_182 hl (k := 1) rfl (by rw [ex11]; rfl) (by decide) rfl (fun ls hl => ?_)
      refine lv_goto (tgt := 157) hx hb dX11_begin_185 (by decide) ?_
      exact ih M8 x11 H locs ls h w (lv_sub hl [1, 0] rfl)
set_option maxHeartbeats 4000000 in
set_option maxRecDepth 100000 in
theorem b_X11_begin_40 {p : Program} {e : Env} {s : State} {m : MethodId} {args : Array Value} {below : List Frame} {meth : Method} {c : Code} {A : Nat → Prop} {l : Launch} {D : va_G} {cy : cyS} {G : gS} (cx : cX p s m args meth c cX11_begin RX11 3 none wsX11_begin D cy G A) {k0 n0 : Nat} (hkn : k0 ≤ (rmX11_begin).cells ∧ n0 ≤ (rmX11_begin).slots) {M' : mS} {a0 : Nat} (hL0 : a0 ∈ gL G) (hK0 : gK G a0 = 10)  : ∀ (n : Nat), ∀ (M : mS) (v1 : Int32) (H : Heap) (locs : List Loc) (ls : Array Slot), m_X11_begin_40 G a0 n M v1 = some (M', ()) → wd D cy G M A s.heap H locs → lv_has ls 3 [(0, .ref a0), (1, .int v1)] → W p l e rmX11_begin s m args below meth c H locs k0 n0 (MQ below (va_Qv (fun (_ : Unit) => True) (fun _ t => wOut D cy G M' t) A) args s k0 n0 A) (F0 m 40 ls []) := by
  obtain ⟨hx, hb, hml, hown, hts, hr, hlocks, hK, hA, hG, hsx⟩ := id cx
  intro n
  induction n with
  | zero =>
    intro M v1 H locs ls h w hl
    have h : none = some _ := h
    cases h
  | succ n ih =>
    intro M v1 H locs ls h w hl
    rw [m_X11_begin_40] at h
    refine lv_iload_n hx hb dX11_begin_40 rfl (lv_at hl 1 rfl) ?_
    refine lv_bipush (v := (64 : Int32)) hx hb dX11_begin_41 (by decide) ?_
    refine lv_icmp_ge (tgt := 101) hx hb dX11_begin_43 (by decide) (fun k1 => ?_) (fun k1 => ?_)
    · have h := x_t h k1
      refine lv_aload_n hx hb dX11_begin_101 rfl (lv_at hl 0 rfl) ?_
      refine lv_aload_n hx hb dX11_begin_102 rfl (lv_at hl 0 rfl) ?_
      obtain ⟨q2, eq2, h⟩ := x_rf h
      obtain ⟨hLq2, hKq2⟩ := wt_q hG hL0 hK0 eq2
      have hKq2 : gK G q2 = 11 := hKq2
      refine r_getR (k := 15) cx w hL0 hK0 (by decide) rfl wi_X11_begin_X11 (by decide) rfl eq2 (List.mem_of_getElem? (i := 5) rfl) dX11_begin_103 ?_
      obtain ⟨q3, eq3, h⟩ := x_rf h
      obtain ⟨hLq3, hKq3⟩ := wt_q hG hLq2 hKq2 eq3
      have hKq3 : gK G q3 = 9 := hKq3
      refine r_getRN (k := 11) cx w hLq2 hKq2 (by decide) rfl wi_X11_begin_X12 (by decide) rfl eq3 (nwF cx (q := (RX11, 72, "FlagAntsModel", "plan", "LFlagAntsModel$Plan;", "FlagAntsModel")) (List.mem_of_getElem? (i := 30) rfl)) dX11_begin_106 ?_
      obtain ⟨q4, eq4, h⟩ := x_rf h
      obtain ⟨hLq4, hKq4⟩ := wt_q hG hLq3 hKq3 eq4
      have hKq4 : gK G q4 = 12 := hKq4
      refine r_getRN (k := 7) cx w hLq3 hKq3 (by decide) rfl wi_X11_begin_X10 (by decide) rfl eq4 (nwF cx (q := (RX11, 79, "FlagAntsModel$Plan", "column", "[I", "FlagAntsModel")) (List.mem_of_getElem? (i := 32) rfl)) dX11_begin_109 ?_
      refine lv_aload_n hx hb dX11_begin_112 rfl (lv_at hl 0 rfl) ?_
      obtain ⟨q5, eq5, h⟩ := x_rf h
      obtain ⟨hLq5, hKq5⟩ := wt_q hG hL0 hK0 eq5
      have hKq5 : gK G q5 = 12 := hKq5
      refine r_getR (k := 6) cx w hL0 hK0 (by decide) rfl wi_X11_begin_X11 (by decide) rfl eq5 (List.mem_of_getElem? (i := 8) rfl) dX11_begin_113 ?_
      obtain ⟨M6, r7, y8, h⟩ := x_cl h
      refine r_callVv (As := [.ref q4, .ref q5]) (rest := []) cx w hkn hl.1 (k_X11_copy hG hL0 hK0 hLq4 hKq4 hLq5 hKq5 y8) (cwV 2 hts gX11_begin_X11_copy rfl rfl rfl (by decide +kernel) ⟨Nat.le_of_ble_eq_true rfl, Nat.le_of_ble_eq_true rfl⟩) hL0 hK0 (by decide) rfl rfl rfl (Nat.le_of_ble_eq_true rfl) dX11_begin_116 (fun H locs w => ?_)
      refine lv_aload_n hx hb dX11_begin_119 rfl (lv_at hl 0 rfl) ?_
      refine lv_aload_n hx hb dX11_begin_120 rfl (lv_at hl 0 rfl) ?_
      obtain ⟨q9, eq9, h⟩ := x_rf h
      obtain ⟨hLq9, hKq9⟩ := wt_q hG hL0 hK0 eq9
      have hKq9 : gK G q9 = 11 := hKq9
      refine r_getR (k := 15) cx w hL0 hK0 (by decide) rfl wi_X11_begin_X11 (by decide) rfl eq9 (List.mem_of_getElem? (i := 5) rfl) dX11_begin_121 ?_
      obtain ⟨q10, eq10, h⟩ := x_rf h
      obtain ⟨hLq10, hKq10⟩ := wt_q hG hLq9 hKq9 eq10
      have hKq10 : gK G q10 = 9 := hKq10
      refine r_getRN (k := 11) cx w hLq9 hKq9 (by decide) rfl wi_X11_begin_X12 (by decide) rfl eq10 (nwF cx (q := (RX11, 72, "FlagAntsModel", "plan", "LFlagAntsModel$Plan;", "FlagAntsModel")) (List.mem_of_getElem? (i := 30) rfl)) dX11_begin_124 ?_
      obtain ⟨q11, eq11, h⟩ := x_rf h
      obtain ⟨hLq11, hKq11⟩ := wt_q hG hLq10 hKq10 eq11
      have hKq11 : gK G q11 = 12 := hKq11
      refine r_getRN (k := 8) cx w hLq10 hKq10 (by decide) rfl wi_X11_begin_X10 (by decide) rfl eq11 (nwF cx (q := (RX11, 80, "FlagAntsModel$Plan", "row", "[I", "FlagAntsModel")) (List.mem_of_getElem? (i := 33) rfl)) dX11_begin_127 ?_
      refine lv_aload_n hx hb dX11_begin_130 rfl (lv_at hl 0 rfl) ?_
      obtain ⟨q12, eq12, h⟩ := x_rf h
      obtain ⟨hLq12, hKq12⟩ := wt_q hG hL0 hK0 eq12
      have hKq12 : gK G q12 = 12 := hKq12
      refine r_getR (k := 7) cx w hL0 hK0 (by decide) rfl wi_X11_begin_X11 (by decide) rfl eq12 (List.mem_of_getElem? (i := 9) rfl) dX11_begin_131 ?_
      obtain ⟨M13, r14, y15, h⟩ := x_cl h
      refine r_callVv (As := [.ref q11, .ref q12]) (rest := []) cx w hkn hl.1 (k_X11_copy hG hL0 hK0 hLq11 hKq11 hLq12 hKq12 y15) (cwV 2 hts gX11_begin_X11_copy rfl rfl rfl (by decide +kernel) ⟨Nat.le_of_ble_eq_true rfl, Nat.le_of_ble_eq_true rfl⟩) hL0 hK0 (by decide) rfl rfl rfl (Nat.le_of_ble_eq_true rfl) dX11_begin_134 (fun H locs w => ?_)
      refine lv_aload_n hx hb dX11_begin_137 rfl (lv_at hl 0 rfl) ?_
      refine lv_aload_n hx hb dX11_begin_138 rfl (lv_at hl 0 rfl) ?_
      obtain ⟨q16, eq16, h⟩ := x_rf h
      obtain ⟨hLq16, hKq16⟩ := wt_q hG hL0 hK0 eq16
      have hKq16 : gK G q16 = 11 := hKq16
      refine r_getR (k := 15) cx w hL0 hK0 (by decide) rfl wi_X11_begin_X11 (by decide) rfl eq16 (List.mem_of_getElem? (i := 5) rfl) dX11_begin_139 ?_
      obtain ⟨q17, eq17, h⟩ := x_rf h
      obtain ⟨hLq17, hKq17⟩ := wt_q hG hLq16 hKq16 eq17
      have hKq17 : gK G q17 = 9 := hKq17
      refine r_getRN (k := 11) cx w hLq16 hKq16 (by decide) rfl wi_X11_begin_X12 (by decide) rfl eq17 (nwF cx (q := (RX11, 72, "FlagAntsModel", "plan", "LFlagAntsModel$Plan;", "FlagAntsModel")) (List.mem_of_getElem? (i := 30) rfl)) dX11_begin_142 ?_
      obtain ⟨q18, eq18, h⟩ := x_rf h
      obtain ⟨hLq18, hKq18⟩ := wt_q hG hLq17 hKq17 eq18
      have hKq18 : gK G q18 = 12 := hKq18
      refine r_getRN (k := 9) cx w hLq17 hKq17 (by decide) rfl wi_X11_begin_X10 (by decide) rfl eq18 (nwF cx (q := (RX11, 81, "FlagAntsModel$Plan", "side", "[I", "FlagAntsModel")) (List.mem_of_getElem? (i := 34) rfl)) dX11_begin_145 ?_
      refine lv_aload_n hx hb dX11_begin_148 rfl (lv_at hl 0 rfl) ?_
      obtain ⟨q19, eq19, h⟩ := x_rf h
      obtain ⟨hLq19, hKq19⟩ := wt_q hG hL0 hK0 eq19
      have hKq19 : gK G q19 = 12 := hKq19
      refine r_getR (k := 8) cx w hL0 hK0 (by decide) rfl wi_X11_begin_X11 (by decide) rfl eq19 (List.mem_of_getElem? (i := 10) rfl) dX11_begin_149 ?_
      obtain ⟨M20, r21, y22, h⟩ := x_cl h
      refine r_callVv (As := [.ref q18, .ref q19]) (rest := []) cx w hkn hl.1 (k_X11_copy hG hL0 hK0 hLq18 hKq18 hLq19 hKq19 y22) (cwV 2 hts gX11_begin_X11_copy rfl rfl rfl (by decide +kernel) ⟨Nat.le_of_ble_eq_true rfl, Nat.le_of_ble_eq_true rfl⟩) hL0 hK0 (by decide) rfl rfl rfl (Nat.le_of_ble_eq_true rfl) dX11_begin_152 (fun H locs w => ?_)
      refine lv_iconst (v := (0 : Int32)) hx hb dX11_begin_155 (by decide) ?_
      refine lv_istore_n (lv' := [(1, .int ((0 : Int32))), (0, .ref a0)]) hx hb dX11_begin_156 rfl hl (by decide) rfl (fun ls hl => ?_)
      exact b_X11_begin_157 cx hkn hL0 hK0 fu M20 ((0 : Int32)) H locs ls h w (lv_sub hl [1, 0] rfl)
    · have h := x_f h k1
      refine lv_aload_n hx hb dX11_begin_46 rfl (lv_at hl 0 rfl) ?_
      obtain ⟨q23, eq23, h⟩ := x_rf h
      obtain ⟨hLq23, hKq23⟩ := wt_q hG hL0 hK0 eq23
      have hKq23 : gK G q23 = 12 := hKq23
      refine r_getR (k := 5) cx w hL0 hK0 (by decide) rfl wi_X11_begin_X11 (by decide) rfl eq23 (List.mem_of_getElem? (i := 7) rfl) dX11_begin_47 ?_
      refine lv_iload_n hx hb dX11_begin_50 rfl (lv_at hl 1 rfl) ?_
      refine lv_iconst (v := (0 : Int32)) hx hb dX11_begin_51 (by decide) ?_
      obtain ⟨z24, h⟩ := x_ix h
      obtain ⟨M25, eM25, h⟩ := x_wI h
      refine r_iast cx w hLq23 hKq23 z24 dX11_begin_52 eM25 (fun H locs w => ?_)
      refine lv_iconst (v := (0 : Int32)) hx hb dX11_begin_53 (by decide) ?_
      refine lv_istore_n (lv' := [(2, .int ((0 : Int32))), (0, .ref a0), (1, .int v1)]) hx hb dX11_begin_54 rfl hl (by decide) rfl (fun ls hl => ?_)
      exact b_X11_begin_55 cx hkn hL0 hK0 (hkb40 := ih) fu M25 v1 ((0 : Int32)) H locs ls h w (lv_sub hl [1, 2, 0] rfl)
set_option maxHeartbeats 4000000 in
set_option maxRecDepth 100000 in
theorem k_X11_begin {l : Launch} {D : va_G} {cy : cyS} {G : gS} {M M' : mS} {a0 : Nat} (hG : wt G) (hL0 : a0 ∈ gL G) (hK0 : gK G a0 = 10) (h : m_X11_begin G M a0 = some (M', ())) : ctV l yX11_begin wsX11_begin rmX11_begin D cy G M [.ref a0] M' := by
  unfold m_X11_begin at h
  refine ctV_of (cc := cX11_begin) (nL := 3) (ret := none) (lv := [(0, .ref a0)]) hG (by decide) rfl ⟨rfl, rfl⟩ (Nat.le_of_ble_eq_true rfl) rfl ?_
  intro p e s m args below meth c A ls cx w hl
  obtain ⟨hx, hb, hml, hown, hts, hr, hlocks, hK, hA, -, hsx⟩ := id cx
  have hkn : 0 ≤ (rmX11_begin).cells ∧ 0 ≤ (rmX11_begin).slots := ⟨Nat.zero_le _, Nat.zero_le _⟩
  refine lv_aload_n hx hb dX11_begin_0 rfl (lv_at hl 0 rfl) ?_
  refine lv_iconst (v := (0 : Int32)) hx hb dX11_begin_1 (by decide) ?_
  obtain ⟨M1, eM1, h⟩ := x_wI h
  refine r_putI (k := 0) (ty := .int) cx w tyX11 tyX11_ok nmX11 hL0 hK0 (by decide) rfl wi_X11_begin_X11 (by decide) rfl rfl rfl rfl st_10_0 (ln_10 _ _ (by decide)) (List.mem_of_getElem? (i := 1) rfl) dX11_begin_2 eM1 (fun H locs w => ?_)
  refine lv_aload_n hx hb dX11_begin_5 rfl (lv_at hl 0 rfl) ?_
  refine lv_iconst (v := (0 : Int32)) hx hb dX11_begin_6 (by decide) ?_
  obtain ⟨M2, eM2, h⟩ := x_wI h
  refine r_putI (k := 1) (ty := .int) cx w tyX11 tyX11_ok nmX11 hL0 hK0 (by decide) rfl wi_X11_begin_X11 (by decide) rfl rfl rfl rfl st_10_1 (ln_10 _ _ (by decide)) (List.mem_of_getElem? (i := 2) rfl) dX11_begin_7 eM2 (fun H locs w => ?_)
  refine lv_aload_n hx hb dX11_begin_10 rfl (lv_at hl 0 rfl) ?_
  refine lv_iconst (v := (0 : Int32)) hx hb dX11_begin_11 (by decide) ?_
  obtain ⟨M3, eM3, h⟩ := x_wI h
  refine r_putI (k := 2) (ty := .int) cx w tyX11 tyX11_ok nmX11 hL0 hK0 (by decide) rfl wi_X11_begin_X11 (by decide) rfl rfl rfl rfl st_10_2 (ln_10 _ _ (by decide)) (List.mem_of_getElem? (i := 3) rfl) dX11_begin_12 eM3 (fun H locs w => ?_)
  refine lv_aload_n hx hb dX11_begin_15 rfl (lv_at hl 0 rfl) ?_
  refine lv_iconst (v := (0 : Int32)) hx hb dX11_begin_16 (by decide) ?_
  obtain ⟨M4, eM4, h⟩ := x_wI h
  refine r_putI (k := 3) (ty := .int) cx w tyX11 tyX11_ok nmX11 hL0 hK0 (by decide) rfl wi_X11_begin_X11 (by decide) rfl rfl rfl rfl st_10_3 (ln_10 _ _ (by decide)) (List.mem_of_getElem? (i := 4) rfl) dX11_begin_17 eM4 (fun H locs w => ?_)
  refine lv_aload_n hx hb dX11_begin_20 rfl (lv_at hl 0 rfl) ?_
  refine lv_aload_n hx hb dX11_begin_21 rfl (lv_at hl 0 rfl) ?_
  obtain ⟨q5, eq5, h⟩ := x_rf h
  obtain ⟨hLq5, hKq5⟩ := wt_q hG hL0 hK0 eq5
  have hKq5 : gK G q5 = 11 := hKq5
  refine r_getR (k := 15) cx w hL0 hK0 (by decide) rfl wi_X11_begin_X11 (by decide) rfl eq5 (List.mem_of_getElem? (i := 5) rfl) dX11_begin_22 ?_
  obtain ⟨q6, eq6, h⟩ := x_rf h
  obtain ⟨hLq6, hKq6⟩ := wt_q hG hLq5 hKq5 eq6
  have hKq6 : gK G q6 = 9 := hKq6
  refine r_getRN (k := 11) cx w hLq5 hKq5 (by decide) rfl wi_X11_begin_X12 (by decide) rfl eq6 (nwF cx (q := (RX11, 72, "FlagAntsModel", "plan", "LFlagAntsModel$Plan;", "FlagAntsModel")) (List.mem_of_getElem? (i := 30) rfl)) dX11_begin_25 ?_
  obtain ⟨q7, eq7, h⟩ := x_rf h
  obtain ⟨hLq7, hKq7⟩ := wt_q hG hLq6 hKq6 eq7
  have hKq7 : gK G q7 = 12 := hKq7
  refine r_getRN (k := 10) cx w hLq6 hKq6 (by decide) rfl wi_X11_begin_X10 (by decide) rfl eq7 (nwF cx (q := (RX11, 76, "FlagAntsModel$Plan", "colours", "[I", "FlagAntsModel")) (List.mem_of_getElem? (i := 31) rfl)) dX11_begin_28 ?_
  refine lv_aload_n hx hb dX11_begin_31 rfl (lv_at hl 0 rfl) ?_
  obtain ⟨q8, eq8, h⟩ := x_rf h
  obtain ⟨hLq8, hKq8⟩ := wt_q hG hL0 hK0 eq8
  have hKq8 : gK G q8 = 12 := hKq8
  refine r_getR (k := 4) cx w hL0 hK0 (by decide) rfl wi_X11_begin_X11 (by decide) rfl eq8 (List.mem_of_getElem? (i := 6) rfl) dX11_begin_32 ?_
  obtain ⟨M9, r10, y11, h⟩ := x_cl h
  refine r_callVv (As := [.ref q7, .ref q8]) (rest := []) cx w hkn hl.1 (k_X11_copy hG hL0 hK0 hLq7 hKq7 hLq8 hKq8 y11) (cwV 2 hts gX11_begin_X11_copy rfl rfl rfl (by decide +kernel) ⟨Nat.le_of_ble_eq_true rfl, Nat.le_of_ble_eq_true rfl⟩) hL0 hK0 (by decide) rfl rfl rfl (Nat.le_of_ble_eq_true rfl) dX11_begin_35 (fun H locs w => ?_)
  refine lv_iconst (v := (0 : Int32)) hx hb dX11_begin_38 (by decide) ?_
  refine lv_istore_n (lv' := [(1, .int ((0 : Int32))), (0, .ref a0)]) hx hb dX11_begin_39 rfl hl (by decide) rfl (fun ls hl => ?_)
  exact b_X11_begin_40 cx hkn hL0 hK0 fu M9 ((0 : Int32)) H locs ls h w (lv_sub hl [1, 0] rfl)
-- X12_no
theorem wi_X12_no_X12 : ∀ w ∈ wsX120, w ∈ wsX12_no := by decide +kernel
abbrev rmX12_no : Room := { frames := 0, cells := 0, slots := 0, locals := 0 }
def m_X12_no (G : gS) (M : mS) (a0 : Nat) (c1 : Int32) : Option (mS × Int32) := o_wI M a0 0 c1 (fun M1 => some (M1, (0 : Int32)))
set_option maxHeartbeats 4000000 in
set_option maxRecDepth 100000 in
theorem k_X12_no {l : Launch} {D : va_G} {cy : cyS} {G : gS} {M M' : mS} {r : Int32} {a0 : Nat} {c1 : Int32} (hG : wt G) (hL0 : a0 ∈ gL G) (hK0 : gK G a0 = 11) (h : m_X12_no G M a0 c1 = some (M', r)) : ctI l yX12_no wsX12_no rmX12_no D cy G M [.ref a0, .int c1] M' r := by
  unfold m_X12_no at h
  refine ctI_of (cc := cX12_no) (nL := 2) (ret := (some .int)) (lv := [(0, .ref a0), (1, .int c1)]) hG (by decide) rfl ⟨rfl, rfl⟩ (Nat.le_of_ble_eq_true rfl) rfl ?_
  intro p e s m args below meth c A ls cx w hl
  obtain ⟨hx, hb, hml, hown, hts, hr, hlocks, hK, hA, -, hsx⟩ := id cx
  have hkn : 0 ≤ (rmX12_no).cells ∧ 0 ≤ (rmX12_no).slots := ⟨Nat.zero_le _, Nat.zero_le _⟩
  refine lv_aload_n hx hb dX12_no_0 rfl (lv_at hl 0 rfl) ?_
  refine lv_iload_n hx hb dX12_no_1 rfl (lv_at hl 1 rfl) ?_
  obtain ⟨M1, eM1, h⟩ := x_wI h
  refine r_putI (k := 0) (ty := .int) cx w tyX12 tyX12_ok nmX12 hL0 hK0 (by decide) rfl wi_X12_no_X12 (by decide) rfl rfl rfl rfl st_11_0 (ln_11 _ _ (by decide)) (List.mem_of_getElem? (i := 1) rfl) dX12_no_2 eM1 (fun H locs w => ?_)
  refine lv_iconst (v := (0 : Int32)) hx hb dX12_no_5 (by decide) ?_
  exact r_iret cx w h dX12_no_6
-- X12_thrown
theorem wi_X12_thrown_X12 : ∀ w ∈ wsX120, w ∈ wsX12_thrown := by decide +kernel
abbrev rmX12_thrown : Room := { frames := 0, cells := 0, slots := 0, locals := 0 }
def m_X12_thrown (G : gS) (M : mS) (a0 : Nat) : Option (mS × Int32) := some (M, (mI M a0 0))
set_option maxHeartbeats 4000000 in
set_option maxRecDepth 100000 in
theorem k_X12_thrown {l : Launch} {D : va_G} {cy : cyS} {G : gS} {M M' : mS} {r : Int32} {a0 : Nat} (hG : wt G) (hL0 : a0 ∈ gL G) (hK0 : gK G a0 = 11) (h : m_X12_thrown G M a0 = some (M', r)) : ctI l yX12_thrown wsX12_thrown rmX12_thrown D cy G M [.ref a0] M' r := by
  unfold m_X12_thrown at h
  refine ctI_of (cc := cX12_thrown) (nL := 1) (ret := (some .int)) (lv := [(0, .ref a0)]) hG (by decide) rfl ⟨rfl, rfl⟩ (Nat.le_of_ble_eq_true rfl) rfl ?_
  intro p e s m args below meth c A ls cx w hl
  obtain ⟨hx, hb, hml, hown, hts, hr, hlocks, hK, hA, -, hsx⟩ := id cx
  have hkn : 0 ≤ (rmX12_thrown).cells ∧ 0 ≤ (rmX12_thrown).slots := ⟨Nat.zero_le _, Nat.zero_le _⟩
  refine lv_aload_n hx hb dX12_thrown_0 rfl (lv_at hl 0 rfl) ?_
  refine r_getI (k := 0) (v := .int (mI M a0 0)) cx w hL0 hK0 (by decide) rfl wi_X12_thrown_X12 (by decide) rfl (List.mem_of_getElem? (i := 1) rfl) dX12_thrown_1 ?_
  exact r_iret cx w h dX12_thrown_4
-- X12_isIn
abbrev rmX12_isIn : Room := { frames := 0, cells := 0, slots := 0, locals := 0 }
def m_X12_isIn_14 (G : gS) (c0 : Int32) (c1 : Int32) (c2 : Int32)  (M : mS)  : Option (mS × Int32) := o_ck ((0 : Int32) = 0 ∨ (0 : Int32) = 1) (some (M, (0 : Int32)))
def m_X12_isIn (G : gS) (M : mS) (c0 : Int32) (c1 : Int32) (c2 : Int32) : Option (mS × Int32) := (if c0 < c1 then m_X12_isIn_14 G c0 c1 c2 M else (if c2 < c0 then m_X12_isIn_14 G c0 c1 c2 M else o_ck ((1 : Int32) = 0 ∨ (1 : Int32) = 1) (some (M, (1 : Int32)))))
set_option maxHeartbeats 4000000 in
set_option maxRecDepth 100000 in
theorem b_X12_isIn_14 {p : Program} {e : Env} {s : State} {m : MethodId} {args : Array Value} {below : List Frame} {meth : Method} {c : Code} {A : Nat → Prop} {l : Launch} {D : va_G} {cy : cyS} {G : gS} (cx : cX p s m args meth c cX12_isIn RX12 3 (some .boolean) wsX12_isIn D cy G A) {k0 n0 : Nat} (hkn : k0 ≤ (rmX12_isIn).cells ∧ n0 ≤ (rmX12_isIn).slots) {M' : mS} {r : Int32} {c0 : Int32} {c1 : Int32} {c2 : Int32}   : ∀ (M : mS) (H : Heap) (locs : List Loc) (ls : Array Slot), m_X12_isIn_14 G c0 c1 c2 M = some (M', r) → wd D cy G M A s.heap H locs → lv_has ls 3 [] → W p l e rmX12_isIn s m args below meth c H locs k0 n0 (MQ below (va_Qi (fun (r' : Int32) (_ : Unit) => r' = r) (fun _ t => wOut D cy G M' t) A) args s k0 n0 A) (F0 m 14 ls []) := by
  obtain ⟨hx, hb, hml, hown, hts, hr, hlocks, hK, hA, hG, hsx⟩ := id cx
  intro M H locs ls h w hl
  unfold m_X12_isIn_14 at h
  refine lv_iconst (v := (0 : Int32)) hx hb dX12_isIn_14 (by decide) ?_
  obtain ⟨z1, h⟩ := x_ck h
  exact r_zret cx w z1 h dX12_isIn_15
set_option maxHeartbeats 4000000 in
set_option maxRecDepth 100000 in
theorem k_X12_isIn {l : Launch} {D : va_G} {cy : cyS} {G : gS} {M M' : mS} {r : Int32} {c0 : Int32} {c1 : Int32} {c2 : Int32} (hG : wt G)  (h : m_X12_isIn G M c0 c1 c2 = some (M', r)) : ctI l yX12_isIn wsX12_isIn rmX12_isIn D cy G M [.int c0, .int c1, .int c2] M' r := by
  unfold m_X12_isIn at h
  refine ctI_of (cc := cX12_isIn) (nL := 3) (ret := (some .boolean)) (lv := [(0, .int c0), (1, .int c1), (2, .int c2)]) hG (by decide) rfl ⟨rfl, rfl⟩ (Nat.le_of_ble_eq_true rfl) rfl ?_
  intro p e s m args below meth c A ls cx w hl
  obtain ⟨hx, hb, hml, hown, hts, hr, hlocks, hK, hA, -, hsx⟩ := id cx
  have hkn : 0 ≤ (rmX12_isIn).cells ∧ 0 ≤ (rmX12_isIn).slots := ⟨Nat.zero_le _, Nat.zero_le _⟩
  refine lv_iload_n hx hb dX12_isIn_0 rfl (lv_at hl 0 rfl) ?_
  refine lv_iload_n hx hb dX12_isIn_1 rfl (lv_at hl 1 rfl) ?_
  refine lv_icmp_lt (tgt := 14) hx hb dX12_isIn_2 (by decide) (fun k1 => ?_) (fun k1 => ?_)
  · have h := x_t h k1
    exact b_X12_isIn_14 cx hkn M s.heap [] ls h w (lv_sub hl [] rfl)
  · have h := x_f h k1
    refine lv_iload_n hx hb dX12_isIn_5 rfl (lv_at hl 0 rfl) ?_
    refine lv_iload_n hx hb dX12_isIn_6 rfl (lv_at hl 2 rfl) ?_
    refine lv_icmp_gt (tgt := 14) hx hb dX12_isIn_7 (by decide) (fun k2 => ?_) (fun k2 => ?_)
    · have h := x_t h k2
      exact b_X12_isIn_14 cx hkn M s.heap [] ls h w (lv_sub hl [] rfl)
    · have h := x_f h k2
      refine lv_iconst (v := (1 : Int32)) hx hb dX12_isIn_10 (by decide) ?_
      refine lv_goto (tgt := 15) hx hb dX12_isIn_11 (by decide) ?_
      obtain ⟨z3, h⟩ := x_ck h
      exact r_zret cx w z3 h dX12_isIn_15
-- X12_trim
theorem wi_X12_trim_X12 : ∀ w ∈ wsX120, w ∈ wsX12_trim := by decide +kernel
abbrev rmX12_trim : Room := { frames := 1, cells := 0, slots := 0, locals := 22 }
def m_X12_trim (G : gS) (M : mS) (a0 : Nat) (c1 : Int32) : Option (mS × Int32) := o_wI M a0 0 (0 : Int32) (fun M1 => o_cl (m_X12_isIn G M1 c1 (0 : Int32) (mI M1 a0 2)) (fun M2 r3 => (if r3 = 0 then o_cl (m_X12_no G M2 a0 (1 : Int32)) (fun M7 r8 => some (M7, r8)) else o_wI M2 a0 2 c1 (fun M6 => some (M6, c1)))))
set_option maxHeartbeats 4000000 in
set_option maxRecDepth 100000 in
theorem k_X12_trim {l : Launch} {D : va_G} {cy : cyS} {G : gS} {M M' : mS} {r : Int32} {a0 : Nat} {c1 : Int32} (hG : wt G) (hL0 : a0 ∈ gL G) (hK0 : gK G a0 = 11) (h : m_X12_trim G M a0 c1 = some (M', r)) : ctI l yX12_trim wsX12_trim rmX12_trim D cy G M [.ref a0, .int c1] M' r := by
  unfold m_X12_trim at h
  refine ctI_of (cc := cX12_trim) (nL := 2) (ret := (some .int)) (lv := [(0, .ref a0), (1, .int c1)]) hG (by decide) rfl ⟨rfl, rfl⟩ (Nat.le_of_ble_eq_true rfl) rfl ?_
  intro p e s m args below meth c A ls cx w hl
  obtain ⟨hx, hb, hml, hown, hts, hr, hlocks, hK, hA, -, hsx⟩ := id cx
  have hkn : 0 ≤ (rmX12_trim).cells ∧ 0 ≤ (rmX12_trim).slots := ⟨Nat.zero_le _, Nat.zero_le _⟩
  refine lv_aload_n hx hb dX12_trim_0 rfl (lv_at hl 0 rfl) ?_
  refine lv_iconst (v := (0 : Int32)) hx hb dX12_trim_1 (by decide) ?_
  obtain ⟨M1, eM1, h⟩ := x_wI h
  refine r_putI (k := 0) (ty := .int) cx w tyX12 tyX12_ok nmX12 hL0 hK0 (by decide) rfl wi_X12_trim_X12 (by decide) rfl rfl rfl rfl st_11_0 (ln_11 _ _ (by decide)) (List.mem_of_getElem? (i := 1) rfl) dX12_trim_2 eM1 (fun H locs w => ?_)
  refine lv_iload_n hx hb dX12_trim_5 rfl (lv_at hl 1 rfl) ?_
  refine lv_iconst (v := (0 : Int32)) hx hb dX12_trim_6 (by decide) ?_
  refine lv_aload_n hx hb dX12_trim_7 rfl (lv_at hl 0 rfl) ?_
  refine r_getI (k := 2) (v := .int (mI M1 a0 2)) cx w hL0 hK0 (by decide) rfl wi_X12_trim_X12 (by decide) rfl (List.mem_of_getElem? (i := 2) rfl) dX12_trim_8 ?_
  obtain ⟨M2, r3, y4, h⟩ := x_cl h
  refine r_callSi (As := [.int c1, .int ((0 : Int32)), .int ((mI M1 a0 2))]) (rest := []) cx w hkn hl.1 (k_X12_isIn hG y4) (va_cwS 3 hts gX12_trim_X12_isIn rfl rfl rfl (by decide +kernel) ⟨Nat.le_of_ble_eq_true rfl, Nat.le_of_ble_eq_true rfl⟩) rfl rfl (Nat.le_of_ble_eq_true rfl) dX12_trim_11 (fun H locs w => ?_)
  refine lv_if_ne (tgt := 23) hx hb dX12_trim_14 (by decide) (fun k5 => ?_) (fun k5 => ?_)
  · have h := x_f h k5
    refine lv_aload_n hx hb dX12_trim_23 rfl (lv_at hl 0 rfl) ?_
    refine lv_iload_n hx hb dX12_trim_24 rfl (lv_at hl 1 rfl) ?_
    obtain ⟨M6, eM6, h⟩ := x_wI h
    refine r_putI (k := 2) (ty := .int) cx w tyX12 tyX12_ok nmX12 hL0 hK0 (by decide) rfl wi_X12_trim_X12 (by decide) rfl rfl rfl rfl st_11_2 (ln_11 _ _ (by decide)) (List.mem_of_getElem? (i := 2) rfl) dX12_trim_25 eM6 (fun H locs w => ?_)
    refine lv_iload_n hx hb dX12_trim_28 rfl (lv_at hl 1 rfl) ?_
    exact r_iret cx w h dX12_trim_29
  · have h := x_t h k5
    refine lv_aload_n hx hb dX12_trim_17 rfl (lv_at hl 0 rfl) ?_
    refine lv_iconst (v := (1 : Int32)) hx hb dX12_trim_18 (by decide) ?_
    obtain ⟨M7, r8, y9, h⟩ := x_cl h
    refine r_callVi (As := [.int ((1 : Int32))]) (rest := []) cx w hkn hl.1 (k_X12_no hG hL0 hK0 y9) (cwV 1 hts gX12_trim_X12_no rfl rfl rfl (by decide +kernel) ⟨Nat.le_of_ble_eq_true rfl, Nat.le_of_ble_eq_true rfl⟩) hL0 hK0 (by decide) rfl rfl rfl (Nat.le_of_ble_eq_true rfl) dX12_trim_19 (fun H locs w => ?_)
    exact r_iret cx w h dX12_trim_22
-- X12_byteOf
theorem wi_X12_byteOf_X12 : ∀ w ∈ wsX120, w ∈ wsX12_byteOf := by decide +kernel
abbrev rmX12_byteOf : Room := { frames := 0, cells := 0, slots := 0, locals := 0 }
def m_X12_byteOf (G : gS) (M : mS) (a0 : Nat) (c1 : Int32) : Option (mS × Int32) := (if (mI M a0 2) ≤ c1 then some (M, (-1 : Int32)) else o_rf (gP G a0 1) (fun q2 => o_ix c1 (gN G q2) (some (M, (mI M q2 (Int32.toNatClampNeg c1))))))
set_option maxHeartbeats 4000000 in
set_option maxRecDepth 100000 in
theorem k_X12_byteOf {l : Launch} {D : va_G} {cy : cyS} {G : gS} {M M' : mS} {r : Int32} {a0 : Nat} {c1 : Int32} (hG : wt G) (hL0 : a0 ∈ gL G) (hK0 : gK G a0 = 11) (h : m_X12_byteOf G M a0 c1 = some (M', r)) : ctI l yX12_byteOf wsX12_byteOf rmX12_byteOf D cy G M [.ref a0, .int c1] M' r := by
  unfold m_X12_byteOf at h
  refine ctI_of (cc := cX12_byteOf) (nL := 2) (ret := (some .int)) (lv := [(0, .ref a0), (1, .int c1)]) hG (by decide) rfl ⟨rfl, rfl⟩ (Nat.le_of_ble_eq_true rfl) rfl ?_
  intro p e s m args below meth c A ls cx w hl
  obtain ⟨hx, hb, hml, hown, hts, hr, hlocks, hK, hA, -, hsx⟩ := id cx
  have hkn : 0 ≤ (rmX12_byteOf).cells ∧ 0 ≤ (rmX12_byteOf).slots := ⟨Nat.zero_le _, Nat.zero_le _⟩
  refine lv_iload_n hx hb dX12_byteOf_0 rfl (lv_at hl 1 rfl) ?_
  refine lv_aload_n hx hb dX12_byteOf_1 rfl (lv_at hl 0 rfl) ?_
  refine r_getI (k := 2) (v := .int (mI M a0 2)) cx w hL0 hK0 (by decide) rfl wi_X12_byteOf_X12 (by decide) rfl (List.mem_of_getElem? (i := 1) rfl) dX12_byteOf_2 ?_
  refine lv_icmp_ge (tgt := 17) hx hb dX12_byteOf_5 (by decide) (fun k1 => ?_) (fun k1 => ?_)
  · have h := x_t h k1
    refine lv_iconst (v := (-1 : Int32)) hx hb dX12_byteOf_17 (by decide) ?_
    exact r_iret cx w h dX12_byteOf_18
  · have h := x_f h k1
    refine lv_aload_n hx hb dX12_byteOf_8 rfl (lv_at hl 0 rfl) ?_
    obtain ⟨q2, eq2, h⟩ := x_rf h
    obtain ⟨hLq2, hKq2⟩ := wt_q hG hL0 hK0 eq2
    have hKq2 : gK G q2 = 12 := hKq2
    refine r_getR (k := 1) cx w hL0 hK0 (by decide) rfl wi_X12_byteOf_X12 (by decide) rfl eq2 (List.mem_of_getElem? (i := 2) rfl) dX12_byteOf_9 ?_
    refine lv_iload_n hx hb dX12_byteOf_12 rfl (lv_at hl 1 rfl) ?_
    obtain ⟨z3, h⟩ := x_ix h
    refine r_iald cx w hLq2 hKq2 z3 dX12_byteOf_13 ?_
    refine lv_goto (tgt := 18) hx hb dX12_byteOf_14 (by decide) ?_
    exact r_iret cx w h dX12_byteOf_18
-- X12_isLetter
abbrev rmX12_isLetter : Room := { frames := 0, cells := 0, slots := 0, locals := 0 }
def m_X12_isLetter_16 (G : gS) (c0 : Int32)  (M : mS)  : Option (mS × Int32) := o_ck ((0 : Int32) = 0 ∨ (0 : Int32) = 1) (some (M, (0 : Int32)))
def m_X12_isLetter (G : gS) (M : mS) (c0 : Int32) : Option (mS × Int32) := (if c0 < (97 : Int32) then m_X12_isLetter_16 G c0 M else (if (122 : Int32) < c0 then m_X12_isLetter_16 G c0 M else o_ck ((1 : Int32) = 0 ∨ (1 : Int32) = 1) (some (M, (1 : Int32)))))
set_option maxHeartbeats 4000000 in
set_option maxRecDepth 100000 in
theorem b_X12_isLetter_16 {p : Program} {e : Env} {s : State} {m : MethodId} {args : Array Value} {below : List Frame} {meth : Method} {c : Code} {A : Nat → Prop} {l : Launch} {D : va_G} {cy : cyS} {G : gS} (cx : cX p s m args meth c cX12_isLetter RX12 1 (some .boolean) wsX12_isLetter D cy G A) {k0 n0 : Nat} (hkn : k0 ≤ (rmX12_isLetter).cells ∧ n0 ≤ (rmX12_isLetter).slots) {M' : mS} {r : Int32} {c0 : Int32}   : ∀ (M : mS) (H : Heap) (locs : List Loc) (ls : Array Slot), m_X12_isLetter_16 G c0 M = some (M', r) → wd D cy G M A s.heap H locs → lv_has ls 1 [] → W p l e rmX12_isLetter s m args below meth c H locs k0 n0 (MQ below (va_Qi (fun (r' : Int32) (_ : Unit) => r' = r) (fun _ t => wOut D cy G M' t) A) args s k0 n0 A) (F0 m 16 ls []) := by
  obtain ⟨hx, hb, hml, hown, hts, hr, hlocks, hK, hA, hG, hsx⟩ := id cx
  intro M H locs ls h w hl
  unfold m_X12_isLetter_16 at h
  refine lv_iconst (v := (0 : Int32)) hx hb dX12_isLetter_16 (by decide) ?_
  obtain ⟨z1, h⟩ := x_ck h
  exact r_zret cx w z1 h dX12_isLetter_17
set_option maxHeartbeats 4000000 in
set_option maxRecDepth 100000 in
theorem k_X12_isLetter {l : Launch} {D : va_G} {cy : cyS} {G : gS} {M M' : mS} {r : Int32} {c0 : Int32} (hG : wt G)  (h : m_X12_isLetter G M c0 = some (M', r)) : ctI l yX12_isLetter wsX12_isLetter rmX12_isLetter D cy G M [.int c0] M' r := by
  unfold m_X12_isLetter at h
  refine ctI_of (cc := cX12_isLetter) (nL := 1) (ret := (some .boolean)) (lv := [(0, .int c0)]) hG (by decide) rfl ⟨rfl, rfl⟩ (Nat.le_of_ble_eq_true rfl) rfl ?_
  intro p e s m args below meth c A ls cx w hl
  obtain ⟨hx, hb, hml, hown, hts, hr, hlocks, hK, hA, -, hsx⟩ := id cx
  have hkn : 0 ≤ (rmX12_isLetter).cells ∧ 0 ≤ (rmX12_isLetter).slots := ⟨Nat.zero_le _, Nat.zero_le _⟩
  refine lv_iload_n hx hb dX12_isLetter_0 rfl (lv_at hl 0 rfl) ?_
  refine lv_bipush (v := (97 : Int32)) hx hb dX12_isLetter_1 (by decide) ?_
  refine lv_icmp_lt (tgt := 16) hx hb dX12_isLetter_3 (by decide) (fun k1 => ?_) (fun k1 => ?_)
  · have h := x_t h k1
    exact b_X12_isLetter_16 cx hkn M s.heap [] ls h w (lv_sub hl [] rfl)
  · have h := x_f h k1
    refine lv_iload_n hx hb dX12_isLetter_6 rfl (lv_at hl 0 rfl) ?_
    refine lv_bipush (v := (122 : Int32)) hx hb dX12_isLetter_7 (by decide) ?_
    refine lv_icmp_gt (tgt := 16) hx hb dX12_isLetter_9 (by decide) (fun k2 => ?_) (fun k2 => ?_)
    · have h := x_t h k2
      exact b_X12_isLetter_16 cx hkn M s.heap [] ls h w (lv_sub hl [] rfl)
    · have h := x_f h k2
      refine lv_iconst (v := (1 : Int32)) hx hb dX12_isLetter_12 (by decide) ?_
      refine lv_goto (tgt := 17) hx hb dX12_isLetter_13 (by decide) ?_
      obtain ⟨z3, h⟩ := x_ck h
      exact r_zret cx w z3 h dX12_isLetter_17
-- X12_isDigit
abbrev rmX12_isDigit : Room := { frames := 0, cells := 0, slots := 0, locals := 0 }
def m_X12_isDigit_16 (G : gS) (c0 : Int32)  (M : mS)  : Option (mS × Int32) := o_ck ((0 : Int32) = 0 ∨ (0 : Int32) = 1) (some (M, (0 : Int32)))
def m_X12_isDigit (G : gS) (M : mS) (c0 : Int32) : Option (mS × Int32) := (if c0 < (48 : Int32) then m_X12_isDigit_16 G c0 M else (if (57 : Int32) < c0 then m_X12_isDigit_16 G c0 M else o_ck ((1 : Int32) = 0 ∨ (1 : Int32) = 1) (some (M, (1 : Int32)))))
set_option maxHeartbeats 4000000 in
set_option maxRecDepth 100000 in
theorem b_X12_isDigit_16 {p : Program} {e : Env} {s : State} {m : MethodId} {args : Array Value} {below : List Frame} {meth : Method} {c : Code} {A : Nat → Prop} {l : Launch} {D : va_G} {cy : cyS} {G : gS} (cx : cX p s m args meth c cX12_isDigit RX12 1 (some .boolean) wsX12_isDigit D cy G A) {k0 n0 : Nat} (hkn : k0 ≤ (rmX12_isDigit).cells ∧ n0 ≤ (rmX12_isDigit).slots) {M' : mS} {r : Int32} {c0 : Int32}   : ∀ (M : mS) (H : Heap) (locs : List Loc) (ls : Array Slot), m_X12_isDigit_16 G c0 M = some (M', r) → wd D cy G M A s.heap H locs → lv_has ls 1 [] → W p l e rmX12_isDigit s m args below meth c H locs k0 n0 (MQ below (va_Qi (fun (r' : Int32) (_ : Unit) => r' = r) (fun _ t => wOut D cy G M' t) A) args s k0 n0 A) (F0 m 16 ls []) := by
  obtain ⟨hx, hb, hml, hown, hts, hr, hlocks, hK, hA, hG, hsx⟩ := id cx
  intro M H locs ls h w hl
  unfold m_X12_isDigit_16 at h
  refine lv_iconst (v := (0 : Int32)) hx hb dX12_isDigit_16 (by decide) ?_
  obtain ⟨z1, h⟩ := x_ck h
  exact r_zret cx w z1 h dX12_isDigit_17
set_option maxHeartbeats 4000000 in
set_option maxRecDepth 100000 in
theorem k_X12_isDigit {l : Launch} {D : va_G} {cy : cyS} {G : gS} {M M' : mS} {r : Int32} {c0 : Int32} (hG : wt G)  (h : m_X12_isDigit G M c0 = some (M', r)) : ctI l yX12_isDigit wsX12_isDigit rmX12_isDigit D cy G M [.int c0] M' r := by
  unfold m_X12_isDigit at h
  refine ctI_of (cc := cX12_isDigit) (nL := 1) (ret := (some .boolean)) (lv := [(0, .int c0)]) hG (by decide) rfl ⟨rfl, rfl⟩ (Nat.le_of_ble_eq_true rfl) rfl ?_
  intro p e s m args below meth c A ls cx w hl
  obtain ⟨hx, hb, hml, hown, hts, hr, hlocks, hK, hA, -, hsx⟩ := id cx
  have hkn : 0 ≤ (rmX12_isDigit).cells ∧ 0 ≤ (rmX12_isDigit).slots := ⟨Nat.zero_le _, Nat.zero_le _⟩
  refine lv_iload_n hx hb dX12_isDigit_0 rfl (lv_at hl 0 rfl) ?_
  refine lv_bipush (v := (48 : Int32)) hx hb dX12_isDigit_1 (by decide) ?_
  refine lv_icmp_lt (tgt := 16) hx hb dX12_isDigit_3 (by decide) (fun k1 => ?_) (fun k1 => ?_)
  · have h := x_t h k1
    exact b_X12_isDigit_16 cx hkn M s.heap [] ls h w (lv_sub hl [] rfl)
  · have h := x_f h k1
    refine lv_iload_n hx hb dX12_isDigit_6 rfl (lv_at hl 0 rfl) ?_
    refine lv_bipush (v := (57 : Int32)) hx hb dX12_isDigit_7 (by decide) ?_
    refine lv_icmp_gt (tgt := 16) hx hb dX12_isDigit_9 (by decide) (fun k2 => ?_) (fun k2 => ?_)
    · have h := x_t h k2
      exact b_X12_isDigit_16 cx hkn M s.heap [] ls h w (lv_sub hl [] rfl)
    · have h := x_f h k2
      refine lv_iconst (v := (1 : Int32)) hx hb dX12_isDigit_12 (by decide) ?_
      refine lv_goto (tgt := 17) hx hb dX12_isDigit_13 (by decide) ?_
      obtain ⟨z3, h⟩ := x_ck h
      exact r_zret cx w z3 h dX12_isDigit_17
-- X12_word
theorem wi_X12_word_X12 : ∀ w ∈ wsX120, w ∈ wsX12_word := by decide +kernel
abbrev rmX12_word : Room := { frames := 4, cells := 0, slots := 0, locals := 85 }
def m_X12_word_78 (G : gS) (a0 : Nat) (c1 : Int32) (c2 : Int32) (kb2 : mS → Int32 → Option (mS × Int32)) (M : mS) (v3 : Int32) (v4 : Int32) : Option (mS × Int32) := (if v4 = 0 then o_bd (v3 + 1 : Int32) (fun x2 => kb2 M x2) else some (M, v3))
def m_X12_word_70 (G : gS) (a0 : Nat) (c1 : Int32) (c2 : Int32) (kb2 : mS → Int32 → Option (mS × Int32)) (kb32 : mS → Int32 → Int32 → Int32 → Option (mS × Int32)) (M : mS) (v3 : Int32) (v5 : Int32) (s0 : Int32) : Option (mS × Int32) := o_bd (v5 + 1 : Int32) (fun x1 => kb32 M v3 s0 x1)
def m_X12_word_32 (G : gS) (a0 : Nat) (c1 : Int32) (c2 : Int32) (kb2 : mS → Int32 → Option (mS × Int32)) : Nat → mS → Int32 → Int32 → Int32 → Option (mS × Int32)
  | 0, _, _, _, _ => none
  | n + 1, M, v3, v4, v5 => (if v4 = 0 then m_X12_word_78 G a0 c1 c2 kb2 M v3 v4 else (if c2 ≤ v5 then m_X12_word_78 G a0 c1 c2 kb2 M v3 v4 else o_ix v3 33 (o_cl (m_J0_charAt_5068e G M (Int32.toNatClampNeg v3) v5) (fun M4 r5 => o_rf (gP G a0 1) (fun q7 => o_ix (c1 + v5) (gN G q7) ((if r5 = (mI M4 q7 (Int32.toNatClampNeg (c1 + v5))) then m_X12_word_70 G a0 c1 c2 kb2 (fun M v3 v4 v5 => m_X12_word_32 G a0 c1 c2 kb2 n M v3 v4 v5) M4 v3 v5 ((1 : Int32)) else m_X12_word_70 G a0 c1 c2 kb2 (fun M v3 v4 v5 => m_X12_word_32 G a0 c1 c2 kb2 n M v3 v4 v5) M4 v3 v5 ((0 : Int32)))))))))
def m_X12_word_27 (G : gS) (a0 : Nat) (c1 : Int32) (c2 : Int32) (kb2 : mS → Int32 → Option (mS × Int32)) (M : mS) (v3 : Int32) (s0 : Int32) : Option (mS × Int32) := m_X12_word_32 G a0 c1 c2 kb2 fu M v3 s0 ((0 : Int32))
def m_X12_word_2 (G : gS) (a0 : Nat) (c1 : Int32) (c2 : Int32)  : Nat → mS → Int32 → Option (mS × Int32)
  | 0, _, _ => none
  | n + 1, M, v3 => (if (33 : Int32) ≤ v3 then some (M, (40 : Int32)) else o_ix v3 33 (o_cl (m_J0_length_8abf5 G M (Int32.toNatClampNeg v3)) (fun M3 r4 => (if r4 = c2 then m_X12_word_27 G a0 c1 c2 (fun M v3 => m_X12_word_2 G a0 c1 c2 n M v3) M3 v3 ((1 : Int32)) else m_X12_word_27 G a0 c1 c2 (fun M v3 => m_X12_word_2 G a0 c1 c2 n M v3) M3 v3 ((0 : Int32))))))
def m_X12_word (G : gS) (M : mS) (a0 : Nat) (c1 : Int32) (c2 : Int32) : Option (mS × Int32) := m_X12_word_2 G a0 c1 c2 fu M ((0 : Int32))
set_option maxHeartbeats 4000000 in
set_option maxRecDepth 100000 in
theorem b_X12_word_78 {p : Program} {e : Env} {s : State} {m : MethodId} {args : Array Value} {below : List Frame} {meth : Method} {c : Code} {A : Nat → Prop} {l : Launch} {D : va_G} {cy : cyS} {G : gS} (cx : cX p s m args meth c cX12_word RX12 6 (some .int) wsX12_word D cy G A) {k0 n0 : Nat} (hkn : k0 ≤ (rmX12_word).cells ∧ n0 ≤ (rmX12_word).slots) {M' : mS} {r : Int32} {a0 : Nat} {c1 : Int32} {c2 : Int32} (hL0 : a0 ∈ gL G) (hK0 : gK G a0 = 11) {kb2 : mS → Int32 → Option (mS × Int32)} (hkb2 : ∀ (M : mS) (v3 : Int32) (H : Heap) (locs : List Loc) (ls : Array Slot), kb2 M v3 = some (M', r) → wd D cy G M A s.heap H locs → lv_has ls 6 [(0, .ref a0), (1, .int c1), (2, .int c2), (3, .int v3)] → W p l e rmX12_word s m args below meth c H locs k0 n0 (MQ below (va_Qi (fun (r' : Int32) (_ : Unit) => r' = r) (fun _ t => wOut D cy G M' t) A) args s k0 n0 A) (F0 m 2 ls [])) : ∀ (M : mS) (v3 : Int32) (v4 : Int32) (H : Heap) (locs : List Loc) (ls : Array Slot), m_X12_word_78 G a0 c1 c2 kb2 M v3 v4 = some (M', r) → wd D cy G M A s.heap H locs → lv_has ls 6 [(0, .ref a0), (1, .int c1), (2, .int c2), (3, .int v3), (4, .int v4)] → W p l e rmX12_word s m args below meth c H locs k0 n0 (MQ below (va_Qi (fun (r' : Int32) (_ : Unit) => r' = r) (fun _ t => wOut D cy G M' t) A) args s k0 n0 A) (F0 m 78 ls []) := by
  obtain ⟨hx, hb, hml, hown, hts, hr, hlocks, hK, hA, hG, hsx⟩ := id cx
  intro M v3 v4 H locs ls h w hl
  unfold m_X12_word_78 at h
  refine lv_iload hx hb dX12_word_78 (lv_at hl 4 rfl) ?_
  refine lv_if_eq (tgt := 85) hx hb dX12_word_80 (by decide) (fun k1 => ?_) (fun k1 => ?_)
  · have h := x_t h k1
    obtain ⟨x2, ex2, h⟩ := x_bd h
    refine lv_iinc (v := x2) (lv' := [(3, .int x2), (0, .ref a0), (1, .int c1), (2, .int c2), (4, .int v4)]) hx hb dX12_word_85 hl (k := 3) rfl (by rw [ex2]; rfl) (by decide) rfl (fun ls hl => ?_)
    refine lv_goto (tgt := 2) hx hb dX12_word_88 (by decide) ?_
    exact hkb2 M x2 H locs ls h w (lv_sub hl [1, 2, 3, 0] rfl)
  · have h := x_f h k1
    refine lv_iload_n hx hb dX12_word_83 rfl (lv_at hl 3 rfl) ?_
    exact r_iret cx w h dX12_word_84
set_option maxHeartbeats 4000000 in
set_option maxRecDepth 100000 in
theorem b_X12_word_70 {p : Program} {e : Env} {s : State} {m : MethodId} {args : Array Value} {below : List Frame} {meth : Method} {c : Code} {A : Nat → Prop} {l : Launch} {D : va_G} {cy : cyS} {G : gS} (cx : cX p s m args meth c cX12_word RX12 6 (some .int) wsX12_word D cy G A) {k0 n0 : Nat} (hkn : k0 ≤ (rmX12_word).cells ∧ n0 ≤ (rmX12_word).slots) {M' : mS} {r : Int32} {a0 : Nat} {c1 : Int32} {c2 : Int32} (hL0 : a0 ∈ gL G) (hK0 : gK G a0 = 11) {kb2 : mS → Int32 → Option (mS × Int32)} (hkb2 : ∀ (M : mS) (v3 : Int32) (H : Heap) (locs : List Loc) (ls : Array Slot), kb2 M v3 = some (M', r) → wd D cy G M A s.heap H locs → lv_has ls 6 [(0, .ref a0), (1, .int c1), (2, .int c2), (3, .int v3)] → W p l e rmX12_word s m args below meth c H locs k0 n0 (MQ below (va_Qi (fun (r' : Int32) (_ : Unit) => r' = r) (fun _ t => wOut D cy G M' t) A) args s k0 n0 A) (F0 m 2 ls [])) {kb32 : mS → Int32 → Int32 → Int32 → Option (mS × Int32)} (hkb32 : ∀ (M : mS) (v3 : Int32) (v4 : Int32) (v5 : Int32) (H : Heap) (locs : List Loc) (ls : Array Slot), kb32 M v3 v4 v5 = some (M', r) → wd D cy G M A s.heap H locs → lv_has ls 6 [(0, .ref a0), (1, .int c1), (2, .int c2), (3, .int v3), (4, .int v4), (5, .int v5)] → W p l e rmX12_word s m args below meth c H locs k0 n0 (MQ below (va_Qi (fun (r' : Int32) (_ : Unit) => r' = r) (fun _ t => wOut D cy G M' t) A) args s k0 n0 A) (F0 m 32 ls [])) : ∀ (M : mS) (v3 : Int32) (v5 : Int32) (s0 : Int32) (H : Heap) (locs : List Loc) (ls : Array Slot), m_X12_word_70 G a0 c1 c2 kb2 kb32 M v3 v5 s0 = some (M', r) → wd D cy G M A s.heap H locs → lv_has ls 6 [(0, .ref a0), (1, .int c1), (2, .int c2), (3, .int v3), (5, .int v5)] → W p l e rmX12_word s m args below meth c H locs k0 n0 (MQ below (va_Qi (fun (r' : Int32) (_ : Unit) => r' = r) (fun _ t => wOut D cy G M' t) A) args s k0 n0 A) (F0 m 70 ls [.int s0]) := by
  obtain ⟨hx, hb, hml, hown, hts, hr, hlocks, hK, hA, hG, hsx⟩ := id cx
  intro M v3 v5 s0 H locs ls h w hl
  unfold m_X12_word_70 at h
  refine lv_istore (lv' := [(4, .int s0), (0, .ref a0), (1, .int c1), (2, .int c2), (3, .int v3), (5, .int v5)]) hx hb dX12_word_70 hl (by decide) rfl (fun ls hl => ?_)
  obtain ⟨x1, ex1, h⟩ := x_bd h
  refine lv_iinc (v := x1) (lv' := [(5, .int x1), (4, .int s0), (0, .ref a0), (1, .int c1), (2, .int c2), (3, .int v3)]) hx hb dX12_word_72 hl (k := 5) rfl (by rw [ex1]; rfl) (by decide) rfl (fun ls hl => ?_)
  refine lv_goto (tgt := 32) hx hb dX12_word_75 (by decide) ?_
  exact hkb32 M v3 s0 x1 H locs ls h w (lv_sub hl [2, 3, 4, 5, 1, 0] rfl)
set_option maxHeartbeats 4000000 in
set_option maxRecDepth 100000 in
theorem b_X12_word_32 {p : Program} {e : Env} {s : State} {m : MethodId} {args : Array Value} {below : List Frame} {meth : Method} {c : Code} {A : Nat → Prop} {l : Launch} {D : va_G} {cy : cyS} {G : gS} (cx : cX p s m args meth c cX12_word RX12 6 (some .int) wsX12_word D cy G A) {k0 n0 : Nat} (hkn : k0 ≤ (rmX12_word).cells ∧ n0 ≤ (rmX12_word).slots) {M' : mS} {r : Int32} {a0 : Nat} {c1 : Int32} {c2 : Int32} (hL0 : a0 ∈ gL G) (hK0 : gK G a0 = 11) {kb2 : mS → Int32 → Option (mS × Int32)} (hkb2 : ∀ (M : mS) (v3 : Int32) (H : Heap) (locs : List Loc) (ls : Array Slot), kb2 M v3 = some (M', r) → wd D cy G M A s.heap H locs → lv_has ls 6 [(0, .ref a0), (1, .int c1), (2, .int c2), (3, .int v3)] → W p l e rmX12_word s m args below meth c H locs k0 n0 (MQ below (va_Qi (fun (r' : Int32) (_ : Unit) => r' = r) (fun _ t => wOut D cy G M' t) A) args s k0 n0 A) (F0 m 2 ls [])) : ∀ (n : Nat), ∀ (M : mS) (v3 : Int32) (v4 : Int32) (v5 : Int32) (H : Heap) (locs : List Loc) (ls : Array Slot), m_X12_word_32 G a0 c1 c2 kb2 n M v3 v4 v5 = some (M', r) → wd D cy G M A s.heap H locs → lv_has ls 6 [(0, .ref a0), (1, .int c1), (2, .int c2), (3, .int v3), (4, .int v4), (5, .int v5)] → W p l e rmX12_word s m args below meth c H locs k0 n0 (MQ below (va_Qi (fun (r' : Int32) (_ : Unit) => r' = r) (fun _ t => wOut D cy G M' t) A) args s k0 n0 A) (F0 m 32 ls []) := by
  obtain ⟨hx, hb, hml, hown, hts, hr, hlocks, hK, hA, hG, hsx⟩ := id cx
  intro n
  induction n with
  | zero =>
    intro M v3 v4 v5 H locs ls h w hl
    have h : none = some _ := h
    cases h
  | succ n ih =>
    intro M v3 v4 v5 H locs ls h w hl
    rw [m_X12_word_32] at h
    refine lv_iload hx hb dX12_word_32 (lv_at hl 4 rfl) ?_
    refine lv_if_eq (tgt := 78) hx hb dX12_word_34 (by decide) (fun k1 => ?_) (fun k1 => ?_)
    · have h := x_t h k1
      exact b_X12_word_78 cx hkn hL0 hK0 (hkb2 := hkb2) M v3 v4 H locs ls h w (lv_sub hl [0, 1, 2, 3, 4] rfl)
    · have h := x_f h k1
      refine lv_iload hx hb dX12_word_37 (lv_at hl 5 rfl) ?_
      refine lv_iload_n hx hb dX12_word_39 rfl (lv_at hl 2 rfl) ?_
      refine lv_icmp_ge (tgt := 78) hx hb dX12_word_40 (by decide) (fun k2 => ?_) (fun k2 => ?_)
      · have h := x_t h k2
        exact b_X12_word_78 cx hkn hL0 hK0 (hkb2 := hkb2) M v3 v4 H locs ls h w (lv_sub hl [0, 1, 2, 3, 4] rfl)
      · have h := x_f h k2
        refine r_getW cx w (List.mem_of_getElem? (i := 1) rfl) dX12_word_43 ?_
        refine lv_iload_n hx hb dX12_word_46 rfl (lv_at hl 3 rfl) ?_
        obtain ⟨z3, h⟩ := x_ix h
        refine r_wald cx w z3 dX12_word_47 ?_
        refine lv_iload hx hb dX12_word_48 (lv_at hl 5 rfl) ?_
        obtain ⟨M4, r5, y6, h⟩ := x_cl h
        refine r_callVTi (As := [.int v5]) (rest := []) cx w hkn hl.1 (vp_lt35 z3) (k_J0_charAt_5068e hG (vp_lt35 z3) y6) (cwV 1 hts gX12_word_J0_charAt_5068e rfl rfl rfl (by decide +kernel) ⟨Nat.le_of_ble_eq_true rfl, Nat.le_of_ble_eq_true rfl⟩) rfl rfl (Nat.le_of_ble_eq_true rfl) dX12_word_50 (fun H locs w => ?_)
        refine lv_aload_n hx hb dX12_word_53 rfl (lv_at hl 0 rfl) ?_
        obtain ⟨q7, eq7, h⟩ := x_rf h
        obtain ⟨hLq7, hKq7⟩ := wt_q hG hL0 hK0 eq7
        have hKq7 : gK G q7 = 12 := hKq7
        refine r_getR (k := 1) cx w hL0 hK0 (by decide) rfl wi_X12_word_X12 (by decide) rfl eq7 (List.mem_of_getElem? (i := 2) rfl) dX12_word_54 ?_
        refine lv_iload_n hx hb dX12_word_57 rfl (lv_at hl 1 rfl) ?_
        refine lv_iload hx hb dX12_word_58 (lv_at hl 5 rfl) ?_
        refine lv_iadd hx hb dX12_word_60 ?_
        obtain ⟨z8, h⟩ := x_ix h
        refine r_iald cx w hLq7 hKq7 z8 dX12_word_61 ?_
        refine lv_icmp_ne (tgt := 69) hx hb dX12_word_62 (by decide) (fun k9 => ?_) (fun k9 => ?_)
        · have h := x_f h k9
          refine lv_iconst (v := (0 : Int32)) hx hb dX12_word_69 (by decide) ?_
          exact b_X12_word_70 cx hkn hL0 hK0 (hkb2 := hkb2) (hkb32 := ih) M4 v3 v5 ((0 : Int32)) H locs ls h w (lv_sub hl [0, 1, 2, 3, 5] rfl)
        · have h := x_t h k9
          refine lv_iconst (v := (1 : Int32)) hx hb dX12_word_65 (by decide) ?_
          refine lv_goto (tgt := 70) hx hb dX12_word_66 (by decide) ?_
          exact b_X12_word_70 cx hkn hL0 hK0 (hkb2 := hkb2) (hkb32 := ih) M4 v3 v5 ((1 : Int32)) H locs ls h w (lv_sub hl [0, 1, 2, 3, 5] rfl)
set_option maxHeartbeats 4000000 in
set_option maxRecDepth 100000 in
theorem b_X12_word_27 {p : Program} {e : Env} {s : State} {m : MethodId} {args : Array Value} {below : List Frame} {meth : Method} {c : Code} {A : Nat → Prop} {l : Launch} {D : va_G} {cy : cyS} {G : gS} (cx : cX p s m args meth c cX12_word RX12 6 (some .int) wsX12_word D cy G A) {k0 n0 : Nat} (hkn : k0 ≤ (rmX12_word).cells ∧ n0 ≤ (rmX12_word).slots) {M' : mS} {r : Int32} {a0 : Nat} {c1 : Int32} {c2 : Int32} (hL0 : a0 ∈ gL G) (hK0 : gK G a0 = 11) {kb2 : mS → Int32 → Option (mS × Int32)} (hkb2 : ∀ (M : mS) (v3 : Int32) (H : Heap) (locs : List Loc) (ls : Array Slot), kb2 M v3 = some (M', r) → wd D cy G M A s.heap H locs → lv_has ls 6 [(0, .ref a0), (1, .int c1), (2, .int c2), (3, .int v3)] → W p l e rmX12_word s m args below meth c H locs k0 n0 (MQ below (va_Qi (fun (r' : Int32) (_ : Unit) => r' = r) (fun _ t => wOut D cy G M' t) A) args s k0 n0 A) (F0 m 2 ls [])) : ∀ (M : mS) (v3 : Int32) (s0 : Int32) (H : Heap) (locs : List Loc) (ls : Array Slot), m_X12_word_27 G a0 c1 c2 kb2 M v3 s0 = some (M', r) → wd D cy G M A s.heap H locs → lv_has ls 6 [(0, .ref a0), (1, .int c1), (2, .int c2), (3, .int v3)] → W p l e rmX12_word s m args below meth c H locs k0 n0 (MQ below (va_Qi (fun (r' : Int32) (_ : Unit) => r' = r) (fun _ t => wOut D cy G M' t) A) args s k0 n0 A) (F0 m 27 ls [.int s0]) := by
  obtain ⟨hx, hb, hml, hown, hts, hr, hlocks, hK, hA, hG, hsx⟩ := id cx
  intro M v3 s0 H locs ls h w hl
  unfold m_X12_word_27 at h
  refine lv_istore (lv' := [(4, .int s0), (0, .ref a0), (1, .int c1), (2, .int c2), (3, .int v3)]) hx hb dX12_word_27 hl (by decide) rfl (fun ls hl => ?_)
  refine lv_iconst (v := (0 : Int32)) hx hb dX12_word_29 (by decide) ?_
  refine lv_istore (lv' := [(5, .int ((0 : Int32))), (4, .int s0), (0, .ref a0), (1, .int c1), (2, .int c2), (3, .int v3)]) hx hb dX12_word_30 hl (by decide) rfl (fun ls hl => ?_)
  exact b_X12_word_32 cx hkn hL0 hK0 (hkb2 := hkb2) fu M v3 s0 ((0 : Int32)) H locs ls h w (lv_sub hl [2, 3, 4, 5, 1, 0] rfl)
set_option maxHeartbeats 4000000 in
set_option maxRecDepth 100000 in
theorem b_X12_word_2 {p : Program} {e : Env} {s : State} {m : MethodId} {args : Array Value} {below : List Frame} {meth : Method} {c : Code} {A : Nat → Prop} {l : Launch} {D : va_G} {cy : cyS} {G : gS} (cx : cX p s m args meth c cX12_word RX12 6 (some .int) wsX12_word D cy G A) {k0 n0 : Nat} (hkn : k0 ≤ (rmX12_word).cells ∧ n0 ≤ (rmX12_word).slots) {M' : mS} {r : Int32} {a0 : Nat} {c1 : Int32} {c2 : Int32} (hL0 : a0 ∈ gL G) (hK0 : gK G a0 = 11)  : ∀ (n : Nat), ∀ (M : mS) (v3 : Int32) (H : Heap) (locs : List Loc) (ls : Array Slot), m_X12_word_2 G a0 c1 c2 n M v3 = some (M', r) → wd D cy G M A s.heap H locs → lv_has ls 6 [(0, .ref a0), (1, .int c1), (2, .int c2), (3, .int v3)] → W p l e rmX12_word s m args below meth c H locs k0 n0 (MQ below (va_Qi (fun (r' : Int32) (_ : Unit) => r' = r) (fun _ t => wOut D cy G M' t) A) args s k0 n0 A) (F0 m 2 ls []) := by
  obtain ⟨hx, hb, hml, hown, hts, hr, hlocks, hK, hA, hG, hsx⟩ := id cx
  intro n
  induction n with
  | zero =>
    intro M v3 H locs ls h w hl
    have h : none = some _ := h
    cases h
  | succ n ih =>
    intro M v3 H locs ls h w hl
    rw [m_X12_word_2] at h
    refine lv_iload_n hx hb dX12_word_2 rfl (lv_at hl 3 rfl) ?_
    refine r_getW cx w (List.mem_of_getElem? (i := 1) rfl) dX12_word_3 ?_
    refine r_wlen cx w dX12_word_6 ?_
    refine lv_icmp_ge (tgt := 91) hx hb dX12_word_7 (by decide) (fun k1 => ?_) (fun k1 => ?_)
    · have h := x_t h k1
      refine lv_bipush (v := (40 : Int32)) hx hb dX12_word_91 (by decide) ?_
      exact r_iret cx w h dX12_word_93
    · have h := x_f h k1
      refine r_getW cx w (List.mem_of_getElem? (i := 1) rfl) dX12_word_10 ?_
      refine lv_iload_n hx hb dX12_word_13 rfl (lv_at hl 3 rfl) ?_
      obtain ⟨z2, h⟩ := x_ix h
      refine r_wald cx w z2 dX12_word_14 ?_
      obtain ⟨M3, r4, y5, h⟩ := x_cl h
      refine r_callVTi (As := []) (rest := []) cx w hkn hl.1 (vp_lt35 z2) (k_J0_length_8abf5 hG (vp_lt35 z2) y5) (cwV 0 hts gX12_word_J0_length_8abf5 rfl rfl rfl (by decide +kernel) ⟨Nat.le_of_ble_eq_true rfl, Nat.le_of_ble_eq_true rfl⟩) rfl rfl (Nat.le_of_ble_eq_true rfl) dX12_word_15 (fun H locs w => ?_)
      refine lv_iload_n hx hb dX12_word_18 rfl (lv_at hl 2 rfl) ?_
      refine lv_icmp_ne (tgt := 26) hx hb dX12_word_19 (by decide) (fun k6 => ?_) (fun k6 => ?_)
      · have h := x_f h k6
        refine lv_iconst (v := (0 : Int32)) hx hb dX12_word_26 (by decide) ?_
        exact b_X12_word_27 cx hkn hL0 hK0 (hkb2 := ih) M3 v3 ((0 : Int32)) H locs ls h w (lv_sub hl [0, 1, 2, 3] rfl)
      · have h := x_t h k6
        refine lv_iconst (v := (1 : Int32)) hx hb dX12_word_22 (by decide) ?_
        refine lv_goto (tgt := 27) hx hb dX12_word_23 (by decide) ?_
        exact b_X12_word_27 cx hkn hL0 hK0 (hkb2 := ih) M3 v3 ((1 : Int32)) H locs ls h w (lv_sub hl [0, 1, 2, 3] rfl)
set_option maxHeartbeats 4000000 in
set_option maxRecDepth 100000 in
theorem k_X12_word {l : Launch} {D : va_G} {cy : cyS} {G : gS} {M M' : mS} {r : Int32} {a0 : Nat} {c1 : Int32} {c2 : Int32} (hG : wt G) (hL0 : a0 ∈ gL G) (hK0 : gK G a0 = 11) (h : m_X12_word G M a0 c1 c2 = some (M', r)) : ctI l yX12_word wsX12_word rmX12_word D cy G M [.ref a0, .int c1, .int c2] M' r := by
  unfold m_X12_word at h
  refine ctI_of (cc := cX12_word) (nL := 6) (ret := (some .int)) (lv := [(0, .ref a0), (1, .int c1), (2, .int c2)]) hG (by decide) rfl ⟨rfl, rfl⟩ (Nat.le_of_ble_eq_true rfl) rfl ?_
  intro p e s m args below meth c A ls cx w hl
  obtain ⟨hx, hb, hml, hown, hts, hr, hlocks, hK, hA, -, hsx⟩ := id cx
  have hkn : 0 ≤ (rmX12_word).cells ∧ 0 ≤ (rmX12_word).slots := ⟨Nat.zero_le _, Nat.zero_le _⟩
  refine lv_iconst (v := (0 : Int32)) hx hb dX12_word_0 (by decide) ?_
  refine lv_istore_n (lv' := [(3, .int ((0 : Int32))), (0, .ref a0), (1, .int c1), (2, .int c2)]) hx hb dX12_word_1 rfl hl (by decide) rfl (fun ls hl => ?_)
  exact b_X12_word_2 cx hkn hL0 hK0 fu M ((0 : Int32)) s.heap [] ls h w (lv_sub hl [1, 2, 3, 0] rfl)
-- X12_kindAt
theorem wi_X12_kindAt_X12 : ∀ w ∈ wsX120, w ∈ wsX12_kindAt := by decide +kernel
abbrev rmX12_kindAt : Room := { frames := 5, cells := 0, slots := 0, locals := 126 }
def m_X12_kindAt_65 (G : gS) (a0 : Nat) (c1 : Int32) (c2 : Int32) (kb34 : mS → Int32 → Int32 → Option (mS × Int32)) (M : mS) (v3 : Int32) (v4 : Int32) : Option (mS × Int32) := o_bd (v4 + 1 : Int32) (fun x1 => kb34 M v3 x1)
def m_X12_kindAt_99 (G : gS) (a0 : Nat) (c1 : Int32) (c2 : Int32)  (M : mS) (v3 : Int32) (v4 : Int32) (s0 : Int32) (s1 : Int32) : Option (mS × Int32) := (if s0 ≤ s1 then o_cl (m_X12_isLetter G M v3) (fun M2 r3 => (if r3 = 0 then some (M2, (41 : Int32)) else o_cl (m_X12_word G M2 a0 c1 (v4 - c1)) (fun M6 r7 => some (M6, r7)))) else some (M, (901 : Int32)))
def m_X12_kindAt_71 (G : gS) (a0 : Nat) (c1 : Int32) (c2 : Int32)  (M : mS) (v3 : Int32) (v4 : Int32) : Option (mS × Int32) := o_rf (gP G a0 6) (fun q1 => o_ix c2 (gN G q1) (o_wI M q1 (Int32.toNatClampNeg c2) (v4 - c1) (fun M3 => o_cl (m_X12_isLetter G M3 v3) (fun M4 r5 => (if r5 = 0 then m_X12_kindAt_99 G a0 c1 c2 M4 v3 v4 ((v4 - c1)) ((6 : Int32)) else m_X12_kindAt_99 G a0 c1 c2 M4 v3 v4 ((v4 - c1)) ((10 : Int32)))))))
def m_X12_kindAt_34 (G : gS) (a0 : Nat) (c1 : Int32) (c2 : Int32)  : Nat → mS → Int32 → Int32 → Option (mS × Int32)
  | 0, _, _, _ => none
  | n + 1, M, v3, v4 => o_cl (m_X12_byteOf G M a0 v4) (fun M1 r2 => o_cl (m_X12_isDigit G M1 r2) (fun M4 r5 => (if r5 = 0 then o_cl (m_X12_isLetter G M4 v3) (fun M8 r9 => (if r9 = 0 then m_X12_kindAt_71 G a0 c1 c2 M8 v3 v4 else o_cl (m_X12_byteOf G M8 a0 v4) (fun M12 r13 => o_cl (m_X12_isLetter G M12 r13) (fun M15 r16 => (if r16 = 0 then m_X12_kindAt_71 G a0 c1 c2 M15 v3 v4 else m_X12_kindAt_65 G a0 c1 c2 (fun M v3 v4 => m_X12_kindAt_34 G a0 c1 c2 n M v3 v4) M15 v3 v4))))) else m_X12_kindAt_65 G a0 c1 c2 (fun M v3 v4 => m_X12_kindAt_34 G a0 c1 c2 n M v3 v4) M4 v3 v4)))
def m_X12_kindAt_223 (G : gS) (a0 : Nat) (c1 : Int32) (c2 : Int32)  (M : mS)  : Option (mS × Int32) := some (M, (901 : Int32))
def m_X12_kindAt_173 (G : gS) (a0 : Nat) (c1 : Int32) (c2 : Int32)  (M : mS) (v3 : Int32) (v5 : Int32) (s0 : Nat) (s1 : Int32) (s2 : Int32) : Option (mS × Int32) := o_ix s1 (gN G s0) (o_wI M s0 (Int32.toNatClampNeg s1) s2 (fun M2 => (if v5 = 0 then (if v3 ≤ 0 then m_X12_kindAt_223 G a0 c1 c2 M2 else (if (128 : Int32) ≤ v3 then m_X12_kindAt_223 G a0 c1 c2 M2 else o_cl (m_J0_indexOf_0f7a4 G M2 33 ((Int32.toUInt32 v3 % 65536).toInt32)) (fun M6 r7 => (if r7 < 0 then m_X12_kindAt_223 G a0 c1 c2 M6 else some (M6, ((50 : Int32) + v3)))))) else (if v3 = (60 : Int32) then some (M2, (300 : Int32)) else some (M2, (301 : Int32))))))
def m_X12_kindAt_156 (G : gS) (a0 : Nat) (c1 : Int32) (c2 : Int32)  (M : mS) (v3 : Int32) (s0 : Int32) : Option (mS × Int32) := o_rf (gP G a0 6) (fun q1 => (if s0 = 0 then m_X12_kindAt_173 G a0 c1 c2 M v3 s0 q1 c2 ((1 : Int32)) else m_X12_kindAt_173 G a0 c1 c2 M v3 s0 q1 c2 ((2 : Int32))))
def m_X12_kindAt_155 (G : gS) (a0 : Nat) (c1 : Int32) (c2 : Int32)  (M : mS) (v3 : Int32) : Option (mS × Int32) := m_X12_kindAt_156 G a0 c1 c2 M v3 ((0 : Int32))
def m_X12_kindAt_140 (G : gS) (a0 : Nat) (c1 : Int32) (c2 : Int32)  (M : mS) (v3 : Int32) (v4 : Int32) : Option (mS × Int32) := o_cl (m_X12_byteOf G M a0 v4) (fun M1 r2 => (if r2 = (61 : Int32) then m_X12_kindAt_156 G a0 c1 c2 M1 v3 ((1 : Int32)) else m_X12_kindAt_155 G a0 c1 c2 M1 v3))
def m_X12_kindAt (G : gS) (M : mS) (a0 : Nat) (c1 : Int32) (c2 : Int32) : Option (mS × Int32) := o_cl (m_X12_byteOf G M a0 c1) (fun M1 r2 => o_bd ((c1 + (1 : Int32))) (fun x4 => (if r2 = (-1 : Int32) then some (M1, (900 : Int32)) else o_cl (m_X12_isLetter G M1 r2) (fun M6 r7 => (if r7 = 0 then o_cl (m_X12_isDigit G M6 r2) (fun M10 r11 => (if r11 = 0 then (if r2 = (60 : Int32) then m_X12_kindAt_140 G a0 c1 c2 M10 r2 x4 else (if r2 = (62 : Int32) then m_X12_kindAt_140 G a0 c1 c2 M10 r2 x4 else m_X12_kindAt_155 G a0 c1 c2 M10 r2)) else m_X12_kindAt_34 G a0 c1 c2 fu M10 r2 x4)) else m_X12_kindAt_34 G a0 c1 c2 fu M6 r2 x4)))))
set_option maxHeartbeats 4000000 in
set_option maxRecDepth 100000 in
theorem b_X12_kindAt_65 {p : Program} {e : Env} {s : State} {m : MethodId} {args : Array Value} {below : List Frame} {meth : Method} {c : Code} {A : Nat → Prop} {l : Launch} {D : va_G} {cy : cyS} {G : gS} (cx : cX p s m args meth c cX12_kindAt RX12 6 (some .int) wsX12_kindAt D cy G A) {k0 n0 : Nat} (hkn : k0 ≤ (rmX12_kindAt).cells ∧ n0 ≤ (rmX12_kindAt).slots) {M' : mS} {r : Int32} {a0 : Nat} {c1 : Int32} {c2 : Int32} (hL0 : a0 ∈ gL G) (hK0 : gK G a0 = 11) {kb34 : mS → Int32 → Int32 → Option (mS × Int32)} (hkb34 : ∀ (M : mS) (v3 : Int32) (v4 : Int32) (H : Heap) (locs : List Loc) (ls : Array Slot), kb34 M v3 v4 = some (M', r) → wd D cy G M A s.heap H locs → lv_has ls 6 [(0, .ref a0), (1, .int c1), (2, .int c2), (3, .int v3), (4, .int v4)] → W p l e rmX12_kindAt s m args below meth c H locs k0 n0 (MQ below (va_Qi (fun (r' : Int32) (_ : Unit) => r' = r) (fun _ t => wOut D cy G M' t) A) args s k0 n0 A) (F0 m 34 ls [])) : ∀ (M : mS) (v3 : Int32) (v4 : Int32) (H : Heap) (locs : List Loc) (ls : Array Slot), m_X12_kindAt_65 G a0 c1 c2 kb34 M v3 v4 = some (M', r) → wd D cy G M A s.heap H locs → lv_has ls 6 [(0, .ref a0), (1, .int c1), (2, .int c2), (3, .int v3), (4, .int v4)] → W p l e rmX12_kindAt s m args below meth c H locs k0 n0 (MQ below (va_Qi (fun (r' : Int32) (_ : Unit) => r' = r) (fun _ t => wOut D cy G M' t) A) args s k0 n0 A) (F0 m 65 ls []) := by
  obtain ⟨hx, hb, hml, hown, hts, hr, hlocks, hK, hA, hG, hsx⟩ := id cx
  intro M v3 v4 H locs ls h w hl
  unfold m_X12_kindAt_65 at h
  obtain ⟨x1, ex1, h⟩ := x_bd h
  refine lv_iinc (v := x1) (lv' := [(4, .int x1), (0, .ref a0), (1, .int c1), (2, .int c2), (3, .int v3)]) hx hb dX12_kindAt_65 hl (k := 4) rfl (by rw [ex1]; rfl) (by decide) rfl (fun ls hl => ?_)
  refine lv_goto (tgt := 34) hx hb dX12_kindAt_68 (by decide) ?_
  exact hkb34 M v3 x1 H locs ls h w (lv_sub hl [1, 2, 3, 4, 0] rfl)
set_option maxHeartbeats 4000000 in
set_option maxRecDepth 100000 in
theorem b_X12_kindAt_99 {p : Program} {e : Env} {s : State} {m : MethodId} {args : Array Value} {below : List Frame} {meth : Method} {c : Code} {A : Nat → Prop} {l : Launch} {D : va_G} {cy : cyS} {G : gS} (cx : cX p s m args meth c cX12_kindAt RX12 6 (some .int) wsX12_kindAt D cy G A) {k0 n0 : Nat} (hkn : k0 ≤ (rmX12_kindAt).cells ∧ n0 ≤ (rmX12_kindAt).slots) {M' : mS} {r : Int32} {a0 : Nat} {c1 : Int32} {c2 : Int32} (hL0 : a0 ∈ gL G) (hK0 : gK G a0 = 11)  : ∀ (M : mS) (v3 : Int32) (v4 : Int32) (s0 : Int32) (s1 : Int32) (H : Heap) (locs : List Loc) (ls : Array Slot), m_X12_kindAt_99 G a0 c1 c2 M v3 v4 s0 s1 = some (M', r) → wd D cy G M A s.heap H locs → lv_has ls 6 [(0, .ref a0), (1, .int c1), (3, .int v3), (4, .int v4)] → W p l e rmX12_kindAt s m args below meth c H locs k0 n0 (MQ below (va_Qi (fun (r' : Int32) (_ : Unit) => r' = r) (fun _ t => wOut D cy G M' t) A) args s k0 n0 A) (F0 m 99 ls [.int s1, .int s0]) := by
  obtain ⟨hx, hb, hml, hown, hts, hr, hlocks, hK, hA, hG, hsx⟩ := id cx
  intro M v3 v4 s0 s1 H locs ls h w hl
  unfold m_X12_kindAt_99 at h
  refine lv_icmp_le (tgt := 106) hx hb dX12_kindAt_99 (by decide) (fun k1 => ?_) (fun k1 => ?_)
  · have h := x_t h k1
    refine lv_iload_n hx hb dX12_kindAt_106 rfl (lv_at hl 2 rfl) ?_
    obtain ⟨M2, r3, y4, h⟩ := x_cl h
    refine r_callSi (As := [.int v3]) (rest := []) cx w hkn hl.1 (k_X12_isLetter hG y4) (va_cwS 1 hts gX12_kindAt_X12_isLetter rfl rfl rfl (by decide +kernel) ⟨Nat.le_of_ble_eq_true rfl, Nat.le_of_ble_eq_true rfl⟩) rfl rfl (Nat.le_of_ble_eq_true rfl) dX12_kindAt_107 (fun H locs w => ?_)
    refine lv_if_eq (tgt := 125) hx hb dX12_kindAt_110 (by decide) (fun k5 => ?_) (fun k5 => ?_)
    · have h := x_t h k5
      refine lv_bipush (v := (41 : Int32)) hx hb dX12_kindAt_125 (by decide) ?_
      exact r_iret cx w h dX12_kindAt_127
    · have h := x_f h k5
      refine lv_aload_n hx hb dX12_kindAt_113 rfl (lv_at hl 0 rfl) ?_
      refine lv_iload_n hx hb dX12_kindAt_114 rfl (lv_at hl 1 rfl) ?_
      refine lv_iload hx hb dX12_kindAt_115 (lv_at hl 3 rfl) ?_
      refine lv_iload_n hx hb dX12_kindAt_117 rfl (lv_at hl 1 rfl) ?_
      refine lv_isub hx hb dX12_kindAt_118 ?_
      obtain ⟨M6, r7, y8, h⟩ := x_cl h
      refine r_callVi (As := [.int c1, .int ((v4 - c1))]) (rest := []) cx w hkn hl.1 (k_X12_word hG hL0 hK0 y8) (cwV 2 hts gX12_kindAt_X12_word rfl rfl rfl (by decide +kernel) ⟨Nat.le_of_ble_eq_true rfl, Nat.le_of_ble_eq_true rfl⟩) hL0 hK0 (by decide) rfl rfl rfl (Nat.le_of_ble_eq_true rfl) dX12_kindAt_119 (fun H locs w => ?_)
      refine lv_goto (tgt := 127) hx hb dX12_kindAt_122 (by decide) ?_
      exact r_iret cx w h dX12_kindAt_127
  · have h := x_f h k1
    refine lv_sipush (v := (901 : Int32)) hx hb dX12_kindAt_102 (by decide) ?_
    exact r_iret cx w h dX12_kindAt_105
set_option maxHeartbeats 4000000 in
set_option maxRecDepth 100000 in
theorem b_X12_kindAt_71 {p : Program} {e : Env} {s : State} {m : MethodId} {args : Array Value} {below : List Frame} {meth : Method} {c : Code} {A : Nat → Prop} {l : Launch} {D : va_G} {cy : cyS} {G : gS} (cx : cX p s m args meth c cX12_kindAt RX12 6 (some .int) wsX12_kindAt D cy G A) {k0 n0 : Nat} (hkn : k0 ≤ (rmX12_kindAt).cells ∧ n0 ≤ (rmX12_kindAt).slots) {M' : mS} {r : Int32} {a0 : Nat} {c1 : Int32} {c2 : Int32} (hL0 : a0 ∈ gL G) (hK0 : gK G a0 = 11)  : ∀ (M : mS) (v3 : Int32) (v4 : Int32) (H : Heap) (locs : List Loc) (ls : Array Slot), m_X12_kindAt_71 G a0 c1 c2 M v3 v4 = some (M', r) → wd D cy G M A s.heap H locs → lv_has ls 6 [(0, .ref a0), (1, .int c1), (2, .int c2), (3, .int v3), (4, .int v4)] → W p l e rmX12_kindAt s m args below meth c H locs k0 n0 (MQ below (va_Qi (fun (r' : Int32) (_ : Unit) => r' = r) (fun _ t => wOut D cy G M' t) A) args s k0 n0 A) (F0 m 71 ls []) := by
  obtain ⟨hx, hb, hml, hown, hts, hr, hlocks, hK, hA, hG, hsx⟩ := id cx
  intro M v3 v4 H locs ls h w hl
  unfold m_X12_kindAt_71 at h
  refine lv_aload_n hx hb dX12_kindAt_71 rfl (lv_at hl 0 rfl) ?_
  obtain ⟨q1, eq1, h⟩ := x_rf h
  obtain ⟨hLq1, hKq1⟩ := wt_q hG hL0 hK0 eq1
  have hKq1 : gK G q1 = 12 := hKq1
  refine r_getR (k := 6) cx w hL0 hK0 (by decide) rfl wi_X12_kindAt_X12 (by decide) rfl eq1 (List.mem_of_getElem? (i := 1) rfl) dX12_kindAt_72 ?_
  refine lv_iload_n hx hb dX12_kindAt_75 rfl (lv_at hl 2 rfl) ?_
  refine lv_iload hx hb dX12_kindAt_76 (lv_at hl 4 rfl) ?_
  refine lv_iload_n hx hb dX12_kindAt_78 rfl (lv_at hl 1 rfl) ?_
  refine lv_isub hx hb dX12_kindAt_79 ?_
  obtain ⟨z2, h⟩ := x_ix h
  obtain ⟨M3, eM3, h⟩ := x_wI h
  refine r_iast cx w hLq1 hKq1 z2 dX12_kindAt_80 eM3 (fun H locs w => ?_)
  refine lv_iload hx hb dX12_kindAt_81 (lv_at hl 4 rfl) ?_
  refine lv_iload_n hx hb dX12_kindAt_83 rfl (lv_at hl 1 rfl) ?_
  refine lv_isub hx hb dX12_kindAt_84 ?_
  refine lv_iload_n hx hb dX12_kindAt_85 rfl (lv_at hl 3 rfl) ?_
  obtain ⟨M4, r5, y6, h⟩ := x_cl h
  refine r_callSi (As := [.int v3]) (rest := [.int ((v4 - c1))]) cx w hkn hl.1 (k_X12_isLetter hG y6) (va_cwS 1 hts gX12_kindAt_X12_isLetter rfl rfl rfl (by decide +kernel) ⟨Nat.le_of_ble_eq_true rfl, Nat.le_of_ble_eq_true rfl⟩) rfl rfl (Nat.le_of_ble_eq_true rfl) dX12_kindAt_86 (fun H locs w => ?_)
  refine lv_if_eq (tgt := 97) hx hb dX12_kindAt_89 (by decide) (fun k7 => ?_) (fun k7 => ?_)
  · have h := x_t h k7
    refine lv_bipush (v := (6 : Int32)) hx hb dX12_kindAt_97 (by decide) ?_
    exact b_X12_kindAt_99 cx hkn hL0 hK0 M4 v3 v4 ((v4 - c1)) ((6 : Int32)) H locs ls h w (lv_sub hl [0, 1, 3, 4] rfl)
  · have h := x_f h k7
    refine lv_bipush (v := (10 : Int32)) hx hb dX12_kindAt_92 (by decide) ?_
    refine lv_goto (tgt := 99) hx hb dX12_kindAt_94 (by decide) ?_
    exact b_X12_kindAt_99 cx hkn hL0 hK0 M4 v3 v4 ((v4 - c1)) ((10 : Int32)) H locs ls h w (lv_sub hl [0, 1, 3, 4] rfl)
set_option maxHeartbeats 4000000 in
set_option maxRecDepth 100000 in
theorem b_X12_kindAt_34 {p : Program} {e : Env} {s : State} {m : MethodId} {args : Array Value} {below : List Frame} {meth : Method} {c : Code} {A : Nat → Prop} {l : Launch} {D : va_G} {cy : cyS} {G : gS} (cx : cX p s m args meth c cX12_kindAt RX12 6 (some .int) wsX12_kindAt D cy G A) {k0 n0 : Nat} (hkn : k0 ≤ (rmX12_kindAt).cells ∧ n0 ≤ (rmX12_kindAt).slots) {M' : mS} {r : Int32} {a0 : Nat} {c1 : Int32} {c2 : Int32} (hL0 : a0 ∈ gL G) (hK0 : gK G a0 = 11)  : ∀ (n : Nat), ∀ (M : mS) (v3 : Int32) (v4 : Int32) (H : Heap) (locs : List Loc) (ls : Array Slot), m_X12_kindAt_34 G a0 c1 c2 n M v3 v4 = some (M', r) → wd D cy G M A s.heap H locs → lv_has ls 6 [(0, .ref a0), (1, .int c1), (2, .int c2), (3, .int v3), (4, .int v4)] → W p l e rmX12_kindAt s m args below meth c H locs k0 n0 (MQ below (va_Qi (fun (r' : Int32) (_ : Unit) => r' = r) (fun _ t => wOut D cy G M' t) A) args s k0 n0 A) (F0 m 34 ls []) := by
  obtain ⟨hx, hb, hml, hown, hts, hr, hlocks, hK, hA, hG, hsx⟩ := id cx
  intro n
  induction n with
  | zero =>
    intro M v3 v4 H locs ls h w hl
    have h : none = some _ := h
    cases h
  | succ n ih =>
    intro M v3 v4 H locs ls h w hl
    rw [m_X12_kindAt_34] at h
    refine lv_aload_n hx hb dX12_kindAt_34 rfl (lv_at hl 0 rfl) ?_
    refine lv_iload hx hb dX12_kindAt_35 (lv_at hl 4 rfl) ?_
    obtain ⟨M1, r2, y3, h⟩ := x_cl h
    refine r_callVi (As := [.int v4]) (rest := []) cx w hkn hl.1 (k_X12_byteOf hG hL0 hK0 y3) (cwV 1 hts gX12_kindAt_X12_byteOf rfl rfl rfl (by decide +kernel) ⟨Nat.le_of_ble_eq_true rfl, Nat.le_of_ble_eq_true rfl⟩) hL0 hK0 (by decide) rfl rfl rfl (Nat.le_of_ble_eq_true rfl) dX12_kindAt_37 (fun H locs w => ?_)
    obtain ⟨M4, r5, y6, h⟩ := x_cl h
    refine r_callSi (As := [.int r2]) (rest := []) cx w hkn hl.1 (k_X12_isDigit hG y6) (va_cwS 1 hts gX12_kindAt_X12_isDigit rfl rfl rfl (by decide +kernel) ⟨Nat.le_of_ble_eq_true rfl, Nat.le_of_ble_eq_true rfl⟩) rfl rfl (Nat.le_of_ble_eq_true rfl) dX12_kindAt_40 (fun H locs w => ?_)
    refine lv_if_ne (tgt := 65) hx hb dX12_kindAt_43 (by decide) (fun k7 => ?_) (fun k7 => ?_)
    · have h := x_f h k7
      exact b_X12_kindAt_65 cx hkn hL0 hK0 (hkb34 := ih) M4 v3 v4 H locs ls h w (lv_sub hl [0, 1, 2, 3, 4] rfl)
    · have h := x_t h k7
      refine lv_iload_n hx hb dX12_kindAt_46 rfl (lv_at hl 3 rfl) ?_
      obtain ⟨M8, r9, y10, h⟩ := x_cl h
      refine r_callSi (As := [.int v3]) (rest := []) cx w hkn hl.1 (k_X12_isLetter hG y10) (va_cwS 1 hts gX12_kindAt_X12_isLetter rfl rfl rfl (by decide +kernel) ⟨Nat.le_of_ble_eq_true rfl, Nat.le_of_ble_eq_true rfl⟩) rfl rfl (Nat.le_of_ble_eq_true rfl) dX12_kindAt_47 (fun H locs w => ?_)
      refine lv_if_eq (tgt := 71) hx hb dX12_kindAt_50 (by decide) (fun k11 => ?_) (fun k11 => ?_)
      · have h := x_t h k11
        exact b_X12_kindAt_71 cx hkn hL0 hK0 M8 v3 v4 H locs ls h w (lv_sub hl [0, 1, 2, 3, 4] rfl)
      · have h := x_f h k11
        refine lv_aload_n hx hb dX12_kindAt_53 rfl (lv_at hl 0 rfl) ?_
        refine lv_iload hx hb dX12_kindAt_54 (lv_at hl 4 rfl) ?_
        obtain ⟨M12, r13, y14, h⟩ := x_cl h
        refine r_callVi (As := [.int v4]) (rest := []) cx w hkn hl.1 (k_X12_byteOf hG hL0 hK0 y14) (cwV 1 hts gX12_kindAt_X12_byteOf rfl rfl rfl (by decide +kernel) ⟨Nat.le_of_ble_eq_true rfl, Nat.le_of_ble_eq_true rfl⟩) hL0 hK0 (by decide) rfl rfl rfl (Nat.le_of_ble_eq_true rfl) dX12_kindAt_56 (fun H locs w => ?_)
        obtain ⟨M15, r16, y17, h⟩ := x_cl h
        refine r_callSi (As := [.int r13]) (rest := []) cx w hkn hl.1 (k_X12_isLetter hG y17) (va_cwS 1 hts gX12_kindAt_X12_isLetter rfl rfl rfl (by decide +kernel) ⟨Nat.le_of_ble_eq_true rfl, Nat.le_of_ble_eq_true rfl⟩) rfl rfl (Nat.le_of_ble_eq_true rfl) dX12_kindAt_59 (fun H locs w => ?_)
        refine lv_if_eq (tgt := 71) hx hb dX12_kindAt_62 (by decide) (fun k18 => ?_) (fun k18 => ?_)
        · have h := x_t h k18
          exact b_X12_kindAt_71 cx hkn hL0 hK0 M15 v3 v4 H locs ls h w (lv_sub hl [0, 1, 2, 3, 4] rfl)
        · have h := x_f h k18
          exact b_X12_kindAt_65 cx hkn hL0 hK0 (hkb34 := ih) M15 v3 v4 H locs ls h w (lv_sub hl [0, 1, 2, 3, 4] rfl)
set_option maxHeartbeats 4000000 in
set_option maxRecDepth 100000 in
theorem b_X12_kindAt_223 {p : Program} {e : Env} {s : State} {m : MethodId} {args : Array Value} {below : List Frame} {meth : Method} {c : Code} {A : Nat → Prop} {l : Launch} {D : va_G} {cy : cyS} {G : gS} (cx : cX p s m args meth c cX12_kindAt RX12 6 (some .int) wsX12_kindAt D cy G A) {k0 n0 : Nat} (hkn : k0 ≤ (rmX12_kindAt).cells ∧ n0 ≤ (rmX12_kindAt).slots) {M' : mS} {r : Int32} {a0 : Nat} {c1 : Int32} {c2 : Int32} (hL0 : a0 ∈ gL G) (hK0 : gK G a0 = 11)  : ∀ (M : mS) (H : Heap) (locs : List Loc) (ls : Array Slot), m_X12_kindAt_223 G a0 c1 c2 M = some (M', r) → wd D cy G M A s.heap H locs → lv_has ls 6 [] → W p l e rmX12_kindAt s m args below meth c H locs k0 n0 (MQ below (va_Qi (fun (r' : Int32) (_ : Unit) => r' = r) (fun _ t => wOut D cy G M' t) A) args s k0 n0 A) (F0 m 223 ls []) := by
  obtain ⟨hx, hb, hml, hown, hts, hr, hlocks, hK, hA, hG, hsx⟩ := id cx
  intro M H locs ls h w hl
  unfold m_X12_kindAt_223 at h
  refine lv_sipush (v := (901 : Int32)) hx hb dX12_kindAt_223 (by decide) ?_
  exact r_iret cx w h dX12_kindAt_226
set_option maxHeartbeats 4000000 in
set_option maxRecDepth 100000 in
theorem b_X12_kindAt_173 {p : Program} {e : Env} {s : State} {m : MethodId} {args : Array Value} {below : List Frame} {meth : Method} {c : Code} {A : Nat → Prop} {l : Launch} {D : va_G} {cy : cyS} {G : gS} (cx : cX p s m args meth c cX12_kindAt RX12 6 (some .int) wsX12_kindAt D cy G A) {k0 n0 : Nat} (hkn : k0 ≤ (rmX12_kindAt).cells ∧ n0 ≤ (rmX12_kindAt).slots) {M' : mS} {r : Int32} {a0 : Nat} {c1 : Int32} {c2 : Int32} (hL0 : a0 ∈ gL G) (hK0 : gK G a0 = 11)  : ∀ (M : mS) (v3 : Int32) (v5 : Int32) (s0 : Nat) (s1 : Int32) (s2 : Int32) (H : Heap) (locs : List Loc) (ls : Array Slot), s0 ∈ gL G → gK G s0 = 12 → m_X12_kindAt_173 G a0 c1 c2 M v3 v5 s0 s1 s2 = some (M', r) → wd D cy G M A s.heap H locs → lv_has ls 6 [(3, .int v3), (5, .int v5)] → W p l e rmX12_kindAt s m args below meth c H locs k0 n0 (MQ below (va_Qi (fun (r' : Int32) (_ : Unit) => r' = r) (fun _ t => wOut D cy G M' t) A) args s k0 n0 A) (F0 m 173 ls [.int s2, .int s1, .ref s0]) := by
  obtain ⟨hx, hb, hml, hown, hts, hr, hlocks, hK, hA, hG, hsx⟩ := id cx
  intro M v3 v5 s0 s1 s2 H locs ls sL0 sK0 h w hl
  unfold m_X12_kindAt_173 at h
  obtain ⟨z1, h⟩ := x_ix h
  obtain ⟨M2, eM2, h⟩ := x_wI h
  refine r_iast cx w sL0 sK0 z1 dX12_kindAt_173 eM2 (fun H locs w => ?_)
  refine lv_iload hx hb dX12_kindAt_174 (lv_at hl 1 rfl) ?_
  refine lv_if_eq (tgt := 195) hx hb dX12_kindAt_176 (by decide) (fun k3 => ?_) (fun k3 => ?_)
  · have h := x_t h k3
    refine lv_iload_n hx hb dX12_kindAt_195 rfl (lv_at hl 0 rfl) ?_
    refine lv_if_le (tgt := 223) hx hb dX12_kindAt_196 (by decide) (fun k4 => ?_) (fun k4 => ?_)
    · have h := x_t h k4
      exact b_X12_kindAt_223 cx hkn hL0 hK0 M2 H locs ls h w (lv_sub hl [] rfl)
    · have h := x_f h k4
      refine lv_iload_n hx hb dX12_kindAt_199 rfl (lv_at hl 0 rfl) ?_
      refine lv_sipush (v := (128 : Int32)) hx hb dX12_kindAt_200 (by decide) ?_
      refine lv_icmp_ge (tgt := 223) hx hb dX12_kindAt_203 (by decide) (fun k5 => ?_) (fun k5 => ?_)
      · have h := x_t h k5
        exact b_X12_kindAt_223 cx hkn hL0 hK0 M2 H locs ls h w (lv_sub hl [] rfl)
      · have h := x_f h k5
        refine r_ldc33 cx w rfl dX12_kindAt_206 ?_
        refine lv_iload_n hx hb dX12_kindAt_208 rfl (lv_at hl 0 rfl) ?_
        refine lv_i2c (v := ((Int32.toUInt32 v3 % 65536).toInt32)) hx hb dX12_kindAt_209 rfl ?_
        obtain ⟨M6, r7, y8, h⟩ := x_cl h
        refine r_callVTi (As := [.int (((Int32.toUInt32 v3 % 65536).toInt32))]) (rest := []) cx w hkn hl.1 (by decide) (k_J0_indexOf_0f7a4 hG (by decide) y8) (cwV 1 hts gX12_kindAt_J0_indexOf_0f7a4 rfl rfl rfl (by decide +kernel) ⟨Nat.le_of_ble_eq_true rfl, Nat.le_of_ble_eq_true rfl⟩) rfl rfl (Nat.le_of_ble_eq_true rfl) dX12_kindAt_210 (fun H locs w => ?_)
        refine lv_if_lt (tgt := 223) hx hb dX12_kindAt_213 (by decide) (fun k9 => ?_) (fun k9 => ?_)
        · have h := x_t h k9
          exact b_X12_kindAt_223 cx hkn hL0 hK0 M6 H locs ls h w (lv_sub hl [] rfl)
        · have h := x_f h k9
          refine lv_bipush (v := (50 : Int32)) hx hb dX12_kindAt_216 (by decide) ?_
          refine lv_iload_n hx hb dX12_kindAt_218 rfl (lv_at hl 0 rfl) ?_
          refine lv_iadd hx hb dX12_kindAt_219 ?_
          refine lv_goto (tgt := 226) hx hb dX12_kindAt_220 (by decide) ?_
          exact r_iret cx w h dX12_kindAt_226
  · have h := x_f h k3
    refine lv_iload_n hx hb dX12_kindAt_179 rfl (lv_at hl 0 rfl) ?_
    refine lv_bipush (v := (60 : Int32)) hx hb dX12_kindAt_180 (by decide) ?_
    refine lv_icmp_ne (tgt := 191) hx hb dX12_kindAt_182 (by decide) (fun k10 => ?_) (fun k10 => ?_)
    · have h := x_f h k10
      refine lv_sipush (v := (301 : Int32)) hx hb dX12_kindAt_191 (by decide) ?_
      exact r_iret cx w h dX12_kindAt_194
    · have h := x_t h k10
      refine lv_sipush (v := (300 : Int32)) hx hb dX12_kindAt_185 (by decide) ?_
      refine lv_goto (tgt := 194) hx hb dX12_kindAt_188 (by decide) ?_
      exact r_iret cx w h dX12_kindAt_194
set_option maxHeartbeats 4000000 in
set_option maxRecDepth 100000 in
theorem b_X12_kindAt_156 {p : Program} {e : Env} {s : State} {m : MethodId} {args : Array Value} {below : List Frame} {meth : Method} {c : Code} {A : Nat → Prop} {l : Launch} {D : va_G} {cy : cyS} {G : gS} (cx : cX p s m args meth c cX12_kindAt RX12 6 (some .int) wsX12_kindAt D cy G A) {k0 n0 : Nat} (hkn : k0 ≤ (rmX12_kindAt).cells ∧ n0 ≤ (rmX12_kindAt).slots) {M' : mS} {r : Int32} {a0 : Nat} {c1 : Int32} {c2 : Int32} (hL0 : a0 ∈ gL G) (hK0 : gK G a0 = 11)  : ∀ (M : mS) (v3 : Int32) (s0 : Int32) (H : Heap) (locs : List Loc) (ls : Array Slot), m_X12_kindAt_156 G a0 c1 c2 M v3 s0 = some (M', r) → wd D cy G M A s.heap H locs → lv_has ls 6 [(0, .ref a0), (2, .int c2), (3, .int v3)] → W p l e rmX12_kindAt s m args below meth c H locs k0 n0 (MQ below (va_Qi (fun (r' : Int32) (_ : Unit) => r' = r) (fun _ t => wOut D cy G M' t) A) args s k0 n0 A) (F0 m 156 ls [.int s0]) := by
  obtain ⟨hx, hb, hml, hown, hts, hr, hlocks, hK, hA, hG, hsx⟩ := id cx
  intro M v3 s0 H locs ls h w hl
  unfold m_X12_kindAt_156 at h
  refine lv_istore (lv' := [(5, .int s0), (0, .ref a0), (2, .int c2), (3, .int v3)]) hx hb dX12_kindAt_156 hl (by decide) rfl (fun ls hl => ?_)
  refine lv_aload_n hx hb dX12_kindAt_158 rfl (lv_at hl 1 rfl) ?_
  obtain ⟨q1, eq1, h⟩ := x_rf h
  obtain ⟨hLq1, hKq1⟩ := wt_q hG hL0 hK0 eq1
  have hKq1 : gK G q1 = 12 := hKq1
  refine r_getR (k := 6) cx w hL0 hK0 (by decide) rfl wi_X12_kindAt_X12 (by decide) rfl eq1 (List.mem_of_getElem? (i := 1) rfl) dX12_kindAt_159 ?_
  refine lv_iload_n hx hb dX12_kindAt_162 rfl (lv_at hl 2 rfl) ?_
  refine lv_iload hx hb dX12_kindAt_163 (lv_at hl 0 rfl) ?_
  refine lv_if_eq (tgt := 172) hx hb dX12_kindAt_165 (by decide) (fun k2 => ?_) (fun k2 => ?_)
  · have h := x_t h k2
    refine lv_iconst (v := (1 : Int32)) hx hb dX12_kindAt_172 (by decide) ?_
    exact b_X12_kindAt_173 cx hkn hL0 hK0 M v3 s0 q1 c2 ((1 : Int32)) H locs ls hLq1 hKq1 h w (lv_sub hl [3, 0] rfl)
  · have h := x_f h k2
    refine lv_iconst (v := (2 : Int32)) hx hb dX12_kindAt_168 (by decide) ?_
    refine lv_goto (tgt := 173) hx hb dX12_kindAt_169 (by decide) ?_
    exact b_X12_kindAt_173 cx hkn hL0 hK0 M v3 s0 q1 c2 ((2 : Int32)) H locs ls hLq1 hKq1 h w (lv_sub hl [3, 0] rfl)
set_option maxHeartbeats 4000000 in
set_option maxRecDepth 100000 in
theorem b_X12_kindAt_155 {p : Program} {e : Env} {s : State} {m : MethodId} {args : Array Value} {below : List Frame} {meth : Method} {c : Code} {A : Nat → Prop} {l : Launch} {D : va_G} {cy : cyS} {G : gS} (cx : cX p s m args meth c cX12_kindAt RX12 6 (some .int) wsX12_kindAt D cy G A) {k0 n0 : Nat} (hkn : k0 ≤ (rmX12_kindAt).cells ∧ n0 ≤ (rmX12_kindAt).slots) {M' : mS} {r : Int32} {a0 : Nat} {c1 : Int32} {c2 : Int32} (hL0 : a0 ∈ gL G) (hK0 : gK G a0 = 11)  : ∀ (M : mS) (v3 : Int32) (H : Heap) (locs : List Loc) (ls : Array Slot), m_X12_kindAt_155 G a0 c1 c2 M v3 = some (M', r) → wd D cy G M A s.heap H locs → lv_has ls 6 [(0, .ref a0), (2, .int c2), (3, .int v3)] → W p l e rmX12_kindAt s m args below meth c H locs k0 n0 (MQ below (va_Qi (fun (r' : Int32) (_ : Unit) => r' = r) (fun _ t => wOut D cy G M' t) A) args s k0 n0 A) (F0 m 155 ls []) := by
  obtain ⟨hx, hb, hml, hown, hts, hr, hlocks, hK, hA, hG, hsx⟩ := id cx
  intro M v3 H locs ls h w hl
  unfold m_X12_kindAt_155 at h
  refine lv_iconst (v := (0 : Int32)) hx hb dX12_kindAt_155 (by decide) ?_
  exact b_X12_kindAt_156 cx hkn hL0 hK0 M v3 ((0 : Int32)) H locs ls h w (lv_sub hl [0, 1, 2] rfl)
set_option maxHeartbeats 4000000 in
set_option maxRecDepth 100000 in
theorem b_X12_kindAt_140 {p : Program} {e : Env} {s : State} {m : MethodId} {args : Array Value} {below : List Frame} {meth : Method} {c : Code} {A : Nat → Prop} {l : Launch} {D : va_G} {cy : cyS} {G : gS} (cx : cX p s m args meth c cX12_kindAt RX12 6 (some .int) wsX12_kindAt D cy G A) {k0 n0 : Nat} (hkn : k0 ≤ (rmX12_kindAt).cells ∧ n0 ≤ (rmX12_kindAt).slots) {M' : mS} {r : Int32} {a0 : Nat} {c1 : Int32} {c2 : Int32} (hL0 : a0 ∈ gL G) (hK0 : gK G a0 = 11)  : ∀ (M : mS) (v3 : Int32) (v4 : Int32) (H : Heap) (locs : List Loc) (ls : Array Slot), m_X12_kindAt_140 G a0 c1 c2 M v3 v4 = some (M', r) → wd D cy G M A s.heap H locs → lv_has ls 6 [(0, .ref a0), (2, .int c2), (3, .int v3), (4, .int v4)] → W p l e rmX12_kindAt s m args below meth c H locs k0 n0 (MQ below (va_Qi (fun (r' : Int32) (_ : Unit) => r' = r) (fun _ t => wOut D cy G M' t) A) args s k0 n0 A) (F0 m 140 ls []) := by
  obtain ⟨hx, hb, hml, hown, hts, hr, hlocks, hK, hA, hG, hsx⟩ := id cx
  intro M v3 v4 H locs ls h w hl
  unfold m_X12_kindAt_140 at h
  refine lv_aload_n hx hb dX12_kindAt_140 rfl (lv_at hl 0 rfl) ?_
  refine lv_iload hx hb dX12_kindAt_141 (lv_at hl 3 rfl) ?_
  obtain ⟨M1, r2, y3, h⟩ := x_cl h
  refine r_callVi (As := [.int v4]) (rest := []) cx w hkn hl.1 (k_X12_byteOf hG hL0 hK0 y3) (cwV 1 hts gX12_kindAt_X12_byteOf rfl rfl rfl (by decide +kernel) ⟨Nat.le_of_ble_eq_true rfl, Nat.le_of_ble_eq_true rfl⟩) hL0 hK0 (by decide) rfl rfl rfl (Nat.le_of_ble_eq_true rfl) dX12_kindAt_143 (fun H locs w => ?_)
  refine lv_bipush (v := (61 : Int32)) hx hb dX12_kindAt_146 (by decide) ?_
  refine lv_icmp_ne (tgt := 155) hx hb dX12_kindAt_148 (by decide) (fun k4 => ?_) (fun k4 => ?_)
  · have h := x_f h k4
    exact b_X12_kindAt_155 cx hkn hL0 hK0 M1 v3 H locs ls h w (lv_sub hl [0, 1, 2] rfl)
  · have h := x_t h k4
    refine lv_iconst (v := (1 : Int32)) hx hb dX12_kindAt_151 (by decide) ?_
    refine lv_goto (tgt := 156) hx hb dX12_kindAt_152 (by decide) ?_
    exact b_X12_kindAt_156 cx hkn hL0 hK0 M1 v3 ((1 : Int32)) H locs ls h w (lv_sub hl [0, 1, 2] rfl)
set_option maxHeartbeats 4000000 in
set_option maxRecDepth 100000 in
theorem k_X12_kindAt {l : Launch} {D : va_G} {cy : cyS} {G : gS} {M M' : mS} {r : Int32} {a0 : Nat} {c1 : Int32} {c2 : Int32} (hG : wt G) (hL0 : a0 ∈ gL G) (hK0 : gK G a0 = 11) (h : m_X12_kindAt G M a0 c1 c2 = some (M', r)) : ctI l yX12_kindAt wsX12_kindAt rmX12_kindAt D cy G M [.ref a0, .int c1, .int c2] M' r := by
  unfold m_X12_kindAt at h
  refine ctI_of (cc := cX12_kindAt) (nL := 6) (ret := (some .int)) (lv := [(0, .ref a0), (1, .int c1), (2, .int c2)]) hG (by decide) rfl ⟨rfl, rfl⟩ (Nat.le_of_ble_eq_true rfl) rfl ?_
  intro p e s m args below meth c A ls cx w hl
  obtain ⟨hx, hb, hml, hown, hts, hr, hlocks, hK, hA, -, hsx⟩ := id cx
  have hkn : 0 ≤ (rmX12_kindAt).cells ∧ 0 ≤ (rmX12_kindAt).slots := ⟨Nat.zero_le _, Nat.zero_le _⟩
  refine lv_aload_n hx hb dX12_kindAt_0 rfl (lv_at hl 0 rfl) ?_
  refine lv_iload_n hx hb dX12_kindAt_1 rfl (lv_at hl 1 rfl) ?_
  obtain ⟨M1, r2, y3, h⟩ := x_cl h
  refine r_callVi (As := [.int c1]) (rest := []) cx w hkn hl.1 (k_X12_byteOf hG hL0 hK0 y3) (cwV 1 hts gX12_kindAt_X12_byteOf rfl rfl rfl (by decide +kernel) ⟨Nat.le_of_ble_eq_true rfl, Nat.le_of_ble_eq_true rfl⟩) hL0 hK0 (by decide) rfl rfl rfl (Nat.le_of_ble_eq_true rfl) dX12_kindAt_2 (fun H locs w => ?_)
  refine lv_istore_n (lv' := [(3, .int r2), (0, .ref a0), (1, .int c1), (2, .int c2)]) hx hb dX12_kindAt_5 rfl hl (by decide) rfl (fun ls hl => ?_)
  refine lv_iload_n hx hb dX12_kindAt_6 rfl (lv_at hl 2 rfl) ?_
  refine lv_iconst (v := (1 : Int32)) hx hb dX12_kindAt_7 (by decide) ?_
  refine lv_iadd hx hb dX12_kindAt_8 ?_
  obtain ⟨x4, ex4, h⟩ := x_bd h
  refine r_topI ex4 ?_
  refine lv_istore (lv' := [(4, .int x4), (3, .int r2), (0, .ref a0), (1, .int c1), (2, .int c2)]) hx hb dX12_kindAt_9 hl (by decide) rfl (fun ls hl => ?_)
  refine lv_iload_n hx hb dX12_kindAt_11 rfl (lv_at hl 1 rfl) ?_
  refine lv_iconst (v := (-1 : Int32)) hx hb dX12_kindAt_12 (by decide) ?_
  refine lv_icmp_ne (tgt := 20) hx hb dX12_kindAt_13 (by decide) (fun k5 => ?_) (fun k5 => ?_)
  · have h := x_f h k5
    refine lv_iload_n hx hb dX12_kindAt_20 rfl (lv_at hl 1 rfl) ?_
    obtain ⟨M6, r7, y8, h⟩ := x_cl h
    refine r_callSi (As := [.int r2]) (rest := []) cx w hkn hl.1 (k_X12_isLetter hG y8) (va_cwS 1 hts gX12_kindAt_X12_isLetter rfl rfl rfl (by decide +kernel) ⟨Nat.le_of_ble_eq_true rfl, Nat.le_of_ble_eq_true rfl⟩) rfl rfl (Nat.le_of_ble_eq_true rfl) dX12_kindAt_21 (fun H locs w => ?_)
    refine lv_if_ne (tgt := 34) hx hb dX12_kindAt_24 (by decide) (fun k9 => ?_) (fun k9 => ?_)
    · have h := x_f h k9
      exact b_X12_kindAt_34 cx hkn hL0 hK0 fu M6 r2 x4 H locs ls h w (lv_sub hl [2, 3, 4, 1, 0] rfl)
    · have h := x_t h k9
      refine lv_iload_n hx hb dX12_kindAt_27 rfl (lv_at hl 1 rfl) ?_
      obtain ⟨M10, r11, y12, h⟩ := x_cl h
      refine r_callSi (As := [.int r2]) (rest := []) cx w hkn hl.1 (k_X12_isDigit hG y12) (va_cwS 1 hts gX12_kindAt_X12_isDigit rfl rfl rfl (by decide +kernel) ⟨Nat.le_of_ble_eq_true rfl, Nat.le_of_ble_eq_true rfl⟩) rfl rfl (Nat.le_of_ble_eq_true rfl) dX12_kindAt_28 (fun H locs w => ?_)
      refine lv_if_eq (tgt := 128) hx hb dX12_kindAt_31 (by decide) (fun k13 => ?_) (fun k13 => ?_)
      · have h := x_t h k13
        refine lv_iload_n hx hb dX12_kindAt_128 rfl (lv_at hl 1 rfl) ?_
        refine lv_bipush (v := (60 : Int32)) hx hb dX12_kindAt_129 (by decide) ?_
        refine lv_icmp_eq (tgt := 140) hx hb dX12_kindAt_131 (by decide) (fun k14 => ?_) (fun k14 => ?_)
        · have h := x_t h k14
          exact b_X12_kindAt_140 cx hkn hL0 hK0 M10 r2 x4 H locs ls h w (lv_sub hl [2, 4, 1, 0] rfl)
        · have h := x_f h k14
          refine lv_iload_n hx hb dX12_kindAt_134 rfl (lv_at hl 1 rfl) ?_
          refine lv_bipush (v := (62 : Int32)) hx hb dX12_kindAt_135 (by decide) ?_
          refine lv_icmp_ne (tgt := 155) hx hb dX12_kindAt_137 (by decide) (fun k15 => ?_) (fun k15 => ?_)
          · have h := x_f h k15
            exact b_X12_kindAt_155 cx hkn hL0 hK0 M10 r2 H locs ls h w (lv_sub hl [2, 4, 1] rfl)
          · have h := x_t h k15
            exact b_X12_kindAt_140 cx hkn hL0 hK0 M10 r2 x4 H locs ls h w (lv_sub hl [2, 4, 1, 0] rfl)
      · have h := x_f h k13
        exact b_X12_kindAt_34 cx hkn hL0 hK0 fu M10 r2 x4 H locs ls h w (lv_sub hl [2, 3, 4, 1, 0] rfl)
  · have h := x_t h k5
    refine lv_sipush (v := (900 : Int32)) hx hb dX12_kindAt_16 (by decide) ?_
    exact r_iret cx w h dX12_kindAt_19
-- X12_cut
theorem wi_X12_cut_X12 : ∀ w ∈ wsX120, w ∈ wsX12_cut := by decide +kernel
abbrev rmX12_cut : Room := { frames := 6, cells := 0, slots := 0, locals := 151 }
def m_X12_cut_31 (G : gS) (a0 : Nat) (kb4 : mS → Int32 → Int32 → Option (mS × Unit)) (kb11 : mS → Int32 → Int32 → Option (mS × Unit)) (M : mS) (v1 : Int32) (v2 : Int32) : Option (mS × Unit) := o_bd (v1 + 1 : Int32) (fun x1 => kb11 M x1 v2)
def m_X12_cut_98 (G : gS) (a0 : Nat) (kb4 : mS → Int32 → Int32 → Option (mS × Unit)) (M : mS) (v1 : Int32) (v2 : Int32) : Option (mS × Unit) := o_rf (gP G a0 4) (fun q1 => o_ix v2 (gN G q1) ((if (mI M q1 (Int32.toNatClampNeg v2)) < (900 : Int32) then o_rf (gP G a0 6) (fun q4 => o_ix v2 (gN G q4) (o_bd ((v1 + (mI M q4 (Int32.toNatClampNeg v2)))) (fun x6 => o_bd (v2 + 1 : Int32) (fun x7 => kb4 M x6 x7)))) else some (M, ()))))
def m_X12_cut_11 (G : gS) (a0 : Nat) (kb4 : mS → Int32 → Int32 → Option (mS × Unit)) : Nat → mS → Int32 → Int32 → Option (mS × Unit)
  | 0, _, _, _ => none
  | n + 1, M, v1, v2 => o_cl (m_X12_byteOf G M a0 v1) (fun M1 r2 => (if r2 = (32 : Int32) then m_X12_cut_31 G a0 kb4 (fun M v1 v2 => m_X12_cut_11 G a0 kb4 n M v1 v2) M1 v1 v2 else o_cl (m_X12_byteOf G M1 a0 v1) (fun M5 r6 => (if r6 = (10 : Int32) then m_X12_cut_31 G a0 kb4 (fun M v1 v2 => m_X12_cut_11 G a0 kb4 n M v1 v2) M5 v1 v2 else o_rf (gP G a0 5) (fun q9 => o_ix v2 (gN G q9) (o_wI M5 q9 (Int32.toNatClampNeg v2) v1 (fun M11 => o_rf (gP G a0 7) (fun q12 => o_ix v2 (gN G q12) (o_wI M11 q12 (Int32.toNatClampNeg v2) (0 : Int32) (fun M14 => o_rf (gP G a0 8) (fun q15 => o_ix v2 (gN G q15) (o_wI M14 q15 (Int32.toNatClampNeg v2) (0 : Int32) (fun M17 => o_rf (gP G a0 4) (fun q18 => o_cl (m_X12_kindAt G M17 a0 v1 v2) (fun M19 r20 => o_ix v2 (gN G q18) (o_wI M19 q18 (Int32.toNatClampNeg v2) r20 (fun M23 => (if v2 = (400 : Int32) then o_rf (gP G a0 4) (fun q25 => o_ix v2 (gN G q25) ((if (mI M23 q25 (Int32.toNatClampNeg v2)) = (900 : Int32) then m_X12_cut_98 G a0 kb4 M23 v1 v2 else o_rf (gP G a0 4) (fun q28 => o_ix v2 (gN G q28) (o_wI M23 q28 (Int32.toNatClampNeg v2) (901 : Int32) (fun M30 => m_X12_cut_98 G a0 kb4 M30 v1 v2)))))) else m_X12_cut_98 G a0 kb4 M23 v1 v2))))))))))))))))))
def m_X12_cut_4 (G : gS) (a0 : Nat)  : Nat → mS → Int32 → Int32 → Option (mS × Unit)
  | 0, _, _, _ => none
  | n + 1, M, v1, v2 => (if (400 : Int32) < v2 then some (M, ()) else m_X12_cut_11 G a0 (fun M v1 v2 => m_X12_cut_4 G a0 n M v1 v2) fu M v1 v2)
def m_X12_cut (G : gS) (M : mS) (a0 : Nat) : Option (mS × Unit) := m_X12_cut_4 G a0 fu M ((0 : Int32)) ((0 : Int32))
set_option maxHeartbeats 4000000 in
set_option maxRecDepth 100000 in
theorem b_X12_cut_31 {p : Program} {e : Env} {s : State} {m : MethodId} {args : Array Value} {below : List Frame} {meth : Method} {c : Code} {A : Nat → Prop} {l : Launch} {D : va_G} {cy : cyS} {G : gS} (cx : cX p s m args meth c cX12_cut RX12 3 none wsX12_cut D cy G A) {k0 n0 : Nat} (hkn : k0 ≤ (rmX12_cut).cells ∧ n0 ≤ (rmX12_cut).slots) {M' : mS} {a0 : Nat} (hL0 : a0 ∈ gL G) (hK0 : gK G a0 = 11) {kb4 : mS → Int32 → Int32 → Option (mS × Unit)} (hkb4 : ∀ (M : mS) (v1 : Int32) (v2 : Int32) (H : Heap) (locs : List Loc) (ls : Array Slot), kb4 M v1 v2 = some (M', ()) → wd D cy G M A s.heap H locs → lv_has ls 3 [(0, .ref a0), (1, .int v1), (2, .int v2)] → W p l e rmX12_cut s m args below meth c H locs k0 n0 (MQ below (va_Qv (fun (_ : Unit) => True) (fun _ t => wOut D cy G M' t) A) args s k0 n0 A) (F0 m 4 ls [])) {kb11 : mS → Int32 → Int32 → Option (mS × Unit)} (hkb11 : ∀ (M : mS) (v1 : Int32) (v2 : Int32) (H : Heap) (locs : List Loc) (ls : Array Slot), kb11 M v1 v2 = some (M', ()) → wd D cy G M A s.heap H locs → lv_has ls 3 [(0, .ref a0), (1, .int v1), (2, .int v2)] → W p l e rmX12_cut s m args below meth c H locs k0 n0 (MQ below (va_Qv (fun (_ : Unit) => True) (fun _ t => wOut D cy G M' t) A) args s k0 n0 A) (F0 m 11 ls [])) : ∀ (M : mS) (v1 : Int32) (v2 : Int32) (H : Heap) (locs : List Loc) (ls : Array Slot), m_X12_cut_31 G a0 kb4 kb11 M v1 v2 = some (M', ()) → wd D cy G M A s.heap H locs → lv_has ls 3 [(0, .ref a0), (1, .int v1), (2, .int v2)] → W p l e rmX12_cut s m args below meth c H locs k0 n0 (MQ below (va_Qv (fun (_ : Unit) => True) (fun _ t => wOut D cy G M' t) A) args s k0 n0 A) (F0 m 31 ls []) := by
  obtain ⟨hx, hb, hml, hown, hts, hr, hlocks, hK, hA, hG, hsx⟩ := id cx
  intro M v1 v2 H locs ls h w hl
  unfold m_X12_cut_31 at h
  obtain ⟨x1, ex1, h⟩ := x_bd h
  refine lv_iinc (v := x1) (lv' := [(1, .int x1), (0, .ref a0), (2, .int v2)]) hx hb dX12_cut_31 hl (k := 1) rfl (by rw [ex1]; rfl) (by decide) rfl (fun ls hl => ?_)
  refine lv_goto (tgt := 11) hx hb dX12_cut_34 (by decide) ?_
  exact hkb11 M x1 v2 H locs ls h w (lv_sub hl [1, 0, 2] rfl)
set_option maxHeartbeats 4000000 in
set_option maxRecDepth 100000 in
theorem b_X12_cut_98 {p : Program} {e : Env} {s : State} {m : MethodId} {args : Array Value} {below : List Frame} {meth : Method} {c : Code} {A : Nat → Prop} {l : Launch} {D : va_G} {cy : cyS} {G : gS} (cx : cX p s m args meth c cX12_cut RX12 3 none wsX12_cut D cy G A) {k0 n0 : Nat} (hkn : k0 ≤ (rmX12_cut).cells ∧ n0 ≤ (rmX12_cut).slots) {M' : mS} {a0 : Nat} (hL0 : a0 ∈ gL G) (hK0 : gK G a0 = 11) {kb4 : mS → Int32 → Int32 → Option (mS × Unit)} (hkb4 : ∀ (M : mS) (v1 : Int32) (v2 : Int32) (H : Heap) (locs : List Loc) (ls : Array Slot), kb4 M v1 v2 = some (M', ()) → wd D cy G M A s.heap H locs → lv_has ls 3 [(0, .ref a0), (1, .int v1), (2, .int v2)] → W p l e rmX12_cut s m args below meth c H locs k0 n0 (MQ below (va_Qv (fun (_ : Unit) => True) (fun _ t => wOut D cy G M' t) A) args s k0 n0 A) (F0 m 4 ls [])) : ∀ (M : mS) (v1 : Int32) (v2 : Int32) (H : Heap) (locs : List Loc) (ls : Array Slot), m_X12_cut_98 G a0 kb4 M v1 v2 = some (M', ()) → wd D cy G M A s.heap H locs → lv_has ls 3 [(0, .ref a0), (1, .int v1), (2, .int v2)] → W p l e rmX12_cut s m args below meth c H locs k0 n0 (MQ below (va_Qv (fun (_ : Unit) => True) (fun _ t => wOut D cy G M' t) A) args s k0 n0 A) (F0 m 98 ls []) := by
  obtain ⟨hx, hb, hml, hown, hts, hr, hlocks, hK, hA, hG, hsx⟩ := id cx
  intro M v1 v2 H locs ls h w hl
  unfold m_X12_cut_98 at h
  refine lv_aload_n hx hb dX12_cut_98 rfl (lv_at hl 0 rfl) ?_
  obtain ⟨q1, eq1, h⟩ := x_rf h
  obtain ⟨hLq1, hKq1⟩ := wt_q hG hL0 hK0 eq1
  have hKq1 : gK G q1 = 12 := hKq1
  refine r_getR (k := 4) cx w hL0 hK0 (by decide) rfl wi_X12_cut_X12 (by decide) rfl eq1 (List.mem_of_getElem? (i := 4) rfl) dX12_cut_99 ?_
  refine lv_iload_n hx hb dX12_cut_102 rfl (lv_at hl 2 rfl) ?_
  obtain ⟨z2, h⟩ := x_ix h
  refine r_iald cx w hLq1 hKq1 z2 dX12_cut_103 ?_
  refine lv_sipush (v := (900 : Int32)) hx hb dX12_cut_104 (by decide) ?_
  refine lv_icmp_lt (tgt := 111) hx hb dX12_cut_107 (by decide) (fun k3 => ?_) (fun k3 => ?_)
  · have h := x_t h k3
    refine lv_iload_n hx hb dX12_cut_111 rfl (lv_at hl 1 rfl) ?_
    refine lv_aload_n hx hb dX12_cut_112 rfl (lv_at hl 0 rfl) ?_
    obtain ⟨q4, eq4, h⟩ := x_rf h
    obtain ⟨hLq4, hKq4⟩ := wt_q hG hL0 hK0 eq4
    have hKq4 : gK G q4 = 12 := hKq4
    refine r_getR (k := 6) cx w hL0 hK0 (by decide) rfl wi_X12_cut_X12 (by decide) rfl eq4 (List.mem_of_getElem? (i := 5) rfl) dX12_cut_113 ?_
    refine lv_iload_n hx hb dX12_cut_116 rfl (lv_at hl 2 rfl) ?_
    obtain ⟨z5, h⟩ := x_ix h
    refine r_iald cx w hLq4 hKq4 z5 dX12_cut_117 ?_
    refine lv_iadd hx hb dX12_cut_118 ?_
    obtain ⟨x6, ex6, h⟩ := x_bd h
    refine r_topI ex6 ?_
    refine lv_istore_n (lv' := [(1, .int x6), (0, .ref a0), (2, .int v2)]) hx hb dX12_cut_119 rfl hl (by decide) rfl (fun ls hl => ?_)
    obtain ⟨x7, ex7, h⟩ := x_bd h
    refine lv_iinc (v := x7) (lv' := [(2, .int x7), (1, .int x6), (0, .ref a0)]) hx hb dX12_cut_120 hl (k := 2) rfl (by rw [ex7]; rfl) (by decide) rfl (fun ls hl => ?_)
    refine lv_goto (tgt := 4) hx hb dX12_cut_123 (by decide) ?_
    exact hkb4 M x6 x7 H locs ls h w (lv_sub hl [2, 1, 0] rfl)
  · have h := x_f h k3
    exact r_vret cx w h dX12_cut_110
set_option maxHeartbeats 4000000 in
set_option maxRecDepth 100000 in
theorem b_X12_cut_11 {p : Program} {e : Env} {s : State} {m : MethodId} {args : Array Value} {below : List Frame} {meth : Method} {c : Code} {A : Nat → Prop} {l : Launch} {D : va_G} {cy : cyS} {G : gS} (cx : cX p s m args meth c cX12_cut RX12 3 none wsX12_cut D cy G A) {k0 n0 : Nat} (hkn : k0 ≤ (rmX12_cut).cells ∧ n0 ≤ (rmX12_cut).slots) {M' : mS} {a0 : Nat} (hL0 : a0 ∈ gL G) (hK0 : gK G a0 = 11) {kb4 : mS → Int32 → Int32 → Option (mS × Unit)} (hkb4 : ∀ (M : mS) (v1 : Int32) (v2 : Int32) (H : Heap) (locs : List Loc) (ls : Array Slot), kb4 M v1 v2 = some (M', ()) → wd D cy G M A s.heap H locs → lv_has ls 3 [(0, .ref a0), (1, .int v1), (2, .int v2)] → W p l e rmX12_cut s m args below meth c H locs k0 n0 (MQ below (va_Qv (fun (_ : Unit) => True) (fun _ t => wOut D cy G M' t) A) args s k0 n0 A) (F0 m 4 ls [])) : ∀ (n : Nat), ∀ (M : mS) (v1 : Int32) (v2 : Int32) (H : Heap) (locs : List Loc) (ls : Array Slot), m_X12_cut_11 G a0 kb4 n M v1 v2 = some (M', ()) → wd D cy G M A s.heap H locs → lv_has ls 3 [(0, .ref a0), (1, .int v1), (2, .int v2)] → W p l e rmX12_cut s m args below meth c H locs k0 n0 (MQ below (va_Qv (fun (_ : Unit) => True) (fun _ t => wOut D cy G M' t) A) args s k0 n0 A) (F0 m 11 ls []) := by
  obtain ⟨hx, hb, hml, hown, hts, hr, hlocks, hK, hA, hG, hsx⟩ := id cx
  intro n
  induction n with
  | zero =>
    intro M v1 v2 H locs ls h w hl
    have h : none = some _ := h
    cases h
  | succ n ih =>
    intro M v1 v2 H locs ls h w hl
    rw [m_X12_cut_11] at h
    refine lv_aload_n hx hb dX12_cut_11 rfl (lv_at hl 0 rfl) ?_
    refine lv_iload_n hx hb dX12_cut_12 rfl (lv_at hl 1 rfl) ?_
    obtain ⟨M1, r2, y3, h⟩ := x_cl h
    refine r_callVi (As := [.int v1]) (rest := []) cx w hkn hl.1 (k_X12_byteOf hG hL0 hK0 y3) (cwV 1 hts gX12_cut_X12_byteOf rfl rfl rfl (by decide +kernel) ⟨Nat.le_of_ble_eq_true rfl, Nat.le_of_ble_eq_true rfl⟩) hL0 hK0 (by decide) rfl rfl rfl (Nat.le_of_ble_eq_true rfl) dX12_cut_13 (fun H locs w => ?_)
    refine lv_bipush (v := (32 : Int32)) hx hb dX12_cut_16 (by decide) ?_
    refine lv_icmp_eq (tgt := 31) hx hb dX12_cut_18 (by decide) (fun k4 => ?_) (fun k4 => ?_)
    · have h := x_t h k4
      exact b_X12_cut_31 cx hkn hL0 hK0 (hkb4 := hkb4) (hkb11 := ih) M1 v1 v2 H locs ls h w (lv_sub hl [0, 1, 2] rfl)
    · have h := x_f h k4
      refine lv_aload_n hx hb dX12_cut_21 rfl (lv_at hl 0 rfl) ?_
      refine lv_iload_n hx hb dX12_cut_22 rfl (lv_at hl 1 rfl) ?_
      obtain ⟨M5, r6, y7, h⟩ := x_cl h
      refine r_callVi (As := [.int v1]) (rest := []) cx w hkn hl.1 (k_X12_byteOf hG hL0 hK0 y7) (cwV 1 hts gX12_cut_X12_byteOf rfl rfl rfl (by decide +kernel) ⟨Nat.le_of_ble_eq_true rfl, Nat.le_of_ble_eq_true rfl⟩) hL0 hK0 (by decide) rfl rfl rfl (Nat.le_of_ble_eq_true rfl) dX12_cut_23 (fun H locs w => ?_)
      refine lv_bipush (v := (10 : Int32)) hx hb dX12_cut_26 (by decide) ?_
      refine lv_icmp_ne (tgt := 37) hx hb dX12_cut_28 (by decide) (fun k8 => ?_) (fun k8 => ?_)
      · have h := x_f h k8
        refine lv_aload_n hx hb dX12_cut_37 rfl (lv_at hl 0 rfl) ?_
        obtain ⟨q9, eq9, h⟩ := x_rf h
        obtain ⟨hLq9, hKq9⟩ := wt_q hG hL0 hK0 eq9
        have hKq9 : gK G q9 = 12 := hKq9
        refine r_getR (k := 5) cx w hL0 hK0 (by decide) rfl wi_X12_cut_X12 (by decide) rfl eq9 (List.mem_of_getElem? (i := 1) rfl) dX12_cut_38 ?_
        refine lv_iload_n hx hb dX12_cut_41 rfl (lv_at hl 2 rfl) ?_
        refine lv_iload_n hx hb dX12_cut_42 rfl (lv_at hl 1 rfl) ?_
        obtain ⟨z10, h⟩ := x_ix h
        obtain ⟨M11, eM11, h⟩ := x_wI h
        refine r_iast cx w hLq9 hKq9 z10 dX12_cut_43 eM11 (fun H locs w => ?_)
        refine lv_aload_n hx hb dX12_cut_44 rfl (lv_at hl 0 rfl) ?_
        obtain ⟨q12, eq12, h⟩ := x_rf h
        obtain ⟨hLq12, hKq12⟩ := wt_q hG hL0 hK0 eq12
        have hKq12 : gK G q12 = 12 := hKq12
        refine r_getR (k := 7) cx w hL0 hK0 (by decide) rfl wi_X12_cut_X12 (by decide) rfl eq12 (List.mem_of_getElem? (i := 2) rfl) dX12_cut_45 ?_
        refine lv_iload_n hx hb dX12_cut_48 rfl (lv_at hl 2 rfl) ?_
        refine lv_iconst (v := (0 : Int32)) hx hb dX12_cut_49 (by decide) ?_
        obtain ⟨z13, h⟩ := x_ix h
        obtain ⟨M14, eM14, h⟩ := x_wI h
        refine r_iast cx w hLq12 hKq12 z13 dX12_cut_50 eM14 (fun H locs w => ?_)
        refine lv_aload_n hx hb dX12_cut_51 rfl (lv_at hl 0 rfl) ?_
        obtain ⟨q15, eq15, h⟩ := x_rf h
        obtain ⟨hLq15, hKq15⟩ := wt_q hG hL0 hK0 eq15
        have hKq15 : gK G q15 = 12 := hKq15
        refine r_getR (k := 8) cx w hL0 hK0 (by decide) rfl wi_X12_cut_X12 (by decide) rfl eq15 (List.mem_of_getElem? (i := 3) rfl) dX12_cut_52 ?_
        refine lv_iload_n hx hb dX12_cut_55 rfl (lv_at hl 2 rfl) ?_
        refine lv_iconst (v := (0 : Int32)) hx hb dX12_cut_56 (by decide) ?_
        obtain ⟨z16, h⟩ := x_ix h
        obtain ⟨M17, eM17, h⟩ := x_wI h
        refine r_iast cx w hLq15 hKq15 z16 dX12_cut_57 eM17 (fun H locs w => ?_)
        refine lv_aload_n hx hb dX12_cut_58 rfl (lv_at hl 0 rfl) ?_
        obtain ⟨q18, eq18, h⟩ := x_rf h
        obtain ⟨hLq18, hKq18⟩ := wt_q hG hL0 hK0 eq18
        have hKq18 : gK G q18 = 12 := hKq18
        refine r_getR (k := 4) cx w hL0 hK0 (by decide) rfl wi_X12_cut_X12 (by decide) rfl eq18 (List.mem_of_getElem? (i := 4) rfl) dX12_cut_59 ?_
        refine lv_iload_n hx hb dX12_cut_62 rfl (lv_at hl 2 rfl) ?_
        refine lv_aload_n hx hb dX12_cut_63 rfl (lv_at hl 0 rfl) ?_
        refine lv_iload_n hx hb dX12_cut_64 rfl (lv_at hl 1 rfl) ?_
        refine lv_iload_n hx hb dX12_cut_65 rfl (lv_at hl 2 rfl) ?_
        obtain ⟨M19, r20, y21, h⟩ := x_cl h
        refine r_callVi (As := [.int v1, .int v2]) (rest := [.int v2, .ref q18]) cx w hkn hl.1 (k_X12_kindAt hG hL0 hK0 y21) (cwV 2 hts gX12_cut_X12_kindAt rfl rfl rfl (by decide +kernel) ⟨Nat.le_of_ble_eq_true rfl, Nat.le_of_ble_eq_true rfl⟩) hL0 hK0 (by decide) rfl rfl rfl (Nat.le_of_ble_eq_true rfl) dX12_cut_66 (fun H locs w => ?_)
        obtain ⟨z22, h⟩ := x_ix h
        obtain ⟨M23, eM23, h⟩ := x_wI h
        refine r_iast cx w hLq18 hKq18 z22 dX12_cut_69 eM23 (fun H locs w => ?_)
        refine lv_iload_n hx hb dX12_cut_70 rfl (lv_at hl 2 rfl) ?_
        refine lv_sipush (v := (400 : Int32)) hx hb dX12_cut_71 (by decide) ?_
        refine lv_icmp_ne (tgt := 98) hx hb dX12_cut_74 (by decide) (fun k24 => ?_) (fun k24 => ?_)
        · have h := x_f h k24
          exact b_X12_cut_98 cx hkn hL0 hK0 (hkb4 := hkb4) M23 v1 v2 H locs ls h w (lv_sub hl [0, 1, 2] rfl)
        · have h := x_t h k24
          refine lv_aload_n hx hb dX12_cut_77 rfl (lv_at hl 0 rfl) ?_
          obtain ⟨q25, eq25, h⟩ := x_rf h
          obtain ⟨hLq25, hKq25⟩ := wt_q hG hL0 hK0 eq25
          have hKq25 : gK G q25 = 12 := hKq25
          refine r_getR (k := 4) cx w hL0 hK0 (by decide) rfl wi_X12_cut_X12 (by decide) rfl eq25 (List.mem_of_getElem? (i := 4) rfl) dX12_cut_78 ?_
          refine lv_iload_n hx hb dX12_cut_81 rfl (lv_at hl 2 rfl) ?_
          obtain ⟨z26, h⟩ := x_ix h
          refine r_iald cx w hLq25 hKq25 z26 dX12_cut_82 ?_
          refine lv_sipush (v := (900 : Int32)) hx hb dX12_cut_83 (by decide) ?_
          refine lv_icmp_eq (tgt := 98) hx hb dX12_cut_86 (by decide) (fun k27 => ?_) (fun k27 => ?_)
          · have h := x_t h k27
            exact b_X12_cut_98 cx hkn hL0 hK0 (hkb4 := hkb4) M23 v1 v2 H locs ls h w (lv_sub hl [0, 1, 2] rfl)
          · have h := x_f h k27
            refine lv_aload_n hx hb dX12_cut_89 rfl (lv_at hl 0 rfl) ?_
            obtain ⟨q28, eq28, h⟩ := x_rf h
            obtain ⟨hLq28, hKq28⟩ := wt_q hG hL0 hK0 eq28
            have hKq28 : gK G q28 = 12 := hKq28
            refine r_getR (k := 4) cx w hL0 hK0 (by decide) rfl wi_X12_cut_X12 (by decide) rfl eq28 (List.mem_of_getElem? (i := 4) rfl) dX12_cut_90 ?_
            refine lv_iload_n hx hb dX12_cut_93 rfl (lv_at hl 2 rfl) ?_
            refine lv_sipush (v := (901 : Int32)) hx hb dX12_cut_94 (by decide) ?_
            obtain ⟨z29, h⟩ := x_ix h
            obtain ⟨M30, eM30, h⟩ := x_wI h
            refine r_iast cx w hLq28 hKq28 z29 dX12_cut_97 eM30 (fun H locs w => ?_)
            exact b_X12_cut_98 cx hkn hL0 hK0 (hkb4 := hkb4) M30 v1 v2 H locs ls h w (lv_sub hl [0, 1, 2] rfl)
      · have h := x_t h k8
        exact b_X12_cut_31 cx hkn hL0 hK0 (hkb4 := hkb4) (hkb11 := ih) M5 v1 v2 H locs ls h w (lv_sub hl [0, 1, 2] rfl)
set_option maxHeartbeats 4000000 in
set_option maxRecDepth 100000 in
theorem b_X12_cut_4 {p : Program} {e : Env} {s : State} {m : MethodId} {args : Array Value} {below : List Frame} {meth : Method} {c : Code} {A : Nat → Prop} {l : Launch} {D : va_G} {cy : cyS} {G : gS} (cx : cX p s m args meth c cX12_cut RX12 3 none wsX12_cut D cy G A) {k0 n0 : Nat} (hkn : k0 ≤ (rmX12_cut).cells ∧ n0 ≤ (rmX12_cut).slots) {M' : mS} {a0 : Nat} (hL0 : a0 ∈ gL G) (hK0 : gK G a0 = 11)  : ∀ (n : Nat), ∀ (M : mS) (v1 : Int32) (v2 : Int32) (H : Heap) (locs : List Loc) (ls : Array Slot), m_X12_cut_4 G a0 n M v1 v2 = some (M', ()) → wd D cy G M A s.heap H locs → lv_has ls 3 [(0, .ref a0), (1, .int v1), (2, .int v2)] → W p l e rmX12_cut s m args below meth c H locs k0 n0 (MQ below (va_Qv (fun (_ : Unit) => True) (fun _ t => wOut D cy G M' t) A) args s k0 n0 A) (F0 m 4 ls []) := by
  obtain ⟨hx, hb, hml, hown, hts, hr, hlocks, hK, hA, hG, hsx⟩ := id cx
  intro n
  induction n with
  | zero =>
    intro M v1 v2 H locs ls h w hl
    have h : none = some _ := h
    cases h
  | succ n ih =>
    intro M v1 v2 H locs ls h w hl
    rw [m_X12_cut_4] at h
    refine lv_iload_n hx hb dX12_cut_4 rfl (lv_at hl 2 rfl) ?_
    refine lv_sipush (v := (400 : Int32)) hx hb dX12_cut_5 (by decide) ?_
    refine lv_icmp_gt (tgt := 126) hx hb dX12_cut_8 (by decide) (fun k1 => ?_) (fun k1 => ?_)
    · have h := x_t h k1
      exact r_vret cx w h dX12_cut_126
    · have h := x_f h k1
      exact b_X12_cut_11 cx hkn hL0 hK0 (hkb4 := ih) fu M v1 v2 H locs ls h w (lv_sub hl [0, 1, 2] rfl)
set_option maxHeartbeats 4000000 in
set_option maxRecDepth 100000 in
theorem k_X12_cut {l : Launch} {D : va_G} {cy : cyS} {G : gS} {M M' : mS} {a0 : Nat} (hG : wt G) (hL0 : a0 ∈ gL G) (hK0 : gK G a0 = 11) (h : m_X12_cut G M a0 = some (M', ())) : ctV l yX12_cut wsX12_cut rmX12_cut D cy G M [.ref a0] M' := by
  unfold m_X12_cut at h
  refine ctV_of (cc := cX12_cut) (nL := 3) (ret := none) (lv := [(0, .ref a0)]) hG (by decide) rfl ⟨rfl, rfl⟩ (Nat.le_of_ble_eq_true rfl) rfl ?_
  intro p e s m args below meth c A ls cx w hl
  obtain ⟨hx, hb, hml, hown, hts, hr, hlocks, hK, hA, -, hsx⟩ := id cx
  have hkn : 0 ≤ (rmX12_cut).cells ∧ 0 ≤ (rmX12_cut).slots := ⟨Nat.zero_le _, Nat.zero_le _⟩
  refine lv_iconst (v := (0 : Int32)) hx hb dX12_cut_0 (by decide) ?_
  refine lv_istore_n (lv' := [(1, .int ((0 : Int32))), (0, .ref a0)]) hx hb dX12_cut_1 rfl hl (by decide) rfl (fun ls hl => ?_)
  refine lv_iconst (v := (0 : Int32)) hx hb dX12_cut_2 (by decide) ?_
  refine lv_istore_n (lv' := [(2, .int ((0 : Int32))), (1, .int ((0 : Int32))), (0, .ref a0)]) hx hb dX12_cut_3 rfl hl (by decide) rfl (fun ls hl => ?_)
  exact b_X12_cut_4 cx hkn hL0 hK0 fu M ((0 : Int32)) ((0 : Int32)) s.heap [] ls h w (lv_sub hl [2, 1, 0] rfl)
-- X12_is
theorem wi_X12_is_X12 : ∀ w ∈ wsX120, w ∈ wsX12_is := by decide +kernel
abbrev rmX12_is : Room := { frames := 0, cells := 0, slots := 0, locals := 0 }
def m_X12_is (G : gS) (M : mS) (a0 : Nat) (c1 : Int32) : Option (mS × Int32) := o_rf (gP G a0 4) (fun q1 => o_ix (mI M a0 9) (gN G q1) ((if (mI M q1 (Int32.toNatClampNeg (mI M a0 9))) = c1 then o_ck ((1 : Int32) = 0 ∨ (1 : Int32) = 1) (some (M, (1 : Int32))) else o_ck ((0 : Int32) = 0 ∨ (0 : Int32) = 1) (some (M, (0 : Int32))))))
set_option maxHeartbeats 4000000 in
set_option maxRecDepth 100000 in
theorem k_X12_is {l : Launch} {D : va_G} {cy : cyS} {G : gS} {M M' : mS} {r : Int32} {a0 : Nat} {c1 : Int32} (hG : wt G) (hL0 : a0 ∈ gL G) (hK0 : gK G a0 = 11) (h : m_X12_is G M a0 c1 = some (M', r)) : ctI l yX12_is wsX12_is rmX12_is D cy G M [.ref a0, .int c1] M' r := by
  unfold m_X12_is at h
  refine ctI_of (cc := cX12_is) (nL := 2) (ret := (some .boolean)) (lv := [(0, .ref a0), (1, .int c1)]) hG (by decide) rfl ⟨rfl, rfl⟩ (Nat.le_of_ble_eq_true rfl) rfl ?_
  intro p e s m args below meth c A ls cx w hl
  obtain ⟨hx, hb, hml, hown, hts, hr, hlocks, hK, hA, -, hsx⟩ := id cx
  have hkn : 0 ≤ (rmX12_is).cells ∧ 0 ≤ (rmX12_is).slots := ⟨Nat.zero_le _, Nat.zero_le _⟩
  refine lv_aload_n hx hb dX12_is_0 rfl (lv_at hl 0 rfl) ?_
  obtain ⟨q1, eq1, h⟩ := x_rf h
  obtain ⟨hLq1, hKq1⟩ := wt_q hG hL0 hK0 eq1
  have hKq1 : gK G q1 = 12 := hKq1
  refine r_getR (k := 4) cx w hL0 hK0 (by decide) rfl wi_X12_is_X12 (by decide) rfl eq1 (List.mem_of_getElem? (i := 1) rfl) dX12_is_1 ?_
  refine lv_aload_n hx hb dX12_is_4 rfl (lv_at hl 0 rfl) ?_
  refine r_getI (k := 9) (v := .int (mI M a0 9)) cx w hL0 hK0 (by decide) rfl wi_X12_is_X12 (by decide) rfl (List.mem_of_getElem? (i := 2) rfl) dX12_is_5 ?_
  obtain ⟨z2, h⟩ := x_ix h
  refine r_iald cx w hLq1 hKq1 z2 dX12_is_8 ?_
  refine lv_iload_n hx hb dX12_is_9 rfl (lv_at hl 1 rfl) ?_
  refine lv_icmp_ne (tgt := 17) hx hb dX12_is_10 (by decide) (fun k3 => ?_) (fun k3 => ?_)
  · have h := x_f h k3
    refine lv_iconst (v := (0 : Int32)) hx hb dX12_is_17 (by decide) ?_
    obtain ⟨z4, h⟩ := x_ck h
    exact r_zret cx w z4 h dX12_is_18
  · have h := x_t h k3
    refine lv_iconst (v := (1 : Int32)) hx hb dX12_is_13 (by decide) ?_
    refine lv_goto (tgt := 18) hx hb dX12_is_14 (by decide) ?_
    obtain ⟨z5, h⟩ := x_ck h
    exact r_zret cx w z5 h dX12_is_18
-- X12_eat
theorem wi_X12_eat_X12 : ∀ w ∈ wsX120, w ∈ wsX12_eat := by decide +kernel
abbrev rmX12_eat : Room := { frames := 1, cells := 0, slots := 0, locals := 21 }
def m_X12_eat (G : gS) (M : mS) (a0 : Nat) (c1 : Int32) : Option (mS × Int32) := o_cl (m_X12_is G M a0 c1) (fun M1 r2 => (if r2 = 0 then o_ck ((0 : Int32) = 0 ∨ (0 : Int32) = 1) (some (M1, (0 : Int32))) else o_wI M1 a0 9 ((mI M1 a0 9) + (1 : Int32)) (fun M5 => o_ck ((1 : Int32) = 0 ∨ (1 : Int32) = 1) (some (M5, (1 : Int32))))))
set_option maxHeartbeats 4000000 in
set_option maxRecDepth 100000 in
theorem k_X12_eat {l : Launch} {D : va_G} {cy : cyS} {G : gS} {M M' : mS} {r : Int32} {a0 : Nat} {c1 : Int32} (hG : wt G) (hL0 : a0 ∈ gL G) (hK0 : gK G a0 = 11) (h : m_X12_eat G M a0 c1 = some (M', r)) : ctI l yX12_eat wsX12_eat rmX12_eat D cy G M [.ref a0, .int c1] M' r := by
  unfold m_X12_eat at h
  refine ctI_of (cc := cX12_eat) (nL := 2) (ret := (some .boolean)) (lv := [(0, .ref a0), (1, .int c1)]) hG (by decide) rfl ⟨rfl, rfl⟩ (Nat.le_of_ble_eq_true rfl) rfl ?_
  intro p e s m args below meth c A ls cx w hl
  obtain ⟨hx, hb, hml, hown, hts, hr, hlocks, hK, hA, -, hsx⟩ := id cx
  have hkn : 0 ≤ (rmX12_eat).cells ∧ 0 ≤ (rmX12_eat).slots := ⟨Nat.zero_le _, Nat.zero_le _⟩
  refine lv_aload_n hx hb dX12_eat_0 rfl (lv_at hl 0 rfl) ?_
  refine lv_iload_n hx hb dX12_eat_1 rfl (lv_at hl 1 rfl) ?_
  obtain ⟨M1, r2, y3, h⟩ := x_cl h
  refine r_callVi (As := [.int c1]) (rest := []) cx w hkn hl.1 (k_X12_is hG hL0 hK0 y3) (cwV 1 hts gX12_eat_X12_is rfl rfl rfl (by decide +kernel) ⟨Nat.le_of_ble_eq_true rfl, Nat.le_of_ble_eq_true rfl⟩) hL0 hK0 (by decide) rfl rfl rfl (Nat.le_of_ble_eq_true rfl) dX12_eat_2 (fun H locs w => ?_)
  refine lv_if_ne (tgt := 10) hx hb dX12_eat_5 (by decide) (fun k4 => ?_) (fun k4 => ?_)
  · have h := x_f h k4
    refine lv_aload_n hx hb dX12_eat_10 rfl (lv_at hl 0 rfl) ?_
    refine lv_dup hx hb dX12_eat_11 rfl ?_
    refine r_getI (k := 9) (v := .int (mI M1 a0 9)) cx w hL0 hK0 (by decide) rfl wi_X12_eat_X12 (by decide) rfl (List.mem_of_getElem? (i := 1) rfl) dX12_eat_12 ?_
    refine lv_iconst (v := (1 : Int32)) hx hb dX12_eat_15 (by decide) ?_
    refine lv_iadd hx hb dX12_eat_16 ?_
    obtain ⟨M5, eM5, h⟩ := x_wI h
    refine r_putI (k := 9) (ty := .int) cx w tyX12 tyX12_ok nmX12 hL0 hK0 (by decide) rfl wi_X12_eat_X12 (by decide) rfl rfl rfl rfl st_11_9 (ln_11 _ _ (by decide)) (List.mem_of_getElem? (i := 1) rfl) dX12_eat_17 eM5 (fun H locs w => ?_)
    refine lv_iconst (v := (1 : Int32)) hx hb dX12_eat_20 (by decide) ?_
    obtain ⟨z6, h⟩ := x_ck h
    exact r_zret cx w z6 h dX12_eat_21
  · have h := x_t h k4
    refine lv_iconst (v := (0 : Int32)) hx hb dX12_eat_8 (by decide) ?_
    obtain ⟨z7, h⟩ := x_ck h
    exact r_zret cx w z7 h dX12_eat_9
-- X12_eatAs
theorem wi_X12_eatAs_X12 : ∀ w ∈ wsX120, w ∈ wsX12_eatAs := by decide +kernel
abbrev rmX12_eatAs : Room := { frames := 2, cells := 0, slots := 0, locals := 42 }
def m_X12_eatAs (G : gS) (M : mS) (a0 : Nat) (c1 : Int32) (c2 : Int32) : Option (mS × Int32) := o_rf (gP G a0 7) (fun q1 => o_ix (mI M a0 9) (gN G q1) (o_wI M q1 (Int32.toNatClampNeg (mI M a0 9)) c2 (fun M3 => o_cl (m_X12_eat G M3 a0 c1) (fun M4 r5 => o_ck (r5 = 0 ∨ r5 = 1) (some (M4, r5))))))
set_option maxHeartbeats 4000000 in
set_option maxRecDepth 100000 in
theorem k_X12_eatAs {l : Launch} {D : va_G} {cy : cyS} {G : gS} {M M' : mS} {r : Int32} {a0 : Nat} {c1 : Int32} {c2 : Int32} (hG : wt G) (hL0 : a0 ∈ gL G) (hK0 : gK G a0 = 11) (h : m_X12_eatAs G M a0 c1 c2 = some (M', r)) : ctI l yX12_eatAs wsX12_eatAs rmX12_eatAs D cy G M [.ref a0, .int c1, .int c2] M' r := by
  unfold m_X12_eatAs at h
  refine ctI_of (cc := cX12_eatAs) (nL := 3) (ret := (some .boolean)) (lv := [(0, .ref a0), (1, .int c1), (2, .int c2)]) hG (by decide) rfl ⟨rfl, rfl⟩ (Nat.le_of_ble_eq_true rfl) rfl ?_
  intro p e s m args below meth c A ls cx w hl
  obtain ⟨hx, hb, hml, hown, hts, hr, hlocks, hK, hA, -, hsx⟩ := id cx
  have hkn : 0 ≤ (rmX12_eatAs).cells ∧ 0 ≤ (rmX12_eatAs).slots := ⟨Nat.zero_le _, Nat.zero_le _⟩
  refine lv_aload_n hx hb dX12_eatAs_0 rfl (lv_at hl 0 rfl) ?_
  obtain ⟨q1, eq1, h⟩ := x_rf h
  obtain ⟨hLq1, hKq1⟩ := wt_q hG hL0 hK0 eq1
  have hKq1 : gK G q1 = 12 := hKq1
  refine r_getR (k := 7) cx w hL0 hK0 (by decide) rfl wi_X12_eatAs_X12 (by decide) rfl eq1 (List.mem_of_getElem? (i := 1) rfl) dX12_eatAs_1 ?_
  refine lv_aload_n hx hb dX12_eatAs_4 rfl (lv_at hl 0 rfl) ?_
  refine r_getI (k := 9) (v := .int (mI M a0 9)) cx w hL0 hK0 (by decide) rfl wi_X12_eatAs_X12 (by decide) rfl (List.mem_of_getElem? (i := 2) rfl) dX12_eatAs_5 ?_
  refine lv_iload_n hx hb dX12_eatAs_8 rfl (lv_at hl 2 rfl) ?_
  obtain ⟨z2, h⟩ := x_ix h
  obtain ⟨M3, eM3, h⟩ := x_wI h
  refine r_iast cx w hLq1 hKq1 z2 dX12_eatAs_9 eM3 (fun H locs w => ?_)
  refine lv_aload_n hx hb dX12_eatAs_10 rfl (lv_at hl 0 rfl) ?_
  refine lv_iload_n hx hb dX12_eatAs_11 rfl (lv_at hl 1 rfl) ?_
  obtain ⟨M4, r5, y6, h⟩ := x_cl h
  refine r_callVi (As := [.int c1]) (rest := []) cx w hkn hl.1 (k_X12_eat hG hL0 hK0 y6) (cwV 1 hts gX12_eatAs_X12_eat rfl rfl rfl (by decide +kernel) ⟨Nat.le_of_ble_eq_true rfl, Nat.le_of_ble_eq_true rfl⟩) hL0 hK0 (by decide) rfl rfl rfl (Nat.le_of_ble_eq_true rfl) dX12_eatAs_12 (fun H locs w => ?_)
  obtain ⟨z7, h⟩ := x_ck h
  exact r_zret cx w z7 h dX12_eatAs_15
-- X12_isWordOf
theorem wi_X12_isWordOf_X12 : ∀ w ∈ wsX120, w ∈ wsX12_isWordOf := by decide +kernel
abbrev rmX12_isWordOf : Room := { frames := 1, cells := 0, slots := 0, locals := 22 }
def m_X12_isWordOf (G : gS) (M : mS) (a0 : Nat) (c1 : Int32) (c2 : Int32) : Option (mS × Int32) := o_rf (gP G a0 4) (fun q1 => o_ix (mI M a0 9) (gN G q1) (o_cl (m_X12_isIn G M (mI M q1 (Int32.toNatClampNeg (mI M a0 9))) c1 c2) (fun M3 r4 => o_ck (r4 = 0 ∨ r4 = 1) (some (M3, r4)))))
set_option maxHeartbeats 4000000 in
set_option maxRecDepth 100000 in
theorem k_X12_isWordOf {l : Launch} {D : va_G} {cy : cyS} {G : gS} {M M' : mS} {r : Int32} {a0 : Nat} {c1 : Int32} {c2 : Int32} (hG : wt G) (hL0 : a0 ∈ gL G) (hK0 : gK G a0 = 11) (h : m_X12_isWordOf G M a0 c1 c2 = some (M', r)) : ctI l yX12_isWordOf wsX12_isWordOf rmX12_isWordOf D cy G M [.ref a0, .int c1, .int c2] M' r := by
  unfold m_X12_isWordOf at h
  refine ctI_of (cc := cX12_isWordOf) (nL := 3) (ret := (some .boolean)) (lv := [(0, .ref a0), (1, .int c1), (2, .int c2)]) hG (by decide) rfl ⟨rfl, rfl⟩ (Nat.le_of_ble_eq_true rfl) rfl ?_
  intro p e s m args below meth c A ls cx w hl
  obtain ⟨hx, hb, hml, hown, hts, hr, hlocks, hK, hA, -, hsx⟩ := id cx
  have hkn : 0 ≤ (rmX12_isWordOf).cells ∧ 0 ≤ (rmX12_isWordOf).slots := ⟨Nat.zero_le _, Nat.zero_le _⟩
  refine lv_aload_n hx hb dX12_isWordOf_0 rfl (lv_at hl 0 rfl) ?_
  obtain ⟨q1, eq1, h⟩ := x_rf h
  obtain ⟨hLq1, hKq1⟩ := wt_q hG hL0 hK0 eq1
  have hKq1 : gK G q1 = 12 := hKq1
  refine r_getR (k := 4) cx w hL0 hK0 (by decide) rfl wi_X12_isWordOf_X12 (by decide) rfl eq1 (List.mem_of_getElem? (i := 1) rfl) dX12_isWordOf_1 ?_
  refine lv_aload_n hx hb dX12_isWordOf_4 rfl (lv_at hl 0 rfl) ?_
  refine r_getI (k := 9) (v := .int (mI M a0 9)) cx w hL0 hK0 (by decide) rfl wi_X12_isWordOf_X12 (by decide) rfl (List.mem_of_getElem? (i := 2) rfl) dX12_isWordOf_5 ?_
  obtain ⟨z2, h⟩ := x_ix h
  refine r_iald cx w hLq1 hKq1 z2 dX12_isWordOf_8 ?_
  refine lv_iload_n hx hb dX12_isWordOf_9 rfl (lv_at hl 1 rfl) ?_
  refine lv_iload_n hx hb dX12_isWordOf_10 rfl (lv_at hl 2 rfl) ?_
  obtain ⟨M3, r4, y5, h⟩ := x_cl h
  refine r_callSi (As := [.int ((mI M q1 (Int32.toNatClampNeg (mI M a0 9)))), .int c1, .int c2]) (rest := []) cx w hkn hl.1 (k_X12_isIn hG y5) (va_cwS 3 hts gX12_isWordOf_X12_isIn rfl rfl rfl (by decide +kernel) ⟨Nat.le_of_ble_eq_true rfl, Nat.le_of_ble_eq_true rfl⟩) rfl rfl (Nat.le_of_ble_eq_true rfl) dX12_isWordOf_11 (fun H locs w => ?_)
  obtain ⟨z6, h⟩ := x_ck h
  exact r_zret cx w z6 h dX12_isWordOf_14
-- X12_eatOne
theorem wi_X12_eatOne_X12 : ∀ w ∈ wsX120, w ∈ wsX12_eatOne := by decide +kernel
abbrev rmX12_eatOne : Room := { frames := 2, cells := 0, slots := 0, locals := 44 }
def m_X12_eatOne (G : gS) (M : mS) (a0 : Nat) (c1 : Int32) (c2 : Int32) (c3 : Int32) : Option (mS × Int32) := o_rf (gP G a0 7) (fun q1 => o_ix (mI M a0 9) (gN G q1) (o_wI M q1 (Int32.toNatClampNeg (mI M a0 9)) c3 (fun M3 => o_cl (m_X12_isWordOf G M3 a0 c1 c2) (fun M4 r5 => (if r5 = 0 then o_ck ((0 : Int32) = 0 ∨ (0 : Int32) = 1) (some (M4, (0 : Int32))) else o_wI M4 a0 9 ((mI M4 a0 9) + (1 : Int32)) (fun M8 => o_ck ((1 : Int32) = 0 ∨ (1 : Int32) = 1) (some (M8, (1 : Int32)))))))))
set_option maxHeartbeats 4000000 in
set_option maxRecDepth 100000 in
theorem k_X12_eatOne {l : Launch} {D : va_G} {cy : cyS} {G : gS} {M M' : mS} {r : Int32} {a0 : Nat} {c1 : Int32} {c2 : Int32} {c3 : Int32} (hG : wt G) (hL0 : a0 ∈ gL G) (hK0 : gK G a0 = 11) (h : m_X12_eatOne G M a0 c1 c2 c3 = some (M', r)) : ctI l yX12_eatOne wsX12_eatOne rmX12_eatOne D cy G M [.ref a0, .int c1, .int c2, .int c3] M' r := by
  unfold m_X12_eatOne at h
  refine ctI_of (cc := cX12_eatOne) (nL := 4) (ret := (some .boolean)) (lv := [(0, .ref a0), (1, .int c1), (2, .int c2), (3, .int c3)]) hG (by decide) rfl ⟨rfl, rfl⟩ (Nat.le_of_ble_eq_true rfl) rfl ?_
  intro p e s m args below meth c A ls cx w hl
  obtain ⟨hx, hb, hml, hown, hts, hr, hlocks, hK, hA, -, hsx⟩ := id cx
  have hkn : 0 ≤ (rmX12_eatOne).cells ∧ 0 ≤ (rmX12_eatOne).slots := ⟨Nat.zero_le _, Nat.zero_le _⟩
  refine lv_aload_n hx hb dX12_eatOne_0 rfl (lv_at hl 0 rfl) ?_
  obtain ⟨q1, eq1, h⟩ := x_rf h
  obtain ⟨hLq1, hKq1⟩ := wt_q hG hL0 hK0 eq1
  have hKq1 : gK G q1 = 12 := hKq1
  refine r_getR (k := 7) cx w hL0 hK0 (by decide) rfl wi_X12_eatOne_X12 (by decide) rfl eq1 (List.mem_of_getElem? (i := 1) rfl) dX12_eatOne_1 ?_
  refine lv_aload_n hx hb dX12_eatOne_4 rfl (lv_at hl 0 rfl) ?_
  refine r_getI (k := 9) (v := .int (mI M a0 9)) cx w hL0 hK0 (by decide) rfl wi_X12_eatOne_X12 (by decide) rfl (List.mem_of_getElem? (i := 2) rfl) dX12_eatOne_5 ?_
  refine lv_iload_n hx hb dX12_eatOne_8 rfl (lv_at hl 3 rfl) ?_
  obtain ⟨z2, h⟩ := x_ix h
  obtain ⟨M3, eM3, h⟩ := x_wI h
  refine r_iast cx w hLq1 hKq1 z2 dX12_eatOne_9 eM3 (fun H locs w => ?_)
  refine lv_aload_n hx hb dX12_eatOne_10 rfl (lv_at hl 0 rfl) ?_
  refine lv_iload_n hx hb dX12_eatOne_11 rfl (lv_at hl 1 rfl) ?_
  refine lv_iload_n hx hb dX12_eatOne_12 rfl (lv_at hl 2 rfl) ?_
  obtain ⟨M4, r5, y6, h⟩ := x_cl h
  refine r_callVi (As := [.int c1, .int c2]) (rest := []) cx w hkn hl.1 (k_X12_isWordOf hG hL0 hK0 y6) (cwV 2 hts gX12_eatOne_X12_isWordOf rfl rfl rfl (by decide +kernel) ⟨Nat.le_of_ble_eq_true rfl, Nat.le_of_ble_eq_true rfl⟩) hL0 hK0 (by decide) rfl rfl rfl (Nat.le_of_ble_eq_true rfl) dX12_eatOne_13 (fun H locs w => ?_)
  refine lv_if_ne (tgt := 21) hx hb dX12_eatOne_16 (by decide) (fun k7 => ?_) (fun k7 => ?_)
  · have h := x_f h k7
    refine lv_aload_n hx hb dX12_eatOne_21 rfl (lv_at hl 0 rfl) ?_
    refine lv_dup hx hb dX12_eatOne_22 rfl ?_
    refine r_getI (k := 9) (v := .int (mI M4 a0 9)) cx w hL0 hK0 (by decide) rfl wi_X12_eatOne_X12 (by decide) rfl (List.mem_of_getElem? (i := 2) rfl) dX12_eatOne_23 ?_
    refine lv_iconst (v := (1 : Int32)) hx hb dX12_eatOne_26 (by decide) ?_
    refine lv_iadd hx hb dX12_eatOne_27 ?_
    obtain ⟨M8, eM8, h⟩ := x_wI h
    refine r_putI (k := 9) (ty := .int) cx w tyX12 tyX12_ok nmX12 hL0 hK0 (by decide) rfl wi_X12_eatOne_X12 (by decide) rfl rfl rfl rfl st_11_9 (ln_11 _ _ (by decide)) (List.mem_of_getElem? (i := 2) rfl) dX12_eatOne_28 eM8 (fun H locs w => ?_)
    refine lv_iconst (v := (1 : Int32)) hx hb dX12_eatOne_31 (by decide) ?_
    obtain ⟨z9, h⟩ := x_ck h
    exact r_zret cx w z9 h dX12_eatOne_32
  · have h := x_t h k7
    refine lv_iconst (v := (0 : Int32)) hx hb dX12_eatOne_19 (by decide) ?_
    obtain ⟨z10, h⟩ := x_ck h
    exact r_zret cx w z10 h dX12_eatOne_20
-- X12_isRuleLine
theorem wi_X12_isRuleLine_X12 : ∀ w ∈ wsX120, w ∈ wsX12_isRuleLine := by decide +kernel
abbrev rmX12_isRuleLine : Room := { frames := 3, cells := 0, slots := 0, locals := 67 }
def m_X12_isRuleLine_40 (G : gS) (a0 : Nat)  (M : mS)  : Option (mS × Int32) := o_ck ((0 : Int32) = 0 ∨ (0 : Int32) = 1) (some (M, (0 : Int32)))
def m_X12_isRuleLine_42 (G : gS) (a0 : Nat)  : Nat → mS → Option (mS × Int32)
  | 0, _ => none
  | n + 1, M => o_cl (m_X12_isWordOf G M a0 (1 : Int32) (4 : Int32)) (fun M1 r2 => (if r2 = 0 then o_ck ((1 : Int32) = 0 ∨ (1 : Int32) = 1) (some (M1, (1 : Int32))) else o_cl (m_X12_eatOne G M1 a0 (1 : Int32) (4 : Int32) (3 : Int32)) (fun M6 r7 => m_X12_isRuleLine_42 G a0 n M6)))
def m_X12_isRuleLine (G : gS) (M : mS) (a0 : Nat) : Option (mS × Int32) := o_wI M a0 9 ((mI M a0 9) + (1 : Int32)) (fun M1 => o_cl (m_X12_eatAs G M1 a0 (40 : Int32) (1 : Int32)) (fun M2 r3 => (if r3 = 0 then m_X12_isRuleLine_40 G a0 M2 else o_cl (m_X12_eatOne G M2 a0 (1 : Int32) (4 : Int32) (3 : Int32)) (fun M6 r7 => (if r7 = 0 then m_X12_isRuleLine_40 G a0 M6 else o_cl (m_X12_eatOne G M6 a0 (1 : Int32) (4 : Int32) (3 : Int32)) (fun M10 r11 => (if r11 = 0 then m_X12_isRuleLine_40 G a0 M10 else m_X12_isRuleLine_42 G a0 fu M10)))))))
set_option maxHeartbeats 4000000 in
set_option maxRecDepth 100000 in
theorem b_X12_isRuleLine_40 {p : Program} {e : Env} {s : State} {m : MethodId} {args : Array Value} {below : List Frame} {meth : Method} {c : Code} {A : Nat → Prop} {l : Launch} {D : va_G} {cy : cyS} {G : gS} (cx : cX p s m args meth c cX12_isRuleLine RX12 1 (some .boolean) wsX12_isRuleLine D cy G A) {k0 n0 : Nat} (hkn : k0 ≤ (rmX12_isRuleLine).cells ∧ n0 ≤ (rmX12_isRuleLine).slots) {M' : mS} {r : Int32} {a0 : Nat} (hL0 : a0 ∈ gL G) (hK0 : gK G a0 = 11)  : ∀ (M : mS) (H : Heap) (locs : List Loc) (ls : Array Slot), m_X12_isRuleLine_40 G a0 M = some (M', r) → wd D cy G M A s.heap H locs → lv_has ls 1 [] → W p l e rmX12_isRuleLine s m args below meth c H locs k0 n0 (MQ below (va_Qi (fun (r' : Int32) (_ : Unit) => r' = r) (fun _ t => wOut D cy G M' t) A) args s k0 n0 A) (F0 m 40 ls []) := by
  obtain ⟨hx, hb, hml, hown, hts, hr, hlocks, hK, hA, hG, hsx⟩ := id cx
  intro M H locs ls h w hl
  unfold m_X12_isRuleLine_40 at h
  refine lv_iconst (v := (0 : Int32)) hx hb dX12_isRuleLine_40 (by decide) ?_
  obtain ⟨z1, h⟩ := x_ck h
  exact r_zret cx w z1 h dX12_isRuleLine_41
set_option maxHeartbeats 4000000 in
set_option maxRecDepth 100000 in
theorem b_X12_isRuleLine_42 {p : Program} {e : Env} {s : State} {m : MethodId} {args : Array Value} {below : List Frame} {meth : Method} {c : Code} {A : Nat → Prop} {l : Launch} {D : va_G} {cy : cyS} {G : gS} (cx : cX p s m args meth c cX12_isRuleLine RX12 1 (some .boolean) wsX12_isRuleLine D cy G A) {k0 n0 : Nat} (hkn : k0 ≤ (rmX12_isRuleLine).cells ∧ n0 ≤ (rmX12_isRuleLine).slots) {M' : mS} {r : Int32} {a0 : Nat} (hL0 : a0 ∈ gL G) (hK0 : gK G a0 = 11)  : ∀ (n : Nat), ∀ (M : mS) (H : Heap) (locs : List Loc) (ls : Array Slot), m_X12_isRuleLine_42 G a0 n M = some (M', r) → wd D cy G M A s.heap H locs → lv_has ls 1 [(0, .ref a0)] → W p l e rmX12_isRuleLine s m args below meth c H locs k0 n0 (MQ below (va_Qi (fun (r' : Int32) (_ : Unit) => r' = r) (fun _ t => wOut D cy G M' t) A) args s k0 n0 A) (F0 m 42 ls []) := by
  obtain ⟨hx, hb, hml, hown, hts, hr, hlocks, hK, hA, hG, hsx⟩ := id cx
  intro n
  induction n with
  | zero =>
    intro M H locs ls h w hl
    have h : none = some _ := h
    cases h
  | succ n ih =>
    intro M H locs ls h w hl
    rw [m_X12_isRuleLine_42] at h
    refine lv_aload_n hx hb dX12_isRuleLine_42 rfl (lv_at hl 0 rfl) ?_
    refine lv_iconst (v := (1 : Int32)) hx hb dX12_isRuleLine_43 (by decide) ?_
    refine lv_iconst (v := (4 : Int32)) hx hb dX12_isRuleLine_44 (by decide) ?_
    obtain ⟨M1, r2, y3, h⟩ := x_cl h
    refine r_callVi (As := [.int ((1 : Int32)), .int ((4 : Int32))]) (rest := []) cx w hkn hl.1 (k_X12_isWordOf hG hL0 hK0 y3) (cwV 2 hts gX12_isRuleLine_X12_isWordOf rfl rfl rfl (by decide +kernel) ⟨Nat.le_of_ble_eq_true rfl, Nat.le_of_ble_eq_true rfl⟩) hL0 hK0 (by decide) rfl rfl rfl (Nat.le_of_ble_eq_true rfl) dX12_isRuleLine_45 (fun H locs w => ?_)
    refine lv_if_eq (tgt := 62) hx hb dX12_isRuleLine_48 (by decide) (fun k4 => ?_) (fun k4 => ?_)
    · have h := x_t h k4
      refine lv_iconst (v := (1 : Int32)) hx hb dX12_isRuleLine_62 (by decide) ?_
      obtain ⟨z5, h⟩ := x_ck h
      exact r_zret cx w z5 h dX12_isRuleLine_63
    · have h := x_f h k4
      refine lv_aload_n hx hb dX12_isRuleLine_51 rfl (lv_at hl 0 rfl) ?_
      refine lv_iconst (v := (1 : Int32)) hx hb dX12_isRuleLine_52 (by decide) ?_
      refine lv_iconst (v := (4 : Int32)) hx hb dX12_isRuleLine_53 (by decide) ?_
      refine lv_iconst (v := (3 : Int32)) hx hb dX12_isRuleLine_54 (by decide) ?_
      obtain ⟨M6, r7, y8, h⟩ := x_cl h
      refine r_callVi (As := [.int ((1 : Int32)), .int ((4 : Int32)), .int ((3 : Int32))]) (rest := []) cx w hkn hl.1 (k_X12_eatOne hG hL0 hK0 y8) (cwV 3 hts gX12_isRuleLine_X12_eatOne rfl rfl rfl (by decide +kernel) ⟨Nat.le_of_ble_eq_true rfl, Nat.le_of_ble_eq_true rfl⟩) hL0 hK0 (by decide) rfl rfl rfl (Nat.le_of_ble_eq_true rfl) dX12_isRuleLine_55 (fun H locs w => ?_)
      refine lv_pop hx hb dX12_isRuleLine_58 rfl ?_
      refine lv_goto (tgt := 42) hx hb dX12_isRuleLine_59 (by decide) ?_
      exact ih M6 H locs ls h w (lv_sub hl [0] rfl)
set_option maxHeartbeats 4000000 in
set_option maxRecDepth 100000 in
theorem k_X12_isRuleLine {l : Launch} {D : va_G} {cy : cyS} {G : gS} {M M' : mS} {r : Int32} {a0 : Nat} (hG : wt G) (hL0 : a0 ∈ gL G) (hK0 : gK G a0 = 11) (h : m_X12_isRuleLine G M a0 = some (M', r)) : ctI l yX12_isRuleLine wsX12_isRuleLine rmX12_isRuleLine D cy G M [.ref a0] M' r := by
  unfold m_X12_isRuleLine at h
  refine ctI_of (cc := cX12_isRuleLine) (nL := 1) (ret := (some .boolean)) (lv := [(0, .ref a0)]) hG (by decide) rfl ⟨rfl, rfl⟩ (Nat.le_of_ble_eq_true rfl) rfl ?_
  intro p e s m args below meth c A ls cx w hl
  obtain ⟨hx, hb, hml, hown, hts, hr, hlocks, hK, hA, -, hsx⟩ := id cx
  have hkn : 0 ≤ (rmX12_isRuleLine).cells ∧ 0 ≤ (rmX12_isRuleLine).slots := ⟨Nat.zero_le _, Nat.zero_le _⟩
  refine lv_aload_n hx hb dX12_isRuleLine_0 rfl (lv_at hl 0 rfl) ?_
  refine lv_dup hx hb dX12_isRuleLine_1 rfl ?_
  refine r_getI (k := 9) (v := .int (mI M a0 9)) cx w hL0 hK0 (by decide) rfl wi_X12_isRuleLine_X12 (by decide) rfl (List.mem_of_getElem? (i := 1) rfl) dX12_isRuleLine_2 ?_
  refine lv_iconst (v := (1 : Int32)) hx hb dX12_isRuleLine_5 (by decide) ?_
  refine lv_iadd hx hb dX12_isRuleLine_6 ?_
  obtain ⟨M1, eM1, h⟩ := x_wI h
  refine r_putI (k := 9) (ty := .int) cx w tyX12 tyX12_ok nmX12 hL0 hK0 (by decide) rfl wi_X12_isRuleLine_X12 (by decide) rfl rfl rfl rfl st_11_9 (ln_11 _ _ (by decide)) (List.mem_of_getElem? (i := 1) rfl) dX12_isRuleLine_7 eM1 (fun H locs w => ?_)
  refine lv_aload_n hx hb dX12_isRuleLine_10 rfl (lv_at hl 0 rfl) ?_
  refine lv_bipush (v := (40 : Int32)) hx hb dX12_isRuleLine_11 (by decide) ?_
  refine lv_iconst (v := (1 : Int32)) hx hb dX12_isRuleLine_13 (by decide) ?_
  obtain ⟨M2, r3, y4, h⟩ := x_cl h
  refine r_callVi (As := [.int ((40 : Int32)), .int ((1 : Int32))]) (rest := []) cx w hkn hl.1 (k_X12_eatAs hG hL0 hK0 y4) (cwV 2 hts gX12_isRuleLine_X12_eatAs rfl rfl rfl (by decide +kernel) ⟨Nat.le_of_ble_eq_true rfl, Nat.le_of_ble_eq_true rfl⟩) hL0 hK0 (by decide) rfl rfl rfl (Nat.le_of_ble_eq_true rfl) dX12_isRuleLine_14 (fun H locs w => ?_)
  refine lv_if_eq (tgt := 40) hx hb dX12_isRuleLine_17 (by decide) (fun k5 => ?_) (fun k5 => ?_)
  · have h := x_t h k5
    exact b_X12_isRuleLine_40 cx hkn hL0 hK0 M2 H locs ls h w (lv_sub hl [] rfl)
  · have h := x_f h k5
    refine lv_aload_n hx hb dX12_isRuleLine_20 rfl (lv_at hl 0 rfl) ?_
    refine lv_iconst (v := (1 : Int32)) hx hb dX12_isRuleLine_21 (by decide) ?_
    refine lv_iconst (v := (4 : Int32)) hx hb dX12_isRuleLine_22 (by decide) ?_
    refine lv_iconst (v := (3 : Int32)) hx hb dX12_isRuleLine_23 (by decide) ?_
    obtain ⟨M6, r7, y8, h⟩ := x_cl h
    refine r_callVi (As := [.int ((1 : Int32)), .int ((4 : Int32)), .int ((3 : Int32))]) (rest := []) cx w hkn hl.1 (k_X12_eatOne hG hL0 hK0 y8) (cwV 3 hts gX12_isRuleLine_X12_eatOne rfl rfl rfl (by decide +kernel) ⟨Nat.le_of_ble_eq_true rfl, Nat.le_of_ble_eq_true rfl⟩) hL0 hK0 (by decide) rfl rfl rfl (Nat.le_of_ble_eq_true rfl) dX12_isRuleLine_24 (fun H locs w => ?_)
    refine lv_if_eq (tgt := 40) hx hb dX12_isRuleLine_27 (by decide) (fun k9 => ?_) (fun k9 => ?_)
    · have h := x_t h k9
      exact b_X12_isRuleLine_40 cx hkn hL0 hK0 M6 H locs ls h w (lv_sub hl [] rfl)
    · have h := x_f h k9
      refine lv_aload_n hx hb dX12_isRuleLine_30 rfl (lv_at hl 0 rfl) ?_
      refine lv_iconst (v := (1 : Int32)) hx hb dX12_isRuleLine_31 (by decide) ?_
      refine lv_iconst (v := (4 : Int32)) hx hb dX12_isRuleLine_32 (by decide) ?_
      refine lv_iconst (v := (3 : Int32)) hx hb dX12_isRuleLine_33 (by decide) ?_
      obtain ⟨M10, r11, y12, h⟩ := x_cl h
      refine r_callVi (As := [.int ((1 : Int32)), .int ((4 : Int32)), .int ((3 : Int32))]) (rest := []) cx w hkn hl.1 (k_X12_eatOne hG hL0 hK0 y12) (cwV 3 hts gX12_isRuleLine_X12_eatOne rfl rfl rfl (by decide +kernel) ⟨Nat.le_of_ble_eq_true rfl, Nat.le_of_ble_eq_true rfl⟩) hL0 hK0 (by decide) rfl rfl rfl (Nat.le_of_ble_eq_true rfl) dX12_isRuleLine_34 (fun H locs w => ?_)
      refine lv_if_ne (tgt := 42) hx hb dX12_isRuleLine_37 (by decide) (fun k13 => ?_) (fun k13 => ?_)
      · have h := x_f h k13
        exact b_X12_isRuleLine_42 cx hkn hL0 hK0 fu M10 H locs ls h w (lv_sub hl [0] rfl)
      · have h := x_t h k13
        exact b_X12_isRuleLine_40 cx hkn hL0 hK0 M10 H locs ls h w (lv_sub hl [] rfl)
-- X12_isAntLine
theorem wi_X12_isAntLine_X12 : ∀ w ∈ wsX120, w ∈ wsX12_isAntLine := by decide +kernel
abbrev rmX12_isAntLine : Room := { frames := 3, cells := 0, slots := 0, locals := 67 }
def m_X12_isAntLine_94 (G : gS) (a0 : Nat)  (M : mS)  : Option (mS × Int32) := o_ck ((0 : Int32) = 0 ∨ (0 : Int32) = 1) (some (M, (0 : Int32)))
def m_X12_isAntLine (G : gS) (M : mS) (a0 : Nat) : Option (mS × Int32) := o_wI M a0 9 ((mI M a0 9) + (1 : Int32)) (fun M1 => o_cl (m_X12_eatAs G M1 a0 (40 : Int32) (2 : Int32)) (fun M2 r3 => (if r3 = 0 then m_X12_isAntLine_94 G a0 M2 else o_cl (m_X12_eat G M2 a0 (6 : Int32)) (fun M6 r7 => (if r7 = 0 then m_X12_isAntLine_94 G a0 M6 else o_cl (m_X12_eatAs G M6 a0 (40 : Int32) (4 : Int32)) (fun M10 r11 => (if r11 = 0 then m_X12_isAntLine_94 G a0 M10 else o_cl (m_X12_eat G M10 a0 (7 : Int32)) (fun M14 r15 => (if r15 = 0 then m_X12_isAntLine_94 G a0 M14 else o_cl (m_X12_eatAs G M14 a0 (41 : Int32) (5 : Int32)) (fun M18 r19 => (if r19 = 0 then m_X12_isAntLine_94 G a0 M18 else o_cl (m_X12_eatAs G M18 a0 (41 : Int32) (5 : Int32)) (fun M22 r23 => (if r23 = 0 then m_X12_isAntLine_94 G a0 M22 else o_cl (m_X12_eat G M22 a0 (8 : Int32)) (fun M26 r27 => (if r27 = 0 then m_X12_isAntLine_94 G a0 M26 else o_cl (m_X12_eatOne G M26 a0 (9 : Int32) (12 : Int32) (6 : Int32)) (fun M30 r31 => (if r31 = 0 then m_X12_isAntLine_94 G a0 M30 else o_ck ((1 : Int32) = 0 ∨ (1 : Int32) = 1) (some (M30, (1 : Int32))))))))))))))))))))
set_option maxHeartbeats 4000000 in
set_option maxRecDepth 100000 in
theorem b_X12_isAntLine_94 {p : Program} {e : Env} {s : State} {m : MethodId} {args : Array Value} {below : List Frame} {meth : Method} {c : Code} {A : Nat → Prop} {l : Launch} {D : va_G} {cy : cyS} {G : gS} (cx : cX p s m args meth c cX12_isAntLine RX12 1 (some .boolean) wsX12_isAntLine D cy G A) {k0 n0 : Nat} (hkn : k0 ≤ (rmX12_isAntLine).cells ∧ n0 ≤ (rmX12_isAntLine).slots) {M' : mS} {r : Int32} {a0 : Nat} (hL0 : a0 ∈ gL G) (hK0 : gK G a0 = 11)  : ∀ (M : mS) (H : Heap) (locs : List Loc) (ls : Array Slot), m_X12_isAntLine_94 G a0 M = some (M', r) → wd D cy G M A s.heap H locs → lv_has ls 1 [] → W p l e rmX12_isAntLine s m args below meth c H locs k0 n0 (MQ below (va_Qi (fun (r' : Int32) (_ : Unit) => r' = r) (fun _ t => wOut D cy G M' t) A) args s k0 n0 A) (F0 m 94 ls []) := by
  obtain ⟨hx, hb, hml, hown, hts, hr, hlocks, hK, hA, hG, hsx⟩ := id cx
  intro M H locs ls h w hl
  unfold m_X12_isAntLine_94 at h
  refine lv_iconst (v := (0 : Int32)) hx hb dX12_isAntLine_94 (by decide) ?_
  obtain ⟨z1, h⟩ := x_ck h
  exact r_zret cx w z1 h dX12_isAntLine_95
set_option maxHeartbeats 4000000 in
set_option maxRecDepth 100000 in
theorem k_X12_isAntLine {l : Launch} {D : va_G} {cy : cyS} {G : gS} {M M' : mS} {r : Int32} {a0 : Nat} (hG : wt G) (hL0 : a0 ∈ gL G) (hK0 : gK G a0 = 11) (h : m_X12_isAntLine G M a0 = some (M', r)) : ctI l yX12_isAntLine wsX12_isAntLine rmX12_isAntLine D cy G M [.ref a0] M' r := by
  unfold m_X12_isAntLine at h
  refine ctI_of (cc := cX12_isAntLine) (nL := 1) (ret := (some .boolean)) (lv := [(0, .ref a0)]) hG (by decide) rfl ⟨rfl, rfl⟩ (Nat.le_of_ble_eq_true rfl) rfl ?_
  intro p e s m args below meth c A ls cx w hl
  obtain ⟨hx, hb, hml, hown, hts, hr, hlocks, hK, hA, -, hsx⟩ := id cx
  have hkn : 0 ≤ (rmX12_isAntLine).cells ∧ 0 ≤ (rmX12_isAntLine).slots := ⟨Nat.zero_le _, Nat.zero_le _⟩
  refine lv_aload_n hx hb dX12_isAntLine_0 rfl (lv_at hl 0 rfl) ?_
  refine lv_dup hx hb dX12_isAntLine_1 rfl ?_
  refine r_getI (k := 9) (v := .int (mI M a0 9)) cx w hL0 hK0 (by decide) rfl wi_X12_isAntLine_X12 (by decide) rfl (List.mem_of_getElem? (i := 1) rfl) dX12_isAntLine_2 ?_
  refine lv_iconst (v := (1 : Int32)) hx hb dX12_isAntLine_5 (by decide) ?_
  refine lv_iadd hx hb dX12_isAntLine_6 ?_
  obtain ⟨M1, eM1, h⟩ := x_wI h
  refine r_putI (k := 9) (ty := .int) cx w tyX12 tyX12_ok nmX12 hL0 hK0 (by decide) rfl wi_X12_isAntLine_X12 (by decide) rfl rfl rfl rfl st_11_9 (ln_11 _ _ (by decide)) (List.mem_of_getElem? (i := 1) rfl) dX12_isAntLine_7 eM1 (fun H locs w => ?_)
  refine lv_aload_n hx hb dX12_isAntLine_10 rfl (lv_at hl 0 rfl) ?_
  refine lv_bipush (v := (40 : Int32)) hx hb dX12_isAntLine_11 (by decide) ?_
  refine lv_iconst (v := (2 : Int32)) hx hb dX12_isAntLine_13 (by decide) ?_
  obtain ⟨M2, r3, y4, h⟩ := x_cl h
  refine r_callVi (As := [.int ((40 : Int32)), .int ((2 : Int32))]) (rest := []) cx w hkn hl.1 (k_X12_eatAs hG hL0 hK0 y4) (cwV 2 hts gX12_isAntLine_X12_eatAs rfl rfl rfl (by decide +kernel) ⟨Nat.le_of_ble_eq_true rfl, Nat.le_of_ble_eq_true rfl⟩) hL0 hK0 (by decide) rfl rfl rfl (Nat.le_of_ble_eq_true rfl) dX12_isAntLine_14 (fun H locs w => ?_)
  refine lv_if_eq (tgt := 94) hx hb dX12_isAntLine_17 (by decide) (fun k5 => ?_) (fun k5 => ?_)
  · have h := x_t h k5
    exact b_X12_isAntLine_94 cx hkn hL0 hK0 M2 H locs ls h w (lv_sub hl [] rfl)
  · have h := x_f h k5
    refine lv_aload_n hx hb dX12_isAntLine_20 rfl (lv_at hl 0 rfl) ?_
    refine lv_bipush (v := (6 : Int32)) hx hb dX12_isAntLine_21 (by decide) ?_
    obtain ⟨M6, r7, y8, h⟩ := x_cl h
    refine r_callVi (As := [.int ((6 : Int32))]) (rest := []) cx w hkn hl.1 (k_X12_eat hG hL0 hK0 y8) (cwV 1 hts gX12_isAntLine_X12_eat rfl rfl rfl (by decide +kernel) ⟨Nat.le_of_ble_eq_true rfl, Nat.le_of_ble_eq_true rfl⟩) hL0 hK0 (by decide) rfl rfl rfl (Nat.le_of_ble_eq_true rfl) dX12_isAntLine_23 (fun H locs w => ?_)
    refine lv_if_eq (tgt := 94) hx hb dX12_isAntLine_26 (by decide) (fun k9 => ?_) (fun k9 => ?_)
    · have h := x_t h k9
      exact b_X12_isAntLine_94 cx hkn hL0 hK0 M6 H locs ls h w (lv_sub hl [] rfl)
    · have h := x_f h k9
      refine lv_aload_n hx hb dX12_isAntLine_29 rfl (lv_at hl 0 rfl) ?_
      refine lv_bipush (v := (40 : Int32)) hx hb dX12_isAntLine_30 (by decide) ?_
      refine lv_iconst (v := (4 : Int32)) hx hb dX12_isAntLine_32 (by decide) ?_
      obtain ⟨M10, r11, y12, h⟩ := x_cl h
      refine r_callVi (As := [.int ((40 : Int32)), .int ((4 : Int32))]) (rest := []) cx w hkn hl.1 (k_X12_eatAs hG hL0 hK0 y12) (cwV 2 hts gX12_isAntLine_X12_eatAs rfl rfl rfl (by decide +kernel) ⟨Nat.le_of_ble_eq_true rfl, Nat.le_of_ble_eq_true rfl⟩) hL0 hK0 (by decide) rfl rfl rfl (Nat.le_of_ble_eq_true rfl) dX12_isAntLine_33 (fun H locs w => ?_)
      refine lv_if_eq (tgt := 94) hx hb dX12_isAntLine_36 (by decide) (fun k13 => ?_) (fun k13 => ?_)
      · have h := x_t h k13
        exact b_X12_isAntLine_94 cx hkn hL0 hK0 M10 H locs ls h w (lv_sub hl [] rfl)
      · have h := x_f h k13
        refine lv_aload_n hx hb dX12_isAntLine_39 rfl (lv_at hl 0 rfl) ?_
        refine lv_bipush (v := (7 : Int32)) hx hb dX12_isAntLine_40 (by decide) ?_
        obtain ⟨M14, r15, y16, h⟩ := x_cl h
        refine r_callVi (As := [.int ((7 : Int32))]) (rest := []) cx w hkn hl.1 (k_X12_eat hG hL0 hK0 y16) (cwV 1 hts gX12_isAntLine_X12_eat rfl rfl rfl (by decide +kernel) ⟨Nat.le_of_ble_eq_true rfl, Nat.le_of_ble_eq_true rfl⟩) hL0 hK0 (by decide) rfl rfl rfl (Nat.le_of_ble_eq_true rfl) dX12_isAntLine_42 (fun H locs w => ?_)
        refine lv_if_eq (tgt := 94) hx hb dX12_isAntLine_45 (by decide) (fun k17 => ?_) (fun k17 => ?_)
        · have h := x_t h k17
          exact b_X12_isAntLine_94 cx hkn hL0 hK0 M14 H locs ls h w (lv_sub hl [] rfl)
        · have h := x_f h k17
          refine lv_aload_n hx hb dX12_isAntLine_48 rfl (lv_at hl 0 rfl) ?_
          refine lv_bipush (v := (41 : Int32)) hx hb dX12_isAntLine_49 (by decide) ?_
          refine lv_iconst (v := (5 : Int32)) hx hb dX12_isAntLine_51 (by decide) ?_
          obtain ⟨M18, r19, y20, h⟩ := x_cl h
          refine r_callVi (As := [.int ((41 : Int32)), .int ((5 : Int32))]) (rest := []) cx w hkn hl.1 (k_X12_eatAs hG hL0 hK0 y20) (cwV 2 hts gX12_isAntLine_X12_eatAs rfl rfl rfl (by decide +kernel) ⟨Nat.le_of_ble_eq_true rfl, Nat.le_of_ble_eq_true rfl⟩) hL0 hK0 (by decide) rfl rfl rfl (Nat.le_of_ble_eq_true rfl) dX12_isAntLine_52 (fun H locs w => ?_)
          refine lv_if_eq (tgt := 94) hx hb dX12_isAntLine_55 (by decide) (fun k21 => ?_) (fun k21 => ?_)
          · have h := x_t h k21
            exact b_X12_isAntLine_94 cx hkn hL0 hK0 M18 H locs ls h w (lv_sub hl [] rfl)
          · have h := x_f h k21
            refine lv_aload_n hx hb dX12_isAntLine_58 rfl (lv_at hl 0 rfl) ?_
            refine lv_bipush (v := (41 : Int32)) hx hb dX12_isAntLine_59 (by decide) ?_
            refine lv_iconst (v := (5 : Int32)) hx hb dX12_isAntLine_61 (by decide) ?_
            obtain ⟨M22, r23, y24, h⟩ := x_cl h
            refine r_callVi (As := [.int ((41 : Int32)), .int ((5 : Int32))]) (rest := []) cx w hkn hl.1 (k_X12_eatAs hG hL0 hK0 y24) (cwV 2 hts gX12_isAntLine_X12_eatAs rfl rfl rfl (by decide +kernel) ⟨Nat.le_of_ble_eq_true rfl, Nat.le_of_ble_eq_true rfl⟩) hL0 hK0 (by decide) rfl rfl rfl (Nat.le_of_ble_eq_true rfl) dX12_isAntLine_62 (fun H locs w => ?_)
            refine lv_if_eq (tgt := 94) hx hb dX12_isAntLine_65 (by decide) (fun k25 => ?_) (fun k25 => ?_)
            · have h := x_t h k25
              exact b_X12_isAntLine_94 cx hkn hL0 hK0 M22 H locs ls h w (lv_sub hl [] rfl)
            · have h := x_f h k25
              refine lv_aload_n hx hb dX12_isAntLine_68 rfl (lv_at hl 0 rfl) ?_
              refine lv_bipush (v := (8 : Int32)) hx hb dX12_isAntLine_69 (by decide) ?_
              obtain ⟨M26, r27, y28, h⟩ := x_cl h
              refine r_callVi (As := [.int ((8 : Int32))]) (rest := []) cx w hkn hl.1 (k_X12_eat hG hL0 hK0 y28) (cwV 1 hts gX12_isAntLine_X12_eat rfl rfl rfl (by decide +kernel) ⟨Nat.le_of_ble_eq_true rfl, Nat.le_of_ble_eq_true rfl⟩) hL0 hK0 (by decide) rfl rfl rfl (Nat.le_of_ble_eq_true rfl) dX12_isAntLine_71 (fun H locs w => ?_)
              refine lv_if_eq (tgt := 94) hx hb dX12_isAntLine_74 (by decide) (fun k29 => ?_) (fun k29 => ?_)
              · have h := x_t h k29
                exact b_X12_isAntLine_94 cx hkn hL0 hK0 M26 H locs ls h w (lv_sub hl [] rfl)
              · have h := x_f h k29
                refine lv_aload_n hx hb dX12_isAntLine_77 rfl (lv_at hl 0 rfl) ?_
                refine lv_bipush (v := (9 : Int32)) hx hb dX12_isAntLine_78 (by decide) ?_
                refine lv_bipush (v := (12 : Int32)) hx hb dX12_isAntLine_80 (by decide) ?_
                refine lv_bipush (v := (6 : Int32)) hx hb dX12_isAntLine_82 (by decide) ?_
                obtain ⟨M30, r31, y32, h⟩ := x_cl h
                refine r_callVi (As := [.int ((9 : Int32)), .int ((12 : Int32)), .int ((6 : Int32))]) (rest := []) cx w hkn hl.1 (k_X12_eatOne hG hL0 hK0 y32) (cwV 3 hts gX12_isAntLine_X12_eatOne rfl rfl rfl (by decide +kernel) ⟨Nat.le_of_ble_eq_true rfl, Nat.le_of_ble_eq_true rfl⟩) hL0 hK0 (by decide) rfl rfl rfl (Nat.le_of_ble_eq_true rfl) dX12_isAntLine_84 (fun H locs w => ?_)
                refine lv_if_eq (tgt := 94) hx hb dX12_isAntLine_87 (by decide) (fun k33 => ?_) (fun k33 => ?_)
                · have h := x_t h k33
                  exact b_X12_isAntLine_94 cx hkn hL0 hK0 M30 H locs ls h w (lv_sub hl [] rfl)
                · have h := x_f h k33
                  refine lv_iconst (v := (1 : Int32)) hx hb dX12_isAntLine_90 (by decide) ?_
                  refine lv_goto (tgt := 95) hx hb dX12_isAntLine_91 (by decide) ?_
                  obtain ⟨z34, h⟩ := x_ck h
                  exact r_zret cx w z34 h dX12_isAntLine_95
-- X12_isPaintLine
theorem wi_X12_isPaintLine_X12 : ∀ w ∈ wsX120, w ∈ wsX12_isPaintLine := by decide +kernel
abbrev rmX12_isPaintLine : Room := { frames := 3, cells := 0, slots := 0, locals := 64 }
def m_X12_isPaintLine_47 (G : gS) (a0 : Nat)  (M : mS)  : Option (mS × Int32) := o_ck ((0 : Int32) = 0 ∨ (0 : Int32) = 1) (some (M, (0 : Int32)))
def m_X12_isPaintLine (G : gS) (M : mS) (a0 : Nat) : Option (mS × Int32) := o_wI M a0 9 ((mI M a0 9) + (1 : Int32)) (fun M1 => o_cl (m_X12_eatAs G M1 a0 (41 : Int32) (7 : Int32)) (fun M2 r3 => (if r3 = 0 then m_X12_isPaintLine_47 G a0 M2 else o_cl (m_X12_eatAs G M2 a0 (41 : Int32) (7 : Int32)) (fun M6 r7 => (if r7 = 0 then m_X12_isPaintLine_47 G a0 M6 else o_cl (m_X12_eatAs G M6 a0 (41 : Int32) (8 : Int32)) (fun M10 r11 => (if r11 = 0 then m_X12_isPaintLine_47 G a0 M10 else o_ck ((1 : Int32) = 0 ∨ (1 : Int32) = 1) (some (M10, (1 : Int32))))))))))
set_option maxHeartbeats 4000000 in
set_option maxRecDepth 100000 in
theorem b_X12_isPaintLine_47 {p : Program} {e : Env} {s : State} {m : MethodId} {args : Array Value} {below : List Frame} {meth : Method} {c : Code} {A : Nat → Prop} {l : Launch} {D : va_G} {cy : cyS} {G : gS} (cx : cX p s m args meth c cX12_isPaintLine RX12 1 (some .boolean) wsX12_isPaintLine D cy G A) {k0 n0 : Nat} (hkn : k0 ≤ (rmX12_isPaintLine).cells ∧ n0 ≤ (rmX12_isPaintLine).slots) {M' : mS} {r : Int32} {a0 : Nat} (hL0 : a0 ∈ gL G) (hK0 : gK G a0 = 11)  : ∀ (M : mS) (H : Heap) (locs : List Loc) (ls : Array Slot), m_X12_isPaintLine_47 G a0 M = some (M', r) → wd D cy G M A s.heap H locs → lv_has ls 1 [] → W p l e rmX12_isPaintLine s m args below meth c H locs k0 n0 (MQ below (va_Qi (fun (r' : Int32) (_ : Unit) => r' = r) (fun _ t => wOut D cy G M' t) A) args s k0 n0 A) (F0 m 47 ls []) := by
  obtain ⟨hx, hb, hml, hown, hts, hr, hlocks, hK, hA, hG, hsx⟩ := id cx
  intro M H locs ls h w hl
  unfold m_X12_isPaintLine_47 at h
  refine lv_iconst (v := (0 : Int32)) hx hb dX12_isPaintLine_47 (by decide) ?_
  obtain ⟨z1, h⟩ := x_ck h
  exact r_zret cx w z1 h dX12_isPaintLine_48
set_option maxHeartbeats 4000000 in
set_option maxRecDepth 100000 in
theorem k_X12_isPaintLine {l : Launch} {D : va_G} {cy : cyS} {G : gS} {M M' : mS} {r : Int32} {a0 : Nat} (hG : wt G) (hL0 : a0 ∈ gL G) (hK0 : gK G a0 = 11) (h : m_X12_isPaintLine G M a0 = some (M', r)) : ctI l yX12_isPaintLine wsX12_isPaintLine rmX12_isPaintLine D cy G M [.ref a0] M' r := by
  unfold m_X12_isPaintLine at h
  refine ctI_of (cc := cX12_isPaintLine) (nL := 1) (ret := (some .boolean)) (lv := [(0, .ref a0)]) hG (by decide) rfl ⟨rfl, rfl⟩ (Nat.le_of_ble_eq_true rfl) rfl ?_
  intro p e s m args below meth c A ls cx w hl
  obtain ⟨hx, hb, hml, hown, hts, hr, hlocks, hK, hA, -, hsx⟩ := id cx
  have hkn : 0 ≤ (rmX12_isPaintLine).cells ∧ 0 ≤ (rmX12_isPaintLine).slots := ⟨Nat.zero_le _, Nat.zero_le _⟩
  refine lv_aload_n hx hb dX12_isPaintLine_0 rfl (lv_at hl 0 rfl) ?_
  refine lv_dup hx hb dX12_isPaintLine_1 rfl ?_
  refine r_getI (k := 9) (v := .int (mI M a0 9)) cx w hL0 hK0 (by decide) rfl wi_X12_isPaintLine_X12 (by decide) rfl (List.mem_of_getElem? (i := 1) rfl) dX12_isPaintLine_2 ?_
  refine lv_iconst (v := (1 : Int32)) hx hb dX12_isPaintLine_5 (by decide) ?_
  refine lv_iadd hx hb dX12_isPaintLine_6 ?_
  obtain ⟨M1, eM1, h⟩ := x_wI h
  refine r_putI (k := 9) (ty := .int) cx w tyX12 tyX12_ok nmX12 hL0 hK0 (by decide) rfl wi_X12_isPaintLine_X12 (by decide) rfl rfl rfl rfl st_11_9 (ln_11 _ _ (by decide)) (List.mem_of_getElem? (i := 1) rfl) dX12_isPaintLine_7 eM1 (fun H locs w => ?_)
  refine lv_aload_n hx hb dX12_isPaintLine_10 rfl (lv_at hl 0 rfl) ?_
  refine lv_bipush (v := (41 : Int32)) hx hb dX12_isPaintLine_11 (by decide) ?_
  refine lv_bipush (v := (7 : Int32)) hx hb dX12_isPaintLine_13 (by decide) ?_
  obtain ⟨M2, r3, y4, h⟩ := x_cl h
  refine r_callVi (As := [.int ((41 : Int32)), .int ((7 : Int32))]) (rest := []) cx w hkn hl.1 (k_X12_eatAs hG hL0 hK0 y4) (cwV 2 hts gX12_isPaintLine_X12_eatAs rfl rfl rfl (by decide +kernel) ⟨Nat.le_of_ble_eq_true rfl, Nat.le_of_ble_eq_true rfl⟩) hL0 hK0 (by decide) rfl rfl rfl (Nat.le_of_ble_eq_true rfl) dX12_isPaintLine_15 (fun H locs w => ?_)
  refine lv_if_eq (tgt := 47) hx hb dX12_isPaintLine_18 (by decide) (fun k5 => ?_) (fun k5 => ?_)
  · have h := x_t h k5
    exact b_X12_isPaintLine_47 cx hkn hL0 hK0 M2 H locs ls h w (lv_sub hl [] rfl)
  · have h := x_f h k5
    refine lv_aload_n hx hb dX12_isPaintLine_21 rfl (lv_at hl 0 rfl) ?_
    refine lv_bipush (v := (41 : Int32)) hx hb dX12_isPaintLine_22 (by decide) ?_
    refine lv_bipush (v := (7 : Int32)) hx hb dX12_isPaintLine_24 (by decide) ?_
    obtain ⟨M6, r7, y8, h⟩ := x_cl h
    refine r_callVi (As := [.int ((41 : Int32)), .int ((7 : Int32))]) (rest := []) cx w hkn hl.1 (k_X12_eatAs hG hL0 hK0 y8) (cwV 2 hts gX12_isPaintLine_X12_eatAs rfl rfl rfl (by decide +kernel) ⟨Nat.le_of_ble_eq_true rfl, Nat.le_of_ble_eq_true rfl⟩) hL0 hK0 (by decide) rfl rfl rfl (Nat.le_of_ble_eq_true rfl) dX12_isPaintLine_26 (fun H locs w => ?_)
    refine lv_if_eq (tgt := 47) hx hb dX12_isPaintLine_29 (by decide) (fun k9 => ?_) (fun k9 => ?_)
    · have h := x_t h k9
      exact b_X12_isPaintLine_47 cx hkn hL0 hK0 M6 H locs ls h w (lv_sub hl [] rfl)
    · have h := x_f h k9
      refine lv_aload_n hx hb dX12_isPaintLine_32 rfl (lv_at hl 0 rfl) ?_
      refine lv_bipush (v := (41 : Int32)) hx hb dX12_isPaintLine_33 (by decide) ?_
      refine lv_bipush (v := (8 : Int32)) hx hb dX12_isPaintLine_35 (by decide) ?_
      obtain ⟨M10, r11, y12, h⟩ := x_cl h
      refine r_callVi (As := [.int ((41 : Int32)), .int ((8 : Int32))]) (rest := []) cx w hkn hl.1 (k_X12_eatAs hG hL0 hK0 y12) (cwV 2 hts gX12_isPaintLine_X12_eatAs rfl rfl rfl (by decide +kernel) ⟨Nat.le_of_ble_eq_true rfl, Nat.le_of_ble_eq_true rfl⟩) hL0 hK0 (by decide) rfl rfl rfl (Nat.le_of_ble_eq_true rfl) dX12_isPaintLine_37 (fun H locs w => ?_)
      refine lv_if_eq (tgt := 47) hx hb dX12_isPaintLine_40 (by decide) (fun k13 => ?_) (fun k13 => ?_)
      · have h := x_t h k13
        exact b_X12_isPaintLine_47 cx hkn hL0 hK0 M10 H locs ls h w (lv_sub hl [] rfl)
      · have h := x_f h k13
        refine lv_iconst (v := (1 : Int32)) hx hb dX12_isPaintLine_43 (by decide) ?_
        refine lv_goto (tgt := 48) hx hb dX12_isPaintLine_44 (by decide) ?_
        obtain ⟨z14, h⟩ := x_ck h
        exact r_zret cx w z14 h dX12_isPaintLine_48
-- X12_isDeeper
theorem wi_X12_isDeeper_X12 : ∀ w ∈ wsX120, w ∈ wsX12_isDeeper := by decide +kernel
abbrev rmX12_isDeeper : Room := { frames := 0, cells := 0, slots := 0, locals := 0 }
def m_X12_isDeeper (G : gS) (M : mS) (a0 : Nat) : Option (mS × Int32) := (if (mI M a0 10) = (8 : Int32) then o_ck ((0 : Int32) = 0 ∨ (0 : Int32) = 1) (some (M, (0 : Int32))) else o_wI M a0 10 ((mI M a0 10) + (1 : Int32)) (fun M2 => o_wI M2 a0 9 ((mI M2 a0 9) + (1 : Int32)) (fun M3 => o_ck ((1 : Int32) = 0 ∨ (1 : Int32) = 1) (some (M3, (1 : Int32))))))
set_option maxHeartbeats 4000000 in
set_option maxRecDepth 100000 in
theorem k_X12_isDeeper {l : Launch} {D : va_G} {cy : cyS} {G : gS} {M M' : mS} {r : Int32} {a0 : Nat} (hG : wt G) (hL0 : a0 ∈ gL G) (hK0 : gK G a0 = 11) (h : m_X12_isDeeper G M a0 = some (M', r)) : ctI l yX12_isDeeper wsX12_isDeeper rmX12_isDeeper D cy G M [.ref a0] M' r := by
  unfold m_X12_isDeeper at h
  refine ctI_of (cc := cX12_isDeeper) (nL := 1) (ret := (some .boolean)) (lv := [(0, .ref a0)]) hG (by decide) rfl ⟨rfl, rfl⟩ (Nat.le_of_ble_eq_true rfl) rfl ?_
  intro p e s m args below meth c A ls cx w hl
  obtain ⟨hx, hb, hml, hown, hts, hr, hlocks, hK, hA, -, hsx⟩ := id cx
  have hkn : 0 ≤ (rmX12_isDeeper).cells ∧ 0 ≤ (rmX12_isDeeper).slots := ⟨Nat.zero_le _, Nat.zero_le _⟩
  refine lv_aload_n hx hb dX12_isDeeper_0 rfl (lv_at hl 0 rfl) ?_
  refine r_getI (k := 10) (v := .int (mI M a0 10)) cx w hL0 hK0 (by decide) rfl wi_X12_isDeeper_X12 (by decide) rfl (List.mem_of_getElem? (i := 1) rfl) dX12_isDeeper_1 ?_
  refine lv_bipush (v := (8 : Int32)) hx hb dX12_isDeeper_4 (by decide) ?_
  refine lv_icmp_ne (tgt := 11) hx hb dX12_isDeeper_6 (by decide) (fun k1 => ?_) (fun k1 => ?_)
  · have h := x_f h k1
    refine lv_aload_n hx hb dX12_isDeeper_11 rfl (lv_at hl 0 rfl) ?_
    refine lv_dup hx hb dX12_isDeeper_12 rfl ?_
    refine r_getI (k := 10) (v := .int (mI M a0 10)) cx w hL0 hK0 (by decide) rfl wi_X12_isDeeper_X12 (by decide) rfl (List.mem_of_getElem? (i := 1) rfl) dX12_isDeeper_13 ?_
    refine lv_iconst (v := (1 : Int32)) hx hb dX12_isDeeper_16 (by decide) ?_
    refine lv_iadd hx hb dX12_isDeeper_17 ?_
    obtain ⟨M2, eM2, h⟩ := x_wI h
    refine r_putI (k := 10) (ty := .int) cx w tyX12 tyX12_ok nmX12 hL0 hK0 (by decide) rfl wi_X12_isDeeper_X12 (by decide) rfl rfl rfl rfl st_11_10 (ln_11 _ _ (by decide)) (List.mem_of_getElem? (i := 1) rfl) dX12_isDeeper_18 eM2 (fun H locs w => ?_)
    refine lv_aload_n hx hb dX12_isDeeper_21 rfl (lv_at hl 0 rfl) ?_
    refine lv_dup hx hb dX12_isDeeper_22 rfl ?_
    refine r_getI (k := 9) (v := .int (mI M2 a0 9)) cx w hL0 hK0 (by decide) rfl wi_X12_isDeeper_X12 (by decide) rfl (List.mem_of_getElem? (i := 2) rfl) dX12_isDeeper_23 ?_
    refine lv_iconst (v := (1 : Int32)) hx hb dX12_isDeeper_26 (by decide) ?_
    refine lv_iadd hx hb dX12_isDeeper_27 ?_
    obtain ⟨M3, eM3, h⟩ := x_wI h
    refine r_putI (k := 9) (ty := .int) cx w tyX12 tyX12_ok nmX12 hL0 hK0 (by decide) rfl wi_X12_isDeeper_X12 (by decide) rfl rfl rfl rfl st_11_9 (ln_11 _ _ (by decide)) (List.mem_of_getElem? (i := 2) rfl) dX12_isDeeper_28 eM3 (fun H locs w => ?_)
    refine lv_iconst (v := (1 : Int32)) hx hb dX12_isDeeper_31 (by decide) ?_
    obtain ⟨z4, h⟩ := x_ck h
    exact r_zret cx w z4 h dX12_isDeeper_32
  · have h := x_t h k1
    refine lv_iconst (v := (0 : Int32)) hx hb dX12_isDeeper_9 (by decide) ?_
    obtain ⟨z5, h⟩ := x_ck h
    exact r_zret cx w z5 h dX12_isDeeper_10
-- X12_put
theorem wi_X12_put_X10 : ∀ w ∈ wsX100, w ∈ wsX12_put := by decide +kernel
theorem wi_X12_put_X12 : ∀ w ∈ wsX120, w ∈ wsX12_put := by decide +kernel
abbrev rmX12_put : Room := { frames := 0, cells := 0, slots := 0, locals := 0 }
def m_X12_put (G : gS) (M : mS) (a0 : Nat) (c1 : Int32) : Option (mS × Unit) := o_rf (gP G a0 12) (fun q1 => o_rf (gP G q1 18) (fun q2 => o_rf (gP G a0 12) (fun q3 => o_ix (mI M q3 19) (gN G q2) (o_wI M q2 (Int32.toNatClampNeg (mI M q3 19)) c1 (fun M5 => o_rf (gP G a0 12) (fun q6 => o_wI M5 q6 19 ((mI M5 q6 19) + (1 : Int32)) (fun M7 => some (M7, ()))))))))
set_option maxHeartbeats 4000000 in
set_option maxRecDepth 100000 in
theorem k_X12_put {l : Launch} {D : va_G} {cy : cyS} {G : gS} {M M' : mS} {a0 : Nat} {c1 : Int32} (hG : wt G) (hL0 : a0 ∈ gL G) (hK0 : gK G a0 = 11) (h : m_X12_put G M a0 c1 = some (M', ())) : ctV l yX12_put wsX12_put rmX12_put D cy G M [.ref a0, .int c1] M' := by
  unfold m_X12_put at h
  refine ctV_of (cc := cX12_put) (nL := 2) (ret := none) (lv := [(0, .ref a0), (1, .int c1)]) hG (by decide) rfl ⟨rfl, rfl⟩ (Nat.le_of_ble_eq_true rfl) rfl ?_
  intro p e s m args below meth c A ls cx w hl
  obtain ⟨hx, hb, hml, hown, hts, hr, hlocks, hK, hA, -, hsx⟩ := id cx
  have hkn : 0 ≤ (rmX12_put).cells ∧ 0 ≤ (rmX12_put).slots := ⟨Nat.zero_le _, Nat.zero_le _⟩
  refine lv_aload_n hx hb dX12_put_0 rfl (lv_at hl 0 rfl) ?_
  obtain ⟨q1, eq1, h⟩ := x_rf h
  obtain ⟨hLq1, hKq1⟩ := wt_q hG hL0 hK0 eq1
  have hKq1 : gK G q1 = 9 := hKq1
  refine r_getR (k := 12) cx w hL0 hK0 (by decide) rfl wi_X12_put_X12 (by decide) rfl eq1 (List.mem_of_getElem? (i := 1) rfl) dX12_put_1 ?_
  obtain ⟨q2, eq2, h⟩ := x_rf h
  obtain ⟨hLq2, hKq2⟩ := wt_q hG hLq1 hKq1 eq2
  have hKq2 : gK G q2 = 12 := hKq2
  refine r_getRN (k := 18) cx w hLq1 hKq1 (by decide) rfl wi_X12_put_X10 (by decide) rfl eq2 (nwF cx (q := (RX12, 124, "FlagAntsModel$Plan", "code", "[I", "FlagAntsModel")) (List.mem_of_getElem? (i := 1) rfl)) dX12_put_4 ?_
  refine lv_aload_n hx hb dX12_put_7 rfl (lv_at hl 0 rfl) ?_
  obtain ⟨q3, eq3, h⟩ := x_rf h
  obtain ⟨hLq3, hKq3⟩ := wt_q hG hL0 hK0 eq3
  have hKq3 : gK G q3 = 9 := hKq3
  refine r_getR (k := 12) cx w hL0 hK0 (by decide) rfl wi_X12_put_X12 (by decide) rfl eq3 (List.mem_of_getElem? (i := 1) rfl) dX12_put_8 ?_
  refine r_getIN (k := 19) (v := .int (mI M q3 19)) cx w hLq3 hKq3 (by decide) rfl wi_X12_put_X10 (by decide) rfl (nwF cx (q := (RX12, 127, "FlagAntsModel$Plan", "size", "I", "FlagAntsModel")) (List.mem_of_getElem? (i := 2) rfl)) dX12_put_11 ?_
  refine lv_iload_n hx hb dX12_put_14 rfl (lv_at hl 1 rfl) ?_
  obtain ⟨z4, h⟩ := x_ix h
  obtain ⟨M5, eM5, h⟩ := x_wI h
  refine r_iast cx w hLq2 hKq2 z4 dX12_put_15 eM5 (fun H locs w => ?_)
  refine lv_aload_n hx hb dX12_put_16 rfl (lv_at hl 0 rfl) ?_
  obtain ⟨q6, eq6, h⟩ := x_rf h
  obtain ⟨hLq6, hKq6⟩ := wt_q hG hL0 hK0 eq6
  have hKq6 : gK G q6 = 9 := hKq6
  refine r_getR (k := 12) cx w hL0 hK0 (by decide) rfl wi_X12_put_X12 (by decide) rfl eq6 (List.mem_of_getElem? (i := 1) rfl) dX12_put_17 ?_
  refine lv_dup hx hb dX12_put_20 rfl ?_
  refine r_getIN (k := 19) (v := .int (mI M5 q6 19)) cx w hLq6 hKq6 (by decide) rfl wi_X12_put_X10 (by decide) rfl (nwF cx (q := (RX12, 127, "FlagAntsModel$Plan", "size", "I", "FlagAntsModel")) (List.mem_of_getElem? (i := 2) rfl)) dX12_put_21 ?_
  refine lv_iconst (v := (1 : Int32)) hx hb dX12_put_24 (by decide) ?_
  refine lv_iadd hx hb dX12_put_25 ?_
  obtain ⟨M7, eM7, h⟩ := x_wI h
  refine r_putIN (k := 19) (ty := .int) cx w tyX10 tyX10_ok nmX10 hLq6 hKq6 (by decide) rfl wi_X12_put_X10 (by decide) rfl rfl rfl rfl st_9_19 (ln_9 _ _ (by decide)) (nwF cx (q := (RX12, 127, "FlagAntsModel$Plan", "size", "I", "FlagAntsModel")) (List.mem_of_getElem? (i := 2) rfl)) dX12_put_26 eM7 (fun H locs w => ?_)
  exact r_vret cx w h dX12_put_29
-- X12_isSign
theorem wi_X12_isSign_X12 : ∀ w ∈ wsX120, w ∈ wsX12_isSign := by decide +kernel
abbrev rmX12_isSign : Room := { frames := 0, cells := 0, slots := 0, locals := 0 }
def m_X12_isSign (G : gS) (M : mS) (a0 : Nat) (c1 : Int32) : Option (mS × Int32) := o_rf (gP G a0 4) (fun q1 => o_ix (mI M a0 9) (gN G q1) ((if (mI M q1 (Int32.toNatClampNeg (mI M a0 9))) = ((50 : Int32) + c1) then o_ck ((1 : Int32) = 0 ∨ (1 : Int32) = 1) (some (M, (1 : Int32))) else o_ck ((0 : Int32) = 0 ∨ (0 : Int32) = 1) (some (M, (0 : Int32))))))
set_option maxHeartbeats 4000000 in
set_option maxRecDepth 100000 in
theorem k_X12_isSign {l : Launch} {D : va_G} {cy : cyS} {G : gS} {M M' : mS} {r : Int32} {a0 : Nat} {c1 : Int32} (hG : wt G) (hL0 : a0 ∈ gL G) (hK0 : gK G a0 = 11) (h : m_X12_isSign G M a0 c1 = some (M', r)) : ctI l yX12_isSign wsX12_isSign rmX12_isSign D cy G M [.ref a0, .int c1] M' r := by
  unfold m_X12_isSign at h
  refine ctI_of (cc := cX12_isSign) (nL := 2) (ret := (some .boolean)) (lv := [(0, .ref a0), (1, .int c1)]) hG (by decide) rfl ⟨rfl, rfl⟩ (Nat.le_of_ble_eq_true rfl) rfl ?_
  intro p e s m args below meth c A ls cx w hl
  obtain ⟨hx, hb, hml, hown, hts, hr, hlocks, hK, hA, -, hsx⟩ := id cx
  have hkn : 0 ≤ (rmX12_isSign).cells ∧ 0 ≤ (rmX12_isSign).slots := ⟨Nat.zero_le _, Nat.zero_le _⟩
  refine lv_aload_n hx hb dX12_isSign_0 rfl (lv_at hl 0 rfl) ?_
  obtain ⟨q1, eq1, h⟩ := x_rf h
  obtain ⟨hLq1, hKq1⟩ := wt_q hG hL0 hK0 eq1
  have hKq1 : gK G q1 = 12 := hKq1
  refine r_getR (k := 4) cx w hL0 hK0 (by decide) rfl wi_X12_isSign_X12 (by decide) rfl eq1 (List.mem_of_getElem? (i := 1) rfl) dX12_isSign_1 ?_
  refine lv_aload_n hx hb dX12_isSign_4 rfl (lv_at hl 0 rfl) ?_
  refine r_getI (k := 9) (v := .int (mI M a0 9)) cx w hL0 hK0 (by decide) rfl wi_X12_isSign_X12 (by decide) rfl (List.mem_of_getElem? (i := 2) rfl) dX12_isSign_5 ?_
  obtain ⟨z2, h⟩ := x_ix h
  refine r_iald cx w hLq1 hKq1 z2 dX12_isSign_8 ?_
  refine lv_bipush (v := (50 : Int32)) hx hb dX12_isSign_9 (by decide) ?_
  refine lv_iload_n hx hb dX12_isSign_11 rfl (lv_at hl 1 rfl) ?_
  refine lv_iadd hx hb dX12_isSign_12 ?_
  refine lv_icmp_ne (tgt := 20) hx hb dX12_isSign_13 (by decide) (fun k3 => ?_) (fun k3 => ?_)
  · have h := x_f h k3
    refine lv_iconst (v := (0 : Int32)) hx hb dX12_isSign_20 (by decide) ?_
    obtain ⟨z4, h⟩ := x_ck h
    exact r_zret cx w z4 h dX12_isSign_21
  · have h := x_t h k3
    refine lv_iconst (v := (1 : Int32)) hx hb dX12_isSign_16 (by decide) ?_
    refine lv_goto (tgt := 21) hx hb dX12_isSign_17 (by decide) ?_
    obtain ⟨z5, h⟩ := x_ck h
    exact r_zret cx w z5 h dX12_isSign_21
-- X12_eatSign
abbrev rmX12_eatSign : Room := { frames := 2, cells := 0, slots := 0, locals := 42 }
def m_X12_eatSign (G : gS) (M : mS) (a0 : Nat) (c1 : Int32) : Option (mS × Int32) := o_cl (m_X12_eat G M a0 ((50 : Int32) + c1)) (fun M1 r2 => o_ck (r2 = 0 ∨ r2 = 1) (some (M1, r2)))
set_option maxHeartbeats 4000000 in
set_option maxRecDepth 100000 in
theorem k_X12_eatSign {l : Launch} {D : va_G} {cy : cyS} {G : gS} {M M' : mS} {r : Int32} {a0 : Nat} {c1 : Int32} (hG : wt G) (hL0 : a0 ∈ gL G) (hK0 : gK G a0 = 11) (h : m_X12_eatSign G M a0 c1 = some (M', r)) : ctI l yX12_eatSign wsX12_eatSign rmX12_eatSign D cy G M [.ref a0, .int c1] M' r := by
  unfold m_X12_eatSign at h
  refine ctI_of (cc := cX12_eatSign) (nL := 2) (ret := (some .boolean)) (lv := [(0, .ref a0), (1, .int c1)]) hG (by decide) rfl ⟨rfl, rfl⟩ (Nat.le_of_ble_eq_true rfl) rfl ?_
  intro p e s m args below meth c A ls cx w hl
  obtain ⟨hx, hb, hml, hown, hts, hr, hlocks, hK, hA, -, hsx⟩ := id cx
  have hkn : 0 ≤ (rmX12_eatSign).cells ∧ 0 ≤ (rmX12_eatSign).slots := ⟨Nat.zero_le _, Nat.zero_le _⟩
  refine lv_aload_n hx hb dX12_eatSign_0 rfl (lv_at hl 0 rfl) ?_
  refine lv_bipush (v := (50 : Int32)) hx hb dX12_eatSign_1 (by decide) ?_
  refine lv_iload_n hx hb dX12_eatSign_3 rfl (lv_at hl 1 rfl) ?_
  refine lv_iadd hx hb dX12_eatSign_4 ?_
  obtain ⟨M1, r2, y3, h⟩ := x_cl h
  refine r_callVi (As := [.int (((50 : Int32) + c1))]) (rest := []) cx w hkn hl.1 (k_X12_eat hG hL0 hK0 y3) (cwV 1 hts gX12_eatSign_X12_eat rfl rfl rfl (by decide +kernel) ⟨Nat.le_of_ble_eq_true rfl, Nat.le_of_ble_eq_true rfl⟩) hL0 hK0 (by decide) rfl rfl rfl (Nat.le_of_ble_eq_true rfl) dX12_eatSign_5 (fun H locs w => ?_)
  obtain ⟨z4, h⟩ := x_ck h
  exact r_zret cx w z4 h dX12_eatSign_8
-- X12_isName
theorem wi_X12_isName_X10 : ∀ w ∈ wsX100, w ∈ wsX12_isName := by decide +kernel
theorem wi_X12_isName_X12 : ∀ w ∈ wsX120, w ∈ wsX12_isName := by decide +kernel
abbrev rmX12_isName : Room := { frames := 3, cells := 0, slots := 0, locals := 64 }
def m_X12_isName (G : gS) (M : mS) (a0 : Nat) (c1 : Int32) : Option (mS × Int32) := o_rf (gP G a0 12) (fun q1 => o_rf (gP G q1 20) (fun q2 => o_rf (gP G a0 12) (fun q3 => o_rf (gP G a0 12) (fun q4 => o_ix (mI M q3 21) (gN G q2) (o_wI M q2 (Int32.toNatClampNeg (mI M q3 21)) (mI M q4 19) (fun M6 => o_rf (gP G a0 12) (fun q7 => o_wI M6 q7 21 ((mI M6 q7 21) + (1 : Int32)) (fun M8 => o_cl (m_X12_put G M8 a0 (mI M8 a0 9)) (fun M9 r10 => o_cl (m_X12_eatAs G M9 a0 (40 : Int32) c1) (fun M12 r13 => o_ck (r13 = 0 ∨ r13 = 1) (some (M12, r13))))))))))))
set_option maxHeartbeats 4000000 in
set_option maxRecDepth 100000 in
theorem k_X12_isName {l : Launch} {D : va_G} {cy : cyS} {G : gS} {M M' : mS} {r : Int32} {a0 : Nat} {c1 : Int32} (hG : wt G) (hL0 : a0 ∈ gL G) (hK0 : gK G a0 = 11) (h : m_X12_isName G M a0 c1 = some (M', r)) : ctI l yX12_isName wsX12_isName rmX12_isName D cy G M [.ref a0, .int c1] M' r := by
  unfold m_X12_isName at h
  refine ctI_of (cc := cX12_isName) (nL := 2) (ret := (some .boolean)) (lv := [(0, .ref a0), (1, .int c1)]) hG (by decide) rfl ⟨rfl, rfl⟩ (Nat.le_of_ble_eq_true rfl) rfl ?_
  intro p e s m args below meth c A ls cx w hl
  obtain ⟨hx, hb, hml, hown, hts, hr, hlocks, hK, hA, -, hsx⟩ := id cx
  have hkn : 0 ≤ (rmX12_isName).cells ∧ 0 ≤ (rmX12_isName).slots := ⟨Nat.zero_le _, Nat.zero_le _⟩
  refine lv_aload_n hx hb dX12_isName_0 rfl (lv_at hl 0 rfl) ?_
  obtain ⟨q1, eq1, h⟩ := x_rf h
  obtain ⟨hLq1, hKq1⟩ := wt_q hG hL0 hK0 eq1
  have hKq1 : gK G q1 = 9 := hKq1
  refine r_getR (k := 12) cx w hL0 hK0 (by decide) rfl wi_X12_isName_X12 (by decide) rfl eq1 (List.mem_of_getElem? (i := 1) rfl) dX12_isName_1 ?_
  obtain ⟨q2, eq2, h⟩ := x_rf h
  obtain ⟨hLq2, hKq2⟩ := wt_q hG hLq1 hKq1 eq2
  have hKq2 : gK G q2 = 12 := hKq2
  refine r_getRN (k := 20) cx w hLq1 hKq1 (by decide) rfl wi_X12_isName_X10 (by decide) rfl eq2 (nwF cx (q := (RX12, 180, "FlagAntsModel$Plan", "open", "[I", "FlagAntsModel")) (List.mem_of_getElem? (i := 6) rfl)) dX12_isName_4 ?_
  refine lv_aload_n hx hb dX12_isName_7 rfl (lv_at hl 0 rfl) ?_
  obtain ⟨q3, eq3, h⟩ := x_rf h
  obtain ⟨hLq3, hKq3⟩ := wt_q hG hL0 hK0 eq3
  have hKq3 : gK G q3 = 9 := hKq3
  refine r_getR (k := 12) cx w hL0 hK0 (by decide) rfl wi_X12_isName_X12 (by decide) rfl eq3 (List.mem_of_getElem? (i := 1) rfl) dX12_isName_8 ?_
  refine r_getIN (k := 21) (v := .int (mI M q3 21)) cx w hLq3 hKq3 (by decide) rfl wi_X12_isName_X10 (by decide) rfl (nwF cx (q := (RX12, 183, "FlagAntsModel$Plan", "opens", "I", "FlagAntsModel")) (List.mem_of_getElem? (i := 7) rfl)) dX12_isName_11 ?_
  refine lv_aload_n hx hb dX12_isName_14 rfl (lv_at hl 0 rfl) ?_
  obtain ⟨q4, eq4, h⟩ := x_rf h
  obtain ⟨hLq4, hKq4⟩ := wt_q hG hL0 hK0 eq4
  have hKq4 : gK G q4 = 9 := hKq4
  refine r_getR (k := 12) cx w hL0 hK0 (by decide) rfl wi_X12_isName_X12 (by decide) rfl eq4 (List.mem_of_getElem? (i := 1) rfl) dX12_isName_15 ?_
  refine r_getIN (k := 19) (v := .int (mI M q4 19)) cx w hLq4 hKq4 (by decide) rfl wi_X12_isName_X10 (by decide) rfl (nwF cx (q := (RX12, 127, "FlagAntsModel$Plan", "size", "I", "FlagAntsModel")) (List.mem_of_getElem? (i := 2) rfl)) dX12_isName_18 ?_
  obtain ⟨z5, h⟩ := x_ix h
  obtain ⟨M6, eM6, h⟩ := x_wI h
  refine r_iast cx w hLq2 hKq2 z5 dX12_isName_21 eM6 (fun H locs w => ?_)
  refine lv_aload_n hx hb dX12_isName_22 rfl (lv_at hl 0 rfl) ?_
  obtain ⟨q7, eq7, h⟩ := x_rf h
  obtain ⟨hLq7, hKq7⟩ := wt_q hG hL0 hK0 eq7
  have hKq7 : gK G q7 = 9 := hKq7
  refine r_getR (k := 12) cx w hL0 hK0 (by decide) rfl wi_X12_isName_X12 (by decide) rfl eq7 (List.mem_of_getElem? (i := 1) rfl) dX12_isName_23 ?_
  refine lv_dup hx hb dX12_isName_26 rfl ?_
  refine r_getIN (k := 21) (v := .int (mI M6 q7 21)) cx w hLq7 hKq7 (by decide) rfl wi_X12_isName_X10 (by decide) rfl (nwF cx (q := (RX12, 183, "FlagAntsModel$Plan", "opens", "I", "FlagAntsModel")) (List.mem_of_getElem? (i := 7) rfl)) dX12_isName_27 ?_
  refine lv_iconst (v := (1 : Int32)) hx hb dX12_isName_30 (by decide) ?_
  refine lv_iadd hx hb dX12_isName_31 ?_
  obtain ⟨M8, eM8, h⟩ := x_wI h
  refine r_putIN (k := 21) (ty := .int) cx w tyX10 tyX10_ok nmX10 hLq7 hKq7 (by decide) rfl wi_X12_isName_X10 (by decide) rfl rfl rfl rfl st_9_21 (ln_9 _ _ (by decide)) (nwF cx (q := (RX12, 183, "FlagAntsModel$Plan", "opens", "I", "FlagAntsModel")) (List.mem_of_getElem? (i := 7) rfl)) dX12_isName_32 eM8 (fun H locs w => ?_)
  refine lv_aload_n hx hb dX12_isName_35 rfl (lv_at hl 0 rfl) ?_
  refine lv_aload_n hx hb dX12_isName_36 rfl (lv_at hl 0 rfl) ?_
  refine r_getI (k := 9) (v := .int (mI M8 a0 9)) cx w hL0 hK0 (by decide) rfl wi_X12_isName_X12 (by decide) rfl (List.mem_of_getElem? (i := 2) rfl) dX12_isName_37 ?_
  obtain ⟨M9, r10, y11, h⟩ := x_cl h
  refine r_callVv (As := [.int ((mI M8 a0 9))]) (rest := []) cx w hkn hl.1 (k_X12_put hG hL0 hK0 y11) (cwV 1 hts gX12_isName_X12_put rfl rfl rfl (by decide +kernel) ⟨Nat.le_of_ble_eq_true rfl, Nat.le_of_ble_eq_true rfl⟩) hL0 hK0 (by decide) rfl rfl rfl (Nat.le_of_ble_eq_true rfl) dX12_isName_40 (fun H locs w => ?_)
  refine lv_aload_n hx hb dX12_isName_43 rfl (lv_at hl 0 rfl) ?_
  refine lv_bipush (v := (40 : Int32)) hx hb dX12_isName_44 (by decide) ?_
  refine lv_iload_n hx hb dX12_isName_46 rfl (lv_at hl 1 rfl) ?_
  obtain ⟨M12, r13, y14, h⟩ := x_cl h
  refine r_callVi (As := [.int ((40 : Int32)), .int c1]) (rest := []) cx w hkn hl.1 (k_X12_eatAs hG hL0 hK0 y14) (cwV 2 hts gX12_isName_X12_eatAs rfl rfl rfl (by decide +kernel) ⟨Nat.le_of_ble_eq_true rfl, Nat.le_of_ble_eq_true rfl⟩) hL0 hK0 (by decide) rfl rfl rfl (Nat.le_of_ble_eq_true rfl) dX12_isName_47 (fun H locs w => ?_)
  obtain ⟨z15, h⟩ := x_ck h
  exact r_zret cx w z15 h dX12_isName_50
-- X12_isNamed
theorem wi_X12_isNamed_X12 : ∀ w ∈ wsX120, w ∈ wsX12_isNamed := by decide +kernel
abbrev rmX12_isNamed : Room := { frames := 4, cells := 0, slots := 0, locals := 85 }
def m_X12_isNamed (G : gS) (M : mS) (a0 : Nat) (c1 : Int32) : Option (mS × Int32) := o_rf (gP G a0 4) (fun q1 => o_ix (mI M a0 9) (gN G q1) (o_cl (m_X12_put G M a0 (mI M q1 (Int32.toNatClampNeg (mI M a0 9)))) (fun M3 r4 => o_wI M3 a0 9 ((mI M3 a0 9) + (1 : Int32)) (fun M6 => o_cl (m_X12_isName G M6 a0 c1) (fun M7 r8 => o_ck (r8 = 0 ∨ r8 = 1) (some (M7, r8)))))))
set_option maxHeartbeats 4000000 in
set_option maxRecDepth 100000 in
theorem k_X12_isNamed {l : Launch} {D : va_G} {cy : cyS} {G : gS} {M M' : mS} {r : Int32} {a0 : Nat} {c1 : Int32} (hG : wt G) (hL0 : a0 ∈ gL G) (hK0 : gK G a0 = 11) (h : m_X12_isNamed G M a0 c1 = some (M', r)) : ctI l yX12_isNamed wsX12_isNamed rmX12_isNamed D cy G M [.ref a0, .int c1] M' r := by
  unfold m_X12_isNamed at h
  refine ctI_of (cc := cX12_isNamed) (nL := 2) (ret := (some .boolean)) (lv := [(0, .ref a0), (1, .int c1)]) hG (by decide) rfl ⟨rfl, rfl⟩ (Nat.le_of_ble_eq_true rfl) rfl ?_
  intro p e s m args below meth c A ls cx w hl
  obtain ⟨hx, hb, hml, hown, hts, hr, hlocks, hK, hA, -, hsx⟩ := id cx
  have hkn : 0 ≤ (rmX12_isNamed).cells ∧ 0 ≤ (rmX12_isNamed).slots := ⟨Nat.zero_le _, Nat.zero_le _⟩
  refine lv_aload_n hx hb dX12_isNamed_0 rfl (lv_at hl 0 rfl) ?_
  refine lv_aload_n hx hb dX12_isNamed_1 rfl (lv_at hl 0 rfl) ?_
  obtain ⟨q1, eq1, h⟩ := x_rf h
  obtain ⟨hLq1, hKq1⟩ := wt_q hG hL0 hK0 eq1
  have hKq1 : gK G q1 = 12 := hKq1
  refine r_getR (k := 4) cx w hL0 hK0 (by decide) rfl wi_X12_isNamed_X12 (by decide) rfl eq1 (List.mem_of_getElem? (i := 1) rfl) dX12_isNamed_2 ?_
  refine lv_aload_n hx hb dX12_isNamed_5 rfl (lv_at hl 0 rfl) ?_
  refine r_getI (k := 9) (v := .int (mI M a0 9)) cx w hL0 hK0 (by decide) rfl wi_X12_isNamed_X12 (by decide) rfl (List.mem_of_getElem? (i := 2) rfl) dX12_isNamed_6 ?_
  obtain ⟨z2, h⟩ := x_ix h
  refine r_iald cx w hLq1 hKq1 z2 dX12_isNamed_9 ?_
  obtain ⟨M3, r4, y5, h⟩ := x_cl h
  refine r_callVv (As := [.int ((mI M q1 (Int32.toNatClampNeg (mI M a0 9))))]) (rest := []) cx w hkn hl.1 (k_X12_put hG hL0 hK0 y5) (cwV 1 hts gX12_isNamed_X12_put rfl rfl rfl (by decide +kernel) ⟨Nat.le_of_ble_eq_true rfl, Nat.le_of_ble_eq_true rfl⟩) hL0 hK0 (by decide) rfl rfl rfl (Nat.le_of_ble_eq_true rfl) dX12_isNamed_10 (fun H locs w => ?_)
  refine lv_aload_n hx hb dX12_isNamed_13 rfl (lv_at hl 0 rfl) ?_
  refine lv_dup hx hb dX12_isNamed_14 rfl ?_
  refine r_getI (k := 9) (v := .int (mI M3 a0 9)) cx w hL0 hK0 (by decide) rfl wi_X12_isNamed_X12 (by decide) rfl (List.mem_of_getElem? (i := 2) rfl) dX12_isNamed_15 ?_
  refine lv_iconst (v := (1 : Int32)) hx hb dX12_isNamed_18 (by decide) ?_
  refine lv_iadd hx hb dX12_isNamed_19 ?_
  obtain ⟨M6, eM6, h⟩ := x_wI h
  refine r_putI (k := 9) (ty := .int) cx w tyX12 tyX12_ok nmX12 hL0 hK0 (by decide) rfl wi_X12_isNamed_X12 (by decide) rfl rfl rfl rfl st_11_9 (ln_11 _ _ (by decide)) (List.mem_of_getElem? (i := 2) rfl) dX12_isNamed_20 eM6 (fun H locs w => ?_)
  refine lv_aload_n hx hb dX12_isNamed_23 rfl (lv_at hl 0 rfl) ?_
  refine lv_iload_n hx hb dX12_isNamed_24 rfl (lv_at hl 1 rfl) ?_
  obtain ⟨M7, r8, y9, h⟩ := x_cl h
  refine r_callVi (As := [.int c1]) (rest := []) cx w hkn hl.1 (k_X12_isName hG hL0 hK0 y9) (cwV 1 hts gX12_isNamed_X12_isName rfl rfl rfl (by decide +kernel) ⟨Nat.le_of_ble_eq_true rfl, Nat.le_of_ble_eq_true rfl⟩) hL0 hK0 (by decide) rfl rfl rfl (Nat.le_of_ble_eq_true rfl) dX12_isNamed_25 (fun H locs w => ?_)
  obtain ⟨z10, h⟩ := x_ck h
  exact r_zret cx w z10 h dX12_isNamed_28
-- X12_numberAt
theorem wi_X12_numberAt_X12 : ∀ w ∈ wsX120, w ∈ wsX12_numberAt := by decide +kernel
abbrev rmX12_numberAt : Room := { frames := 0, cells := 0, slots := 0, locals := 0 }
def m_X12_numberAt_4 (G : gS) (a0 : Nat) (c1 : Int32)  : Nat → mS → Int32 → Int32 → Option (mS × Int32)
  | 0, _, _, _ => none
  | n + 1, M, v2, v3 => o_rf (gP G a0 6) (fun q1 => o_ix c1 (gN G q1) ((if (mI M q1 (Int32.toNatClampNeg c1)) ≤ v3 then some (M, v2) else o_rf (gP G a0 1) (fun q4 => o_rf (gP G a0 5) (fun q5 => o_ix c1 (gN G q5) (o_ix ((mI M q5 (Int32.toNatClampNeg c1)) + v3) (gN G q4) (o_bd (((((10 : Int32) * v2) + (mI M q4 (Int32.toNatClampNeg ((mI M q5 (Int32.toNatClampNeg c1)) + v3)))) - (48 : Int32))) (fun x8 => o_bd (v3 + 1 : Int32) (fun x9 => m_X12_numberAt_4 G a0 c1 n M x8 x9)))))))))
def m_X12_numberAt (G : gS) (M : mS) (a0 : Nat) (c1 : Int32) : Option (mS × Int32) := m_X12_numberAt_4 G a0 c1 fu M ((0 : Int32)) ((0 : Int32))
set_option maxHeartbeats 4000000 in
set_option maxRecDepth 100000 in
theorem b_X12_numberAt_4 {p : Program} {e : Env} {s : State} {m : MethodId} {args : Array Value} {below : List Frame} {meth : Method} {c : Code} {A : Nat → Prop} {l : Launch} {D : va_G} {cy : cyS} {G : gS} (cx : cX p s m args meth c cX12_numberAt RX12 4 (some .int) wsX12_numberAt D cy G A) {k0 n0 : Nat} (hkn : k0 ≤ (rmX12_numberAt).cells ∧ n0 ≤ (rmX12_numberAt).slots) {M' : mS} {r : Int32} {a0 : Nat} {c1 : Int32} (hL0 : a0 ∈ gL G) (hK0 : gK G a0 = 11)  : ∀ (n : Nat), ∀ (M : mS) (v2 : Int32) (v3 : Int32) (H : Heap) (locs : List Loc) (ls : Array Slot), m_X12_numberAt_4 G a0 c1 n M v2 v3 = some (M', r) → wd D cy G M A s.heap H locs → lv_has ls 4 [(0, .ref a0), (1, .int c1), (2, .int v2), (3, .int v3)] → W p l e rmX12_numberAt s m args below meth c H locs k0 n0 (MQ below (va_Qi (fun (r' : Int32) (_ : Unit) => r' = r) (fun _ t => wOut D cy G M' t) A) args s k0 n0 A) (F0 m 4 ls []) := by
  obtain ⟨hx, hb, hml, hown, hts, hr, hlocks, hK, hA, hG, hsx⟩ := id cx
  intro n
  induction n with
  | zero =>
    intro M v2 v3 H locs ls h w hl
    have h : none = some _ := h
    cases h
  | succ n ih =>
    intro M v2 v3 H locs ls h w hl
    rw [m_X12_numberAt_4] at h
    refine lv_iload_n hx hb dX12_numberAt_4 rfl (lv_at hl 3 rfl) ?_
    refine lv_aload_n hx hb dX12_numberAt_5 rfl (lv_at hl 0 rfl) ?_
    obtain ⟨q1, eq1, h⟩ := x_rf h
    obtain ⟨hLq1, hKq1⟩ := wt_q hG hL0 hK0 eq1
    have hKq1 : gK G q1 = 12 := hKq1
    refine r_getR (k := 6) cx w hL0 hK0 (by decide) rfl wi_X12_numberAt_X12 (by decide) rfl eq1 (List.mem_of_getElem? (i := 1) rfl) dX12_numberAt_6 ?_
    refine lv_iload_n hx hb dX12_numberAt_9 rfl (lv_at hl 1 rfl) ?_
    obtain ⟨z2, h⟩ := x_ix h
    refine r_iald cx w hLq1 hKq1 z2 dX12_numberAt_10 ?_
    refine lv_icmp_ge (tgt := 42) hx hb dX12_numberAt_11 (by decide) (fun k3 => ?_) (fun k3 => ?_)
    · have h := x_t h k3
      refine lv_iload_n hx hb dX12_numberAt_42 rfl (lv_at hl 2 rfl) ?_
      exact r_iret cx w h dX12_numberAt_43
    · have h := x_f h k3
      refine lv_bipush (v := (10 : Int32)) hx hb dX12_numberAt_14 (by decide) ?_
      refine lv_iload_n hx hb dX12_numberAt_16 rfl (lv_at hl 2 rfl) ?_
      refine lv_imul hx hb dX12_numberAt_17 ?_
      refine lv_aload_n hx hb dX12_numberAt_18 rfl (lv_at hl 0 rfl) ?_
      obtain ⟨q4, eq4, h⟩ := x_rf h
      obtain ⟨hLq4, hKq4⟩ := wt_q hG hL0 hK0 eq4
      have hKq4 : gK G q4 = 12 := hKq4
      refine r_getR (k := 1) cx w hL0 hK0 (by decide) rfl wi_X12_numberAt_X12 (by decide) rfl eq4 (List.mem_of_getElem? (i := 2) rfl) dX12_numberAt_19 ?_
      refine lv_aload_n hx hb dX12_numberAt_22 rfl (lv_at hl 0 rfl) ?_
      obtain ⟨q5, eq5, h⟩ := x_rf h
      obtain ⟨hLq5, hKq5⟩ := wt_q hG hL0 hK0 eq5
      have hKq5 : gK G q5 = 12 := hKq5
      refine r_getR (k := 5) cx w hL0 hK0 (by decide) rfl wi_X12_numberAt_X12 (by decide) rfl eq5 (List.mem_of_getElem? (i := 3) rfl) dX12_numberAt_23 ?_
      refine lv_iload_n hx hb dX12_numberAt_26 rfl (lv_at hl 1 rfl) ?_
      obtain ⟨z6, h⟩ := x_ix h
      refine r_iald cx w hLq5 hKq5 z6 dX12_numberAt_27 ?_
      refine lv_iload_n hx hb dX12_numberAt_28 rfl (lv_at hl 3 rfl) ?_
      refine lv_iadd hx hb dX12_numberAt_29 ?_
      obtain ⟨z7, h⟩ := x_ix h
      refine r_iald cx w hLq4 hKq4 z7 dX12_numberAt_30 ?_
      refine lv_iadd hx hb dX12_numberAt_31 ?_
      refine lv_bipush (v := (48 : Int32)) hx hb dX12_numberAt_32 (by decide) ?_
      refine lv_isub hx hb dX12_numberAt_34 ?_
      obtain ⟨x8, ex8, h⟩ := x_bd h
      refine r_topI ex8 ?_
      refine lv_istore_n (lv' := [(2, .int x8), (0, .ref a0), (1, .int c1), (3, .int v3)]) hx hb dX12_numberAt_35 rfl hl (by decide) rfl (fun ls hl => ?_)
      obtain ⟨x9, ex9, h⟩ := x_bd h
      refine lv_iinc (v := x9) (lv' := [(3, .int x9), (2, .int x8), (0, .ref a0), (1, .int c1)]) hx hb dX12_numberAt_36 hl (k := 3) rfl (by rw [ex9]; rfl) (by decide) rfl (fun ls hl => ?_)
      refine lv_goto (tgt := 4) hx hb dX12_numberAt_39 (by decide) ?_
      exact ih M x8 x9 H locs ls h w (lv_sub hl [2, 3, 1, 0] rfl)
set_option maxHeartbeats 4000000 in
set_option maxRecDepth 100000 in
theorem k_X12_numberAt {l : Launch} {D : va_G} {cy : cyS} {G : gS} {M M' : mS} {r : Int32} {a0 : Nat} {c1 : Int32} (hG : wt G) (hL0 : a0 ∈ gL G) (hK0 : gK G a0 = 11) (h : m_X12_numberAt G M a0 c1 = some (M', r)) : ctI l yX12_numberAt wsX12_numberAt rmX12_numberAt D cy G M [.ref a0, .int c1] M' r := by
  unfold m_X12_numberAt at h
  refine ctI_of (cc := cX12_numberAt) (nL := 4) (ret := (some .int)) (lv := [(0, .ref a0), (1, .int c1)]) hG (by decide) rfl ⟨rfl, rfl⟩ (Nat.le_of_ble_eq_true rfl) rfl ?_
  intro p e s m args below meth c A ls cx w hl
  obtain ⟨hx, hb, hml, hown, hts, hr, hlocks, hK, hA, -, hsx⟩ := id cx
  have hkn : 0 ≤ (rmX12_numberAt).cells ∧ 0 ≤ (rmX12_numberAt).slots := ⟨Nat.zero_le _, Nat.zero_le _⟩
  refine lv_iconst (v := (0 : Int32)) hx hb dX12_numberAt_0 (by decide) ?_
  refine lv_istore_n (lv' := [(2, .int ((0 : Int32))), (0, .ref a0), (1, .int c1)]) hx hb dX12_numberAt_1 rfl hl (by decide) rfl (fun ls hl => ?_)
  refine lv_iconst (v := (0 : Int32)) hx hb dX12_numberAt_2 (by decide) ?_
  refine lv_istore_n (lv' := [(3, .int ((0 : Int32))), (2, .int ((0 : Int32))), (0, .ref a0), (1, .int c1)]) hx hb dX12_numberAt_3 rfl hl (by decide) rfl (fun ls hl => ?_)
  exact b_X12_numberAt_4 cx hkn hL0 hK0 fu M ((0 : Int32)) ((0 : Int32)) s.heap [] ls h w (lv_sub hl [2, 3, 1, 0] rfl)
-- a group that calls itself: X12_isSum X12_isProduct X12_isValue X12_isInside
abbrev RM3 (n : Nat) : Room := { frames := n + 5, cells := 0, slots := 0, locals := 60 * n + 106 }
theorem rm_up3 {n mL : Nat} (h : mL ≤ 41) : (RM3 n).frames + 1 ≤ (RM3 (n + 1)).frames ∧ 8 + (mL + 11) + (RM3 n).locals ≤ (RM3 (n + 1)).locals := ⟨by show n + 5 + 1 ≤ n + 1 + 5; omega, by show 8 + (mL + 11) + (60 * n + 106) ≤ 60 * (n + 1) + 106; omega⟩
theorem rm_lo3 {n f lo mL : Nat} (h1 : f + 1 ≤ 5) (h2 : 8 + (mL + 11) + lo ≤ 106) : f + 1 ≤ (RM3 (n + 1)).frames ∧ 8 + (mL + 11) + lo ≤ (RM3 (n + 1)).locals := ⟨by show f + 1 ≤ n + 1 + 5; omega, by show 8 + (mL + 11) + lo ≤ 60 * (n + 1) + 106; omega⟩
def SC3 (l : Launch) (D : va_G) (cy : cyS) (G : gS) (a : Nat) (rm : Room) (R : Nat → mS → Int32 → Int32 → Option (mS × Int32)) : Prop := (∀ (M : mS) (x y : Int32) (M' : mS) (r : Int32), R 0 M x y = some (M', r) → ctI l yX12_isSum wsX12_isSum rm D cy G M [.ref a] M' r) ∧ (∀ (M : mS) (x y : Int32) (M' : mS) (r : Int32), R 1 M x y = some (M', r) → ctI l yX12_isProduct wsX12_isProduct rm D cy G M [.ref a] M' r) ∧ (∀ (M : mS) (x y : Int32) (M' : mS) (r : Int32), R 2 M x y = some (M', r) → ctI l yX12_isValue wsX12_isValue rm D cy G M [.ref a] M' r) ∧ (∀ (M : mS) (x y : Int32) (M' : mS) (r : Int32), R 3 M x y = some (M', r) → ctI l yX12_isInside wsX12_isInside rm D cy G M [.ref a, .int x, .int y] M' r)
theorem wi_X12_isSum_X12 : ∀ w ∈ wsX120, w ∈ wsX12_isSum := by decide +kernel
theorem wi_X12_isProduct_X12 : ∀ w ∈ wsX120, w ∈ wsX12_isProduct := by decide +kernel
theorem wi_X12_isValue_X12 : ∀ w ∈ wsX120, w ∈ wsX12_isValue := by decide +kernel
theorem wi_X12_isInside_X12 : ∀ w ∈ wsX120, w ∈ wsX12_isInside := by decide +kernel
def q_X12_isSum_43 (G : gS) (R : Nat → mS → Int32 → Int32 → Option (mS × Int32)) (a0 : Nat) (kb9 : mS → Option (mS × Int32)) (M : mS) (s0 : Int32) : Option (mS × Int32) := o_wI M a0 9 ((mI M a0 9) + (1 : Int32)) (fun M1 => o_cl (R 1 M1 (0 : Int32) (0 : Int32)) (fun M2 r3 => (if r3 = 0 then o_ck ((0 : Int32) = 0 ∨ (0 : Int32) = 1) (some (M2, (0 : Int32))) else o_cl (m_X12_put G M2 a0 s0) (fun M6 r7 => kb9 M6))))
def q_X12_isSum_27 (G : gS) (R : Nat → mS → Int32 → Int32 → Option (mS × Int32)) (a0 : Nat) (kb9 : mS → Option (mS × Int32)) (M : mS)  : Option (mS × Int32) := o_cl (m_X12_isSign G M a0 (43 : Int32)) (fun M1 r2 => (if r2 = 0 then q_X12_isSum_43 G R a0 kb9 M1 ((45 : Int32)) else q_X12_isSum_43 G R a0 kb9 M1 ((44 : Int32))))
def q_X12_isSum_9 (G : gS) (R : Nat → mS → Int32 → Int32 → Option (mS × Int32)) (a0 : Nat)  : Nat → mS → Option (mS × Int32)
  | 0, _ => none
  | n + 1, M => o_cl (m_X12_isSign G M a0 (43 : Int32)) (fun M1 r2 => (if r2 = 0 then o_cl (m_X12_isSign G M1 a0 (45 : Int32)) (fun M5 r6 => (if r6 = 0 then o_ck ((1 : Int32) = 0 ∨ (1 : Int32) = 1) (some (M5, (1 : Int32))) else q_X12_isSum_27 G R a0 (fun M => q_X12_isSum_9 G R a0 n M) M5)) else q_X12_isSum_27 G R a0 (fun M => q_X12_isSum_9 G R a0 n M) M1))
def q_X12_isSum (G : gS) (R : Nat → mS → Int32 → Int32 → Option (mS × Int32)) (M : mS) (a0 : Nat) : Option (mS × Int32) := o_cl (R 1 M (0 : Int32) (0 : Int32)) (fun M1 r2 => (if r2 = 0 then o_ck ((0 : Int32) = 0 ∨ (0 : Int32) = 1) (some (M1, (0 : Int32))) else q_X12_isSum_9 G R a0 fu M1))
def q_X12_isProduct_43 (G : gS) (R : Nat → mS → Int32 → Int32 → Option (mS × Int32)) (a0 : Nat) (kb9 : mS → Option (mS × Int32)) (M : mS) (s0 : Int32) : Option (mS × Int32) := o_wI M a0 9 ((mI M a0 9) + (1 : Int32)) (fun M1 => o_cl (R 2 M1 (0 : Int32) (0 : Int32)) (fun M2 r3 => (if r3 = 0 then o_ck ((0 : Int32) = 0 ∨ (0 : Int32) = 1) (some (M2, (0 : Int32))) else o_cl (m_X12_put G M2 a0 s0) (fun M6 r7 => kb9 M6))))
def q_X12_isProduct_27 (G : gS) (R : Nat → mS → Int32 → Int32 → Option (mS × Int32)) (a0 : Nat) (kb9 : mS → Option (mS × Int32)) (M : mS)  : Option (mS × Int32) := o_cl (m_X12_isSign G M a0 (42 : Int32)) (fun M1 r2 => (if r2 = 0 then q_X12_isProduct_43 G R a0 kb9 M1 ((47 : Int32)) else q_X12_isProduct_43 G R a0 kb9 M1 ((46 : Int32))))
def q_X12_isProduct_9 (G : gS) (R : Nat → mS → Int32 → Int32 → Option (mS × Int32)) (a0 : Nat)  : Nat → mS → Option (mS × Int32)
  | 0, _ => none
  | n + 1, M => o_cl (m_X12_isSign G M a0 (42 : Int32)) (fun M1 r2 => (if r2 = 0 then o_cl (m_X12_isSign G M1 a0 (47 : Int32)) (fun M5 r6 => (if r6 = 0 then o_ck ((1 : Int32) = 0 ∨ (1 : Int32) = 1) (some (M5, (1 : Int32))) else q_X12_isProduct_27 G R a0 (fun M => q_X12_isProduct_9 G R a0 n M) M5)) else q_X12_isProduct_27 G R a0 (fun M => q_X12_isProduct_9 G R a0 n M) M1))
def q_X12_isProduct (G : gS) (R : Nat → mS → Int32 → Int32 → Option (mS × Int32)) (M : mS) (a0 : Nat) : Option (mS × Int32) := o_cl (R 2 M (0 : Int32) (0 : Int32)) (fun M1 r2 => (if r2 = 0 then o_ck ((0 : Int32) = 0 ∨ (0 : Int32) = 1) (some (M1, (0 : Int32))) else q_X12_isProduct_9 G R a0 fu M1))
def q_X12_isValue_67 (G : gS) (R : Nat → mS → Int32 → Int32 → Option (mS × Int32)) (a0 : Nat)  (M : mS) (v1 : Int32) : Option (mS × Int32) := o_cl (m_X12_put G M a0 v1) (fun M1 r2 => o_wI M1 a0 9 ((mI M1 a0 9) + (1 : Int32)) (fun M4 => o_ck ((1 : Int32) = 0 ∨ (1 : Int32) = 1) (some (M4, (1 : Int32)))))
def q_X12_isValue_153 (G : gS) (R : Nat → mS → Int32 → Int32 → Option (mS × Int32)) (a0 : Nat)  (M : mS)  : Option (mS × Int32) := o_ck ((0 : Int32) = 0 ∨ (0 : Int32) = 1) (some (M, (0 : Int32)))
def q_X12_isValue_198 (G : gS) (R : Nat → mS → Int32 → Int32 → Option (mS × Int32)) (a0 : Nat)  (M : mS) (s1 : Int32) (s2 : Int32) : Option (mS × Int32) := o_cl (R 3 M s1 s2) (fun M1 r2 => o_ck (r2 = 0 ∨ r2 = 1) (some (M1, r2)))
def q_X12_isValue_193 (G : gS) (R : Nat → mS → Int32 → Int32 → Option (mS × Int32)) (a0 : Nat)  (M : mS) (s1 : Int32) : Option (mS × Int32) := q_X12_isValue_198 G R a0 M s1 ((1 : Int32))
def q_X12_isValue (G : gS) (R : Nat → mS → Int32 → Int32 → Option (mS × Int32)) (M : mS) (a0 : Nat) : Option (mS × Int32) := o_rf (gP G a0 4) (fun q1 => o_ix (mI M a0 9) (gN G q1) (o_bd ((mI M q1 (Int32.toNatClampNeg (mI M a0 9)))) (fun x3 => o_cl (m_X12_is G M a0 (41 : Int32)) (fun M4 r5 => (if r5 = 0 then o_cl (m_X12_is G M4 a0 (20 : Int32)) (fun M8 r9 => (if r9 = 0 then o_cl (m_X12_is G M8 a0 (21 : Int32)) (fun M12 r13 => (if r13 = 0 then o_cl (m_X12_isWordOf G M12 a0 (22 : Int32) (24 : Int32)) (fun M16 r17 => (if r17 = 0 then o_cl (m_X12_eat G M16 a0 (25 : Int32)) (fun M20 r21 => (if r21 = 0 then o_cl (m_X12_isSign G M20 a0 (45 : Int32)) (fun M24 r25 => (if r25 = 0 then o_cl (m_X12_eat G M24 a0 (31 : Int32)) (fun M28 r29 => (if r29 = 0 then o_cl (m_X12_eat G M28 a0 (32 : Int32)) (fun M32 r33 => (if r33 = 0 then q_X12_isValue_198 G R a0 M32 x3 ((0 : Int32)) else q_X12_isValue_193 G R a0 M32 x3)) else q_X12_isValue_193 G R a0 M28 x3)) else o_cl (m_X12_isDeeper G M24 a0) (fun M36 r37 => (if r37 = 0 then q_X12_isValue_153 G R a0 M36 else o_cl (R 2 M36 (0 : Int32) (0 : Int32)) (fun M40 r41 => (if r41 = 0 then q_X12_isValue_153 G R a0 M40 else o_wI M40 a0 10 ((mI M40 a0 10) - (1 : Int32)) (fun M44 => o_cl (m_X12_put G M44 a0 (43 : Int32)) (fun M45 r46 => o_ck ((1 : Int32) = 0 ∨ (1 : Int32) = 1) (some (M45, (1 : Int32))))))))))) else o_cl (R 3 M20 x3 (0 : Int32)) (fun M49 r50 => (if r50 = 0 then o_ck ((0 : Int32) = 0 ∨ (0 : Int32) = 1) (some (M49, (0 : Int32))) else o_cl (m_X12_put G M49 a0 (25 : Int32)) (fun M53 r54 => o_ck ((1 : Int32) = 0 ∨ (1 : Int32) = 1) (some (M53, (1 : Int32)))))))) else o_cl (m_X12_isNamed G M16 a0 (14 : Int32)) (fun M58 r59 => o_ck (r59 = 0 ∨ r59 = 1) (some (M58, r59))))) else q_X12_isValue_67 G R a0 M12 x3)) else q_X12_isValue_67 G R a0 M8 x3)) else o_cl (m_X12_put G M4 a0 (42 : Int32)) (fun M62 r63 => o_cl (m_X12_numberAt G M62 a0 (mI M62 a0 9)) (fun M65 r66 => o_cl (m_X12_put G M65 a0 r66) (fun M68 r69 => o_wI M68 a0 9 ((mI M68 a0 9) + (1 : Int32)) (fun M71 => o_ck ((1 : Int32) = 0 ∨ (1 : Int32) = 1) (some (M71, (1 : Int32))))))))))))
def q_X12_isInside_43 (G : gS) (R : Nat → mS → Int32 → Int32 → Option (mS × Int32)) (a0 : Nat) (c1 : Int32) (c2 : Int32)  (M : mS)  : Option (mS × Int32) := o_ck ((0 : Int32) = 0 ∨ (0 : Int32) = 1) (some (M, (0 : Int32)))
def q_X12_isInside_64 (G : gS) (R : Nat → mS → Int32 → Int32 → Option (mS × Int32)) (a0 : Nat) (c1 : Int32) (c2 : Int32)  (M : mS)  : Option (mS × Int32) := o_cl (m_X12_eatSign G M a0 (41 : Int32)) (fun M1 r2 => o_ck (r2 = 0 ∨ r2 = 1) (some (M1, r2)))
def q_X12_isInside_45 (G : gS) (R : Nat → mS → Int32 → Int32 → Option (mS × Int32)) (a0 : Nat) (c1 : Int32) (c2 : Int32)  (M : mS)  : Option (mS × Int32) := o_wI M a0 10 ((mI M a0 10) - (1 : Int32)) (fun M1 => (if c2 = 0 then q_X12_isInside_64 G R a0 c1 c2 M1 else o_cl (m_X12_put G M1 a0 c1) (fun M3 r4 => q_X12_isInside_64 G R a0 c1 c2 M3)))
def q_X12_isInside (G : gS) (R : Nat → mS → Int32 → Int32 → Option (mS × Int32)) (M : mS) (a0 : Nat) (c1 : Int32) (c2 : Int32) : Option (mS × Int32) := o_cl (m_X12_isSign G M a0 (40 : Int32)) (fun M1 r2 => (if r2 = 0 then q_X12_isInside_43 G R a0 c1 c2 M1 else o_cl (m_X12_isDeeper G M1 a0) (fun M5 r6 => (if r6 = 0 then q_X12_isInside_43 G R a0 c1 c2 M5 else o_cl (R 0 M5 (0 : Int32) (0 : Int32)) (fun M9 r10 => (if r10 = 0 then q_X12_isInside_43 G R a0 c1 c2 M9 else (if c2 = 0 then q_X12_isInside_45 G R a0 c1 c2 M9 else o_cl (m_X12_eatSign G M9 a0 (44 : Int32)) (fun M14 r15 => (if r15 = 0 then q_X12_isInside_43 G R a0 c1 c2 M14 else o_cl (R 0 M14 (0 : Int32) (0 : Int32)) (fun M18 r19 => (if r19 = 0 then q_X12_isInside_43 G R a0 c1 c2 M18 else q_X12_isInside_45 G R a0 c1 c2 M18)))))))))))
set_option maxHeartbeats 4000000 in
set_option maxRecDepth 100000 in
theorem b_X12_isSum_43 {p : Program} {e : Env} {s : State} {m : MethodId} {args : Array Value} {below : List Frame} {meth : Method} {c : Code} {A : Nat → Prop} {l : Launch} {D : va_G} {cy : cyS} {G : gS} (cx : cX p s m args meth c cX12_isSum RX12 2 (some .boolean) wsX12_isSum D cy G A) {k0 n0 : Nat} {N0 : Nat} (hkn : k0 ≤ ((RM3 (N0 + 1))).cells ∧ n0 ≤ ((RM3 (N0 + 1))).slots) {M' : mS} {r : Int32} {a0 : Nat} (hL0 : a0 ∈ gL G) (hK0 : gK G a0 = 11)  {R : Nat → mS → Int32 → Int32 → Option (mS × Int32)} (hR : SC3 l D cy G a0 (RM3 N0) R) {kb9 : mS → Option (mS × Int32)} (hkb9 : ∀ (M : mS) (H : Heap) (locs : List Loc) (ls : Array Slot), kb9 M = some (M', r) → wd D cy G M A s.heap H locs → lv_has ls 2 [(0, .ref a0)] → W p l e (RM3 (N0 + 1)) s m args below meth c H locs k0 n0 (MQ below (va_Qi (fun (r' : Int32) (_ : Unit) => r' = r) (fun _ t => wOut D cy G M' t) A) args s k0 n0 A) (F0 m 9 ls [])) : ∀ (M : mS) (s0 : Int32) (H : Heap) (locs : List Loc) (ls : Array Slot), q_X12_isSum_43 G R a0 kb9 M s0 = some (M', r) → wd D cy G M A s.heap H locs → lv_has ls 2 [(0, .ref a0)] → W p l e (RM3 (N0 + 1)) s m args below meth c H locs k0 n0 (MQ below (va_Qi (fun (r' : Int32) (_ : Unit) => r' = r) (fun _ t => wOut D cy G M' t) A) args s k0 n0 A) (F0 m 43 ls [.int s0]) := by
  obtain ⟨hx, hb, hml, hown, hts, hr, hlocks, hK, hA, hG, hsx⟩ := id cx
  intro M s0 H locs ls h w hl
  unfold q_X12_isSum_43 at h
  refine lv_istore_n (lv' := [(1, .int s0), (0, .ref a0)]) hx hb dX12_isSum_43 rfl hl (by decide) rfl (fun ls hl => ?_)
  refine lv_aload_n hx hb dX12_isSum_44 rfl (lv_at hl 1 rfl) ?_
  refine lv_dup hx hb dX12_isSum_45 rfl ?_
  refine r_getI (k := 9) (v := .int (mI M a0 9)) cx w hL0 hK0 (by decide) rfl wi_X12_isSum_X12 (by decide) rfl (List.mem_of_getElem? (i := 1) rfl) dX12_isSum_46 ?_
  refine lv_iconst (v := (1 : Int32)) hx hb dX12_isSum_49 (by decide) ?_
  refine lv_iadd hx hb dX12_isSum_50 ?_
  obtain ⟨M1, eM1, h⟩ := x_wI h
  refine r_putI (k := 9) (ty := .int) cx w tyX12 tyX12_ok nmX12 hL0 hK0 (by decide) rfl wi_X12_isSum_X12 (by decide) rfl rfl rfl rfl st_11_9 (ln_11 _ _ (by decide)) (List.mem_of_getElem? (i := 1) rfl) dX12_isSum_51 eM1 (fun H locs w => ?_)
  refine lv_aload_n hx hb dX12_isSum_54 rfl (lv_at hl 1 rfl) ?_
  obtain ⟨M2, r3, y4, h⟩ := x_cl h
  refine r_callVi (As := []) (rest := []) cx w hkn hl.1 (hR.2.1 _ _ _ _ _ y4) (cwV 0 hts gX12_isSum_X12_isProduct rfl rfl rfl (by decide +kernel) (rm_up3 (by decide))) hL0 hK0 (by decide) rfl rfl rfl (Nat.le_of_ble_eq_true rfl) dX12_isSum_55 (fun H locs w => ?_)
  refine lv_if_ne (tgt := 63) hx hb dX12_isSum_58 (by decide) (fun k5 => ?_) (fun k5 => ?_)
  · have h := x_f h k5
    refine lv_aload_n hx hb dX12_isSum_63 rfl (lv_at hl 1 rfl) ?_
    refine lv_iload_n hx hb dX12_isSum_64 rfl (lv_at hl 0 rfl) ?_
    obtain ⟨M6, r7, y8, h⟩ := x_cl h
    refine r_callVv (As := [.int s0]) (rest := []) cx w hkn hl.1 (k_X12_put hG hL0 hK0 y8) (cwV 1 hts gX12_isSum_X12_put rfl rfl rfl (by decide +kernel) (rm_lo3 (Nat.le_of_ble_eq_true rfl) (Nat.le_of_ble_eq_true rfl))) hL0 hK0 (by decide) rfl rfl rfl (Nat.le_of_ble_eq_true rfl) dX12_isSum_65 (fun H locs w => ?_)
    refine lv_goto (tgt := 9) hx hb dX12_isSum_68 (by decide) ?_
    exact hkb9 M6 H locs ls h w (lv_sub hl [1] rfl)
  · have h := x_t h k5
    refine lv_iconst (v := (0 : Int32)) hx hb dX12_isSum_61 (by decide) ?_
    obtain ⟨z9, h⟩ := x_ck h
    exact r_zret cx w z9 h dX12_isSum_62
set_option maxHeartbeats 4000000 in
set_option maxRecDepth 100000 in
theorem b_X12_isSum_27 {p : Program} {e : Env} {s : State} {m : MethodId} {args : Array Value} {below : List Frame} {meth : Method} {c : Code} {A : Nat → Prop} {l : Launch} {D : va_G} {cy : cyS} {G : gS} (cx : cX p s m args meth c cX12_isSum RX12 2 (some .boolean) wsX12_isSum D cy G A) {k0 n0 : Nat} {N0 : Nat} (hkn : k0 ≤ ((RM3 (N0 + 1))).cells ∧ n0 ≤ ((RM3 (N0 + 1))).slots) {M' : mS} {r : Int32} {a0 : Nat} (hL0 : a0 ∈ gL G) (hK0 : gK G a0 = 11)  {R : Nat → mS → Int32 → Int32 → Option (mS × Int32)} (hR : SC3 l D cy G a0 (RM3 N0) R) {kb9 : mS → Option (mS × Int32)} (hkb9 : ∀ (M : mS) (H : Heap) (locs : List Loc) (ls : Array Slot), kb9 M = some (M', r) → wd D cy G M A s.heap H locs → lv_has ls 2 [(0, .ref a0)] → W p l e (RM3 (N0 + 1)) s m args below meth c H locs k0 n0 (MQ below (va_Qi (fun (r' : Int32) (_ : Unit) => r' = r) (fun _ t => wOut D cy G M' t) A) args s k0 n0 A) (F0 m 9 ls [])) : ∀ (M : mS) (H : Heap) (locs : List Loc) (ls : Array Slot), q_X12_isSum_27 G R a0 kb9 M = some (M', r) → wd D cy G M A s.heap H locs → lv_has ls 2 [(0, .ref a0)] → W p l e (RM3 (N0 + 1)) s m args below meth c H locs k0 n0 (MQ below (va_Qi (fun (r' : Int32) (_ : Unit) => r' = r) (fun _ t => wOut D cy G M' t) A) args s k0 n0 A) (F0 m 27 ls []) := by
  obtain ⟨hx, hb, hml, hown, hts, hr, hlocks, hK, hA, hG, hsx⟩ := id cx
  intro M H locs ls h w hl
  unfold q_X12_isSum_27 at h
  refine lv_aload_n hx hb dX12_isSum_27 rfl (lv_at hl 0 rfl) ?_
  refine lv_bipush (v := (43 : Int32)) hx hb dX12_isSum_28 (by decide) ?_
  obtain ⟨M1, r2, y3, h⟩ := x_cl h
  refine r_callVi (As := [.int ((43 : Int32))]) (rest := []) cx w hkn hl.1 (k_X12_isSign hG hL0 hK0 y3) (cwV 1 hts gX12_isSum_X12_isSign rfl rfl rfl (by decide +kernel) (rm_lo3 (Nat.le_of_ble_eq_true rfl) (Nat.le_of_ble_eq_true rfl))) hL0 hK0 (by decide) rfl rfl rfl (Nat.le_of_ble_eq_true rfl) dX12_isSum_30 (fun H locs w => ?_)
  refine lv_if_eq (tgt := 41) hx hb dX12_isSum_33 (by decide) (fun k4 => ?_) (fun k4 => ?_)
  · have h := x_t h k4
    refine lv_bipush (v := (45 : Int32)) hx hb dX12_isSum_41 (by decide) ?_
    exact b_X12_isSum_43 cx hkn hL0 hK0 hR (hkb9 := hkb9) M1 ((45 : Int32)) H locs ls h w (lv_sub hl [0] rfl)
  · have h := x_f h k4
    refine lv_bipush (v := (44 : Int32)) hx hb dX12_isSum_36 (by decide) ?_
    refine lv_goto (tgt := 43) hx hb dX12_isSum_38 (by decide) ?_
    exact b_X12_isSum_43 cx hkn hL0 hK0 hR (hkb9 := hkb9) M1 ((44 : Int32)) H locs ls h w (lv_sub hl [0] rfl)
set_option maxHeartbeats 4000000 in
set_option maxRecDepth 100000 in
theorem b_X12_isSum_9 {p : Program} {e : Env} {s : State} {m : MethodId} {args : Array Value} {below : List Frame} {meth : Method} {c : Code} {A : Nat → Prop} {l : Launch} {D : va_G} {cy : cyS} {G : gS} (cx : cX p s m args meth c cX12_isSum RX12 2 (some .boolean) wsX12_isSum D cy G A) {k0 n0 : Nat} {N0 : Nat} (hkn : k0 ≤ ((RM3 (N0 + 1))).cells ∧ n0 ≤ ((RM3 (N0 + 1))).slots) {M' : mS} {r : Int32} {a0 : Nat} (hL0 : a0 ∈ gL G) (hK0 : gK G a0 = 11)  {R : Nat → mS → Int32 → Int32 → Option (mS × Int32)} (hR : SC3 l D cy G a0 (RM3 N0) R)  : ∀ (n : Nat), ∀ (M : mS) (H : Heap) (locs : List Loc) (ls : Array Slot), q_X12_isSum_9 G R a0 n M = some (M', r) → wd D cy G M A s.heap H locs → lv_has ls 2 [(0, .ref a0)] → W p l e (RM3 (N0 + 1)) s m args below meth c H locs k0 n0 (MQ below (va_Qi (fun (r' : Int32) (_ : Unit) => r' = r) (fun _ t => wOut D cy G M' t) A) args s k0 n0 A) (F0 m 9 ls []) := by
  obtain ⟨hx, hb, hml, hown, hts, hr, hlocks, hK, hA, hG, hsx⟩ := id cx
  intro n
  induction n with
  | zero =>
    intro M H locs ls h w hl
    have h : none = some _ := h
    cases h
  | succ n ih =>
    intro M H locs ls h w hl
    rw [q_X12_isSum_9] at h
    refine lv_aload_n hx hb dX12_isSum_9 rfl (lv_at hl 0 rfl) ?_
    refine lv_bipush (v := (43 : Int32)) hx hb dX12_isSum_10 (by decide) ?_
    obtain ⟨M1, r2, y3, h⟩ := x_cl h
    refine r_callVi (As := [.int ((43 : Int32))]) (rest := []) cx w hkn hl.1 (k_X12_isSign hG hL0 hK0 y3) (cwV 1 hts gX12_isSum_X12_isSign rfl rfl rfl (by decide +kernel) (rm_lo3 (Nat.le_of_ble_eq_true rfl) (Nat.le_of_ble_eq_true rfl))) hL0 hK0 (by decide) rfl rfl rfl (Nat.le_of_ble_eq_true rfl) dX12_isSum_12 (fun H locs w => ?_)
    refine lv_if_ne (tgt := 27) hx hb dX12_isSum_15 (by decide) (fun k4 => ?_) (fun k4 => ?_)
    · have h := x_f h k4
      exact b_X12_isSum_27 cx hkn hL0 hK0 hR (hkb9 := ih) M1 H locs ls h w (lv_sub hl [0] rfl)
    · have h := x_t h k4
      refine lv_aload_n hx hb dX12_isSum_18 rfl (lv_at hl 0 rfl) ?_
      refine lv_bipush (v := (45 : Int32)) hx hb dX12_isSum_19 (by decide) ?_
      obtain ⟨M5, r6, y7, h⟩ := x_cl h
      refine r_callVi (As := [.int ((45 : Int32))]) (rest := []) cx w hkn hl.1 (k_X12_isSign hG hL0 hK0 y7) (cwV 1 hts gX12_isSum_X12_isSign rfl rfl rfl (by decide +kernel) (rm_lo3 (Nat.le_of_ble_eq_true rfl) (Nat.le_of_ble_eq_true rfl))) hL0 hK0 (by decide) rfl rfl rfl (Nat.le_of_ble_eq_true rfl) dX12_isSum_21 (fun H locs w => ?_)
      refine lv_if_eq (tgt := 71) hx hb dX12_isSum_24 (by decide) (fun k8 => ?_) (fun k8 => ?_)
      · have h := x_t h k8
        refine lv_iconst (v := (1 : Int32)) hx hb dX12_isSum_71 (by decide) ?_
        obtain ⟨z9, h⟩ := x_ck h
        exact r_zret cx w z9 h dX12_isSum_72
      · have h := x_f h k8
        exact b_X12_isSum_27 cx hkn hL0 hK0 hR (hkb9 := ih) M5 H locs ls h w (lv_sub hl [0] rfl)
set_option maxHeartbeats 4000000 in
set_option maxRecDepth 100000 in
theorem kq_X12_isSum {l : Launch} {D : va_G} {cy : cyS} {G : gS} {M M' : mS} {r : Int32} {a0 : Nat} (hG : wt G) (hL0 : a0 ∈ gL G) (hK0 : gK G a0 = 11) {N0 : Nat} {R : Nat → mS → Int32 → Int32 → Option (mS × Int32)} (hR : SC3 l D cy G a0 (RM3 N0) R) (h : q_X12_isSum G R M a0 = some (M', r)) : ctI l yX12_isSum wsX12_isSum (RM3 (N0 + 1)) D cy G M [.ref a0] M' r := by
  unfold q_X12_isSum at h
  refine ctI_of (cc := cX12_isSum) (nL := 2) (ret := (some .boolean)) (lv := [(0, .ref a0)]) hG (by decide) rfl ⟨rfl, rfl⟩ (Nat.le_of_ble_eq_true rfl) rfl ?_
  intro p e s m args below meth c A ls cx w hl
  obtain ⟨hx, hb, hml, hown, hts, hr, hlocks, hK, hA, -, hsx⟩ := id cx
  have hkn : 0 ≤ ((RM3 (N0 + 1))).cells ∧ 0 ≤ ((RM3 (N0 + 1))).slots := ⟨Nat.zero_le _, Nat.zero_le _⟩
  refine lv_aload_n hx hb dX12_isSum_0 rfl (lv_at hl 0 rfl) ?_
  obtain ⟨M1, r2, y3, h⟩ := x_cl h
  refine r_callVi (As := []) (rest := []) cx w hkn hl.1 (hR.2.1 _ _ _ _ _ y3) (cwV 0 hts gX12_isSum_X12_isProduct rfl rfl rfl (by decide +kernel) (rm_up3 (by decide))) hL0 hK0 (by decide) rfl rfl rfl (Nat.le_of_ble_eq_true rfl) dX12_isSum_1 (fun H locs w => ?_)
  refine lv_if_ne (tgt := 9) hx hb dX12_isSum_4 (by decide) (fun k4 => ?_) (fun k4 => ?_)
  · have h := x_f h k4
    exact b_X12_isSum_9 cx hkn hL0 hK0 hR fu M1 H locs ls h w (lv_sub hl [0] rfl)
  · have h := x_t h k4
    refine lv_iconst (v := (0 : Int32)) hx hb dX12_isSum_7 (by decide) ?_
    obtain ⟨z5, h⟩ := x_ck h
    exact r_zret cx w z5 h dX12_isSum_8
set_option maxHeartbeats 4000000 in
set_option maxRecDepth 100000 in
theorem b_X12_isProduct_43 {p : Program} {e : Env} {s : State} {m : MethodId} {args : Array Value} {below : List Frame} {meth : Method} {c : Code} {A : Nat → Prop} {l : Launch} {D : va_G} {cy : cyS} {G : gS} (cx : cX p s m args meth c cX12_isProduct RX12 2 (some .boolean) wsX12_isProduct D cy G A) {k0 n0 : Nat} {N0 : Nat} (hkn : k0 ≤ ((RM3 (N0 + 1))).cells ∧ n0 ≤ ((RM3 (N0 + 1))).slots) {M' : mS} {r : Int32} {a0 : Nat} (hL0 : a0 ∈ gL G) (hK0 : gK G a0 = 11)  {R : Nat → mS → Int32 → Int32 → Option (mS × Int32)} (hR : SC3 l D cy G a0 (RM3 N0) R) {kb9 : mS → Option (mS × Int32)} (hkb9 : ∀ (M : mS) (H : Heap) (locs : List Loc) (ls : Array Slot), kb9 M = some (M', r) → wd D cy G M A s.heap H locs → lv_has ls 2 [(0, .ref a0)] → W p l e (RM3 (N0 + 1)) s m args below meth c H locs k0 n0 (MQ below (va_Qi (fun (r' : Int32) (_ : Unit) => r' = r) (fun _ t => wOut D cy G M' t) A) args s k0 n0 A) (F0 m 9 ls [])) : ∀ (M : mS) (s0 : Int32) (H : Heap) (locs : List Loc) (ls : Array Slot), q_X12_isProduct_43 G R a0 kb9 M s0 = some (M', r) → wd D cy G M A s.heap H locs → lv_has ls 2 [(0, .ref a0)] → W p l e (RM3 (N0 + 1)) s m args below meth c H locs k0 n0 (MQ below (va_Qi (fun (r' : Int32) (_ : Unit) => r' = r) (fun _ t => wOut D cy G M' t) A) args s k0 n0 A) (F0 m 43 ls [.int s0]) := by
  obtain ⟨hx, hb, hml, hown, hts, hr, hlocks, hK, hA, hG, hsx⟩ := id cx
  intro M s0 H locs ls h w hl
  unfold q_X12_isProduct_43 at h
  refine lv_istore_n (lv' := [(1, .int s0), (0, .ref a0)]) hx hb dX12_isProduct_43 rfl hl (by decide) rfl (fun ls hl => ?_)
  refine lv_aload_n hx hb dX12_isProduct_44 rfl (lv_at hl 1 rfl) ?_
  refine lv_dup hx hb dX12_isProduct_45 rfl ?_
  refine r_getI (k := 9) (v := .int (mI M a0 9)) cx w hL0 hK0 (by decide) rfl wi_X12_isProduct_X12 (by decide) rfl (List.mem_of_getElem? (i := 1) rfl) dX12_isProduct_46 ?_
  refine lv_iconst (v := (1 : Int32)) hx hb dX12_isProduct_49 (by decide) ?_
  refine lv_iadd hx hb dX12_isProduct_50 ?_
  obtain ⟨M1, eM1, h⟩ := x_wI h
  refine r_putI (k := 9) (ty := .int) cx w tyX12 tyX12_ok nmX12 hL0 hK0 (by decide) rfl wi_X12_isProduct_X12 (by decide) rfl rfl rfl rfl st_11_9 (ln_11 _ _ (by decide)) (List.mem_of_getElem? (i := 1) rfl) dX12_isProduct_51 eM1 (fun H locs w => ?_)
  refine lv_aload_n hx hb dX12_isProduct_54 rfl (lv_at hl 1 rfl) ?_
  obtain ⟨M2, r3, y4, h⟩ := x_cl h
  refine r_callVi (As := []) (rest := []) cx w hkn hl.1 (hR.2.2.1 _ _ _ _ _ y4) (cwV 0 hts gX12_isProduct_X12_isValue rfl rfl rfl (by decide +kernel) (rm_up3 (by decide))) hL0 hK0 (by decide) rfl rfl rfl (Nat.le_of_ble_eq_true rfl) dX12_isProduct_55 (fun H locs w => ?_)
  refine lv_if_ne (tgt := 63) hx hb dX12_isProduct_58 (by decide) (fun k5 => ?_) (fun k5 => ?_)
  · have h := x_f h k5
    refine lv_aload_n hx hb dX12_isProduct_63 rfl (lv_at hl 1 rfl) ?_
    refine lv_iload_n hx hb dX12_isProduct_64 rfl (lv_at hl 0 rfl) ?_
    obtain ⟨M6, r7, y8, h⟩ := x_cl h
    refine r_callVv (As := [.int s0]) (rest := []) cx w hkn hl.1 (k_X12_put hG hL0 hK0 y8) (cwV 1 hts gX12_isProduct_X12_put rfl rfl rfl (by decide +kernel) (rm_lo3 (Nat.le_of_ble_eq_true rfl) (Nat.le_of_ble_eq_true rfl))) hL0 hK0 (by decide) rfl rfl rfl (Nat.le_of_ble_eq_true rfl) dX12_isProduct_65 (fun H locs w => ?_)
    refine lv_goto (tgt := 9) hx hb dX12_isProduct_68 (by decide) ?_
    exact hkb9 M6 H locs ls h w (lv_sub hl [1] rfl)
  · have h := x_t h k5
    refine lv_iconst (v := (0 : Int32)) hx hb dX12_isProduct_61 (by decide) ?_
    obtain ⟨z9, h⟩ := x_ck h
    exact r_zret cx w z9 h dX12_isProduct_62
set_option maxHeartbeats 4000000 in
set_option maxRecDepth 100000 in
theorem b_X12_isProduct_27 {p : Program} {e : Env} {s : State} {m : MethodId} {args : Array Value} {below : List Frame} {meth : Method} {c : Code} {A : Nat → Prop} {l : Launch} {D : va_G} {cy : cyS} {G : gS} (cx : cX p s m args meth c cX12_isProduct RX12 2 (some .boolean) wsX12_isProduct D cy G A) {k0 n0 : Nat} {N0 : Nat} (hkn : k0 ≤ ((RM3 (N0 + 1))).cells ∧ n0 ≤ ((RM3 (N0 + 1))).slots) {M' : mS} {r : Int32} {a0 : Nat} (hL0 : a0 ∈ gL G) (hK0 : gK G a0 = 11)  {R : Nat → mS → Int32 → Int32 → Option (mS × Int32)} (hR : SC3 l D cy G a0 (RM3 N0) R) {kb9 : mS → Option (mS × Int32)} (hkb9 : ∀ (M : mS) (H : Heap) (locs : List Loc) (ls : Array Slot), kb9 M = some (M', r) → wd D cy G M A s.heap H locs → lv_has ls 2 [(0, .ref a0)] → W p l e (RM3 (N0 + 1)) s m args below meth c H locs k0 n0 (MQ below (va_Qi (fun (r' : Int32) (_ : Unit) => r' = r) (fun _ t => wOut D cy G M' t) A) args s k0 n0 A) (F0 m 9 ls [])) : ∀ (M : mS) (H : Heap) (locs : List Loc) (ls : Array Slot), q_X12_isProduct_27 G R a0 kb9 M = some (M', r) → wd D cy G M A s.heap H locs → lv_has ls 2 [(0, .ref a0)] → W p l e (RM3 (N0 + 1)) s m args below meth c H locs k0 n0 (MQ below (va_Qi (fun (r' : Int32) (_ : Unit) => r' = r) (fun _ t => wOut D cy G M' t) A) args s k0 n0 A) (F0 m 27 ls []) := by
  obtain ⟨hx, hb, hml, hown, hts, hr, hlocks, hK, hA, hG, hsx⟩ := id cx
  intro M H locs ls h w hl
  unfold q_X12_isProduct_27 at h
  refine lv_aload_n hx hb dX12_isProduct_27 rfl (lv_at hl 0 rfl) ?_
  refine lv_bipush (v := (42 : Int32)) hx hb dX12_isProduct_28 (by decide) ?_
  obtain ⟨M1, r2, y3, h⟩ := x_cl h
  refine r_callVi (As := [.int ((42 : Int32))]) (rest := []) cx w hkn hl.1 (k_X12_isSign hG hL0 hK0 y3) (cwV 1 hts gX12_isProduct_X12_isSign rfl rfl rfl (by decide +kernel) (rm_lo3 (Nat.le_of_ble_eq_true rfl) (Nat.le_of_ble_eq_true rfl))) hL0 hK0 (by decide) rfl rfl rfl (Nat.le_of_ble_eq_true rfl) dX12_isProduct_30 (fun H locs w => ?_)
  refine lv_if_eq (tgt := 41) hx hb dX12_isProduct_33 (by decide) (fun k4 => ?_) (fun k4 => ?_)
  · have h := x_t h k4
    refine lv_bipush (v := (47 : Int32)) hx hb dX12_isProduct_41 (by decide) ?_
    exact b_X12_isProduct_43 cx hkn hL0 hK0 hR (hkb9 := hkb9) M1 ((47 : Int32)) H locs ls h w (lv_sub hl [0] rfl)
  · have h := x_f h k4
    refine lv_bipush (v := (46 : Int32)) hx hb dX12_isProduct_36 (by decide) ?_
    refine lv_goto (tgt := 43) hx hb dX12_isProduct_38 (by decide) ?_
    exact b_X12_isProduct_43 cx hkn hL0 hK0 hR (hkb9 := hkb9) M1 ((46 : Int32)) H locs ls h w (lv_sub hl [0] rfl)
set_option maxHeartbeats 4000000 in
set_option maxRecDepth 100000 in
theorem b_X12_isProduct_9 {p : Program} {e : Env} {s : State} {m : MethodId} {args : Array Value} {below : List Frame} {meth : Method} {c : Code} {A : Nat → Prop} {l : Launch} {D : va_G} {cy : cyS} {G : gS} (cx : cX p s m args meth c cX12_isProduct RX12 2 (some .boolean) wsX12_isProduct D cy G A) {k0 n0 : Nat} {N0 : Nat} (hkn : k0 ≤ ((RM3 (N0 + 1))).cells ∧ n0 ≤ ((RM3 (N0 + 1))).slots) {M' : mS} {r : Int32} {a0 : Nat} (hL0 : a0 ∈ gL G) (hK0 : gK G a0 = 11)  {R : Nat → mS → Int32 → Int32 → Option (mS × Int32)} (hR : SC3 l D cy G a0 (RM3 N0) R)  : ∀ (n : Nat), ∀ (M : mS) (H : Heap) (locs : List Loc) (ls : Array Slot), q_X12_isProduct_9 G R a0 n M = some (M', r) → wd D cy G M A s.heap H locs → lv_has ls 2 [(0, .ref a0)] → W p l e (RM3 (N0 + 1)) s m args below meth c H locs k0 n0 (MQ below (va_Qi (fun (r' : Int32) (_ : Unit) => r' = r) (fun _ t => wOut D cy G M' t) A) args s k0 n0 A) (F0 m 9 ls []) := by
  obtain ⟨hx, hb, hml, hown, hts, hr, hlocks, hK, hA, hG, hsx⟩ := id cx
  intro n
  induction n with
  | zero =>
    intro M H locs ls h w hl
    have h : none = some _ := h
    cases h
  | succ n ih =>
    intro M H locs ls h w hl
    rw [q_X12_isProduct_9] at h
    refine lv_aload_n hx hb dX12_isProduct_9 rfl (lv_at hl 0 rfl) ?_
    refine lv_bipush (v := (42 : Int32)) hx hb dX12_isProduct_10 (by decide) ?_
    obtain ⟨M1, r2, y3, h⟩ := x_cl h
    refine r_callVi (As := [.int ((42 : Int32))]) (rest := []) cx w hkn hl.1 (k_X12_isSign hG hL0 hK0 y3) (cwV 1 hts gX12_isProduct_X12_isSign rfl rfl rfl (by decide +kernel) (rm_lo3 (Nat.le_of_ble_eq_true rfl) (Nat.le_of_ble_eq_true rfl))) hL0 hK0 (by decide) rfl rfl rfl (Nat.le_of_ble_eq_true rfl) dX12_isProduct_12 (fun H locs w => ?_)
    refine lv_if_ne (tgt := 27) hx hb dX12_isProduct_15 (by decide) (fun k4 => ?_) (fun k4 => ?_)
    · have h := x_f h k4
      exact b_X12_isProduct_27 cx hkn hL0 hK0 hR (hkb9 := ih) M1 H locs ls h w (lv_sub hl [0] rfl)
    · have h := x_t h k4
      refine lv_aload_n hx hb dX12_isProduct_18 rfl (lv_at hl 0 rfl) ?_
      refine lv_bipush (v := (47 : Int32)) hx hb dX12_isProduct_19 (by decide) ?_
      obtain ⟨M5, r6, y7, h⟩ := x_cl h
      refine r_callVi (As := [.int ((47 : Int32))]) (rest := []) cx w hkn hl.1 (k_X12_isSign hG hL0 hK0 y7) (cwV 1 hts gX12_isProduct_X12_isSign rfl rfl rfl (by decide +kernel) (rm_lo3 (Nat.le_of_ble_eq_true rfl) (Nat.le_of_ble_eq_true rfl))) hL0 hK0 (by decide) rfl rfl rfl (Nat.le_of_ble_eq_true rfl) dX12_isProduct_21 (fun H locs w => ?_)
      refine lv_if_eq (tgt := 71) hx hb dX12_isProduct_24 (by decide) (fun k8 => ?_) (fun k8 => ?_)
      · have h := x_t h k8
        refine lv_iconst (v := (1 : Int32)) hx hb dX12_isProduct_71 (by decide) ?_
        obtain ⟨z9, h⟩ := x_ck h
        exact r_zret cx w z9 h dX12_isProduct_72
      · have h := x_f h k8
        exact b_X12_isProduct_27 cx hkn hL0 hK0 hR (hkb9 := ih) M5 H locs ls h w (lv_sub hl [0] rfl)
set_option maxHeartbeats 4000000 in
set_option maxRecDepth 100000 in
theorem kq_X12_isProduct {l : Launch} {D : va_G} {cy : cyS} {G : gS} {M M' : mS} {r : Int32} {a0 : Nat} (hG : wt G) (hL0 : a0 ∈ gL G) (hK0 : gK G a0 = 11) {N0 : Nat} {R : Nat → mS → Int32 → Int32 → Option (mS × Int32)} (hR : SC3 l D cy G a0 (RM3 N0) R) (h : q_X12_isProduct G R M a0 = some (M', r)) : ctI l yX12_isProduct wsX12_isProduct (RM3 (N0 + 1)) D cy G M [.ref a0] M' r := by
  unfold q_X12_isProduct at h
  refine ctI_of (cc := cX12_isProduct) (nL := 2) (ret := (some .boolean)) (lv := [(0, .ref a0)]) hG (by decide) rfl ⟨rfl, rfl⟩ (Nat.le_of_ble_eq_true rfl) rfl ?_
  intro p e s m args below meth c A ls cx w hl
  obtain ⟨hx, hb, hml, hown, hts, hr, hlocks, hK, hA, -, hsx⟩ := id cx
  have hkn : 0 ≤ ((RM3 (N0 + 1))).cells ∧ 0 ≤ ((RM3 (N0 + 1))).slots := ⟨Nat.zero_le _, Nat.zero_le _⟩
  refine lv_aload_n hx hb dX12_isProduct_0 rfl (lv_at hl 0 rfl) ?_
  obtain ⟨M1, r2, y3, h⟩ := x_cl h
  refine r_callVi (As := []) (rest := []) cx w hkn hl.1 (hR.2.2.1 _ _ _ _ _ y3) (cwV 0 hts gX12_isProduct_X12_isValue rfl rfl rfl (by decide +kernel) (rm_up3 (by decide))) hL0 hK0 (by decide) rfl rfl rfl (Nat.le_of_ble_eq_true rfl) dX12_isProduct_1 (fun H locs w => ?_)
  refine lv_if_ne (tgt := 9) hx hb dX12_isProduct_4 (by decide) (fun k4 => ?_) (fun k4 => ?_)
  · have h := x_f h k4
    exact b_X12_isProduct_9 cx hkn hL0 hK0 hR fu M1 H locs ls h w (lv_sub hl [0] rfl)
  · have h := x_t h k4
    refine lv_iconst (v := (0 : Int32)) hx hb dX12_isProduct_7 (by decide) ?_
    obtain ⟨z5, h⟩ := x_ck h
    exact r_zret cx w z5 h dX12_isProduct_8
set_option maxHeartbeats 4000000 in
set_option maxRecDepth 100000 in
theorem b_X12_isValue_67 {p : Program} {e : Env} {s : State} {m : MethodId} {args : Array Value} {below : List Frame} {meth : Method} {c : Code} {A : Nat → Prop} {l : Launch} {D : va_G} {cy : cyS} {G : gS} (cx : cX p s m args meth c cX12_isValue RX12 2 (some .boolean) wsX12_isValue D cy G A) {k0 n0 : Nat} {N0 : Nat} (hkn : k0 ≤ ((RM3 (N0 + 1))).cells ∧ n0 ≤ ((RM3 (N0 + 1))).slots) {M' : mS} {r : Int32} {a0 : Nat} (hL0 : a0 ∈ gL G) (hK0 : gK G a0 = 11)  {R : Nat → mS → Int32 → Int32 → Option (mS × Int32)} (hR : SC3 l D cy G a0 (RM3 N0) R)  : ∀ (M : mS) (v1 : Int32) (H : Heap) (locs : List Loc) (ls : Array Slot), q_X12_isValue_67 G R a0 M v1 = some (M', r) → wd D cy G M A s.heap H locs → lv_has ls 2 [(0, .ref a0), (1, .int v1)] → W p l e (RM3 (N0 + 1)) s m args below meth c H locs k0 n0 (MQ below (va_Qi (fun (r' : Int32) (_ : Unit) => r' = r) (fun _ t => wOut D cy G M' t) A) args s k0 n0 A) (F0 m 67 ls []) := by
  obtain ⟨hx, hb, hml, hown, hts, hr, hlocks, hK, hA, hG, hsx⟩ := id cx
  intro M v1 H locs ls h w hl
  unfold q_X12_isValue_67 at h
  refine lv_aload_n hx hb dX12_isValue_67 rfl (lv_at hl 0 rfl) ?_
  refine lv_iload_n hx hb dX12_isValue_68 rfl (lv_at hl 1 rfl) ?_
  obtain ⟨M1, r2, y3, h⟩ := x_cl h
  refine r_callVv (As := [.int v1]) (rest := []) cx w hkn hl.1 (k_X12_put hG hL0 hK0 y3) (cwV 1 hts gX12_isValue_X12_put rfl rfl rfl (by decide +kernel) (rm_lo3 (Nat.le_of_ble_eq_true rfl) (Nat.le_of_ble_eq_true rfl))) hL0 hK0 (by decide) rfl rfl rfl (Nat.le_of_ble_eq_true rfl) dX12_isValue_69 (fun H locs w => ?_)
  refine lv_aload_n hx hb dX12_isValue_72 rfl (lv_at hl 0 rfl) ?_
  refine lv_dup hx hb dX12_isValue_73 rfl ?_
  refine r_getI (k := 9) (v := .int (mI M1 a0 9)) cx w hL0 hK0 (by decide) rfl wi_X12_isValue_X12 (by decide) rfl (List.mem_of_getElem? (i := 2) rfl) dX12_isValue_74 ?_
  refine lv_iconst (v := (1 : Int32)) hx hb dX12_isValue_77 (by decide) ?_
  refine lv_iadd hx hb dX12_isValue_78 ?_
  obtain ⟨M4, eM4, h⟩ := x_wI h
  refine r_putI (k := 9) (ty := .int) cx w tyX12 tyX12_ok nmX12 hL0 hK0 (by decide) rfl wi_X12_isValue_X12 (by decide) rfl rfl rfl rfl st_11_9 (ln_11 _ _ (by decide)) (List.mem_of_getElem? (i := 2) rfl) dX12_isValue_79 eM4 (fun H locs w => ?_)
  refine lv_iconst (v := (1 : Int32)) hx hb dX12_isValue_82 (by decide) ?_
  obtain ⟨z5, h⟩ := x_ck h
  exact r_zret cx w z5 h dX12_isValue_83
set_option maxHeartbeats 4000000 in
set_option maxRecDepth 100000 in
theorem b_X12_isValue_153 {p : Program} {e : Env} {s : State} {m : MethodId} {args : Array Value} {below : List Frame} {meth : Method} {c : Code} {A : Nat → Prop} {l : Launch} {D : va_G} {cy : cyS} {G : gS} (cx : cX p s m args meth c cX12_isValue RX12 2 (some .boolean) wsX12_isValue D cy G A) {k0 n0 : Nat} {N0 : Nat} (hkn : k0 ≤ ((RM3 (N0 + 1))).cells ∧ n0 ≤ ((RM3 (N0 + 1))).slots) {M' : mS} {r : Int32} {a0 : Nat} (hL0 : a0 ∈ gL G) (hK0 : gK G a0 = 11)  {R : Nat → mS → Int32 → Int32 → Option (mS × Int32)} (hR : SC3 l D cy G a0 (RM3 N0) R)  : ∀ (M : mS) (H : Heap) (locs : List Loc) (ls : Array Slot), q_X12_isValue_153 G R a0 M = some (M', r) → wd D cy G M A s.heap H locs → lv_has ls 2 [] → W p l e (RM3 (N0 + 1)) s m args below meth c H locs k0 n0 (MQ below (va_Qi (fun (r' : Int32) (_ : Unit) => r' = r) (fun _ t => wOut D cy G M' t) A) args s k0 n0 A) (F0 m 153 ls []) := by
  obtain ⟨hx, hb, hml, hown, hts, hr, hlocks, hK, hA, hG, hsx⟩ := id cx
  intro M H locs ls h w hl
  unfold q_X12_isValue_153 at h
  refine lv_iconst (v := (0 : Int32)) hx hb dX12_isValue_153 (by decide) ?_
  obtain ⟨z1, h⟩ := x_ck h
  exact r_zret cx w z1 h dX12_isValue_154
set_option maxHeartbeats 4000000 in
set_option maxRecDepth 100000 in
theorem b_X12_isValue_198 {p : Program} {e : Env} {s : State} {m : MethodId} {args : Array Value} {below : List Frame} {meth : Method} {c : Code} {A : Nat → Prop} {l : Launch} {D : va_G} {cy : cyS} {G : gS} (cx : cX p s m args meth c cX12_isValue RX12 2 (some .boolean) wsX12_isValue D cy G A) {k0 n0 : Nat} {N0 : Nat} (hkn : k0 ≤ ((RM3 (N0 + 1))).cells ∧ n0 ≤ ((RM3 (N0 + 1))).slots) {M' : mS} {r : Int32} {a0 : Nat} (hL0 : a0 ∈ gL G) (hK0 : gK G a0 = 11)  {R : Nat → mS → Int32 → Int32 → Option (mS × Int32)} (hR : SC3 l D cy G a0 (RM3 N0) R)  : ∀ (M : mS) (s1 : Int32) (s2 : Int32) (H : Heap) (locs : List Loc) (ls : Array Slot), q_X12_isValue_198 G R a0 M s1 s2 = some (M', r) → wd D cy G M A s.heap H locs → lv_has ls 2 [] → W p l e (RM3 (N0 + 1)) s m args below meth c H locs k0 n0 (MQ below (va_Qi (fun (r' : Int32) (_ : Unit) => r' = r) (fun _ t => wOut D cy G M' t) A) args s k0 n0 A) (F0 m 198 ls [.int s2, .int s1, .ref a0]) := by
  obtain ⟨hx, hb, hml, hown, hts, hr, hlocks, hK, hA, hG, hsx⟩ := id cx
  intro M s1 s2 H locs ls h w hl
  unfold q_X12_isValue_198 at h
  obtain ⟨M1, r2, y3, h⟩ := x_cl h
  refine r_callVi (As := [.int s1, .int s2]) (rest := []) cx w hkn hl.1 (hR.2.2.2 _ _ _ _ _ y3) (cwV 2 hts gX12_isValue_X12_isInside rfl rfl rfl (by decide +kernel) (rm_up3 (by decide))) hL0 hK0 (by decide) rfl rfl rfl (Nat.le_of_ble_eq_true rfl) dX12_isValue_198 (fun H locs w => ?_)
  obtain ⟨z4, h⟩ := x_ck h
  exact r_zret cx w z4 h dX12_isValue_201
set_option maxHeartbeats 4000000 in
set_option maxRecDepth 100000 in
theorem b_X12_isValue_193 {p : Program} {e : Env} {s : State} {m : MethodId} {args : Array Value} {below : List Frame} {meth : Method} {c : Code} {A : Nat → Prop} {l : Launch} {D : va_G} {cy : cyS} {G : gS} (cx : cX p s m args meth c cX12_isValue RX12 2 (some .boolean) wsX12_isValue D cy G A) {k0 n0 : Nat} {N0 : Nat} (hkn : k0 ≤ ((RM3 (N0 + 1))).cells ∧ n0 ≤ ((RM3 (N0 + 1))).slots) {M' : mS} {r : Int32} {a0 : Nat} (hL0 : a0 ∈ gL G) (hK0 : gK G a0 = 11)  {R : Nat → mS → Int32 → Int32 → Option (mS × Int32)} (hR : SC3 l D cy G a0 (RM3 N0) R)  : ∀ (M : mS) (s1 : Int32) (H : Heap) (locs : List Loc) (ls : Array Slot), q_X12_isValue_193 G R a0 M s1 = some (M', r) → wd D cy G M A s.heap H locs → lv_has ls 2 [] → W p l e (RM3 (N0 + 1)) s m args below meth c H locs k0 n0 (MQ below (va_Qi (fun (r' : Int32) (_ : Unit) => r' = r) (fun _ t => wOut D cy G M' t) A) args s k0 n0 A) (F0 m 193 ls [.int s1, .ref a0]) := by
  obtain ⟨hx, hb, hml, hown, hts, hr, hlocks, hK, hA, hG, hsx⟩ := id cx
  intro M s1 H locs ls h w hl
  unfold q_X12_isValue_193 at h
  refine lv_iconst (v := (1 : Int32)) hx hb dX12_isValue_193 (by decide) ?_
  refine lv_goto (tgt := 198) hx hb dX12_isValue_194 (by decide) ?_
  exact b_X12_isValue_198 cx hkn hL0 hK0 hR M s1 ((1 : Int32)) H locs ls h w (lv_sub hl [] rfl)
set_option maxHeartbeats 4000000 in
set_option maxRecDepth 100000 in
theorem kq_X12_isValue {l : Launch} {D : va_G} {cy : cyS} {G : gS} {M M' : mS} {r : Int32} {a0 : Nat} (hG : wt G) (hL0 : a0 ∈ gL G) (hK0 : gK G a0 = 11) {N0 : Nat} {R : Nat → mS → Int32 → Int32 → Option (mS × Int32)} (hR : SC3 l D cy G a0 (RM3 N0) R) (h : q_X12_isValue G R M a0 = some (M', r)) : ctI l yX12_isValue wsX12_isValue (RM3 (N0 + 1)) D cy G M [.ref a0] M' r := by
  unfold q_X12_isValue at h
  refine ctI_of (cc := cX12_isValue) (nL := 2) (ret := (some .boolean)) (lv := [(0, .ref a0)]) hG (by decide) rfl ⟨rfl, rfl⟩ (Nat.le_of_ble_eq_true rfl) rfl ?_
  intro p e s m args below meth c A ls cx w hl
  obtain ⟨hx, hb, hml, hown, hts, hr, hlocks, hK, hA, -, hsx⟩ := id cx
  have hkn : 0 ≤ ((RM3 (N0 + 1))).cells ∧ 0 ≤ ((RM3 (N0 + 1))).slots := ⟨Nat.zero_le _, Nat.zero_le _⟩
  refine lv_aload_n hx hb dX12_isValue_0 rfl (lv_at hl 0 rfl) ?_
  obtain ⟨q1, eq1, h⟩ := x_rf h
  obtain ⟨hLq1, hKq1⟩ := wt_q hG hL0 hK0 eq1
  have hKq1 : gK G q1 = 12 := hKq1
  refine r_getR (k := 4) cx w hL0 hK0 (by decide) rfl wi_X12_isValue_X12 (by decide) rfl eq1 (List.mem_of_getElem? (i := 1) rfl) dX12_isValue_1 ?_
  refine lv_aload_n hx hb dX12_isValue_4 rfl (lv_at hl 0 rfl) ?_
  refine r_getI (k := 9) (v := .int (mI M a0 9)) cx w hL0 hK0 (by decide) rfl wi_X12_isValue_X12 (by decide) rfl (List.mem_of_getElem? (i := 2) rfl) dX12_isValue_5 ?_
  obtain ⟨z2, h⟩ := x_ix h
  refine r_iald cx w hLq1 hKq1 z2 dX12_isValue_8 ?_
  obtain ⟨x3, ex3, h⟩ := x_bd h
  refine r_topI ex3 ?_
  refine lv_istore_n (lv' := [(1, .int x3), (0, .ref a0)]) hx hb dX12_isValue_9 rfl hl (by decide) rfl (fun ls hl => ?_)
  refine lv_aload_n hx hb dX12_isValue_10 rfl (lv_at hl 1 rfl) ?_
  refine lv_bipush (v := (41 : Int32)) hx hb dX12_isValue_11 (by decide) ?_
  obtain ⟨M4, r5, y6, h⟩ := x_cl h
  refine r_callVi (As := [.int ((41 : Int32))]) (rest := []) cx w hkn hl.1 (k_X12_is hG hL0 hK0 y6) (cwV 1 hts gX12_isValue_X12_is rfl rfl rfl (by decide +kernel) (rm_lo3 (Nat.le_of_ble_eq_true rfl) (Nat.le_of_ble_eq_true rfl))) hL0 hK0 (by decide) rfl rfl rfl (Nat.le_of_ble_eq_true rfl) dX12_isValue_13 (fun H locs w => ?_)
  refine lv_if_eq (tgt := 49) hx hb dX12_isValue_16 (by decide) (fun k7 => ?_) (fun k7 => ?_)
  · have h := x_t h k7
    refine lv_aload_n hx hb dX12_isValue_49 rfl (lv_at hl 1 rfl) ?_
    refine lv_bipush (v := (20 : Int32)) hx hb dX12_isValue_50 (by decide) ?_
    obtain ⟨M8, r9, y10, h⟩ := x_cl h
    refine r_callVi (As := [.int ((20 : Int32))]) (rest := []) cx w hkn hl.1 (k_X12_is hG hL0 hK0 y10) (cwV 1 hts gX12_isValue_X12_is rfl rfl rfl (by decide +kernel) (rm_lo3 (Nat.le_of_ble_eq_true rfl) (Nat.le_of_ble_eq_true rfl))) hL0 hK0 (by decide) rfl rfl rfl (Nat.le_of_ble_eq_true rfl) dX12_isValue_52 (fun H locs w => ?_)
    refine lv_if_ne (tgt := 67) hx hb dX12_isValue_55 (by decide) (fun k11 => ?_) (fun k11 => ?_)
    · have h := x_f h k11
      exact b_X12_isValue_67 cx hkn hL0 hK0 hR M8 x3 H locs ls h w (lv_sub hl [1, 0] rfl)
    · have h := x_t h k11
      refine lv_aload_n hx hb dX12_isValue_58 rfl (lv_at hl 1 rfl) ?_
      refine lv_bipush (v := (21 : Int32)) hx hb dX12_isValue_59 (by decide) ?_
      obtain ⟨M12, r13, y14, h⟩ := x_cl h
      refine r_callVi (As := [.int ((21 : Int32))]) (rest := []) cx w hkn hl.1 (k_X12_is hG hL0 hK0 y14) (cwV 1 hts gX12_isValue_X12_is rfl rfl rfl (by decide +kernel) (rm_lo3 (Nat.le_of_ble_eq_true rfl) (Nat.le_of_ble_eq_true rfl))) hL0 hK0 (by decide) rfl rfl rfl (Nat.le_of_ble_eq_true rfl) dX12_isValue_61 (fun H locs w => ?_)
      refine lv_if_eq (tgt := 84) hx hb dX12_isValue_64 (by decide) (fun k15 => ?_) (fun k15 => ?_)
      · have h := x_t h k15
        refine lv_aload_n hx hb dX12_isValue_84 rfl (lv_at hl 1 rfl) ?_
        refine lv_bipush (v := (22 : Int32)) hx hb dX12_isValue_85 (by decide) ?_
        refine lv_bipush (v := (24 : Int32)) hx hb dX12_isValue_87 (by decide) ?_
        obtain ⟨M16, r17, y18, h⟩ := x_cl h
        refine r_callVi (As := [.int ((22 : Int32)), .int ((24 : Int32))]) (rest := []) cx w hkn hl.1 (k_X12_isWordOf hG hL0 hK0 y18) (cwV 2 hts gX12_isValue_X12_isWordOf rfl rfl rfl (by decide +kernel) (rm_lo3 (Nat.le_of_ble_eq_true rfl) (Nat.le_of_ble_eq_true rfl))) hL0 hK0 (by decide) rfl rfl rfl (Nat.le_of_ble_eq_true rfl) dX12_isValue_89 (fun H locs w => ?_)
        refine lv_if_eq (tgt := 102) hx hb dX12_isValue_92 (by decide) (fun k19 => ?_) (fun k19 => ?_)
        · have h := x_t h k19
          refine lv_aload_n hx hb dX12_isValue_102 rfl (lv_at hl 1 rfl) ?_
          refine lv_bipush (v := (25 : Int32)) hx hb dX12_isValue_103 (by decide) ?_
          obtain ⟨M20, r21, y22, h⟩ := x_cl h
          refine r_callVi (As := [.int ((25 : Int32))]) (rest := []) cx w hkn hl.1 (k_X12_eat hG hL0 hK0 y22) (cwV 1 hts gX12_isValue_X12_eat rfl rfl rfl (by decide +kernel) (rm_lo3 (Nat.le_of_ble_eq_true rfl) (Nat.le_of_ble_eq_true rfl))) hL0 hK0 (by decide) rfl rfl rfl (Nat.le_of_ble_eq_true rfl) dX12_isValue_105 (fun H locs w => ?_)
          refine lv_if_eq (tgt := 130) hx hb dX12_isValue_108 (by decide) (fun k23 => ?_) (fun k23 => ?_)
          · have h := x_t h k23
            refine lv_aload_n hx hb dX12_isValue_130 rfl (lv_at hl 1 rfl) ?_
            refine lv_bipush (v := (45 : Int32)) hx hb dX12_isValue_131 (by decide) ?_
            obtain ⟨M24, r25, y26, h⟩ := x_cl h
            refine r_callVi (As := [.int ((45 : Int32))]) (rest := []) cx w hkn hl.1 (k_X12_isSign hG hL0 hK0 y26) (cwV 1 hts gX12_isValue_X12_isSign rfl rfl rfl (by decide +kernel) (rm_lo3 (Nat.le_of_ble_eq_true rfl) (Nat.le_of_ble_eq_true rfl))) hL0 hK0 (by decide) rfl rfl rfl (Nat.le_of_ble_eq_true rfl) dX12_isValue_133 (fun H locs w => ?_)
            refine lv_if_eq (tgt := 173) hx hb dX12_isValue_136 (by decide) (fun k27 => ?_) (fun k27 => ?_)
            · have h := x_t h k27
              refine lv_aload_n hx hb dX12_isValue_173 rfl (lv_at hl 1 rfl) ?_
              refine lv_iload_n hx hb dX12_isValue_174 rfl (lv_at hl 0 rfl) ?_
              refine lv_aload_n hx hb dX12_isValue_175 rfl (lv_at hl 1 rfl) ?_
              refine lv_bipush (v := (31 : Int32)) hx hb dX12_isValue_176 (by decide) ?_
              obtain ⟨M28, r29, y30, h⟩ := x_cl h
              refine r_callVi (As := [.int ((31 : Int32))]) (rest := [.int x3, .ref a0]) cx w hkn hl.1 (k_X12_eat hG hL0 hK0 y30) (cwV 1 hts gX12_isValue_X12_eat rfl rfl rfl (by decide +kernel) (rm_lo3 (Nat.le_of_ble_eq_true rfl) (Nat.le_of_ble_eq_true rfl))) hL0 hK0 (by decide) rfl rfl rfl (Nat.le_of_ble_eq_true rfl) dX12_isValue_178 (fun H locs w => ?_)
              refine lv_if_ne (tgt := 193) hx hb dX12_isValue_181 (by decide) (fun k31 => ?_) (fun k31 => ?_)
              · have h := x_f h k31
                exact b_X12_isValue_193 cx hkn hL0 hK0 hR M28 x3 H locs ls h w (lv_sub hl [] rfl)
              · have h := x_t h k31
                refine lv_aload_n hx hb dX12_isValue_184 rfl (lv_at hl 1 rfl) ?_
                refine lv_bipush (v := (32 : Int32)) hx hb dX12_isValue_185 (by decide) ?_
                obtain ⟨M32, r33, y34, h⟩ := x_cl h
                refine r_callVi (As := [.int ((32 : Int32))]) (rest := [.int x3, .ref a0]) cx w hkn hl.1 (k_X12_eat hG hL0 hK0 y34) (cwV 1 hts gX12_isValue_X12_eat rfl rfl rfl (by decide +kernel) (rm_lo3 (Nat.le_of_ble_eq_true rfl) (Nat.le_of_ble_eq_true rfl))) hL0 hK0 (by decide) rfl rfl rfl (Nat.le_of_ble_eq_true rfl) dX12_isValue_187 (fun H locs w => ?_)
                refine lv_if_eq (tgt := 197) hx hb dX12_isValue_190 (by decide) (fun k35 => ?_) (fun k35 => ?_)
                · have h := x_t h k35
                  refine lv_iconst (v := (0 : Int32)) hx hb dX12_isValue_197 (by decide) ?_
                  exact b_X12_isValue_198 cx hkn hL0 hK0 hR M32 x3 ((0 : Int32)) H locs ls h w (lv_sub hl [] rfl)
                · have h := x_f h k35
                  exact b_X12_isValue_193 cx hkn hL0 hK0 hR M32 x3 H locs ls h w (lv_sub hl [] rfl)
            · have h := x_f h k27
              refine lv_aload_n hx hb dX12_isValue_139 rfl (lv_at hl 1 rfl) ?_
              obtain ⟨M36, r37, y38, h⟩ := x_cl h
              refine r_callVi (As := []) (rest := []) cx w hkn hl.1 (k_X12_isDeeper hG hL0 hK0 y38) (cwV 0 hts gX12_isValue_X12_isDeeper rfl rfl rfl (by decide +kernel) (rm_lo3 (Nat.le_of_ble_eq_true rfl) (Nat.le_of_ble_eq_true rfl))) hL0 hK0 (by decide) rfl rfl rfl (Nat.le_of_ble_eq_true rfl) dX12_isValue_140 (fun H locs w => ?_)
              refine lv_if_eq (tgt := 153) hx hb dX12_isValue_143 (by decide) (fun k39 => ?_) (fun k39 => ?_)
              · have h := x_t h k39
                exact b_X12_isValue_153 cx hkn hL0 hK0 hR M36 H locs ls h w (lv_sub hl [] rfl)
              · have h := x_f h k39
                refine lv_aload_n hx hb dX12_isValue_146 rfl (lv_at hl 1 rfl) ?_
                obtain ⟨M40, r41, y42, h⟩ := x_cl h
                refine r_callVi (As := []) (rest := []) cx w hkn hl.1 (hR.2.2.1 _ _ _ _ _ y42) (cwV 0 hts gX12_isValue_X12_isValue rfl rfl rfl (by decide +kernel) (rm_up3 (by decide))) hL0 hK0 (by decide) rfl rfl rfl (Nat.le_of_ble_eq_true rfl) dX12_isValue_147 (fun H locs w => ?_)
                refine lv_if_ne (tgt := 155) hx hb dX12_isValue_150 (by decide) (fun k43 => ?_) (fun k43 => ?_)
                · have h := x_f h k43
                  refine lv_aload_n hx hb dX12_isValue_155 rfl (lv_at hl 1 rfl) ?_
                  refine lv_dup hx hb dX12_isValue_156 rfl ?_
                  refine r_getI (k := 10) (v := .int (mI M40 a0 10)) cx w hL0 hK0 (by decide) rfl wi_X12_isValue_X12 (by decide) rfl (List.mem_of_getElem? (i := 3) rfl) dX12_isValue_157 ?_
                  refine lv_iconst (v := (1 : Int32)) hx hb dX12_isValue_160 (by decide) ?_
                  refine lv_isub hx hb dX12_isValue_161 ?_
                  obtain ⟨M44, eM44, h⟩ := x_wI h
                  refine r_putI (k := 10) (ty := .int) cx w tyX12 tyX12_ok nmX12 hL0 hK0 (by decide) rfl wi_X12_isValue_X12 (by decide) rfl rfl rfl rfl st_11_10 (ln_11 _ _ (by decide)) (List.mem_of_getElem? (i := 3) rfl) dX12_isValue_162 eM44 (fun H locs w => ?_)
                  refine lv_aload_n hx hb dX12_isValue_165 rfl (lv_at hl 1 rfl) ?_
                  refine lv_bipush (v := (43 : Int32)) hx hb dX12_isValue_166 (by decide) ?_
                  obtain ⟨M45, r46, y47, h⟩ := x_cl h
                  refine r_callVv (As := [.int ((43 : Int32))]) (rest := []) cx w hkn hl.1 (k_X12_put hG hL0 hK0 y47) (cwV 1 hts gX12_isValue_X12_put rfl rfl rfl (by decide +kernel) (rm_lo3 (Nat.le_of_ble_eq_true rfl) (Nat.le_of_ble_eq_true rfl))) hL0 hK0 (by decide) rfl rfl rfl (Nat.le_of_ble_eq_true rfl) dX12_isValue_168 (fun H locs w => ?_)
                  refine lv_iconst (v := (1 : Int32)) hx hb dX12_isValue_171 (by decide) ?_
                  obtain ⟨z48, h⟩ := x_ck h
                  exact r_zret cx w z48 h dX12_isValue_172
                · have h := x_t h k43
                  exact b_X12_isValue_153 cx hkn hL0 hK0 hR M40 H locs ls h w (lv_sub hl [] rfl)
          · have h := x_f h k23
            refine lv_aload_n hx hb dX12_isValue_111 rfl (lv_at hl 1 rfl) ?_
            refine lv_iload_n hx hb dX12_isValue_112 rfl (lv_at hl 0 rfl) ?_
            refine lv_iconst (v := (0 : Int32)) hx hb dX12_isValue_113 (by decide) ?_
            obtain ⟨M49, r50, y51, h⟩ := x_cl h
            refine r_callVi (As := [.int x3, .int ((0 : Int32))]) (rest := []) cx w hkn hl.1 (hR.2.2.2 _ _ _ _ _ y51) (cwV 2 hts gX12_isValue_X12_isInside rfl rfl rfl (by decide +kernel) (rm_up3 (by decide))) hL0 hK0 (by decide) rfl rfl rfl (Nat.le_of_ble_eq_true rfl) dX12_isValue_114 (fun H locs w => ?_)
            refine lv_if_ne (tgt := 122) hx hb dX12_isValue_117 (by decide) (fun k52 => ?_) (fun k52 => ?_)
            · have h := x_f h k52
              refine lv_aload_n hx hb dX12_isValue_122 rfl (lv_at hl 1 rfl) ?_
              refine lv_bipush (v := (25 : Int32)) hx hb dX12_isValue_123 (by decide) ?_
              obtain ⟨M53, r54, y55, h⟩ := x_cl h
              refine r_callVv (As := [.int ((25 : Int32))]) (rest := []) cx w hkn hl.1 (k_X12_put hG hL0 hK0 y55) (cwV 1 hts gX12_isValue_X12_put rfl rfl rfl (by decide +kernel) (rm_lo3 (Nat.le_of_ble_eq_true rfl) (Nat.le_of_ble_eq_true rfl))) hL0 hK0 (by decide) rfl rfl rfl (Nat.le_of_ble_eq_true rfl) dX12_isValue_125 (fun H locs w => ?_)
              refine lv_iconst (v := (1 : Int32)) hx hb dX12_isValue_128 (by decide) ?_
              obtain ⟨z56, h⟩ := x_ck h
              exact r_zret cx w z56 h dX12_isValue_129
            · have h := x_t h k52
              refine lv_iconst (v := (0 : Int32)) hx hb dX12_isValue_120 (by decide) ?_
              obtain ⟨z57, h⟩ := x_ck h
              exact r_zret cx w z57 h dX12_isValue_121
        · have h := x_f h k19
          refine lv_aload_n hx hb dX12_isValue_95 rfl (lv_at hl 1 rfl) ?_
          refine lv_bipush (v := (14 : Int32)) hx hb dX12_isValue_96 (by decide) ?_
          obtain ⟨M58, r59, y60, h⟩ := x_cl h
          refine r_callVi (As := [.int ((14 : Int32))]) (rest := []) cx w hkn hl.1 (k_X12_isNamed hG hL0 hK0 y60) (cwV 1 hts gX12_isValue_X12_isNamed rfl rfl rfl (by decide +kernel) (rm_lo3 (Nat.le_of_ble_eq_true rfl) (Nat.le_of_ble_eq_true rfl))) hL0 hK0 (by decide) rfl rfl rfl (Nat.le_of_ble_eq_true rfl) dX12_isValue_98 (fun H locs w => ?_)
          obtain ⟨z61, h⟩ := x_ck h
          exact r_zret cx w z61 h dX12_isValue_101
      · have h := x_f h k15
        exact b_X12_isValue_67 cx hkn hL0 hK0 hR M12 x3 H locs ls h w (lv_sub hl [1, 0] rfl)
  · have h := x_f h k7
    refine lv_aload_n hx hb dX12_isValue_19 rfl (lv_at hl 1 rfl) ?_
    refine lv_bipush (v := (42 : Int32)) hx hb dX12_isValue_20 (by decide) ?_
    obtain ⟨M62, r63, y64, h⟩ := x_cl h
    refine r_callVv (As := [.int ((42 : Int32))]) (rest := []) cx w hkn hl.1 (k_X12_put hG hL0 hK0 y64) (cwV 1 hts gX12_isValue_X12_put rfl rfl rfl (by decide +kernel) (rm_lo3 (Nat.le_of_ble_eq_true rfl) (Nat.le_of_ble_eq_true rfl))) hL0 hK0 (by decide) rfl rfl rfl (Nat.le_of_ble_eq_true rfl) dX12_isValue_22 (fun H locs w => ?_)
    refine lv_aload_n hx hb dX12_isValue_25 rfl (lv_at hl 1 rfl) ?_
    refine lv_aload_n hx hb dX12_isValue_26 rfl (lv_at hl 1 rfl) ?_
    refine lv_aload_n hx hb dX12_isValue_27 rfl (lv_at hl 1 rfl) ?_
    refine r_getI (k := 9) (v := .int (mI M62 a0 9)) cx w hL0 hK0 (by decide) rfl wi_X12_isValue_X12 (by decide) rfl (List.mem_of_getElem? (i := 2) rfl) dX12_isValue_28 ?_
    obtain ⟨M65, r66, y67, h⟩ := x_cl h
    refine r_callVi (As := [.int ((mI M62 a0 9))]) (rest := [.ref a0]) cx w hkn hl.1 (k_X12_numberAt hG hL0 hK0 y67) (cwV 1 hts gX12_isValue_X12_numberAt rfl rfl rfl (by decide +kernel) (rm_lo3 (Nat.le_of_ble_eq_true rfl) (Nat.le_of_ble_eq_true rfl))) hL0 hK0 (by decide) rfl rfl rfl (Nat.le_of_ble_eq_true rfl) dX12_isValue_31 (fun H locs w => ?_)
    obtain ⟨M68, r69, y70, h⟩ := x_cl h
    refine r_callVv (As := [.int r66]) (rest := []) cx w hkn hl.1 (k_X12_put hG hL0 hK0 y70) (cwV 1 hts gX12_isValue_X12_put rfl rfl rfl (by decide +kernel) (rm_lo3 (Nat.le_of_ble_eq_true rfl) (Nat.le_of_ble_eq_true rfl))) hL0 hK0 (by decide) rfl rfl rfl (Nat.le_of_ble_eq_true rfl) dX12_isValue_34 (fun H locs w => ?_)
    refine lv_aload_n hx hb dX12_isValue_37 rfl (lv_at hl 1 rfl) ?_
    refine lv_dup hx hb dX12_isValue_38 rfl ?_
    refine r_getI (k := 9) (v := .int (mI M68 a0 9)) cx w hL0 hK0 (by decide) rfl wi_X12_isValue_X12 (by decide) rfl (List.mem_of_getElem? (i := 2) rfl) dX12_isValue_39 ?_
    refine lv_iconst (v := (1 : Int32)) hx hb dX12_isValue_42 (by decide) ?_
    refine lv_iadd hx hb dX12_isValue_43 ?_
    obtain ⟨M71, eM71, h⟩ := x_wI h
    refine r_putI (k := 9) (ty := .int) cx w tyX12 tyX12_ok nmX12 hL0 hK0 (by decide) rfl wi_X12_isValue_X12 (by decide) rfl rfl rfl rfl st_11_9 (ln_11 _ _ (by decide)) (List.mem_of_getElem? (i := 2) rfl) dX12_isValue_44 eM71 (fun H locs w => ?_)
    refine lv_iconst (v := (1 : Int32)) hx hb dX12_isValue_47 (by decide) ?_
    obtain ⟨z72, h⟩ := x_ck h
    exact r_zret cx w z72 h dX12_isValue_48
set_option maxHeartbeats 4000000 in
set_option maxRecDepth 100000 in
theorem b_X12_isInside_43 {p : Program} {e : Env} {s : State} {m : MethodId} {args : Array Value} {below : List Frame} {meth : Method} {c : Code} {A : Nat → Prop} {l : Launch} {D : va_G} {cy : cyS} {G : gS} (cx : cX p s m args meth c cX12_isInside RX12 3 (some .boolean) wsX12_isInside D cy G A) {k0 n0 : Nat} {N0 : Nat} (hkn : k0 ≤ ((RM3 (N0 + 1))).cells ∧ n0 ≤ ((RM3 (N0 + 1))).slots) {M' : mS} {r : Int32} {a0 : Nat} {c1 : Int32} {c2 : Int32} (hL0 : a0 ∈ gL G) (hK0 : gK G a0 = 11)  {R : Nat → mS → Int32 → Int32 → Option (mS × Int32)} (hR : SC3 l D cy G a0 (RM3 N0) R)  : ∀ (M : mS) (H : Heap) (locs : List Loc) (ls : Array Slot), q_X12_isInside_43 G R a0 c1 c2 M = some (M', r) → wd D cy G M A s.heap H locs → lv_has ls 3 [] → W p l e (RM3 (N0 + 1)) s m args below meth c H locs k0 n0 (MQ below (va_Qi (fun (r' : Int32) (_ : Unit) => r' = r) (fun _ t => wOut D cy G M' t) A) args s k0 n0 A) (F0 m 43 ls []) := by
  obtain ⟨hx, hb, hml, hown, hts, hr, hlocks, hK, hA, hG, hsx⟩ := id cx
  intro M H locs ls h w hl
  unfold q_X12_isInside_43 at h
  refine lv_iconst (v := (0 : Int32)) hx hb dX12_isInside_43 (by decide) ?_
  obtain ⟨z1, h⟩ := x_ck h
  exact r_zret cx w z1 h dX12_isInside_44
set_option maxHeartbeats 4000000 in
set_option maxRecDepth 100000 in
theorem b_X12_isInside_64 {p : Program} {e : Env} {s : State} {m : MethodId} {args : Array Value} {below : List Frame} {meth : Method} {c : Code} {A : Nat → Prop} {l : Launch} {D : va_G} {cy : cyS} {G : gS} (cx : cX p s m args meth c cX12_isInside RX12 3 (some .boolean) wsX12_isInside D cy G A) {k0 n0 : Nat} {N0 : Nat} (hkn : k0 ≤ ((RM3 (N0 + 1))).cells ∧ n0 ≤ ((RM3 (N0 + 1))).slots) {M' : mS} {r : Int32} {a0 : Nat} {c1 : Int32} {c2 : Int32} (hL0 : a0 ∈ gL G) (hK0 : gK G a0 = 11)  {R : Nat → mS → Int32 → Int32 → Option (mS × Int32)} (hR : SC3 l D cy G a0 (RM3 N0) R)  : ∀ (M : mS) (H : Heap) (locs : List Loc) (ls : Array Slot), q_X12_isInside_64 G R a0 c1 c2 M = some (M', r) → wd D cy G M A s.heap H locs → lv_has ls 3 [(0, .ref a0)] → W p l e (RM3 (N0 + 1)) s m args below meth c H locs k0 n0 (MQ below (va_Qi (fun (r' : Int32) (_ : Unit) => r' = r) (fun _ t => wOut D cy G M' t) A) args s k0 n0 A) (F0 m 64 ls []) := by
  obtain ⟨hx, hb, hml, hown, hts, hr, hlocks, hK, hA, hG, hsx⟩ := id cx
  intro M H locs ls h w hl
  unfold q_X12_isInside_64 at h
  refine lv_aload_n hx hb dX12_isInside_64 rfl (lv_at hl 0 rfl) ?_
  refine lv_bipush (v := (41 : Int32)) hx hb dX12_isInside_65 (by decide) ?_
  obtain ⟨M1, r2, y3, h⟩ := x_cl h
  refine r_callVi (As := [.int ((41 : Int32))]) (rest := []) cx w hkn hl.1 (k_X12_eatSign hG hL0 hK0 y3) (cwV 1 hts gX12_isInside_X12_eatSign rfl rfl rfl (by decide +kernel) (rm_lo3 (Nat.le_of_ble_eq_true rfl) (Nat.le_of_ble_eq_true rfl))) hL0 hK0 (by decide) rfl rfl rfl (Nat.le_of_ble_eq_true rfl) dX12_isInside_67 (fun H locs w => ?_)
  obtain ⟨z4, h⟩ := x_ck h
  exact r_zret cx w z4 h dX12_isInside_70
set_option maxHeartbeats 4000000 in
set_option maxRecDepth 100000 in
theorem b_X12_isInside_45 {p : Program} {e : Env} {s : State} {m : MethodId} {args : Array Value} {below : List Frame} {meth : Method} {c : Code} {A : Nat → Prop} {l : Launch} {D : va_G} {cy : cyS} {G : gS} (cx : cX p s m args meth c cX12_isInside RX12 3 (some .boolean) wsX12_isInside D cy G A) {k0 n0 : Nat} {N0 : Nat} (hkn : k0 ≤ ((RM3 (N0 + 1))).cells ∧ n0 ≤ ((RM3 (N0 + 1))).slots) {M' : mS} {r : Int32} {a0 : Nat} {c1 : Int32} {c2 : Int32} (hL0 : a0 ∈ gL G) (hK0 : gK G a0 = 11)  {R : Nat → mS → Int32 → Int32 → Option (mS × Int32)} (hR : SC3 l D cy G a0 (RM3 N0) R)  : ∀ (M : mS) (H : Heap) (locs : List Loc) (ls : Array Slot), q_X12_isInside_45 G R a0 c1 c2 M = some (M', r) → wd D cy G M A s.heap H locs → lv_has ls 3 [(0, .ref a0), (1, .int c1), (2, .int c2)] → W p l e (RM3 (N0 + 1)) s m args below meth c H locs k0 n0 (MQ below (va_Qi (fun (r' : Int32) (_ : Unit) => r' = r) (fun _ t => wOut D cy G M' t) A) args s k0 n0 A) (F0 m 45 ls []) := by
  obtain ⟨hx, hb, hml, hown, hts, hr, hlocks, hK, hA, hG, hsx⟩ := id cx
  intro M H locs ls h w hl
  unfold q_X12_isInside_45 at h
  refine lv_aload_n hx hb dX12_isInside_45 rfl (lv_at hl 0 rfl) ?_
  refine lv_dup hx hb dX12_isInside_46 rfl ?_
  refine r_getI (k := 10) (v := .int (mI M a0 10)) cx w hL0 hK0 (by decide) rfl wi_X12_isInside_X12 (by decide) rfl (List.mem_of_getElem? (i := 1) rfl) dX12_isInside_47 ?_
  refine lv_iconst (v := (1 : Int32)) hx hb dX12_isInside_50 (by decide) ?_
  refine lv_isub hx hb dX12_isInside_51 ?_
  obtain ⟨M1, eM1, h⟩ := x_wI h
  refine r_putI (k := 10) (ty := .int) cx w tyX12 tyX12_ok nmX12 hL0 hK0 (by decide) rfl wi_X12_isInside_X12 (by decide) rfl rfl rfl rfl st_11_10 (ln_11 _ _ (by decide)) (List.mem_of_getElem? (i := 1) rfl) dX12_isInside_52 eM1 (fun H locs w => ?_)
  refine lv_iload_n hx hb dX12_isInside_55 rfl (lv_at hl 2 rfl) ?_
  refine lv_if_eq (tgt := 64) hx hb dX12_isInside_56 (by decide) (fun k2 => ?_) (fun k2 => ?_)
  · have h := x_t h k2
    exact b_X12_isInside_64 cx hkn hL0 hK0 hR M1 H locs ls h w (lv_sub hl [0] rfl)
  · have h := x_f h k2
    refine lv_aload_n hx hb dX12_isInside_59 rfl (lv_at hl 0 rfl) ?_
    refine lv_iload_n hx hb dX12_isInside_60 rfl (lv_at hl 1 rfl) ?_
    obtain ⟨M3, r4, y5, h⟩ := x_cl h
    refine r_callVv (As := [.int c1]) (rest := []) cx w hkn hl.1 (k_X12_put hG hL0 hK0 y5) (cwV 1 hts gX12_isInside_X12_put rfl rfl rfl (by decide +kernel) (rm_lo3 (Nat.le_of_ble_eq_true rfl) (Nat.le_of_ble_eq_true rfl))) hL0 hK0 (by decide) rfl rfl rfl (Nat.le_of_ble_eq_true rfl) dX12_isInside_61 (fun H locs w => ?_)
    exact b_X12_isInside_64 cx hkn hL0 hK0 hR M3 H locs ls h w (lv_sub hl [0] rfl)
set_option maxHeartbeats 4000000 in
set_option maxRecDepth 100000 in
theorem kq_X12_isInside {l : Launch} {D : va_G} {cy : cyS} {G : gS} {M M' : mS} {r : Int32} {a0 : Nat} {c1 : Int32} {c2 : Int32} (hG : wt G) (hL0 : a0 ∈ gL G) (hK0 : gK G a0 = 11) {N0 : Nat} {R : Nat → mS → Int32 → Int32 → Option (mS × Int32)} (hR : SC3 l D cy G a0 (RM3 N0) R) (h : q_X12_isInside G R M a0 c1 c2 = some (M', r)) : ctI l yX12_isInside wsX12_isInside (RM3 (N0 + 1)) D cy G M [.ref a0, .int c1, .int c2] M' r := by
  unfold q_X12_isInside at h
  refine ctI_of (cc := cX12_isInside) (nL := 3) (ret := (some .boolean)) (lv := [(0, .ref a0), (1, .int c1), (2, .int c2)]) hG (by decide) rfl ⟨rfl, rfl⟩ (Nat.le_of_ble_eq_true rfl) rfl ?_
  intro p e s m args below meth c A ls cx w hl
  obtain ⟨hx, hb, hml, hown, hts, hr, hlocks, hK, hA, -, hsx⟩ := id cx
  have hkn : 0 ≤ ((RM3 (N0 + 1))).cells ∧ 0 ≤ ((RM3 (N0 + 1))).slots := ⟨Nat.zero_le _, Nat.zero_le _⟩
  refine lv_aload_n hx hb dX12_isInside_0 rfl (lv_at hl 0 rfl) ?_
  refine lv_bipush (v := (40 : Int32)) hx hb dX12_isInside_1 (by decide) ?_
  obtain ⟨M1, r2, y3, h⟩ := x_cl h
  refine r_callVi (As := [.int ((40 : Int32))]) (rest := []) cx w hkn hl.1 (k_X12_isSign hG hL0 hK0 y3) (cwV 1 hts gX12_isInside_X12_isSign rfl rfl rfl (by decide +kernel) (rm_lo3 (Nat.le_of_ble_eq_true rfl) (Nat.le_of_ble_eq_true rfl))) hL0 hK0 (by decide) rfl rfl rfl (Nat.le_of_ble_eq_true rfl) dX12_isInside_3 (fun H locs w => ?_)
  refine lv_if_eq (tgt := 43) hx hb dX12_isInside_6 (by decide) (fun k4 => ?_) (fun k4 => ?_)
  · have h := x_t h k4
    exact b_X12_isInside_43 cx hkn hL0 hK0 hR M1 H locs ls h w (lv_sub hl [] rfl)
  · have h := x_f h k4
    refine lv_aload_n hx hb dX12_isInside_9 rfl (lv_at hl 0 rfl) ?_
    obtain ⟨M5, r6, y7, h⟩ := x_cl h
    refine r_callVi (As := []) (rest := []) cx w hkn hl.1 (k_X12_isDeeper hG hL0 hK0 y7) (cwV 0 hts gX12_isInside_X12_isDeeper rfl rfl rfl (by decide +kernel) (rm_lo3 (Nat.le_of_ble_eq_true rfl) (Nat.le_of_ble_eq_true rfl))) hL0 hK0 (by decide) rfl rfl rfl (Nat.le_of_ble_eq_true rfl) dX12_isInside_10 (fun H locs w => ?_)
    refine lv_if_eq (tgt := 43) hx hb dX12_isInside_13 (by decide) (fun k8 => ?_) (fun k8 => ?_)
    · have h := x_t h k8
      exact b_X12_isInside_43 cx hkn hL0 hK0 hR M5 H locs ls h w (lv_sub hl [] rfl)
    · have h := x_f h k8
      refine lv_aload_n hx hb dX12_isInside_16 rfl (lv_at hl 0 rfl) ?_
      obtain ⟨M9, r10, y11, h⟩ := x_cl h
      refine r_callVi (As := []) (rest := []) cx w hkn hl.1 (hR.1 _ _ _ _ _ y11) (cwV 0 hts gX12_isInside_X12_isSum rfl rfl rfl (by decide +kernel) (rm_up3 (by decide))) hL0 hK0 (by decide) rfl rfl rfl (Nat.le_of_ble_eq_true rfl) dX12_isInside_17 (fun H locs w => ?_)
      refine lv_if_eq (tgt := 43) hx hb dX12_isInside_20 (by decide) (fun k12 => ?_) (fun k12 => ?_)
      · have h := x_t h k12
        exact b_X12_isInside_43 cx hkn hL0 hK0 hR M9 H locs ls h w (lv_sub hl [] rfl)
      · have h := x_f h k12
        refine lv_iload_n hx hb dX12_isInside_23 rfl (lv_at hl 2 rfl) ?_
        refine lv_if_eq (tgt := 45) hx hb dX12_isInside_24 (by decide) (fun k13 => ?_) (fun k13 => ?_)
        · have h := x_t h k13
          exact b_X12_isInside_45 cx hkn hL0 hK0 hR M9 H locs ls h w (lv_sub hl [0, 1, 2] rfl)
        · have h := x_f h k13
          refine lv_aload_n hx hb dX12_isInside_27 rfl (lv_at hl 0 rfl) ?_
          refine lv_bipush (v := (44 : Int32)) hx hb dX12_isInside_28 (by decide) ?_
          obtain ⟨M14, r15, y16, h⟩ := x_cl h
          refine r_callVi (As := [.int ((44 : Int32))]) (rest := []) cx w hkn hl.1 (k_X12_eatSign hG hL0 hK0 y16) (cwV 1 hts gX12_isInside_X12_eatSign rfl rfl rfl (by decide +kernel) (rm_lo3 (Nat.le_of_ble_eq_true rfl) (Nat.le_of_ble_eq_true rfl))) hL0 hK0 (by decide) rfl rfl rfl (Nat.le_of_ble_eq_true rfl) dX12_isInside_30 (fun H locs w => ?_)
          refine lv_if_eq (tgt := 43) hx hb dX12_isInside_33 (by decide) (fun k17 => ?_) (fun k17 => ?_)
          · have h := x_t h k17
            exact b_X12_isInside_43 cx hkn hL0 hK0 hR M14 H locs ls h w (lv_sub hl [] rfl)
          · have h := x_f h k17
            refine lv_aload_n hx hb dX12_isInside_36 rfl (lv_at hl 0 rfl) ?_
            obtain ⟨M18, r19, y20, h⟩ := x_cl h
            refine r_callVi (As := []) (rest := []) cx w hkn hl.1 (hR.1 _ _ _ _ _ y20) (cwV 0 hts gX12_isInside_X12_isSum rfl rfl rfl (by decide +kernel) (rm_up3 (by decide))) hL0 hK0 (by decide) rfl rfl rfl (Nat.le_of_ble_eq_true rfl) dX12_isInside_37 (fun H locs w => ?_)
            refine lv_if_ne (tgt := 45) hx hb dX12_isInside_40 (by decide) (fun k21 => ?_) (fun k21 => ?_)
            · have h := x_f h k21
              exact b_X12_isInside_45 cx hkn hL0 hK0 hR M18 H locs ls h w (lv_sub hl [0, 1, 2] rfl)
            · have h := x_t h k21
              exact b_X12_isInside_43 cx hkn hL0 hK0 hR M18 H locs ls h w (lv_sub hl [] rfl)
def rec3 (G : gS) (a : Nat) : Nat → Nat → mS → Int32 → Int32 → Option (mS × Int32)
  | 0, _, _, _, _ => none
  | n + 1, t, M, x, y => if t = 0 then q_X12_isSum G (rec3 G a n) M a else if t = 1 then q_X12_isProduct G (rec3 G a n) M a else if t = 2 then q_X12_isValue G (rec3 G a n) M a else if t = 3 then q_X12_isInside G (rec3 G a n) M a x y else none
theorem kr3 {l : Launch} {D : va_G} {cy : cyS} {G : gS} {a : Nat} (hG : wt G) (hL : a ∈ gL G) (hK : gK G a = 11) : ∀ n : Nat, SC3 l D cy G a (RM3 n) (rec3 G a n) := by
  intro n
  induction n with
  | zero => exact ⟨fun M x y M' r h => nn h, fun M x y M' r h => nn h, fun M x y M' r h => nn h, fun M x y M' r h => nn h⟩
  | succ n ih => exact ⟨fun M x y M' r h => kq_X12_isSum hG hL hK ih h, fun M x y M' r h => kq_X12_isProduct hG hL hK ih h, fun M x y M' r h => kq_X12_isValue hG hL hK ih h, fun M x y M' r h => kq_X12_isInside hG hL hK ih h⟩
def m_X12_isSum (G : gS) (M : mS) (a : Nat) : Option (mS × Int32) := rec3 G a 64 0 M (0 : Int32) (0 : Int32)
abbrev rmX12_isSum : Room := RM3 64
theorem k_X12_isSum {l : Launch} {D : va_G} {cy : cyS} {G : gS} {M M' : mS} {r : Int32} {a : Nat} (hG : wt G) (hL : a ∈ gL G) (hK : gK G a = 11) (h : m_X12_isSum G M a = some (M', r)) : ctI l yX12_isSum wsX12_isSum rmX12_isSum D cy G M [.ref a] M' r := ((kr3 (l := l) (D := D) (cy := cy) hG hL hK 64).1) _ _ _ _ _ h
def m_X12_isProduct (G : gS) (M : mS) (a : Nat) : Option (mS × Int32) := rec3 G a 64 1 M (0 : Int32) (0 : Int32)
abbrev rmX12_isProduct : Room := RM3 64
theorem k_X12_isProduct {l : Launch} {D : va_G} {cy : cyS} {G : gS} {M M' : mS} {r : Int32} {a : Nat} (hG : wt G) (hL : a ∈ gL G) (hK : gK G a = 11) (h : m_X12_isProduct G M a = some (M', r)) : ctI l yX12_isProduct wsX12_isProduct rmX12_isProduct D cy G M [.ref a] M' r := ((kr3 (l := l) (D := D) (cy := cy) hG hL hK 64).2.1) _ _ _ _ _ h
def m_X12_isValue (G : gS) (M : mS) (a : Nat) : Option (mS × Int32) := rec3 G a 64 2 M (0 : Int32) (0 : Int32)
abbrev rmX12_isValue : Room := RM3 64
theorem k_X12_isValue {l : Launch} {D : va_G} {cy : cyS} {G : gS} {M M' : mS} {r : Int32} {a : Nat} (hG : wt G) (hL : a ∈ gL G) (hK : gK G a = 11) (h : m_X12_isValue G M a = some (M', r)) : ctI l yX12_isValue wsX12_isValue rmX12_isValue D cy G M [.ref a] M' r := ((kr3 (l := l) (D := D) (cy := cy) hG hL hK 64).2.2.1) _ _ _ _ _ h
def m_X12_isInside (G : gS) (M : mS) (a : Nat) (x : Int32) (y : Int32) : Option (mS × Int32) := rec3 G a 64 3 M x y
abbrev rmX12_isInside : Room := RM3 64
theorem k_X12_isInside {l : Launch} {D : va_G} {cy : cyS} {G : gS} {M M' : mS} {r : Int32} {a : Nat} {x : Int32} {y : Int32} (hG : wt G) (hL : a ∈ gL G) (hK : gK G a = 11) (h : m_X12_isInside G M a x y = some (M', r)) : ctI l yX12_isInside wsX12_isInside rmX12_isInside D cy G M [.ref a, .int x, .int y] M' r := ((kr3 (l := l) (D := D) (cy := cy) hG hL hK 64).2.2.2) _ _ _ _ _ h
-- a group that calls itself: X12_isTest X12_isBoth X12_isSingle
abbrev RM4 (n : Nat) : Room := { frames := n + 70, cells := 0, slots := 0, locals := 60 * n + 3967 }
theorem rm_up4 {n mL : Nat} (h : mL ≤ 41) : (RM4 n).frames + 1 ≤ (RM4 (n + 1)).frames ∧ 8 + (mL + 11) + (RM4 n).locals ≤ (RM4 (n + 1)).locals := ⟨by show n + 70 + 1 ≤ n + 1 + 70; omega, by show 8 + (mL + 11) + (60 * n + 3967) ≤ 60 * (n + 1) + 3967; omega⟩
theorem rm_lo4 {n f lo mL : Nat} (h1 : f + 1 ≤ 70) (h2 : 8 + (mL + 11) + lo ≤ 3967) : f + 1 ≤ (RM4 (n + 1)).frames ∧ 8 + (mL + 11) + lo ≤ (RM4 (n + 1)).locals := ⟨by show f + 1 ≤ n + 1 + 70; omega, by show 8 + (mL + 11) + lo ≤ 60 * (n + 1) + 3967; omega⟩
def SC4 (l : Launch) (D : va_G) (cy : cyS) (G : gS) (a : Nat) (rm : Room) (R : Nat → mS → Int32 → Int32 → Option (mS × Int32)) : Prop := (∀ (M : mS) (x y : Int32) (M' : mS) (r : Int32), R 0 M x y = some (M', r) → ctI l yX12_isTest wsX12_isTest rm D cy G M [.ref a] M' r) ∧ (∀ (M : mS) (x y : Int32) (M' : mS) (r : Int32), R 1 M x y = some (M', r) → ctI l yX12_isBoth wsX12_isBoth rm D cy G M [.ref a] M' r) ∧ (∀ (M : mS) (x y : Int32) (M' : mS) (r : Int32), R 2 M x y = some (M', r) → ctI l yX12_isSingle wsX12_isSingle rm D cy G M [.ref a] M' r)
theorem wi_X12_isSingle_X12 : ∀ w ∈ wsX120, w ∈ wsX12_isSingle := by decide +kernel
def q_X12_isTest_9 (G : gS) (R : Nat → mS → Int32 → Int32 → Option (mS × Int32)) (a0 : Nat)  : Nat → mS → Option (mS × Int32)
  | 0, _ => none
  | n + 1, M => o_cl (m_X12_eat G M a0 (30 : Int32)) (fun M1 r2 => (if r2 = 0 then o_ck ((1 : Int32) = 0 ∨ (1 : Int32) = 1) (some (M1, (1 : Int32))) else o_cl (R 1 M1 (0 : Int32) (0 : Int32)) (fun M6 r7 => (if r7 = 0 then o_ck ((0 : Int32) = 0 ∨ (0 : Int32) = 1) (some (M6, (0 : Int32))) else o_cl (m_X12_put G M6 a0 (30 : Int32)) (fun M10 r11 => q_X12_isTest_9 G R a0 n M10)))))
def q_X12_isTest (G : gS) (R : Nat → mS → Int32 → Int32 → Option (mS × Int32)) (M : mS) (a0 : Nat) : Option (mS × Int32) := o_cl (R 1 M (0 : Int32) (0 : Int32)) (fun M1 r2 => (if r2 = 0 then o_ck ((0 : Int32) = 0 ∨ (0 : Int32) = 1) (some (M1, (0 : Int32))) else q_X12_isTest_9 G R a0 fu M1))
def q_X12_isBoth_9 (G : gS) (R : Nat → mS → Int32 → Int32 → Option (mS × Int32)) (a0 : Nat)  : Nat → mS → Option (mS × Int32)
  | 0, _ => none
  | n + 1, M => o_cl (m_X12_eat G M a0 (29 : Int32)) (fun M1 r2 => (if r2 = 0 then o_ck ((1 : Int32) = 0 ∨ (1 : Int32) = 1) (some (M1, (1 : Int32))) else o_cl (R 2 M1 (0 : Int32) (0 : Int32)) (fun M6 r7 => (if r7 = 0 then o_ck ((0 : Int32) = 0 ∨ (0 : Int32) = 1) (some (M6, (0 : Int32))) else o_cl (m_X12_put G M6 a0 (29 : Int32)) (fun M10 r11 => q_X12_isBoth_9 G R a0 n M10)))))
def q_X12_isBoth (G : gS) (R : Nat → mS → Int32 → Int32 → Option (mS × Int32)) (M : mS) (a0 : Nat) : Option (mS × Int32) := o_cl (R 2 M (0 : Int32) (0 : Int32)) (fun M1 r2 => (if r2 = 0 then o_ck ((0 : Int32) = 0 ∨ (0 : Int32) = 1) (some (M1, (0 : Int32))) else q_X12_isBoth_9 G R a0 fu M1))
def q_X12_isSingle_23 (G : gS) (R : Nat → mS → Int32 → Int32 → Option (mS × Int32)) (a0 : Nat)  (M : mS)  : Option (mS × Int32) := o_ck ((0 : Int32) = 0 ∨ (0 : Int32) = 1) (some (M, (0 : Int32)))
def q_X12_isSingle_66 (G : gS) (R : Nat → mS → Int32 → Int32 → Option (mS × Int32)) (a0 : Nat)  (M : mS)  : Option (mS × Int32) := o_ck ((0 : Int32) = 0 ∨ (0 : Int32) = 1) (some (M, (0 : Int32)))
def q_X12_isSingle_103 (G : gS) (R : Nat → mS → Int32 → Int32 → Option (mS × Int32)) (a0 : Nat)  (M : mS)  : Option (mS × Int32) := o_cl (m_X12_isNamed G M a0 (14 : Int32)) (fun M1 r2 => o_ck (r2 = 0 ∨ r2 = 1) (some (M1, r2)))
def q_X12_isSingle_192 (G : gS) (R : Nat → mS → Int32 → Int32 → Option (mS × Int32)) (a0 : Nat)  (M : mS) (s0 : Int32) : Option (mS × Int32) := (if s0 = (-1 : Int32) then o_ck ((0 : Int32) = 0 ∨ (0 : Int32) = 1) (some (M, (0 : Int32))) else o_wI M a0 9 ((mI M a0 9) + (1 : Int32)) (fun M2 => o_cl (m_X12_isSum G M2 a0) (fun M3 r4 => (if r4 = 0 then o_ck ((0 : Int32) = 0 ∨ (0 : Int32) = 1) (some (M3, (0 : Int32))) else o_cl (m_X12_put G M3 a0 s0) (fun M7 r8 => o_ck ((1 : Int32) = 0 ∨ (1 : Int32) = 1) (some (M7, (1 : Int32))))))))
def q_X12_isSingle (G : gS) (R : Nat → mS → Int32 → Int32 → Option (mS × Int32)) (M : mS) (a0 : Nat) : Option (mS × Int32) := o_cl (m_X12_is G M a0 (28 : Int32)) (fun M1 r2 => (if r2 = 0 then o_cl (m_X12_isSign G M1 a0 (91 : Int32)) (fun M5 r6 => (if r6 = 0 then o_cl (m_X12_is G M5 a0 (26 : Int32)) (fun M9 r10 => (if r10 = 0 then o_cl (m_X12_is G M9 a0 (27 : Int32)) (fun M13 r14 => (if r14 = 0 then o_cl (m_X12_isSum G M13 a0) (fun M17 r18 => (if r18 = 0 then o_ck ((0 : Int32) = 0 ∨ (0 : Int32) = 1) (some (M17, (0 : Int32))) else o_cl (m_X12_isSign G M17 a0 (60 : Int32)) (fun M21 r22 => (if r22 = 0 then o_cl (m_X12_isSign G M21 a0 (62 : Int32)) (fun M25 r26 => (if r26 = 0 then o_cl (m_X12_isSign G M25 a0 (61 : Int32)) (fun M29 r30 => (if r30 = 0 then o_cl (m_X12_is G M29 a0 (300 : Int32)) (fun M33 r34 => (if r34 = 0 then o_cl (m_X12_is G M33 a0 (301 : Int32)) (fun M37 r38 => (if r38 = 0 then q_X12_isSingle_192 G R a0 M37 ((-1 : Int32)) else q_X12_isSingle_192 G R a0 M37 ((53 : Int32)))) else q_X12_isSingle_192 G R a0 M33 ((52 : Int32)))) else q_X12_isSingle_192 G R a0 M29 ((51 : Int32)))) else q_X12_isSingle_192 G R a0 M25 ((49 : Int32)))) else q_X12_isSingle_192 G R a0 M21 ((48 : Int32)))))) else q_X12_isSingle_103 G R a0 M13)) else q_X12_isSingle_103 G R a0 M9)) else o_cl (m_X12_isDeeper G M5 a0) (fun M42 r43 => (if r43 = 0 then q_X12_isSingle_66 G R a0 M42 else o_cl (R 0 M42 (0 : Int32) (0 : Int32)) (fun M46 r47 => (if r47 = 0 then q_X12_isSingle_66 G R a0 M46 else o_wI M46 a0 10 ((mI M46 a0 10) - (1 : Int32)) (fun M50 => o_cl (m_X12_eatSign G M50 a0 (93 : Int32)) (fun M51 r52 => o_ck (r52 = 0 ∨ r52 = 1) (some (M51, r52)))))))))) else o_cl (m_X12_isDeeper G M1 a0) (fun M55 r56 => (if r56 = 0 then q_X12_isSingle_23 G R a0 M55 else o_cl (R 2 M55 (0 : Int32) (0 : Int32)) (fun M59 r60 => (if r60 = 0 then q_X12_isSingle_23 G R a0 M59 else o_wI M59 a0 10 ((mI M59 a0 10) - (1 : Int32)) (fun M63 => o_cl (m_X12_put G M63 a0 (28 : Int32)) (fun M64 r65 => o_ck ((1 : Int32) = 0 ∨ (1 : Int32) = 1) (some (M64, (1 : Int32)))))))))))
set_option maxHeartbeats 4000000 in
set_option maxRecDepth 100000 in
theorem b_X12_isTest_9 {p : Program} {e : Env} {s : State} {m : MethodId} {args : Array Value} {below : List Frame} {meth : Method} {c : Code} {A : Nat → Prop} {l : Launch} {D : va_G} {cy : cyS} {G : gS} (cx : cX p s m args meth c cX12_isTest RX12 1 (some .boolean) wsX12_isTest D cy G A) {k0 n0 : Nat} {N0 : Nat} (hkn : k0 ≤ ((RM4 (N0 + 1))).cells ∧ n0 ≤ ((RM4 (N0 + 1))).slots) {M' : mS} {r : Int32} {a0 : Nat} (hL0 : a0 ∈ gL G) (hK0 : gK G a0 = 11)  {R : Nat → mS → Int32 → Int32 → Option (mS × Int32)} (hR : SC4 l D cy G a0 (RM4 N0) R)  : ∀ (n : Nat), ∀ (M : mS) (H : Heap) (locs : List Loc) (ls : Array Slot), q_X12_isTest_9 G R a0 n M = some (M', r) → wd D cy G M A s.heap H locs → lv_has ls 1 [(0, .ref a0)] → W p l e (RM4 (N0 + 1)) s m args below meth c H locs k0 n0 (MQ below (va_Qi (fun (r' : Int32) (_ : Unit) => r' = r) (fun _ t => wOut D cy G M' t) A) args s k0 n0 A) (F0 m 9 ls []) := by
  obtain ⟨hx, hb, hml, hown, hts, hr, hlocks, hK, hA, hG, hsx⟩ := id cx
  intro n
  induction n with
  | zero =>
    intro M H locs ls h w hl
    have h : none = some _ := h
    cases h
  | succ n ih =>
    intro M H locs ls h w hl
    rw [q_X12_isTest_9] at h
    refine lv_aload_n hx hb dX12_isTest_9 rfl (lv_at hl 0 rfl) ?_
    refine lv_bipush (v := (30 : Int32)) hx hb dX12_isTest_10 (by decide) ?_
    obtain ⟨M1, r2, y3, h⟩ := x_cl h
    refine r_callVi (As := [.int ((30 : Int32))]) (rest := []) cx w hkn hl.1 (k_X12_eat hG hL0 hK0 y3) (cwV 1 hts gX12_isTest_X12_eat rfl rfl rfl (by decide +kernel) (rm_lo4 (Nat.le_of_ble_eq_true rfl) (Nat.le_of_ble_eq_true rfl))) hL0 hK0 (by decide) rfl rfl rfl (Nat.le_of_ble_eq_true rfl) dX12_isTest_12 (fun H locs w => ?_)
    refine lv_if_eq (tgt := 36) hx hb dX12_isTest_15 (by decide) (fun k4 => ?_) (fun k4 => ?_)
    · have h := x_t h k4
      refine lv_iconst (v := (1 : Int32)) hx hb dX12_isTest_36 (by decide) ?_
      obtain ⟨z5, h⟩ := x_ck h
      exact r_zret cx w z5 h dX12_isTest_37
    · have h := x_f h k4
      refine lv_aload_n hx hb dX12_isTest_18 rfl (lv_at hl 0 rfl) ?_
      obtain ⟨M6, r7, y8, h⟩ := x_cl h
      refine r_callVi (As := []) (rest := []) cx w hkn hl.1 (hR.2.1 _ _ _ _ _ y8) (cwV 0 hts gX12_isTest_X12_isBoth rfl rfl rfl (by decide +kernel) (rm_up4 (by decide))) hL0 hK0 (by decide) rfl rfl rfl (Nat.le_of_ble_eq_true rfl) dX12_isTest_19 (fun H locs w => ?_)
      refine lv_if_ne (tgt := 27) hx hb dX12_isTest_22 (by decide) (fun k9 => ?_) (fun k9 => ?_)
      · have h := x_f h k9
        refine lv_aload_n hx hb dX12_isTest_27 rfl (lv_at hl 0 rfl) ?_
        refine lv_bipush (v := (30 : Int32)) hx hb dX12_isTest_28 (by decide) ?_
        obtain ⟨M10, r11, y12, h⟩ := x_cl h
        refine r_callVv (As := [.int ((30 : Int32))]) (rest := []) cx w hkn hl.1 (k_X12_put hG hL0 hK0 y12) (cwV 1 hts gX12_isTest_X12_put rfl rfl rfl (by decide +kernel) (rm_lo4 (Nat.le_of_ble_eq_true rfl) (Nat.le_of_ble_eq_true rfl))) hL0 hK0 (by decide) rfl rfl rfl (Nat.le_of_ble_eq_true rfl) dX12_isTest_30 (fun H locs w => ?_)
        refine lv_goto (tgt := 9) hx hb dX12_isTest_33 (by decide) ?_
        exact ih M10 H locs ls h w (lv_sub hl [0] rfl)
      · have h := x_t h k9
        refine lv_iconst (v := (0 : Int32)) hx hb dX12_isTest_25 (by decide) ?_
        obtain ⟨z13, h⟩ := x_ck h
        exact r_zret cx w z13 h dX12_isTest_26
set_option maxHeartbeats 4000000 in
set_option maxRecDepth 100000 in
theorem kq_X12_isTest {l : Launch} {D : va_G} {cy : cyS} {G : gS} {M M' : mS} {r : Int32} {a0 : Nat} (hG : wt G) (hL0 : a0 ∈ gL G) (hK0 : gK G a0 = 11) {N0 : Nat} {R : Nat → mS → Int32 → Int32 → Option (mS × Int32)} (hR : SC4 l D cy G a0 (RM4 N0) R) (h : q_X12_isTest G R M a0 = some (M', r)) : ctI l yX12_isTest wsX12_isTest (RM4 (N0 + 1)) D cy G M [.ref a0] M' r := by
  unfold q_X12_isTest at h
  refine ctI_of (cc := cX12_isTest) (nL := 1) (ret := (some .boolean)) (lv := [(0, .ref a0)]) hG (by decide) rfl ⟨rfl, rfl⟩ (Nat.le_of_ble_eq_true rfl) rfl ?_
  intro p e s m args below meth c A ls cx w hl
  obtain ⟨hx, hb, hml, hown, hts, hr, hlocks, hK, hA, -, hsx⟩ := id cx
  have hkn : 0 ≤ ((RM4 (N0 + 1))).cells ∧ 0 ≤ ((RM4 (N0 + 1))).slots := ⟨Nat.zero_le _, Nat.zero_le _⟩
  refine lv_aload_n hx hb dX12_isTest_0 rfl (lv_at hl 0 rfl) ?_
  obtain ⟨M1, r2, y3, h⟩ := x_cl h
  refine r_callVi (As := []) (rest := []) cx w hkn hl.1 (hR.2.1 _ _ _ _ _ y3) (cwV 0 hts gX12_isTest_X12_isBoth rfl rfl rfl (by decide +kernel) (rm_up4 (by decide))) hL0 hK0 (by decide) rfl rfl rfl (Nat.le_of_ble_eq_true rfl) dX12_isTest_1 (fun H locs w => ?_)
  refine lv_if_ne (tgt := 9) hx hb dX12_isTest_4 (by decide) (fun k4 => ?_) (fun k4 => ?_)
  · have h := x_f h k4
    exact b_X12_isTest_9 cx hkn hL0 hK0 hR fu M1 H locs ls h w (lv_sub hl [0] rfl)
  · have h := x_t h k4
    refine lv_iconst (v := (0 : Int32)) hx hb dX12_isTest_7 (by decide) ?_
    obtain ⟨z5, h⟩ := x_ck h
    exact r_zret cx w z5 h dX12_isTest_8
set_option maxHeartbeats 4000000 in
set_option maxRecDepth 100000 in
theorem b_X12_isBoth_9 {p : Program} {e : Env} {s : State} {m : MethodId} {args : Array Value} {below : List Frame} {meth : Method} {c : Code} {A : Nat → Prop} {l : Launch} {D : va_G} {cy : cyS} {G : gS} (cx : cX p s m args meth c cX12_isBoth RX12 1 (some .boolean) wsX12_isBoth D cy G A) {k0 n0 : Nat} {N0 : Nat} (hkn : k0 ≤ ((RM4 (N0 + 1))).cells ∧ n0 ≤ ((RM4 (N0 + 1))).slots) {M' : mS} {r : Int32} {a0 : Nat} (hL0 : a0 ∈ gL G) (hK0 : gK G a0 = 11)  {R : Nat → mS → Int32 → Int32 → Option (mS × Int32)} (hR : SC4 l D cy G a0 (RM4 N0) R)  : ∀ (n : Nat), ∀ (M : mS) (H : Heap) (locs : List Loc) (ls : Array Slot), q_X12_isBoth_9 G R a0 n M = some (M', r) → wd D cy G M A s.heap H locs → lv_has ls 1 [(0, .ref a0)] → W p l e (RM4 (N0 + 1)) s m args below meth c H locs k0 n0 (MQ below (va_Qi (fun (r' : Int32) (_ : Unit) => r' = r) (fun _ t => wOut D cy G M' t) A) args s k0 n0 A) (F0 m 9 ls []) := by
  obtain ⟨hx, hb, hml, hown, hts, hr, hlocks, hK, hA, hG, hsx⟩ := id cx
  intro n
  induction n with
  | zero =>
    intro M H locs ls h w hl
    have h : none = some _ := h
    cases h
  | succ n ih =>
    intro M H locs ls h w hl
    rw [q_X12_isBoth_9] at h
    refine lv_aload_n hx hb dX12_isBoth_9 rfl (lv_at hl 0 rfl) ?_
    refine lv_bipush (v := (29 : Int32)) hx hb dX12_isBoth_10 (by decide) ?_
    obtain ⟨M1, r2, y3, h⟩ := x_cl h
    refine r_callVi (As := [.int ((29 : Int32))]) (rest := []) cx w hkn hl.1 (k_X12_eat hG hL0 hK0 y3) (cwV 1 hts gX12_isBoth_X12_eat rfl rfl rfl (by decide +kernel) (rm_lo4 (Nat.le_of_ble_eq_true rfl) (Nat.le_of_ble_eq_true rfl))) hL0 hK0 (by decide) rfl rfl rfl (Nat.le_of_ble_eq_true rfl) dX12_isBoth_12 (fun H locs w => ?_)
    refine lv_if_eq (tgt := 36) hx hb dX12_isBoth_15 (by decide) (fun k4 => ?_) (fun k4 => ?_)
    · have h := x_t h k4
      refine lv_iconst (v := (1 : Int32)) hx hb dX12_isBoth_36 (by decide) ?_
      obtain ⟨z5, h⟩ := x_ck h
      exact r_zret cx w z5 h dX12_isBoth_37
    · have h := x_f h k4
      refine lv_aload_n hx hb dX12_isBoth_18 rfl (lv_at hl 0 rfl) ?_
      obtain ⟨M6, r7, y8, h⟩ := x_cl h
      refine r_callVi (As := []) (rest := []) cx w hkn hl.1 (hR.2.2 _ _ _ _ _ y8) (cwV 0 hts gX12_isBoth_X12_isSingle rfl rfl rfl (by decide +kernel) (rm_up4 (by decide))) hL0 hK0 (by decide) rfl rfl rfl (Nat.le_of_ble_eq_true rfl) dX12_isBoth_19 (fun H locs w => ?_)
      refine lv_if_ne (tgt := 27) hx hb dX12_isBoth_22 (by decide) (fun k9 => ?_) (fun k9 => ?_)
      · have h := x_f h k9
        refine lv_aload_n hx hb dX12_isBoth_27 rfl (lv_at hl 0 rfl) ?_
        refine lv_bipush (v := (29 : Int32)) hx hb dX12_isBoth_28 (by decide) ?_
        obtain ⟨M10, r11, y12, h⟩ := x_cl h
        refine r_callVv (As := [.int ((29 : Int32))]) (rest := []) cx w hkn hl.1 (k_X12_put hG hL0 hK0 y12) (cwV 1 hts gX12_isBoth_X12_put rfl rfl rfl (by decide +kernel) (rm_lo4 (Nat.le_of_ble_eq_true rfl) (Nat.le_of_ble_eq_true rfl))) hL0 hK0 (by decide) rfl rfl rfl (Nat.le_of_ble_eq_true rfl) dX12_isBoth_30 (fun H locs w => ?_)
        refine lv_goto (tgt := 9) hx hb dX12_isBoth_33 (by decide) ?_
        exact ih M10 H locs ls h w (lv_sub hl [0] rfl)
      · have h := x_t h k9
        refine lv_iconst (v := (0 : Int32)) hx hb dX12_isBoth_25 (by decide) ?_
        obtain ⟨z13, h⟩ := x_ck h
        exact r_zret cx w z13 h dX12_isBoth_26
set_option maxHeartbeats 4000000 in
set_option maxRecDepth 100000 in
theorem kq_X12_isBoth {l : Launch} {D : va_G} {cy : cyS} {G : gS} {M M' : mS} {r : Int32} {a0 : Nat} (hG : wt G) (hL0 : a0 ∈ gL G) (hK0 : gK G a0 = 11) {N0 : Nat} {R : Nat → mS → Int32 → Int32 → Option (mS × Int32)} (hR : SC4 l D cy G a0 (RM4 N0) R) (h : q_X12_isBoth G R M a0 = some (M', r)) : ctI l yX12_isBoth wsX12_isBoth (RM4 (N0 + 1)) D cy G M [.ref a0] M' r := by
  unfold q_X12_isBoth at h
  refine ctI_of (cc := cX12_isBoth) (nL := 1) (ret := (some .boolean)) (lv := [(0, .ref a0)]) hG (by decide) rfl ⟨rfl, rfl⟩ (Nat.le_of_ble_eq_true rfl) rfl ?_
  intro p e s m args below meth c A ls cx w hl
  obtain ⟨hx, hb, hml, hown, hts, hr, hlocks, hK, hA, -, hsx⟩ := id cx
  have hkn : 0 ≤ ((RM4 (N0 + 1))).cells ∧ 0 ≤ ((RM4 (N0 + 1))).slots := ⟨Nat.zero_le _, Nat.zero_le _⟩
  refine lv_aload_n hx hb dX12_isBoth_0 rfl (lv_at hl 0 rfl) ?_
  obtain ⟨M1, r2, y3, h⟩ := x_cl h
  refine r_callVi (As := []) (rest := []) cx w hkn hl.1 (hR.2.2 _ _ _ _ _ y3) (cwV 0 hts gX12_isBoth_X12_isSingle rfl rfl rfl (by decide +kernel) (rm_up4 (by decide))) hL0 hK0 (by decide) rfl rfl rfl (Nat.le_of_ble_eq_true rfl) dX12_isBoth_1 (fun H locs w => ?_)
  refine lv_if_ne (tgt := 9) hx hb dX12_isBoth_4 (by decide) (fun k4 => ?_) (fun k4 => ?_)
  · have h := x_f h k4
    exact b_X12_isBoth_9 cx hkn hL0 hK0 hR fu M1 H locs ls h w (lv_sub hl [0] rfl)
  · have h := x_t h k4
    refine lv_iconst (v := (0 : Int32)) hx hb dX12_isBoth_7 (by decide) ?_
    obtain ⟨z5, h⟩ := x_ck h
    exact r_zret cx w z5 h dX12_isBoth_8
set_option maxHeartbeats 4000000 in
set_option maxRecDepth 100000 in
theorem b_X12_isSingle_23 {p : Program} {e : Env} {s : State} {m : MethodId} {args : Array Value} {below : List Frame} {meth : Method} {c : Code} {A : Nat → Prop} {l : Launch} {D : va_G} {cy : cyS} {G : gS} (cx : cX p s m args meth c cX12_isSingle RX12 2 (some .boolean) wsX12_isSingle D cy G A) {k0 n0 : Nat} {N0 : Nat} (hkn : k0 ≤ ((RM4 (N0 + 1))).cells ∧ n0 ≤ ((RM4 (N0 + 1))).slots) {M' : mS} {r : Int32} {a0 : Nat} (hL0 : a0 ∈ gL G) (hK0 : gK G a0 = 11)  {R : Nat → mS → Int32 → Int32 → Option (mS × Int32)} (hR : SC4 l D cy G a0 (RM4 N0) R)  : ∀ (M : mS) (H : Heap) (locs : List Loc) (ls : Array Slot), q_X12_isSingle_23 G R a0 M = some (M', r) → wd D cy G M A s.heap H locs → lv_has ls 2 [] → W p l e (RM4 (N0 + 1)) s m args below meth c H locs k0 n0 (MQ below (va_Qi (fun (r' : Int32) (_ : Unit) => r' = r) (fun _ t => wOut D cy G M' t) A) args s k0 n0 A) (F0 m 23 ls []) := by
  obtain ⟨hx, hb, hml, hown, hts, hr, hlocks, hK, hA, hG, hsx⟩ := id cx
  intro M H locs ls h w hl
  unfold q_X12_isSingle_23 at h
  refine lv_iconst (v := (0 : Int32)) hx hb dX12_isSingle_23 (by decide) ?_
  obtain ⟨z1, h⟩ := x_ck h
  exact r_zret cx w z1 h dX12_isSingle_24
set_option maxHeartbeats 4000000 in
set_option maxRecDepth 100000 in
theorem b_X12_isSingle_66 {p : Program} {e : Env} {s : State} {m : MethodId} {args : Array Value} {below : List Frame} {meth : Method} {c : Code} {A : Nat → Prop} {l : Launch} {D : va_G} {cy : cyS} {G : gS} (cx : cX p s m args meth c cX12_isSingle RX12 2 (some .boolean) wsX12_isSingle D cy G A) {k0 n0 : Nat} {N0 : Nat} (hkn : k0 ≤ ((RM4 (N0 + 1))).cells ∧ n0 ≤ ((RM4 (N0 + 1))).slots) {M' : mS} {r : Int32} {a0 : Nat} (hL0 : a0 ∈ gL G) (hK0 : gK G a0 = 11)  {R : Nat → mS → Int32 → Int32 → Option (mS × Int32)} (hR : SC4 l D cy G a0 (RM4 N0) R)  : ∀ (M : mS) (H : Heap) (locs : List Loc) (ls : Array Slot), q_X12_isSingle_66 G R a0 M = some (M', r) → wd D cy G M A s.heap H locs → lv_has ls 2 [] → W p l e (RM4 (N0 + 1)) s m args below meth c H locs k0 n0 (MQ below (va_Qi (fun (r' : Int32) (_ : Unit) => r' = r) (fun _ t => wOut D cy G M' t) A) args s k0 n0 A) (F0 m 66 ls []) := by
  obtain ⟨hx, hb, hml, hown, hts, hr, hlocks, hK, hA, hG, hsx⟩ := id cx
  intro M H locs ls h w hl
  unfold q_X12_isSingle_66 at h
  refine lv_iconst (v := (0 : Int32)) hx hb dX12_isSingle_66 (by decide) ?_
  obtain ⟨z1, h⟩ := x_ck h
  exact r_zret cx w z1 h dX12_isSingle_67
set_option maxHeartbeats 4000000 in
set_option maxRecDepth 100000 in
theorem b_X12_isSingle_103 {p : Program} {e : Env} {s : State} {m : MethodId} {args : Array Value} {below : List Frame} {meth : Method} {c : Code} {A : Nat → Prop} {l : Launch} {D : va_G} {cy : cyS} {G : gS} (cx : cX p s m args meth c cX12_isSingle RX12 2 (some .boolean) wsX12_isSingle D cy G A) {k0 n0 : Nat} {N0 : Nat} (hkn : k0 ≤ ((RM4 (N0 + 1))).cells ∧ n0 ≤ ((RM4 (N0 + 1))).slots) {M' : mS} {r : Int32} {a0 : Nat} (hL0 : a0 ∈ gL G) (hK0 : gK G a0 = 11)  {R : Nat → mS → Int32 → Int32 → Option (mS × Int32)} (hR : SC4 l D cy G a0 (RM4 N0) R)  : ∀ (M : mS) (H : Heap) (locs : List Loc) (ls : Array Slot), q_X12_isSingle_103 G R a0 M = some (M', r) → wd D cy G M A s.heap H locs → lv_has ls 2 [(0, .ref a0)] → W p l e (RM4 (N0 + 1)) s m args below meth c H locs k0 n0 (MQ below (va_Qi (fun (r' : Int32) (_ : Unit) => r' = r) (fun _ t => wOut D cy G M' t) A) args s k0 n0 A) (F0 m 103 ls []) := by
  obtain ⟨hx, hb, hml, hown, hts, hr, hlocks, hK, hA, hG, hsx⟩ := id cx
  intro M H locs ls h w hl
  unfold q_X12_isSingle_103 at h
  refine lv_aload_n hx hb dX12_isSingle_103 rfl (lv_at hl 0 rfl) ?_
  refine lv_bipush (v := (14 : Int32)) hx hb dX12_isSingle_104 (by decide) ?_
  obtain ⟨M1, r2, y3, h⟩ := x_cl h
  refine r_callVi (As := [.int ((14 : Int32))]) (rest := []) cx w hkn hl.1 (k_X12_isNamed hG hL0 hK0 y3) (cwV 1 hts gX12_isSingle_X12_isNamed rfl rfl rfl (by decide +kernel) (rm_lo4 (Nat.le_of_ble_eq_true rfl) (Nat.le_of_ble_eq_true rfl))) hL0 hK0 (by decide) rfl rfl rfl (Nat.le_of_ble_eq_true rfl) dX12_isSingle_106 (fun H locs w => ?_)
  obtain ⟨z4, h⟩ := x_ck h
  exact r_zret cx w z4 h dX12_isSingle_109
set_option maxHeartbeats 4000000 in
set_option maxRecDepth 100000 in
theorem b_X12_isSingle_192 {p : Program} {e : Env} {s : State} {m : MethodId} {args : Array Value} {below : List Frame} {meth : Method} {c : Code} {A : Nat → Prop} {l : Launch} {D : va_G} {cy : cyS} {G : gS} (cx : cX p s m args meth c cX12_isSingle RX12 2 (some .boolean) wsX12_isSingle D cy G A) {k0 n0 : Nat} {N0 : Nat} (hkn : k0 ≤ ((RM4 (N0 + 1))).cells ∧ n0 ≤ ((RM4 (N0 + 1))).slots) {M' : mS} {r : Int32} {a0 : Nat} (hL0 : a0 ∈ gL G) (hK0 : gK G a0 = 11)  {R : Nat → mS → Int32 → Int32 → Option (mS × Int32)} (hR : SC4 l D cy G a0 (RM4 N0) R)  : ∀ (M : mS) (s0 : Int32) (H : Heap) (locs : List Loc) (ls : Array Slot), q_X12_isSingle_192 G R a0 M s0 = some (M', r) → wd D cy G M A s.heap H locs → lv_has ls 2 [(0, .ref a0)] → W p l e (RM4 (N0 + 1)) s m args below meth c H locs k0 n0 (MQ below (va_Qi (fun (r' : Int32) (_ : Unit) => r' = r) (fun _ t => wOut D cy G M' t) A) args s k0 n0 A) (F0 m 192 ls [.int s0]) := by
  obtain ⟨hx, hb, hml, hown, hts, hr, hlocks, hK, hA, hG, hsx⟩ := id cx
  intro M s0 H locs ls h w hl
  unfold q_X12_isSingle_192 at h
  refine lv_istore_n (lv' := [(1, .int s0), (0, .ref a0)]) hx hb dX12_isSingle_192 rfl hl (by decide) rfl (fun ls hl => ?_)
  refine lv_iload_n hx hb dX12_isSingle_193 rfl (lv_at hl 0 rfl) ?_
  refine lv_iconst (v := (-1 : Int32)) hx hb dX12_isSingle_194 (by decide) ?_
  refine lv_icmp_ne (tgt := 200) hx hb dX12_isSingle_195 (by decide) (fun k1 => ?_) (fun k1 => ?_)
  · have h := x_f h k1
    refine lv_aload_n hx hb dX12_isSingle_200 rfl (lv_at hl 1 rfl) ?_
    refine lv_dup hx hb dX12_isSingle_201 rfl ?_
    refine r_getI (k := 9) (v := .int (mI M a0 9)) cx w hL0 hK0 (by decide) rfl wi_X12_isSingle_X12 (by decide) rfl (List.mem_of_getElem? (i := 2) rfl) dX12_isSingle_202 ?_
    refine lv_iconst (v := (1 : Int32)) hx hb dX12_isSingle_205 (by decide) ?_
    refine lv_iadd hx hb dX12_isSingle_206 ?_
    obtain ⟨M2, eM2, h⟩ := x_wI h
    refine r_putI (k := 9) (ty := .int) cx w tyX12 tyX12_ok nmX12 hL0 hK0 (by decide) rfl wi_X12_isSingle_X12 (by decide) rfl rfl rfl rfl st_11_9 (ln_11 _ _ (by decide)) (List.mem_of_getElem? (i := 2) rfl) dX12_isSingle_207 eM2 (fun H locs w => ?_)
    refine lv_aload_n hx hb dX12_isSingle_210 rfl (lv_at hl 1 rfl) ?_
    obtain ⟨M3, r4, y5, h⟩ := x_cl h
    refine r_callVi (As := []) (rest := []) cx w hkn hl.1 (k_X12_isSum hG hL0 hK0 y5) (cwV 0 hts gX12_isSingle_X12_isSum rfl rfl rfl (by decide +kernel) (rm_lo4 (Nat.le_of_ble_eq_true rfl) (Nat.le_of_ble_eq_true rfl))) hL0 hK0 (by decide) rfl rfl rfl (Nat.le_of_ble_eq_true rfl) dX12_isSingle_211 (fun H locs w => ?_)
    refine lv_if_ne (tgt := 219) hx hb dX12_isSingle_214 (by decide) (fun k6 => ?_) (fun k6 => ?_)
    · have h := x_f h k6
      refine lv_aload_n hx hb dX12_isSingle_219 rfl (lv_at hl 1 rfl) ?_
      refine lv_iload_n hx hb dX12_isSingle_220 rfl (lv_at hl 0 rfl) ?_
      obtain ⟨M7, r8, y9, h⟩ := x_cl h
      refine r_callVv (As := [.int s0]) (rest := []) cx w hkn hl.1 (k_X12_put hG hL0 hK0 y9) (cwV 1 hts gX12_isSingle_X12_put rfl rfl rfl (by decide +kernel) (rm_lo4 (Nat.le_of_ble_eq_true rfl) (Nat.le_of_ble_eq_true rfl))) hL0 hK0 (by decide) rfl rfl rfl (Nat.le_of_ble_eq_true rfl) dX12_isSingle_221 (fun H locs w => ?_)
      refine lv_iconst (v := (1 : Int32)) hx hb dX12_isSingle_224 (by decide) ?_
      obtain ⟨z10, h⟩ := x_ck h
      exact r_zret cx w z10 h dX12_isSingle_225
    · have h := x_t h k6
      refine lv_iconst (v := (0 : Int32)) hx hb dX12_isSingle_217 (by decide) ?_
      obtain ⟨z11, h⟩ := x_ck h
      exact r_zret cx w z11 h dX12_isSingle_218
  · have h := x_t h k1
    refine lv_iconst (v := (0 : Int32)) hx hb dX12_isSingle_198 (by decide) ?_
    obtain ⟨z12, h⟩ := x_ck h
    exact r_zret cx w z12 h dX12_isSingle_199
set_option maxHeartbeats 4000000 in
set_option maxRecDepth 100000 in
theorem kq_X12_isSingle {l : Launch} {D : va_G} {cy : cyS} {G : gS} {M M' : mS} {r : Int32} {a0 : Nat} (hG : wt G) (hL0 : a0 ∈ gL G) (hK0 : gK G a0 = 11) {N0 : Nat} {R : Nat → mS → Int32 → Int32 → Option (mS × Int32)} (hR : SC4 l D cy G a0 (RM4 N0) R) (h : q_X12_isSingle G R M a0 = some (M', r)) : ctI l yX12_isSingle wsX12_isSingle (RM4 (N0 + 1)) D cy G M [.ref a0] M' r := by
  unfold q_X12_isSingle at h
  refine ctI_of (cc := cX12_isSingle) (nL := 2) (ret := (some .boolean)) (lv := [(0, .ref a0)]) hG (by decide) rfl ⟨rfl, rfl⟩ (Nat.le_of_ble_eq_true rfl) rfl ?_
  intro p e s m args below meth c A ls cx w hl
  obtain ⟨hx, hb, hml, hown, hts, hr, hlocks, hK, hA, -, hsx⟩ := id cx
  have hkn : 0 ≤ ((RM4 (N0 + 1))).cells ∧ 0 ≤ ((RM4 (N0 + 1))).slots := ⟨Nat.zero_le _, Nat.zero_le _⟩
  refine lv_aload_n hx hb dX12_isSingle_0 rfl (lv_at hl 0 rfl) ?_
  refine lv_bipush (v := (28 : Int32)) hx hb dX12_isSingle_1 (by decide) ?_
  obtain ⟨M1, r2, y3, h⟩ := x_cl h
  refine r_callVi (As := [.int ((28 : Int32))]) (rest := []) cx w hkn hl.1 (k_X12_is hG hL0 hK0 y3) (cwV 1 hts gX12_isSingle_X12_is rfl rfl rfl (by decide +kernel) (rm_lo4 (Nat.le_of_ble_eq_true rfl) (Nat.le_of_ble_eq_true rfl))) hL0 hK0 (by decide) rfl rfl rfl (Nat.le_of_ble_eq_true rfl) dX12_isSingle_3 (fun H locs w => ?_)
  refine lv_if_eq (tgt := 43) hx hb dX12_isSingle_6 (by decide) (fun k4 => ?_) (fun k4 => ?_)
  · have h := x_t h k4
    refine lv_aload_n hx hb dX12_isSingle_43 rfl (lv_at hl 0 rfl) ?_
    refine lv_bipush (v := (91 : Int32)) hx hb dX12_isSingle_44 (by decide) ?_
    obtain ⟨M5, r6, y7, h⟩ := x_cl h
    refine r_callVi (As := [.int ((91 : Int32))]) (rest := []) cx w hkn hl.1 (k_X12_isSign hG hL0 hK0 y7) (cwV 1 hts gX12_isSingle_X12_isSign rfl rfl rfl (by decide +kernel) (rm_lo4 (Nat.le_of_ble_eq_true rfl) (Nat.le_of_ble_eq_true rfl))) hL0 hK0 (by decide) rfl rfl rfl (Nat.le_of_ble_eq_true rfl) dX12_isSingle_46 (fun H locs w => ?_)
    refine lv_if_eq (tgt := 85) hx hb dX12_isSingle_49 (by decide) (fun k8 => ?_) (fun k8 => ?_)
    · have h := x_t h k8
      refine lv_aload_n hx hb dX12_isSingle_85 rfl (lv_at hl 0 rfl) ?_
      refine lv_bipush (v := (26 : Int32)) hx hb dX12_isSingle_86 (by decide) ?_
      obtain ⟨M9, r10, y11, h⟩ := x_cl h
      refine r_callVi (As := [.int ((26 : Int32))]) (rest := []) cx w hkn hl.1 (k_X12_is hG hL0 hK0 y11) (cwV 1 hts gX12_isSingle_X12_is rfl rfl rfl (by decide +kernel) (rm_lo4 (Nat.le_of_ble_eq_true rfl) (Nat.le_of_ble_eq_true rfl))) hL0 hK0 (by decide) rfl rfl rfl (Nat.le_of_ble_eq_true rfl) dX12_isSingle_88 (fun H locs w => ?_)
      refine lv_if_ne (tgt := 103) hx hb dX12_isSingle_91 (by decide) (fun k12 => ?_) (fun k12 => ?_)
      · have h := x_f h k12
        exact b_X12_isSingle_103 cx hkn hL0 hK0 hR M9 H locs ls h w (lv_sub hl [0] rfl)
      · have h := x_t h k12
        refine lv_aload_n hx hb dX12_isSingle_94 rfl (lv_at hl 0 rfl) ?_
        refine lv_bipush (v := (27 : Int32)) hx hb dX12_isSingle_95 (by decide) ?_
        obtain ⟨M13, r14, y15, h⟩ := x_cl h
        refine r_callVi (As := [.int ((27 : Int32))]) (rest := []) cx w hkn hl.1 (k_X12_is hG hL0 hK0 y15) (cwV 1 hts gX12_isSingle_X12_is rfl rfl rfl (by decide +kernel) (rm_lo4 (Nat.le_of_ble_eq_true rfl) (Nat.le_of_ble_eq_true rfl))) hL0 hK0 (by decide) rfl rfl rfl (Nat.le_of_ble_eq_true rfl) dX12_isSingle_97 (fun H locs w => ?_)
        refine lv_if_eq (tgt := 110) hx hb dX12_isSingle_100 (by decide) (fun k16 => ?_) (fun k16 => ?_)
        · have h := x_t h k16
          refine lv_aload_n hx hb dX12_isSingle_110 rfl (lv_at hl 0 rfl) ?_
          obtain ⟨M17, r18, y19, h⟩ := x_cl h
          refine r_callVi (As := []) (rest := []) cx w hkn hl.1 (k_X12_isSum hG hL0 hK0 y19) (cwV 0 hts gX12_isSingle_X12_isSum rfl rfl rfl (by decide +kernel) (rm_lo4 (Nat.le_of_ble_eq_true rfl) (Nat.le_of_ble_eq_true rfl))) hL0 hK0 (by decide) rfl rfl rfl (Nat.le_of_ble_eq_true rfl) dX12_isSingle_111 (fun H locs w => ?_)
          refine lv_if_ne (tgt := 119) hx hb dX12_isSingle_114 (by decide) (fun k20 => ?_) (fun k20 => ?_)
          · have h := x_f h k20
            refine lv_aload_n hx hb dX12_isSingle_119 rfl (lv_at hl 0 rfl) ?_
            refine lv_bipush (v := (60 : Int32)) hx hb dX12_isSingle_120 (by decide) ?_
            obtain ⟨M21, r22, y23, h⟩ := x_cl h
            refine r_callVi (As := [.int ((60 : Int32))]) (rest := []) cx w hkn hl.1 (k_X12_isSign hG hL0 hK0 y23) (cwV 1 hts gX12_isSingle_X12_isSign rfl rfl rfl (by decide +kernel) (rm_lo4 (Nat.le_of_ble_eq_true rfl) (Nat.le_of_ble_eq_true rfl))) hL0 hK0 (by decide) rfl rfl rfl (Nat.le_of_ble_eq_true rfl) dX12_isSingle_122 (fun H locs w => ?_)
            refine lv_if_eq (tgt := 133) hx hb dX12_isSingle_125 (by decide) (fun k24 => ?_) (fun k24 => ?_)
            · have h := x_t h k24
              refine lv_aload_n hx hb dX12_isSingle_133 rfl (lv_at hl 0 rfl) ?_
              refine lv_bipush (v := (62 : Int32)) hx hb dX12_isSingle_134 (by decide) ?_
              obtain ⟨M25, r26, y27, h⟩ := x_cl h
              refine r_callVi (As := [.int ((62 : Int32))]) (rest := []) cx w hkn hl.1 (k_X12_isSign hG hL0 hK0 y27) (cwV 1 hts gX12_isSingle_X12_isSign rfl rfl rfl (by decide +kernel) (rm_lo4 (Nat.le_of_ble_eq_true rfl) (Nat.le_of_ble_eq_true rfl))) hL0 hK0 (by decide) rfl rfl rfl (Nat.le_of_ble_eq_true rfl) dX12_isSingle_136 (fun H locs w => ?_)
              refine lv_if_eq (tgt := 147) hx hb dX12_isSingle_139 (by decide) (fun k28 => ?_) (fun k28 => ?_)
              · have h := x_t h k28
                refine lv_aload_n hx hb dX12_isSingle_147 rfl (lv_at hl 0 rfl) ?_
                refine lv_bipush (v := (61 : Int32)) hx hb dX12_isSingle_148 (by decide) ?_
                obtain ⟨M29, r30, y31, h⟩ := x_cl h
                refine r_callVi (As := [.int ((61 : Int32))]) (rest := []) cx w hkn hl.1 (k_X12_isSign hG hL0 hK0 y31) (cwV 1 hts gX12_isSingle_X12_isSign rfl rfl rfl (by decide +kernel) (rm_lo4 (Nat.le_of_ble_eq_true rfl) (Nat.le_of_ble_eq_true rfl))) hL0 hK0 (by decide) rfl rfl rfl (Nat.le_of_ble_eq_true rfl) dX12_isSingle_150 (fun H locs w => ?_)
                refine lv_if_eq (tgt := 161) hx hb dX12_isSingle_153 (by decide) (fun k32 => ?_) (fun k32 => ?_)
                · have h := x_t h k32
                  refine lv_aload_n hx hb dX12_isSingle_161 rfl (lv_at hl 0 rfl) ?_
                  refine lv_sipush (v := (300 : Int32)) hx hb dX12_isSingle_162 (by decide) ?_
                  obtain ⟨M33, r34, y35, h⟩ := x_cl h
                  refine r_callVi (As := [.int ((300 : Int32))]) (rest := []) cx w hkn hl.1 (k_X12_is hG hL0 hK0 y35) (cwV 1 hts gX12_isSingle_X12_is rfl rfl rfl (by decide +kernel) (rm_lo4 (Nat.le_of_ble_eq_true rfl) (Nat.le_of_ble_eq_true rfl))) hL0 hK0 (by decide) rfl rfl rfl (Nat.le_of_ble_eq_true rfl) dX12_isSingle_165 (fun H locs w => ?_)
                  refine lv_if_eq (tgt := 176) hx hb dX12_isSingle_168 (by decide) (fun k36 => ?_) (fun k36 => ?_)
                  · have h := x_t h k36
                    refine lv_aload_n hx hb dX12_isSingle_176 rfl (lv_at hl 0 rfl) ?_
                    refine lv_sipush (v := (301 : Int32)) hx hb dX12_isSingle_177 (by decide) ?_
                    obtain ⟨M37, r38, y39, h⟩ := x_cl h
                    refine r_callVi (As := [.int ((301 : Int32))]) (rest := []) cx w hkn hl.1 (k_X12_is hG hL0 hK0 y39) (cwV 1 hts gX12_isSingle_X12_is rfl rfl rfl (by decide +kernel) (rm_lo4 (Nat.le_of_ble_eq_true rfl) (Nat.le_of_ble_eq_true rfl))) hL0 hK0 (by decide) rfl rfl rfl (Nat.le_of_ble_eq_true rfl) dX12_isSingle_180 (fun H locs w => ?_)
                    refine lv_if_eq (tgt := 191) hx hb dX12_isSingle_183 (by decide) (fun k40 => ?_) (fun k40 => ?_)
                    · have h := x_t h k40
                      refine lv_iconst (v := (-1 : Int32)) hx hb dX12_isSingle_191 (by decide) ?_
                      exact b_X12_isSingle_192 cx hkn hL0 hK0 hR M37 ((-1 : Int32)) H locs ls h w (lv_sub hl [0] rfl)
                    · have h := x_f h k40
                      refine lv_bipush (v := (53 : Int32)) hx hb dX12_isSingle_186 (by decide) ?_
                      refine lv_goto (tgt := 192) hx hb dX12_isSingle_188 (by decide) ?_
                      exact b_X12_isSingle_192 cx hkn hL0 hK0 hR M37 ((53 : Int32)) H locs ls h w (lv_sub hl [0] rfl)
                  · have h := x_f h k36
                    refine lv_bipush (v := (52 : Int32)) hx hb dX12_isSingle_171 (by decide) ?_
                    refine lv_goto (tgt := 192) hx hb dX12_isSingle_173 (by decide) ?_
                    exact b_X12_isSingle_192 cx hkn hL0 hK0 hR M33 ((52 : Int32)) H locs ls h w (lv_sub hl [0] rfl)
                · have h := x_f h k32
                  refine lv_bipush (v := (51 : Int32)) hx hb dX12_isSingle_156 (by decide) ?_
                  refine lv_goto (tgt := 192) hx hb dX12_isSingle_158 (by decide) ?_
                  exact b_X12_isSingle_192 cx hkn hL0 hK0 hR M29 ((51 : Int32)) H locs ls h w (lv_sub hl [0] rfl)
              · have h := x_f h k28
                refine lv_bipush (v := (49 : Int32)) hx hb dX12_isSingle_142 (by decide) ?_
                refine lv_goto (tgt := 192) hx hb dX12_isSingle_144 (by decide) ?_
                exact b_X12_isSingle_192 cx hkn hL0 hK0 hR M25 ((49 : Int32)) H locs ls h w (lv_sub hl [0] rfl)
            · have h := x_f h k24
              refine lv_bipush (v := (48 : Int32)) hx hb dX12_isSingle_128 (by decide) ?_
              refine lv_goto (tgt := 192) hx hb dX12_isSingle_130 (by decide) ?_
              exact b_X12_isSingle_192 cx hkn hL0 hK0 hR M21 ((48 : Int32)) H locs ls h w (lv_sub hl [0] rfl)
          · have h := x_t h k20
            refine lv_iconst (v := (0 : Int32)) hx hb dX12_isSingle_117 (by decide) ?_
            obtain ⟨z41, h⟩ := x_ck h
            exact r_zret cx w z41 h dX12_isSingle_118
        · have h := x_f h k16
          exact b_X12_isSingle_103 cx hkn hL0 hK0 hR M13 H locs ls h w (lv_sub hl [0] rfl)
    · have h := x_f h k8
      refine lv_aload_n hx hb dX12_isSingle_52 rfl (lv_at hl 0 rfl) ?_
      obtain ⟨M42, r43, y44, h⟩ := x_cl h
      refine r_callVi (As := []) (rest := []) cx w hkn hl.1 (k_X12_isDeeper hG hL0 hK0 y44) (cwV 0 hts gX12_isSingle_X12_isDeeper rfl rfl rfl (by decide +kernel) (rm_lo4 (Nat.le_of_ble_eq_true rfl) (Nat.le_of_ble_eq_true rfl))) hL0 hK0 (by decide) rfl rfl rfl (Nat.le_of_ble_eq_true rfl) dX12_isSingle_53 (fun H locs w => ?_)
      refine lv_if_eq (tgt := 66) hx hb dX12_isSingle_56 (by decide) (fun k45 => ?_) (fun k45 => ?_)
      · have h := x_t h k45
        exact b_X12_isSingle_66 cx hkn hL0 hK0 hR M42 H locs ls h w (lv_sub hl [] rfl)
      · have h := x_f h k45
        refine lv_aload_n hx hb dX12_isSingle_59 rfl (lv_at hl 0 rfl) ?_
        obtain ⟨M46, r47, y48, h⟩ := x_cl h
        refine r_callVi (As := []) (rest := []) cx w hkn hl.1 (hR.1 _ _ _ _ _ y48) (cwV 0 hts gX12_isSingle_X12_isTest rfl rfl rfl (by decide +kernel) (rm_up4 (by decide))) hL0 hK0 (by decide) rfl rfl rfl (Nat.le_of_ble_eq_true rfl) dX12_isSingle_60 (fun H locs w => ?_)
        refine lv_if_ne (tgt := 68) hx hb dX12_isSingle_63 (by decide) (fun k49 => ?_) (fun k49 => ?_)
        · have h := x_f h k49
          refine lv_aload_n hx hb dX12_isSingle_68 rfl (lv_at hl 0 rfl) ?_
          refine lv_dup hx hb dX12_isSingle_69 rfl ?_
          refine r_getI (k := 10) (v := .int (mI M46 a0 10)) cx w hL0 hK0 (by decide) rfl wi_X12_isSingle_X12 (by decide) rfl (List.mem_of_getElem? (i := 1) rfl) dX12_isSingle_70 ?_
          refine lv_iconst (v := (1 : Int32)) hx hb dX12_isSingle_73 (by decide) ?_
          refine lv_isub hx hb dX12_isSingle_74 ?_
          obtain ⟨M50, eM50, h⟩ := x_wI h
          refine r_putI (k := 10) (ty := .int) cx w tyX12 tyX12_ok nmX12 hL0 hK0 (by decide) rfl wi_X12_isSingle_X12 (by decide) rfl rfl rfl rfl st_11_10 (ln_11 _ _ (by decide)) (List.mem_of_getElem? (i := 1) rfl) dX12_isSingle_75 eM50 (fun H locs w => ?_)
          refine lv_aload_n hx hb dX12_isSingle_78 rfl (lv_at hl 0 rfl) ?_
          refine lv_bipush (v := (93 : Int32)) hx hb dX12_isSingle_79 (by decide) ?_
          obtain ⟨M51, r52, y53, h⟩ := x_cl h
          refine r_callVi (As := [.int ((93 : Int32))]) (rest := []) cx w hkn hl.1 (k_X12_eatSign hG hL0 hK0 y53) (cwV 1 hts gX12_isSingle_X12_eatSign rfl rfl rfl (by decide +kernel) (rm_lo4 (Nat.le_of_ble_eq_true rfl) (Nat.le_of_ble_eq_true rfl))) hL0 hK0 (by decide) rfl rfl rfl (Nat.le_of_ble_eq_true rfl) dX12_isSingle_81 (fun H locs w => ?_)
          obtain ⟨z54, h⟩ := x_ck h
          exact r_zret cx w z54 h dX12_isSingle_84
        · have h := x_t h k49
          exact b_X12_isSingle_66 cx hkn hL0 hK0 hR M46 H locs ls h w (lv_sub hl [] rfl)
  · have h := x_f h k4
    refine lv_aload_n hx hb dX12_isSingle_9 rfl (lv_at hl 0 rfl) ?_
    obtain ⟨M55, r56, y57, h⟩ := x_cl h
    refine r_callVi (As := []) (rest := []) cx w hkn hl.1 (k_X12_isDeeper hG hL0 hK0 y57) (cwV 0 hts gX12_isSingle_X12_isDeeper rfl rfl rfl (by decide +kernel) (rm_lo4 (Nat.le_of_ble_eq_true rfl) (Nat.le_of_ble_eq_true rfl))) hL0 hK0 (by decide) rfl rfl rfl (Nat.le_of_ble_eq_true rfl) dX12_isSingle_10 (fun H locs w => ?_)
    refine lv_if_eq (tgt := 23) hx hb dX12_isSingle_13 (by decide) (fun k58 => ?_) (fun k58 => ?_)
    · have h := x_t h k58
      exact b_X12_isSingle_23 cx hkn hL0 hK0 hR M55 H locs ls h w (lv_sub hl [] rfl)
    · have h := x_f h k58
      refine lv_aload_n hx hb dX12_isSingle_16 rfl (lv_at hl 0 rfl) ?_
      obtain ⟨M59, r60, y61, h⟩ := x_cl h
      refine r_callVi (As := []) (rest := []) cx w hkn hl.1 (hR.2.2 _ _ _ _ _ y61) (cwV 0 hts gX12_isSingle_X12_isSingle rfl rfl rfl (by decide +kernel) (rm_up4 (by decide))) hL0 hK0 (by decide) rfl rfl rfl (Nat.le_of_ble_eq_true rfl) dX12_isSingle_17 (fun H locs w => ?_)
      refine lv_if_ne (tgt := 25) hx hb dX12_isSingle_20 (by decide) (fun k62 => ?_) (fun k62 => ?_)
      · have h := x_f h k62
        refine lv_aload_n hx hb dX12_isSingle_25 rfl (lv_at hl 0 rfl) ?_
        refine lv_dup hx hb dX12_isSingle_26 rfl ?_
        refine r_getI (k := 10) (v := .int (mI M59 a0 10)) cx w hL0 hK0 (by decide) rfl wi_X12_isSingle_X12 (by decide) rfl (List.mem_of_getElem? (i := 1) rfl) dX12_isSingle_27 ?_
        refine lv_iconst (v := (1 : Int32)) hx hb dX12_isSingle_30 (by decide) ?_
        refine lv_isub hx hb dX12_isSingle_31 ?_
        obtain ⟨M63, eM63, h⟩ := x_wI h
        refine r_putI (k := 10) (ty := .int) cx w tyX12 tyX12_ok nmX12 hL0 hK0 (by decide) rfl wi_X12_isSingle_X12 (by decide) rfl rfl rfl rfl st_11_10 (ln_11 _ _ (by decide)) (List.mem_of_getElem? (i := 1) rfl) dX12_isSingle_32 eM63 (fun H locs w => ?_)
        refine lv_aload_n hx hb dX12_isSingle_35 rfl (lv_at hl 0 rfl) ?_
        refine lv_bipush (v := (28 : Int32)) hx hb dX12_isSingle_36 (by decide) ?_
        obtain ⟨M64, r65, y66, h⟩ := x_cl h
        refine r_callVv (As := [.int ((28 : Int32))]) (rest := []) cx w hkn hl.1 (k_X12_put hG hL0 hK0 y66) (cwV 1 hts gX12_isSingle_X12_put rfl rfl rfl (by decide +kernel) (rm_lo4 (Nat.le_of_ble_eq_true rfl) (Nat.le_of_ble_eq_true rfl))) hL0 hK0 (by decide) rfl rfl rfl (Nat.le_of_ble_eq_true rfl) dX12_isSingle_38 (fun H locs w => ?_)
        refine lv_iconst (v := (1 : Int32)) hx hb dX12_isSingle_41 (by decide) ?_
        obtain ⟨z67, h⟩ := x_ck h
        exact r_zret cx w z67 h dX12_isSingle_42
      · have h := x_t h k62
        exact b_X12_isSingle_23 cx hkn hL0 hK0 hR M59 H locs ls h w (lv_sub hl [] rfl)
def rec4 (G : gS) (a : Nat) : Nat → Nat → mS → Int32 → Int32 → Option (mS × Int32)
  | 0, _, _, _, _ => none
  | n + 1, t, M, x, y => if t = 0 then q_X12_isTest G (rec4 G a n) M a else if t = 1 then q_X12_isBoth G (rec4 G a n) M a else if t = 2 then q_X12_isSingle G (rec4 G a n) M a else none
theorem kr4 {l : Launch} {D : va_G} {cy : cyS} {G : gS} {a : Nat} (hG : wt G) (hL : a ∈ gL G) (hK : gK G a = 11) : ∀ n : Nat, SC4 l D cy G a (RM4 n) (rec4 G a n) := by
  intro n
  induction n with
  | zero => exact ⟨fun M x y M' r h => nn h, fun M x y M' r h => nn h, fun M x y M' r h => nn h⟩
  | succ n ih => exact ⟨fun M x y M' r h => kq_X12_isTest hG hL hK ih h, fun M x y M' r h => kq_X12_isBoth hG hL hK ih h, fun M x y M' r h => kq_X12_isSingle hG hL hK ih h⟩
def m_X12_isTest (G : gS) (M : mS) (a : Nat) : Option (mS × Int32) := rec4 G a 64 0 M (0 : Int32) (0 : Int32)
abbrev rmX12_isTest : Room := RM4 64
theorem k_X12_isTest {l : Launch} {D : va_G} {cy : cyS} {G : gS} {M M' : mS} {r : Int32} {a : Nat} (hG : wt G) (hL : a ∈ gL G) (hK : gK G a = 11) (h : m_X12_isTest G M a = some (M', r)) : ctI l yX12_isTest wsX12_isTest rmX12_isTest D cy G M [.ref a] M' r := ((kr4 (l := l) (D := D) (cy := cy) hG hL hK 64).1) _ _ _ _ _ h
def m_X12_isBoth (G : gS) (M : mS) (a : Nat) : Option (mS × Int32) := rec4 G a 64 1 M (0 : Int32) (0 : Int32)
abbrev rmX12_isBoth : Room := RM4 64
theorem k_X12_isBoth {l : Launch} {D : va_G} {cy : cyS} {G : gS} {M M' : mS} {r : Int32} {a : Nat} (hG : wt G) (hL : a ∈ gL G) (hK : gK G a = 11) (h : m_X12_isBoth G M a = some (M', r)) : ctI l yX12_isBoth wsX12_isBoth rmX12_isBoth D cy G M [.ref a] M' r := ((kr4 (l := l) (D := D) (cy := cy) hG hL hK 64).2.1) _ _ _ _ _ h
def m_X12_isSingle (G : gS) (M : mS) (a : Nat) : Option (mS × Int32) := rec4 G a 64 2 M (0 : Int32) (0 : Int32)
abbrev rmX12_isSingle : Room := RM4 64
theorem k_X12_isSingle {l : Launch} {D : va_G} {cy : cyS} {G : gS} {M M' : mS} {r : Int32} {a : Nat} (hG : wt G) (hL : a ∈ gL G) (hK : gK G a = 11) (h : m_X12_isSingle G M a = some (M', r)) : ctI l yX12_isSingle wsX12_isSingle rmX12_isSingle D cy G M [.ref a] M' r := ((kr4 (l := l) (D := D) (cy := cy) hG hL hK 64).2.2) _ _ _ _ _ h
-- X12_isOrderLine
theorem wi_X12_isOrderLine_X10 : ∀ w ∈ wsX100, w ∈ wsX12_isOrderLine := by decide +kernel
theorem wi_X12_isOrderLine_X12 : ∀ w ∈ wsX120, w ∈ wsX12_isOrderLine := by decide +kernel
abbrev rmX12_isOrderLine : Room := { frames := 135, cells := 0, slots := 0, locals := 7827 }
def m_X12_isOrderLine_181 (G : gS) (a0 : Nat)  (M : mS)  : Option (mS × Int32) := o_ck ((0 : Int32) = 0 ∨ (0 : Int32) = 1) (some (M, (0 : Int32)))
def m_X12_isOrderLine_165 (G : gS) (a0 : Nat)  (M : mS) (v3 : Int32) (s0 : Int32) : Option (mS × Int32) := (if s0 = 0 then m_X12_isOrderLine_181 G a0 M else o_cl (m_X12_eat G M a0 (19 : Int32)) (fun M2 r3 => (if r3 = 0 then m_X12_isOrderLine_181 G a0 M2 else o_rf (gP G a0 12) (fun q6 => o_rf (gP G q6 16) (fun q7 => o_rf (gP G a0 12) (fun q8 => o_ix v3 (gN G q7) (o_wI M2 q7 (Int32.toNatClampNeg v3) (mI M2 q8 19) (fun M10 => o_cl (m_X12_isTest G M10 a0) (fun M11 r12 => (if r12 = 0 then o_ck ((0 : Int32) = 0 ∨ (0 : Int32) = 1) (some (M11, (0 : Int32))) else o_rf (gP G a0 12) (fun q15 => o_rf (gP G q15 17) (fun q16 => o_rf (gP G a0 12) (fun q17 => o_ix v3 (gN G q16) (o_wI M11 q16 (Int32.toNatClampNeg v3) (mI M11 q17 19) (fun M19 => o_ck ((1 : Int32) = 0 ∨ (1 : Int32) = 1) (some (M19, (1 : Int32))))))))))))))))))
def m_X12_isOrderLine_128 (G : gS) (a0 : Nat)  (M : mS) (v3 : Int32) : Option (mS × Int32) := m_X12_isOrderLine_165 G a0 M v3 ((0 : Int32))
def m_X12_isOrderLine_164 (G : gS) (a0 : Nat)  (M : mS) (v3 : Int32) : Option (mS × Int32) := m_X12_isOrderLine_165 G a0 M v3 ((0 : Int32))
def m_X12_isOrderLine_160 (G : gS) (a0 : Nat)  (M : mS) (v3 : Int32) : Option (mS × Int32) := m_X12_isOrderLine_165 G a0 M v3 ((1 : Int32))
def m_X12_isOrderLine_42 (G : gS) (a0 : Nat)  (M : mS) (v1 : Int32) (v2 : Int32) : Option (mS × Int32) := o_rf (gP G a0 7) (fun q1 => o_ix (mI M a0 9) (gN G q1) (o_wI M q1 (Int32.toNatClampNeg (mI M a0 9)) (9 : Int32) (fun M3 => o_wI M3 a0 9 ((mI M3 a0 9) + (1 : Int32)) (fun M4 => o_rf (gP G a0 12) (fun q5 => o_bd ((if (20 : Int32) < (mI M4 q5 12) then (20 : Int32) else (mI M4 q5 12))) (fun x6 => o_rf (gP G a0 12) (fun q7 => o_wI M4 q7 12 ((mI M4 q7 12) + (1 : Int32)) (fun M8 => (if v1 = 0 then o_cl (m_X12_eatAs G M8 a0 (40 : Int32) (12 : Int32)) (fun M10 r11 => (if r11 = 0 then m_X12_isOrderLine_164 G a0 M10 x6 else (if v2 = 0 then m_X12_isOrderLine_160 G a0 M10 x6 else o_cl (m_X12_eatOne G M10 a0 (9 : Int32) (12 : Int32) (13 : Int32)) (fun M15 r16 => (if r16 = 0 then m_X12_isOrderLine_164 G a0 M15 x6 else m_X12_isOrderLine_160 G a0 M15 x6))))) else o_cl (m_X12_eatAs G M8 a0 (41 : Int32) (10 : Int32)) (fun M19 r20 => (if r20 = 0 then m_X12_isOrderLine_128 G a0 M19 x6 else o_cl (m_X12_eat G M19 a0 (15 : Int32)) (fun M23 r24 => (if r24 = 0 then m_X12_isOrderLine_128 G a0 M23 x6 else o_cl (m_X12_eatAs G M23 a0 (41 : Int32) (11 : Int32)) (fun M27 r28 => (if r28 = 0 then m_X12_isOrderLine_128 G a0 M27 x6 else m_X12_isOrderLine_165 G a0 M27 x6 ((1 : Int32)))))))))))))))))
def m_X12_isOrderLine (G : gS) (M : mS) (a0 : Nat) : Option (mS × Int32) := o_cl (m_X12_is G M a0 (14 : Int32)) (fun M1 r2 => o_cl (m_X12_is G M1 a0 (16 : Int32)) (fun M4 r5 => (if r2 = 0 then (if r5 = 0 then o_cl (m_X12_is G M4 a0 (17 : Int32)) (fun M9 r10 => (if r10 = 0 then o_cl (m_X12_is G M9 a0 (18 : Int32)) (fun M13 r14 => (if r14 = 0 then o_ck ((0 : Int32) = 0 ∨ (0 : Int32) = 1) (some (M13, (0 : Int32))) else m_X12_isOrderLine_42 G a0 M13 r2 r5)) else m_X12_isOrderLine_42 G a0 M9 r2 r5)) else m_X12_isOrderLine_42 G a0 M4 r2 r5) else m_X12_isOrderLine_42 G a0 M4 r2 r5)))
set_option maxHeartbeats 4000000 in
set_option maxRecDepth 100000 in
theorem b_X12_isOrderLine_181 {p : Program} {e : Env} {s : State} {m : MethodId} {args : Array Value} {below : List Frame} {meth : Method} {c : Code} {A : Nat → Prop} {l : Launch} {D : va_G} {cy : cyS} {G : gS} (cx : cX p s m args meth c cX12_isOrderLine RX12 5 (some .boolean) wsX12_isOrderLine D cy G A) {k0 n0 : Nat} (hkn : k0 ≤ (rmX12_isOrderLine).cells ∧ n0 ≤ (rmX12_isOrderLine).slots) {M' : mS} {r : Int32} {a0 : Nat} (hL0 : a0 ∈ gL G) (hK0 : gK G a0 = 11)  : ∀ (M : mS) (H : Heap) (locs : List Loc) (ls : Array Slot), m_X12_isOrderLine_181 G a0 M = some (M', r) → wd D cy G M A s.heap H locs → lv_has ls 5 [] → W p l e rmX12_isOrderLine s m args below meth c H locs k0 n0 (MQ below (va_Qi (fun (r' : Int32) (_ : Unit) => r' = r) (fun _ t => wOut D cy G M' t) A) args s k0 n0 A) (F0 m 181 ls []) := by
  obtain ⟨hx, hb, hml, hown, hts, hr, hlocks, hK, hA, hG, hsx⟩ := id cx
  intro M H locs ls h w hl
  unfold m_X12_isOrderLine_181 at h
  refine lv_iconst (v := (0 : Int32)) hx hb dX12_isOrderLine_181 (by decide) ?_
  obtain ⟨z1, h⟩ := x_ck h
  exact r_zret cx w z1 h dX12_isOrderLine_182
set_option maxHeartbeats 4000000 in
set_option maxRecDepth 100000 in
theorem b_X12_isOrderLine_165 {p : Program} {e : Env} {s : State} {m : MethodId} {args : Array Value} {below : List Frame} {meth : Method} {c : Code} {A : Nat → Prop} {l : Launch} {D : va_G} {cy : cyS} {G : gS} (cx : cX p s m args meth c cX12_isOrderLine RX12 5 (some .boolean) wsX12_isOrderLine D cy G A) {k0 n0 : Nat} (hkn : k0 ≤ (rmX12_isOrderLine).cells ∧ n0 ≤ (rmX12_isOrderLine).slots) {M' : mS} {r : Int32} {a0 : Nat} (hL0 : a0 ∈ gL G) (hK0 : gK G a0 = 11)  : ∀ (M : mS) (v3 : Int32) (s0 : Int32) (H : Heap) (locs : List Loc) (ls : Array Slot), m_X12_isOrderLine_165 G a0 M v3 s0 = some (M', r) → wd D cy G M A s.heap H locs → lv_has ls 5 [(0, .ref a0), (3, .int v3)] → W p l e rmX12_isOrderLine s m args below meth c H locs k0 n0 (MQ below (va_Qi (fun (r' : Int32) (_ : Unit) => r' = r) (fun _ t => wOut D cy G M' t) A) args s k0 n0 A) (F0 m 165 ls [.int s0]) := by
  obtain ⟨hx, hb, hml, hown, hts, hr, hlocks, hK, hA, hG, hsx⟩ := id cx
  intro M v3 s0 H locs ls h w hl
  unfold m_X12_isOrderLine_165 at h
  refine lv_istore (lv' := [(4, .int s0), (0, .ref a0), (3, .int v3)]) hx hb dX12_isOrderLine_165 hl (by decide) rfl (fun ls hl => ?_)
  refine lv_iload hx hb dX12_isOrderLine_167 (lv_at hl 0 rfl) ?_
  refine lv_if_eq (tgt := 181) hx hb dX12_isOrderLine_169 (by decide) (fun k1 => ?_) (fun k1 => ?_)
  · have h := x_t h k1
    exact b_X12_isOrderLine_181 cx hkn hL0 hK0 M H locs ls h w (lv_sub hl [] rfl)
  · have h := x_f h k1
    refine lv_aload_n hx hb dX12_isOrderLine_172 rfl (lv_at hl 1 rfl) ?_
    refine lv_bipush (v := (19 : Int32)) hx hb dX12_isOrderLine_173 (by decide) ?_
    obtain ⟨M2, r3, y4, h⟩ := x_cl h
    refine r_callVi (As := [.int ((19 : Int32))]) (rest := []) cx w hkn hl.1 (k_X12_eat hG hL0 hK0 y4) (cwV 1 hts gX12_isOrderLine_X12_eat rfl rfl rfl (by decide +kernel) ⟨Nat.le_of_ble_eq_true rfl, Nat.le_of_ble_eq_true rfl⟩) hL0 hK0 (by decide) rfl rfl rfl (Nat.le_of_ble_eq_true rfl) dX12_isOrderLine_175 (fun H locs w => ?_)
    refine lv_if_ne (tgt := 183) hx hb dX12_isOrderLine_178 (by decide) (fun k5 => ?_) (fun k5 => ?_)
    · have h := x_f h k5
      refine lv_aload_n hx hb dX12_isOrderLine_183 rfl (lv_at hl 1 rfl) ?_
      obtain ⟨q6, eq6, h⟩ := x_rf h
      obtain ⟨hLq6, hKq6⟩ := wt_q hG hL0 hK0 eq6
      have hKq6 : gK G q6 = 9 := hKq6
      refine r_getR (k := 12) cx w hL0 hK0 (by decide) rfl wi_X12_isOrderLine_X12 (by decide) rfl eq6 (List.mem_of_getElem? (i := 3) rfl) dX12_isOrderLine_184 ?_
      obtain ⟨q7, eq7, h⟩ := x_rf h
      obtain ⟨hLq7, hKq7⟩ := wt_q hG hLq6 hKq6 eq7
      have hKq7 : gK G q7 = 12 := hKq7
      refine r_getRN (k := 16) cx w hLq6 hKq6 (by decide) rfl wi_X12_isOrderLine_X10 (by decide) rfl eq7 (nwF cx (q := (RX12, 158, "FlagAntsModel$Plan", "test", "[I", "FlagAntsModel")) (List.mem_of_getElem? (i := 4) rfl)) dX12_isOrderLine_187 ?_
      refine lv_iload_n hx hb dX12_isOrderLine_190 rfl (lv_at hl 2 rfl) ?_
      refine lv_aload_n hx hb dX12_isOrderLine_191 rfl (lv_at hl 1 rfl) ?_
      obtain ⟨q8, eq8, h⟩ := x_rf h
      obtain ⟨hLq8, hKq8⟩ := wt_q hG hL0 hK0 eq8
      have hKq8 : gK G q8 = 9 := hKq8
      refine r_getR (k := 12) cx w hL0 hK0 (by decide) rfl wi_X12_isOrderLine_X12 (by decide) rfl eq8 (List.mem_of_getElem? (i := 3) rfl) dX12_isOrderLine_192 ?_
      refine r_getIN (k := 19) (v := .int (mI M2 q8 19)) cx w hLq8 hKq8 (by decide) rfl wi_X12_isOrderLine_X10 (by decide) rfl (nwF cx (q := (RX12, 127, "FlagAntsModel$Plan", "size", "I", "FlagAntsModel")) (List.mem_of_getElem? (i := 2) rfl)) dX12_isOrderLine_195 ?_
      obtain ⟨z9, h⟩ := x_ix h
      obtain ⟨M10, eM10, h⟩ := x_wI h
      refine r_iast cx w hLq7 hKq7 z9 dX12_isOrderLine_198 eM10 (fun H locs w => ?_)
      refine lv_aload_n hx hb dX12_isOrderLine_199 rfl (lv_at hl 1 rfl) ?_
      obtain ⟨M11, r12, y13, h⟩ := x_cl h
      refine r_callVi (As := []) (rest := []) cx w hkn hl.1 (k_X12_isTest hG hL0 hK0 y13) (cwV 0 hts gX12_isOrderLine_X12_isTest rfl rfl rfl (by decide +kernel) ⟨Nat.le_of_ble_eq_true rfl, Nat.le_of_ble_eq_true rfl⟩) hL0 hK0 (by decide) rfl rfl rfl (Nat.le_of_ble_eq_true rfl) dX12_isOrderLine_200 (fun H locs w => ?_)
      refine lv_if_ne (tgt := 208) hx hb dX12_isOrderLine_203 (by decide) (fun k14 => ?_) (fun k14 => ?_)
      · have h := x_f h k14
        refine lv_aload_n hx hb dX12_isOrderLine_208 rfl (lv_at hl 1 rfl) ?_
        obtain ⟨q15, eq15, h⟩ := x_rf h
        obtain ⟨hLq15, hKq15⟩ := wt_q hG hL0 hK0 eq15
        have hKq15 : gK G q15 = 9 := hKq15
        refine r_getR (k := 12) cx w hL0 hK0 (by decide) rfl wi_X12_isOrderLine_X12 (by decide) rfl eq15 (List.mem_of_getElem? (i := 3) rfl) dX12_isOrderLine_209 ?_
        obtain ⟨q16, eq16, h⟩ := x_rf h
        obtain ⟨hLq16, hKq16⟩ := wt_q hG hLq15 hKq15 eq16
        have hKq16 : gK G q16 = 12 := hKq16
        refine r_getRN (k := 17) cx w hLq15 hKq15 (by decide) rfl wi_X12_isOrderLine_X10 (by decide) rfl eq16 (nwF cx (q := (RX12, 164, "FlagAntsModel$Plan", "testEnd", "[I", "FlagAntsModel")) (List.mem_of_getElem? (i := 5) rfl)) dX12_isOrderLine_212 ?_
        refine lv_iload_n hx hb dX12_isOrderLine_215 rfl (lv_at hl 2 rfl) ?_
        refine lv_aload_n hx hb dX12_isOrderLine_216 rfl (lv_at hl 1 rfl) ?_
        obtain ⟨q17, eq17, h⟩ := x_rf h
        obtain ⟨hLq17, hKq17⟩ := wt_q hG hL0 hK0 eq17
        have hKq17 : gK G q17 = 9 := hKq17
        refine r_getR (k := 12) cx w hL0 hK0 (by decide) rfl wi_X12_isOrderLine_X12 (by decide) rfl eq17 (List.mem_of_getElem? (i := 3) rfl) dX12_isOrderLine_217 ?_
        refine r_getIN (k := 19) (v := .int (mI M11 q17 19)) cx w hLq17 hKq17 (by decide) rfl wi_X12_isOrderLine_X10 (by decide) rfl (nwF cx (q := (RX12, 127, "FlagAntsModel$Plan", "size", "I", "FlagAntsModel")) (List.mem_of_getElem? (i := 2) rfl)) dX12_isOrderLine_220 ?_
        obtain ⟨z18, h⟩ := x_ix h
        obtain ⟨M19, eM19, h⟩ := x_wI h
        refine r_iast cx w hLq16 hKq16 z18 dX12_isOrderLine_223 eM19 (fun H locs w => ?_)
        refine lv_iconst (v := (1 : Int32)) hx hb dX12_isOrderLine_224 (by decide) ?_
        obtain ⟨z20, h⟩ := x_ck h
        exact r_zret cx w z20 h dX12_isOrderLine_225
      · have h := x_t h k14
        refine lv_iconst (v := (0 : Int32)) hx hb dX12_isOrderLine_206 (by decide) ?_
        obtain ⟨z21, h⟩ := x_ck h
        exact r_zret cx w z21 h dX12_isOrderLine_207
    · have h := x_t h k5
      exact b_X12_isOrderLine_181 cx hkn hL0 hK0 M2 H locs ls h w (lv_sub hl [] rfl)
set_option maxHeartbeats 4000000 in
set_option maxRecDepth 100000 in
theorem b_X12_isOrderLine_128 {p : Program} {e : Env} {s : State} {m : MethodId} {args : Array Value} {below : List Frame} {meth : Method} {c : Code} {A : Nat → Prop} {l : Launch} {D : va_G} {cy : cyS} {G : gS} (cx : cX p s m args meth c cX12_isOrderLine RX12 5 (some .boolean) wsX12_isOrderLine D cy G A) {k0 n0 : Nat} (hkn : k0 ≤ (rmX12_isOrderLine).cells ∧ n0 ≤ (rmX12_isOrderLine).slots) {M' : mS} {r : Int32} {a0 : Nat} (hL0 : a0 ∈ gL G) (hK0 : gK G a0 = 11)  : ∀ (M : mS) (v3 : Int32) (H : Heap) (locs : List Loc) (ls : Array Slot), m_X12_isOrderLine_128 G a0 M v3 = some (M', r) → wd D cy G M A s.heap H locs → lv_has ls 5 [(0, .ref a0), (3, .int v3)] → W p l e rmX12_isOrderLine s m args below meth c H locs k0 n0 (MQ below (va_Qi (fun (r' : Int32) (_ : Unit) => r' = r) (fun _ t => wOut D cy G M' t) A) args s k0 n0 A) (F0 m 128 ls []) := by
  obtain ⟨hx, hb, hml, hown, hts, hr, hlocks, hK, hA, hG, hsx⟩ := id cx
  intro M v3 H locs ls h w hl
  unfold m_X12_isOrderLine_128 at h
  refine lv_iconst (v := (0 : Int32)) hx hb dX12_isOrderLine_128 (by decide) ?_
  refine lv_goto (tgt := 165) hx hb dX12_isOrderLine_129 (by decide) ?_
  exact b_X12_isOrderLine_165 cx hkn hL0 hK0 M v3 ((0 : Int32)) H locs ls h w (lv_sub hl [0, 1] rfl)
set_option maxHeartbeats 4000000 in
set_option maxRecDepth 100000 in
theorem b_X12_isOrderLine_164 {p : Program} {e : Env} {s : State} {m : MethodId} {args : Array Value} {below : List Frame} {meth : Method} {c : Code} {A : Nat → Prop} {l : Launch} {D : va_G} {cy : cyS} {G : gS} (cx : cX p s m args meth c cX12_isOrderLine RX12 5 (some .boolean) wsX12_isOrderLine D cy G A) {k0 n0 : Nat} (hkn : k0 ≤ (rmX12_isOrderLine).cells ∧ n0 ≤ (rmX12_isOrderLine).slots) {M' : mS} {r : Int32} {a0 : Nat} (hL0 : a0 ∈ gL G) (hK0 : gK G a0 = 11)  : ∀ (M : mS) (v3 : Int32) (H : Heap) (locs : List Loc) (ls : Array Slot), m_X12_isOrderLine_164 G a0 M v3 = some (M', r) → wd D cy G M A s.heap H locs → lv_has ls 5 [(0, .ref a0), (3, .int v3)] → W p l e rmX12_isOrderLine s m args below meth c H locs k0 n0 (MQ below (va_Qi (fun (r' : Int32) (_ : Unit) => r' = r) (fun _ t => wOut D cy G M' t) A) args s k0 n0 A) (F0 m 164 ls []) := by
  obtain ⟨hx, hb, hml, hown, hts, hr, hlocks, hK, hA, hG, hsx⟩ := id cx
  intro M v3 H locs ls h w hl
  unfold m_X12_isOrderLine_164 at h
  refine lv_iconst (v := (0 : Int32)) hx hb dX12_isOrderLine_164 (by decide) ?_
  exact b_X12_isOrderLine_165 cx hkn hL0 hK0 M v3 ((0 : Int32)) H locs ls h w (lv_sub hl [0, 1] rfl)
set_option maxHeartbeats 4000000 in
set_option maxRecDepth 100000 in
theorem b_X12_isOrderLine_160 {p : Program} {e : Env} {s : State} {m : MethodId} {args : Array Value} {below : List Frame} {meth : Method} {c : Code} {A : Nat → Prop} {l : Launch} {D : va_G} {cy : cyS} {G : gS} (cx : cX p s m args meth c cX12_isOrderLine RX12 5 (some .boolean) wsX12_isOrderLine D cy G A) {k0 n0 : Nat} (hkn : k0 ≤ (rmX12_isOrderLine).cells ∧ n0 ≤ (rmX12_isOrderLine).slots) {M' : mS} {r : Int32} {a0 : Nat} (hL0 : a0 ∈ gL G) (hK0 : gK G a0 = 11)  : ∀ (M : mS) (v3 : Int32) (H : Heap) (locs : List Loc) (ls : Array Slot), m_X12_isOrderLine_160 G a0 M v3 = some (M', r) → wd D cy G M A s.heap H locs → lv_has ls 5 [(0, .ref a0), (3, .int v3)] → W p l e rmX12_isOrderLine s m args below meth c H locs k0 n0 (MQ below (va_Qi (fun (r' : Int32) (_ : Unit) => r' = r) (fun _ t => wOut D cy G M' t) A) args s k0 n0 A) (F0 m 160 ls []) := by
  obtain ⟨hx, hb, hml, hown, hts, hr, hlocks, hK, hA, hG, hsx⟩ := id cx
  intro M v3 H locs ls h w hl
  unfold m_X12_isOrderLine_160 at h
  refine lv_iconst (v := (1 : Int32)) hx hb dX12_isOrderLine_160 (by decide) ?_
  refine lv_goto (tgt := 165) hx hb dX12_isOrderLine_161 (by decide) ?_
  exact b_X12_isOrderLine_165 cx hkn hL0 hK0 M v3 ((1 : Int32)) H locs ls h w (lv_sub hl [0, 1] rfl)
set_option maxHeartbeats 4000000 in
set_option maxRecDepth 100000 in
theorem b_X12_isOrderLine_42 {p : Program} {e : Env} {s : State} {m : MethodId} {args : Array Value} {below : List Frame} {meth : Method} {c : Code} {A : Nat → Prop} {l : Launch} {D : va_G} {cy : cyS} {G : gS} (cx : cX p s m args meth c cX12_isOrderLine RX12 5 (some .boolean) wsX12_isOrderLine D cy G A) {k0 n0 : Nat} (hkn : k0 ≤ (rmX12_isOrderLine).cells ∧ n0 ≤ (rmX12_isOrderLine).slots) {M' : mS} {r : Int32} {a0 : Nat} (hL0 : a0 ∈ gL G) (hK0 : gK G a0 = 11)  : ∀ (M : mS) (v1 : Int32) (v2 : Int32) (H : Heap) (locs : List Loc) (ls : Array Slot), m_X12_isOrderLine_42 G a0 M v1 v2 = some (M', r) → wd D cy G M A s.heap H locs → lv_has ls 5 [(0, .ref a0), (1, .int v1), (2, .int v2)] → W p l e rmX12_isOrderLine s m args below meth c H locs k0 n0 (MQ below (va_Qi (fun (r' : Int32) (_ : Unit) => r' = r) (fun _ t => wOut D cy G M' t) A) args s k0 n0 A) (F0 m 42 ls []) := by
  obtain ⟨hx, hb, hml, hown, hts, hr, hlocks, hK, hA, hG, hsx⟩ := id cx
  intro M v1 v2 H locs ls h w hl
  unfold m_X12_isOrderLine_42 at h
  refine lv_aload_n hx hb dX12_isOrderLine_42 rfl (lv_at hl 0 rfl) ?_
  obtain ⟨q1, eq1, h⟩ := x_rf h
  obtain ⟨hLq1, hKq1⟩ := wt_q hG hL0 hK0 eq1
  have hKq1 : gK G q1 = 12 := hKq1
  refine r_getR (k := 7) cx w hL0 hK0 (by decide) rfl wi_X12_isOrderLine_X12 (by decide) rfl eq1 (List.mem_of_getElem? (i := 1) rfl) dX12_isOrderLine_43 ?_
  refine lv_aload_n hx hb dX12_isOrderLine_46 rfl (lv_at hl 0 rfl) ?_
  refine r_getI (k := 9) (v := .int (mI M a0 9)) cx w hL0 hK0 (by decide) rfl wi_X12_isOrderLine_X12 (by decide) rfl (List.mem_of_getElem? (i := 2) rfl) dX12_isOrderLine_47 ?_
  refine lv_bipush (v := (9 : Int32)) hx hb dX12_isOrderLine_50 (by decide) ?_
  obtain ⟨z2, h⟩ := x_ix h
  obtain ⟨M3, eM3, h⟩ := x_wI h
  refine r_iast cx w hLq1 hKq1 z2 dX12_isOrderLine_52 eM3 (fun H locs w => ?_)
  refine lv_aload_n hx hb dX12_isOrderLine_53 rfl (lv_at hl 0 rfl) ?_
  refine lv_dup hx hb dX12_isOrderLine_54 rfl ?_
  refine r_getI (k := 9) (v := .int (mI M3 a0 9)) cx w hL0 hK0 (by decide) rfl wi_X12_isOrderLine_X12 (by decide) rfl (List.mem_of_getElem? (i := 2) rfl) dX12_isOrderLine_55 ?_
  refine lv_iconst (v := (1 : Int32)) hx hb dX12_isOrderLine_58 (by decide) ?_
  refine lv_iadd hx hb dX12_isOrderLine_59 ?_
  obtain ⟨M4, eM4, h⟩ := x_wI h
  refine r_putI (k := 9) (ty := .int) cx w tyX12 tyX12_ok nmX12 hL0 hK0 (by decide) rfl wi_X12_isOrderLine_X12 (by decide) rfl rfl rfl rfl st_11_9 (ln_11 _ _ (by decide)) (List.mem_of_getElem? (i := 2) rfl) dX12_isOrderLine_60 eM4 (fun H locs w => ?_)
  refine lv_aload_n hx hb dX12_isOrderLine_63 rfl (lv_at hl 0 rfl) ?_
  obtain ⟨q5, eq5, h⟩ := x_rf h
  obtain ⟨hLq5, hKq5⟩ := wt_q hG hL0 hK0 eq5
  have hKq5 : gK G q5 = 9 := hKq5
  refine r_getR (k := 12) cx w hL0 hK0 (by decide) rfl wi_X12_isOrderLine_X12 (by decide) rfl eq5 (List.mem_of_getElem? (i := 3) rfl) dX12_isOrderLine_64 ?_
  refine r_getIN (k := 12) (v := .int (mI M4 q5 12)) cx w hLq5 hKq5 (by decide) rfl wi_X12_isOrderLine_X10 (by decide) rfl (nwF cx (q := (RX12, 155, "FlagAntsModel$Plan", "ordersRead", "I", "FlagAntsModel")) (List.mem_of_getElem? (i := 3) rfl)) dX12_isOrderLine_67 ?_
  refine lv_bipush (v := (20 : Int32)) hx hb dX12_isOrderLine_70 (by decide) ?_
  refine va_mmin hx hb (hml.trans hl.1.symm) hown (hts _ (List.mem_of_getElem? (i := 4) rfl)) (hts _ (List.mem_of_getElem? (i := 5) rfl)) (hts _ (List.mem_of_getElem? (i := 6) rfl)) (hts _ (List.mem_of_getElem? (i := 7) rfl)) (Nat.le_of_ble_eq_true rfl) (Nat.le_of_ble_eq_true rfl) hkn.1 hkn.2 dX12_isOrderLine_72 ?_
  obtain ⟨x6, ex6, h⟩ := x_bd h
  refine r_topI ex6 ?_
  refine lv_istore_n (lv' := [(3, .int x6), (0, .ref a0), (1, .int v1), (2, .int v2)]) hx hb dX12_isOrderLine_75 rfl hl (by decide) rfl (fun ls hl => ?_)
  refine lv_aload_n hx hb dX12_isOrderLine_76 rfl (lv_at hl 1 rfl) ?_
  obtain ⟨q7, eq7, h⟩ := x_rf h
  obtain ⟨hLq7, hKq7⟩ := wt_q hG hL0 hK0 eq7
  have hKq7 : gK G q7 = 9 := hKq7
  refine r_getR (k := 12) cx w hL0 hK0 (by decide) rfl wi_X12_isOrderLine_X12 (by decide) rfl eq7 (List.mem_of_getElem? (i := 3) rfl) dX12_isOrderLine_77 ?_
  refine lv_dup hx hb dX12_isOrderLine_80 rfl ?_
  refine r_getIN (k := 12) (v := .int (mI M4 q7 12)) cx w hLq7 hKq7 (by decide) rfl wi_X12_isOrderLine_X10 (by decide) rfl (nwF cx (q := (RX12, 155, "FlagAntsModel$Plan", "ordersRead", "I", "FlagAntsModel")) (List.mem_of_getElem? (i := 3) rfl)) dX12_isOrderLine_81 ?_
  refine lv_iconst (v := (1 : Int32)) hx hb dX12_isOrderLine_84 (by decide) ?_
  refine lv_iadd hx hb dX12_isOrderLine_85 ?_
  obtain ⟨M8, eM8, h⟩ := x_wI h
  refine r_putIN (k := 12) (ty := .int) cx w tyX10 tyX10_ok nmX10 hLq7 hKq7 (by decide) rfl wi_X12_isOrderLine_X10 (by decide) rfl rfl rfl rfl st_9_12 (ln_9 _ _ (by decide)) (nwF cx (q := (RX12, 155, "FlagAntsModel$Plan", "ordersRead", "I", "FlagAntsModel")) (List.mem_of_getElem? (i := 3) rfl)) dX12_isOrderLine_86 eM8 (fun H locs w => ?_)
  refine lv_iload_n hx hb dX12_isOrderLine_89 rfl (lv_at hl 2 rfl) ?_
  refine lv_if_eq (tgt := 132) hx hb dX12_isOrderLine_90 (by decide) (fun k9 => ?_) (fun k9 => ?_)
  · have h := x_t h k9
    refine lv_aload_n hx hb dX12_isOrderLine_132 rfl (lv_at hl 1 rfl) ?_
    refine lv_bipush (v := (40 : Int32)) hx hb dX12_isOrderLine_133 (by decide) ?_
    refine lv_bipush (v := (12 : Int32)) hx hb dX12_isOrderLine_135 (by decide) ?_
    obtain ⟨M10, r11, y12, h⟩ := x_cl h
    refine r_callVi (As := [.int ((40 : Int32)), .int ((12 : Int32))]) (rest := []) cx w hkn hl.1 (k_X12_eatAs hG hL0 hK0 y12) (cwV 2 hts gX12_isOrderLine_X12_eatAs rfl rfl rfl (by decide +kernel) ⟨Nat.le_of_ble_eq_true rfl, Nat.le_of_ble_eq_true rfl⟩) hL0 hK0 (by decide) rfl rfl rfl (Nat.le_of_ble_eq_true rfl) dX12_isOrderLine_137 (fun H locs w => ?_)
    refine lv_if_eq (tgt := 164) hx hb dX12_isOrderLine_140 (by decide) (fun k13 => ?_) (fun k13 => ?_)
    · have h := x_t h k13
      exact b_X12_isOrderLine_164 cx hkn hL0 hK0 M10 x6 H locs ls h w (lv_sub hl [1, 0] rfl)
    · have h := x_f h k13
      refine lv_iload_n hx hb dX12_isOrderLine_143 rfl (lv_at hl 3 rfl) ?_
      refine lv_if_eq (tgt := 160) hx hb dX12_isOrderLine_144 (by decide) (fun k14 => ?_) (fun k14 => ?_)
      · have h := x_t h k14
        exact b_X12_isOrderLine_160 cx hkn hL0 hK0 M10 x6 H locs ls h w (lv_sub hl [1, 0] rfl)
      · have h := x_f h k14
        refine lv_aload_n hx hb dX12_isOrderLine_147 rfl (lv_at hl 1 rfl) ?_
        refine lv_bipush (v := (9 : Int32)) hx hb dX12_isOrderLine_148 (by decide) ?_
        refine lv_bipush (v := (12 : Int32)) hx hb dX12_isOrderLine_150 (by decide) ?_
        refine lv_bipush (v := (13 : Int32)) hx hb dX12_isOrderLine_152 (by decide) ?_
        obtain ⟨M15, r16, y17, h⟩ := x_cl h
        refine r_callVi (As := [.int ((9 : Int32)), .int ((12 : Int32)), .int ((13 : Int32))]) (rest := []) cx w hkn hl.1 (k_X12_eatOne hG hL0 hK0 y17) (cwV 3 hts gX12_isOrderLine_X12_eatOne rfl rfl rfl (by decide +kernel) ⟨Nat.le_of_ble_eq_true rfl, Nat.le_of_ble_eq_true rfl⟩) hL0 hK0 (by decide) rfl rfl rfl (Nat.le_of_ble_eq_true rfl) dX12_isOrderLine_154 (fun H locs w => ?_)
        refine lv_if_eq (tgt := 164) hx hb dX12_isOrderLine_157 (by decide) (fun k18 => ?_) (fun k18 => ?_)
        · have h := x_t h k18
          exact b_X12_isOrderLine_164 cx hkn hL0 hK0 M15 x6 H locs ls h w (lv_sub hl [1, 0] rfl)
        · have h := x_f h k18
          exact b_X12_isOrderLine_160 cx hkn hL0 hK0 M15 x6 H locs ls h w (lv_sub hl [1, 0] rfl)
  · have h := x_f h k9
    refine lv_aload_n hx hb dX12_isOrderLine_93 rfl (lv_at hl 1 rfl) ?_
    refine lv_bipush (v := (41 : Int32)) hx hb dX12_isOrderLine_94 (by decide) ?_
    refine lv_bipush (v := (10 : Int32)) hx hb dX12_isOrderLine_96 (by decide) ?_
    obtain ⟨M19, r20, y21, h⟩ := x_cl h
    refine r_callVi (As := [.int ((41 : Int32)), .int ((10 : Int32))]) (rest := []) cx w hkn hl.1 (k_X12_eatAs hG hL0 hK0 y21) (cwV 2 hts gX12_isOrderLine_X12_eatAs rfl rfl rfl (by decide +kernel) ⟨Nat.le_of_ble_eq_true rfl, Nat.le_of_ble_eq_true rfl⟩) hL0 hK0 (by decide) rfl rfl rfl (Nat.le_of_ble_eq_true rfl) dX12_isOrderLine_98 (fun H locs w => ?_)
    refine lv_if_eq (tgt := 128) hx hb dX12_isOrderLine_101 (by decide) (fun k22 => ?_) (fun k22 => ?_)
    · have h := x_t h k22
      exact b_X12_isOrderLine_128 cx hkn hL0 hK0 M19 x6 H locs ls h w (lv_sub hl [1, 0] rfl)
    · have h := x_f h k22
      refine lv_aload_n hx hb dX12_isOrderLine_104 rfl (lv_at hl 1 rfl) ?_
      refine lv_bipush (v := (15 : Int32)) hx hb dX12_isOrderLine_105 (by decide) ?_
      obtain ⟨M23, r24, y25, h⟩ := x_cl h
      refine r_callVi (As := [.int ((15 : Int32))]) (rest := []) cx w hkn hl.1 (k_X12_eat hG hL0 hK0 y25) (cwV 1 hts gX12_isOrderLine_X12_eat rfl rfl rfl (by decide +kernel) ⟨Nat.le_of_ble_eq_true rfl, Nat.le_of_ble_eq_true rfl⟩) hL0 hK0 (by decide) rfl rfl rfl (Nat.le_of_ble_eq_true rfl) dX12_isOrderLine_107 (fun H locs w => ?_)
      refine lv_if_eq (tgt := 128) hx hb dX12_isOrderLine_110 (by decide) (fun k26 => ?_) (fun k26 => ?_)
      · have h := x_t h k26
        exact b_X12_isOrderLine_128 cx hkn hL0 hK0 M23 x6 H locs ls h w (lv_sub hl [1, 0] rfl)
      · have h := x_f h k26
        refine lv_aload_n hx hb dX12_isOrderLine_113 rfl (lv_at hl 1 rfl) ?_
        refine lv_bipush (v := (41 : Int32)) hx hb dX12_isOrderLine_114 (by decide) ?_
        refine lv_bipush (v := (11 : Int32)) hx hb dX12_isOrderLine_116 (by decide) ?_
        obtain ⟨M27, r28, y29, h⟩ := x_cl h
        refine r_callVi (As := [.int ((41 : Int32)), .int ((11 : Int32))]) (rest := []) cx w hkn hl.1 (k_X12_eatAs hG hL0 hK0 y29) (cwV 2 hts gX12_isOrderLine_X12_eatAs rfl rfl rfl (by decide +kernel) ⟨Nat.le_of_ble_eq_true rfl, Nat.le_of_ble_eq_true rfl⟩) hL0 hK0 (by decide) rfl rfl rfl (Nat.le_of_ble_eq_true rfl) dX12_isOrderLine_118 (fun H locs w => ?_)
        refine lv_if_eq (tgt := 128) hx hb dX12_isOrderLine_121 (by decide) (fun k30 => ?_) (fun k30 => ?_)
        · have h := x_t h k30
          exact b_X12_isOrderLine_128 cx hkn hL0 hK0 M27 x6 H locs ls h w (lv_sub hl [1, 0] rfl)
        · have h := x_f h k30
          refine lv_iconst (v := (1 : Int32)) hx hb dX12_isOrderLine_124 (by decide) ?_
          refine lv_goto (tgt := 165) hx hb dX12_isOrderLine_125 (by decide) ?_
          exact b_X12_isOrderLine_165 cx hkn hL0 hK0 M27 x6 ((1 : Int32)) H locs ls h w (lv_sub hl [1, 0] rfl)
set_option maxHeartbeats 4000000 in
set_option maxRecDepth 100000 in
theorem k_X12_isOrderLine {l : Launch} {D : va_G} {cy : cyS} {G : gS} {M M' : mS} {r : Int32} {a0 : Nat} (hG : wt G) (hL0 : a0 ∈ gL G) (hK0 : gK G a0 = 11) (h : m_X12_isOrderLine G M a0 = some (M', r)) : ctI l yX12_isOrderLine wsX12_isOrderLine rmX12_isOrderLine D cy G M [.ref a0] M' r := by
  unfold m_X12_isOrderLine at h
  refine ctI_of (cc := cX12_isOrderLine) (nL := 5) (ret := (some .boolean)) (lv := [(0, .ref a0)]) hG (by decide) rfl ⟨rfl, rfl⟩ (Nat.le_of_ble_eq_true rfl) rfl ?_
  intro p e s m args below meth c A ls cx w hl
  obtain ⟨hx, hb, hml, hown, hts, hr, hlocks, hK, hA, -, hsx⟩ := id cx
  have hkn : 0 ≤ (rmX12_isOrderLine).cells ∧ 0 ≤ (rmX12_isOrderLine).slots := ⟨Nat.zero_le _, Nat.zero_le _⟩
  refine lv_aload_n hx hb dX12_isOrderLine_0 rfl (lv_at hl 0 rfl) ?_
  refine lv_bipush (v := (14 : Int32)) hx hb dX12_isOrderLine_1 (by decide) ?_
  obtain ⟨M1, r2, y3, h⟩ := x_cl h
  refine r_callVi (As := [.int ((14 : Int32))]) (rest := []) cx w hkn hl.1 (k_X12_is hG hL0 hK0 y3) (cwV 1 hts gX12_isOrderLine_X12_is rfl rfl rfl (by decide +kernel) ⟨Nat.le_of_ble_eq_true rfl, Nat.le_of_ble_eq_true rfl⟩) hL0 hK0 (by decide) rfl rfl rfl (Nat.le_of_ble_eq_true rfl) dX12_isOrderLine_3 (fun H locs w => ?_)
  refine lv_istore_n (lv' := [(1, .int r2), (0, .ref a0)]) hx hb dX12_isOrderLine_6 rfl hl (by decide) rfl (fun ls hl => ?_)
  refine lv_aload_n hx hb dX12_isOrderLine_7 rfl (lv_at hl 1 rfl) ?_
  refine lv_bipush (v := (16 : Int32)) hx hb dX12_isOrderLine_8 (by decide) ?_
  obtain ⟨M4, r5, y6, h⟩ := x_cl h
  refine r_callVi (As := [.int ((16 : Int32))]) (rest := []) cx w hkn hl.1 (k_X12_is hG hL0 hK0 y6) (cwV 1 hts gX12_isOrderLine_X12_is rfl rfl rfl (by decide +kernel) ⟨Nat.le_of_ble_eq_true rfl, Nat.le_of_ble_eq_true rfl⟩) hL0 hK0 (by decide) rfl rfl rfl (Nat.le_of_ble_eq_true rfl) dX12_isOrderLine_10 (fun H locs w => ?_)
  refine lv_istore_n (lv' := [(2, .int r5), (1, .int r2), (0, .ref a0)]) hx hb dX12_isOrderLine_13 rfl hl (by decide) rfl (fun ls hl => ?_)
  refine lv_iload_n hx hb dX12_isOrderLine_14 rfl (lv_at hl 1 rfl) ?_
  refine lv_if_ne (tgt := 42) hx hb dX12_isOrderLine_15 (by decide) (fun k7 => ?_) (fun k7 => ?_)
  · have h := x_f h k7
    exact b_X12_isOrderLine_42 cx hkn hL0 hK0 M4 r2 r5 H locs ls h w (lv_sub hl [2, 1, 0] rfl)
  · have h := x_t h k7
    refine lv_iload_n hx hb dX12_isOrderLine_18 rfl (lv_at hl 0 rfl) ?_
    refine lv_if_ne (tgt := 42) hx hb dX12_isOrderLine_19 (by decide) (fun k8 => ?_) (fun k8 => ?_)
    · have h := x_f h k8
      exact b_X12_isOrderLine_42 cx hkn hL0 hK0 M4 r2 r5 H locs ls h w (lv_sub hl [2, 1, 0] rfl)
    · have h := x_t h k8
      refine lv_aload_n hx hb dX12_isOrderLine_22 rfl (lv_at hl 2 rfl) ?_
      refine lv_bipush (v := (17 : Int32)) hx hb dX12_isOrderLine_23 (by decide) ?_
      obtain ⟨M9, r10, y11, h⟩ := x_cl h
      refine r_callVi (As := [.int ((17 : Int32))]) (rest := []) cx w hkn hl.1 (k_X12_is hG hL0 hK0 y11) (cwV 1 hts gX12_isOrderLine_X12_is rfl rfl rfl (by decide +kernel) ⟨Nat.le_of_ble_eq_true rfl, Nat.le_of_ble_eq_true rfl⟩) hL0 hK0 (by decide) rfl rfl rfl (Nat.le_of_ble_eq_true rfl) dX12_isOrderLine_25 (fun H locs w => ?_)
      refine lv_if_ne (tgt := 42) hx hb dX12_isOrderLine_28 (by decide) (fun k12 => ?_) (fun k12 => ?_)
      · have h := x_f h k12
        exact b_X12_isOrderLine_42 cx hkn hL0 hK0 M9 r2 r5 H locs ls h w (lv_sub hl [2, 1, 0] rfl)
      · have h := x_t h k12
        refine lv_aload_n hx hb dX12_isOrderLine_31 rfl (lv_at hl 2 rfl) ?_
        refine lv_bipush (v := (18 : Int32)) hx hb dX12_isOrderLine_32 (by decide) ?_
        obtain ⟨M13, r14, y15, h⟩ := x_cl h
        refine r_callVi (As := [.int ((18 : Int32))]) (rest := []) cx w hkn hl.1 (k_X12_is hG hL0 hK0 y15) (cwV 1 hts gX12_isOrderLine_X12_is rfl rfl rfl (by decide +kernel) ⟨Nat.le_of_ble_eq_true rfl, Nat.le_of_ble_eq_true rfl⟩) hL0 hK0 (by decide) rfl rfl rfl (Nat.le_of_ble_eq_true rfl) dX12_isOrderLine_34 (fun H locs w => ?_)
        refine lv_if_ne (tgt := 42) hx hb dX12_isOrderLine_37 (by decide) (fun k16 => ?_) (fun k16 => ?_)
        · have h := x_f h k16
          exact b_X12_isOrderLine_42 cx hkn hL0 hK0 M13 r2 r5 H locs ls h w (lv_sub hl [2, 1, 0] rfl)
        · have h := x_t h k16
          refine lv_iconst (v := (0 : Int32)) hx hb dX12_isOrderLine_40 (by decide) ?_
          obtain ⟨z17, h⟩ := x_ck h
          exact r_zret cx w z17 h dX12_isOrderLine_41
-- X12_isPlan
abbrev rmX12_isPlan : Room := { frames := 136, cells := 0, slots := 0, locals := 7851 }
def m_X12_isPlan_74 (G : gS) (a0 : Nat)  (M : mS)  : Option (mS × Int32) := o_ck ((0 : Int32) = 0 ∨ (0 : Int32) = 1) (some (M, (0 : Int32)))
def m_X12_isPlan_60 (G : gS) (a0 : Nat) (kb0 : mS → Option (mS × Int32)) (M : mS) (s0 : Int32) : Option (mS × Int32) := (if s0 = 0 then m_X12_isPlan_74 G a0 M else o_cl (m_X12_eatSign G M a0 (59 : Int32)) (fun M2 r3 => (if r3 = 0 then m_X12_isPlan_74 G a0 M2 else kb0 M2)))
def m_X12_isPlan_0 (G : gS) (a0 : Nat)  : Nat → mS → Option (mS × Int32)
  | 0, _ => none
  | n + 1, M => o_cl (m_X12_is G M a0 (900 : Int32)) (fun M1 r2 => (if r2 = 0 then o_cl (m_X12_is G M1 a0 (0 : Int32)) (fun M6 r7 => (if r7 = 0 then o_cl (m_X12_is G M6 a0 (5 : Int32)) (fun M10 r11 => (if r11 = 0 then o_cl (m_X12_is G M10 a0 (13 : Int32)) (fun M14 r15 => (if r15 = 0 then o_cl (m_X12_isOrderLine G M14 a0) (fun M18 r19 => m_X12_isPlan_60 G a0 (fun M => m_X12_isPlan_0 G a0 n M) M18 r19) else o_cl (m_X12_isPaintLine G M14 a0) (fun M21 r22 => m_X12_isPlan_60 G a0 (fun M => m_X12_isPlan_0 G a0 n M) M21 r22))) else o_cl (m_X12_isAntLine G M10 a0) (fun M24 r25 => m_X12_isPlan_60 G a0 (fun M => m_X12_isPlan_0 G a0 n M) M24 r25))) else o_cl (m_X12_isRuleLine G M6 a0) (fun M27 r28 => m_X12_isPlan_60 G a0 (fun M => m_X12_isPlan_0 G a0 n M) M27 r28))) else o_ck ((1 : Int32) = 0 ∨ (1 : Int32) = 1) (some (M1, (1 : Int32)))))
def m_X12_isPlan (G : gS) (M : mS) (a0 : Nat) : Option (mS × Int32) := m_X12_isPlan_0 G a0 fu M
set_option maxHeartbeats 4000000 in
set_option maxRecDepth 100000 in
theorem b_X12_isPlan_74 {p : Program} {e : Env} {s : State} {m : MethodId} {args : Array Value} {below : List Frame} {meth : Method} {c : Code} {A : Nat → Prop} {l : Launch} {D : va_G} {cy : cyS} {G : gS} (cx : cX p s m args meth c cX12_isPlan RX12 2 (some .boolean) wsX12_isPlan D cy G A) {k0 n0 : Nat} (hkn : k0 ≤ (rmX12_isPlan).cells ∧ n0 ≤ (rmX12_isPlan).slots) {M' : mS} {r : Int32} {a0 : Nat} (hL0 : a0 ∈ gL G) (hK0 : gK G a0 = 11)  : ∀ (M : mS) (H : Heap) (locs : List Loc) (ls : Array Slot), m_X12_isPlan_74 G a0 M = some (M', r) → wd D cy G M A s.heap H locs → lv_has ls 2 [] → W p l e rmX12_isPlan s m args below meth c H locs k0 n0 (MQ below (va_Qi (fun (r' : Int32) (_ : Unit) => r' = r) (fun _ t => wOut D cy G M' t) A) args s k0 n0 A) (F0 m 74 ls []) := by
  obtain ⟨hx, hb, hml, hown, hts, hr, hlocks, hK, hA, hG, hsx⟩ := id cx
  intro M H locs ls h w hl
  unfold m_X12_isPlan_74 at h
  refine lv_iconst (v := (0 : Int32)) hx hb dX12_isPlan_74 (by decide) ?_
  obtain ⟨z1, h⟩ := x_ck h
  exact r_zret cx w z1 h dX12_isPlan_75
set_option maxHeartbeats 4000000 in
set_option maxRecDepth 100000 in
theorem b_X12_isPlan_60 {p : Program} {e : Env} {s : State} {m : MethodId} {args : Array Value} {below : List Frame} {meth : Method} {c : Code} {A : Nat → Prop} {l : Launch} {D : va_G} {cy : cyS} {G : gS} (cx : cX p s m args meth c cX12_isPlan RX12 2 (some .boolean) wsX12_isPlan D cy G A) {k0 n0 : Nat} (hkn : k0 ≤ (rmX12_isPlan).cells ∧ n0 ≤ (rmX12_isPlan).slots) {M' : mS} {r : Int32} {a0 : Nat} (hL0 : a0 ∈ gL G) (hK0 : gK G a0 = 11) {kb0 : mS → Option (mS × Int32)} (hkb0 : ∀ (M : mS) (H : Heap) (locs : List Loc) (ls : Array Slot), kb0 M = some (M', r) → wd D cy G M A s.heap H locs → lv_has ls 2 [(0, .ref a0)] → W p l e rmX12_isPlan s m args below meth c H locs k0 n0 (MQ below (va_Qi (fun (r' : Int32) (_ : Unit) => r' = r) (fun _ t => wOut D cy G M' t) A) args s k0 n0 A) (F0 m 0 ls [])) : ∀ (M : mS) (s0 : Int32) (H : Heap) (locs : List Loc) (ls : Array Slot), m_X12_isPlan_60 G a0 kb0 M s0 = some (M', r) → wd D cy G M A s.heap H locs → lv_has ls 2 [(0, .ref a0)] → W p l e rmX12_isPlan s m args below meth c H locs k0 n0 (MQ below (va_Qi (fun (r' : Int32) (_ : Unit) => r' = r) (fun _ t => wOut D cy G M' t) A) args s k0 n0 A) (F0 m 60 ls [.int s0]) := by
  obtain ⟨hx, hb, hml, hown, hts, hr, hlocks, hK, hA, hG, hsx⟩ := id cx
  intro M s0 H locs ls h w hl
  unfold m_X12_isPlan_60 at h
  refine lv_istore_n (lv' := [(1, .int s0), (0, .ref a0)]) hx hb dX12_isPlan_60 rfl hl (by decide) rfl (fun ls hl => ?_)
  refine lv_iload_n hx hb dX12_isPlan_61 rfl (lv_at hl 0 rfl) ?_
  refine lv_if_eq (tgt := 74) hx hb dX12_isPlan_62 (by decide) (fun k1 => ?_) (fun k1 => ?_)
  · have h := x_t h k1
    exact b_X12_isPlan_74 cx hkn hL0 hK0 M H locs ls h w (lv_sub hl [] rfl)
  · have h := x_f h k1
    refine lv_aload_n hx hb dX12_isPlan_65 rfl (lv_at hl 1 rfl) ?_
    refine lv_bipush (v := (59 : Int32)) hx hb dX12_isPlan_66 (by decide) ?_
    obtain ⟨M2, r3, y4, h⟩ := x_cl h
    refine r_callVi (As := [.int ((59 : Int32))]) (rest := []) cx w hkn hl.1 (k_X12_eatSign hG hL0 hK0 y4) (cwV 1 hts gX12_isPlan_X12_eatSign rfl rfl rfl (by decide +kernel) ⟨Nat.le_of_ble_eq_true rfl, Nat.le_of_ble_eq_true rfl⟩) hL0 hK0 (by decide) rfl rfl rfl (Nat.le_of_ble_eq_true rfl) dX12_isPlan_68 (fun H locs w => ?_)
    refine lv_if_ne (tgt := 76) hx hb dX12_isPlan_71 (by decide) (fun k5 => ?_) (fun k5 => ?_)
    · have h := x_f h k5
      refine lv_goto (tgt := 0) hx hb dX12_isPlan_76 (by decide) ?_
      exact hkb0 M2 H locs ls h w (lv_sub hl [1] rfl)
    · have h := x_t h k5
      exact b_X12_isPlan_74 cx hkn hL0 hK0 M2 H locs ls h w (lv_sub hl [] rfl)
set_option maxHeartbeats 4000000 in
set_option maxRecDepth 100000 in
theorem b_X12_isPlan_0 {p : Program} {e : Env} {s : State} {m : MethodId} {args : Array Value} {below : List Frame} {meth : Method} {c : Code} {A : Nat → Prop} {l : Launch} {D : va_G} {cy : cyS} {G : gS} (cx : cX p s m args meth c cX12_isPlan RX12 2 (some .boolean) wsX12_isPlan D cy G A) {k0 n0 : Nat} (hkn : k0 ≤ (rmX12_isPlan).cells ∧ n0 ≤ (rmX12_isPlan).slots) {M' : mS} {r : Int32} {a0 : Nat} (hL0 : a0 ∈ gL G) (hK0 : gK G a0 = 11)  : ∀ (n : Nat), ∀ (M : mS) (H : Heap) (locs : List Loc) (ls : Array Slot), m_X12_isPlan_0 G a0 n M = some (M', r) → wd D cy G M A s.heap H locs → lv_has ls 2 [(0, .ref a0)] → W p l e rmX12_isPlan s m args below meth c H locs k0 n0 (MQ below (va_Qi (fun (r' : Int32) (_ : Unit) => r' = r) (fun _ t => wOut D cy G M' t) A) args s k0 n0 A) (F0 m 0 ls []) := by
  obtain ⟨hx, hb, hml, hown, hts, hr, hlocks, hK, hA, hG, hsx⟩ := id cx
  intro n
  induction n with
  | zero =>
    intro M H locs ls h w hl
    have h : none = some _ := h
    cases h
  | succ n ih =>
    intro M H locs ls h w hl
    rw [m_X12_isPlan_0] at h
    refine lv_aload_n hx hb dX12_isPlan_0 rfl (lv_at hl 0 rfl) ?_
    refine lv_sipush (v := (900 : Int32)) hx hb dX12_isPlan_1 (by decide) ?_
    obtain ⟨M1, r2, y3, h⟩ := x_cl h
    refine r_callVi (As := [.int ((900 : Int32))]) (rest := []) cx w hkn hl.1 (k_X12_is hG hL0 hK0 y3) (cwV 1 hts gX12_isPlan_X12_is rfl rfl rfl (by decide +kernel) ⟨Nat.le_of_ble_eq_true rfl, Nat.le_of_ble_eq_true rfl⟩) hL0 hK0 (by decide) rfl rfl rfl (Nat.le_of_ble_eq_true rfl) dX12_isPlan_4 (fun H locs w => ?_)
    refine lv_if_ne (tgt := 79) hx hb dX12_isPlan_7 (by decide) (fun k4 => ?_) (fun k4 => ?_)
    · have h := x_f h k4
      refine lv_iconst (v := (1 : Int32)) hx hb dX12_isPlan_79 (by decide) ?_
      obtain ⟨z5, h⟩ := x_ck h
      exact r_zret cx w z5 h dX12_isPlan_80
    · have h := x_t h k4
      refine lv_aload_n hx hb dX12_isPlan_10 rfl (lv_at hl 0 rfl) ?_
      refine lv_iconst (v := (0 : Int32)) hx hb dX12_isPlan_11 (by decide) ?_
      obtain ⟨M6, r7, y8, h⟩ := x_cl h
      refine r_callVi (As := [.int ((0 : Int32))]) (rest := []) cx w hkn hl.1 (k_X12_is hG hL0 hK0 y8) (cwV 1 hts gX12_isPlan_X12_is rfl rfl rfl (by decide +kernel) ⟨Nat.le_of_ble_eq_true rfl, Nat.le_of_ble_eq_true rfl⟩) hL0 hK0 (by decide) rfl rfl rfl (Nat.le_of_ble_eq_true rfl) dX12_isPlan_12 (fun H locs w => ?_)
      refine lv_if_eq (tgt := 25) hx hb dX12_isPlan_15 (by decide) (fun k9 => ?_) (fun k9 => ?_)
      · have h := x_t h k9
        refine lv_aload_n hx hb dX12_isPlan_25 rfl (lv_at hl 0 rfl) ?_
        refine lv_iconst (v := (5 : Int32)) hx hb dX12_isPlan_26 (by decide) ?_
        obtain ⟨M10, r11, y12, h⟩ := x_cl h
        refine r_callVi (As := [.int ((5 : Int32))]) (rest := []) cx w hkn hl.1 (k_X12_is hG hL0 hK0 y12) (cwV 1 hts gX12_isPlan_X12_is rfl rfl rfl (by decide +kernel) ⟨Nat.le_of_ble_eq_true rfl, Nat.le_of_ble_eq_true rfl⟩) hL0 hK0 (by decide) rfl rfl rfl (Nat.le_of_ble_eq_true rfl) dX12_isPlan_27 (fun H locs w => ?_)
        refine lv_if_eq (tgt := 40) hx hb dX12_isPlan_30 (by decide) (fun k13 => ?_) (fun k13 => ?_)
        · have h := x_t h k13
          refine lv_aload_n hx hb dX12_isPlan_40 rfl (lv_at hl 0 rfl) ?_
          refine lv_bipush (v := (13 : Int32)) hx hb dX12_isPlan_41 (by decide) ?_
          obtain ⟨M14, r15, y16, h⟩ := x_cl h
          refine r_callVi (As := [.int ((13 : Int32))]) (rest := []) cx w hkn hl.1 (k_X12_is hG hL0 hK0 y16) (cwV 1 hts gX12_isPlan_X12_is rfl rfl rfl (by decide +kernel) ⟨Nat.le_of_ble_eq_true rfl, Nat.le_of_ble_eq_true rfl⟩) hL0 hK0 (by decide) rfl rfl rfl (Nat.le_of_ble_eq_true rfl) dX12_isPlan_43 (fun H locs w => ?_)
          refine lv_if_eq (tgt := 56) hx hb dX12_isPlan_46 (by decide) (fun k17 => ?_) (fun k17 => ?_)
          · have h := x_t h k17
            refine lv_aload_n hx hb dX12_isPlan_56 rfl (lv_at hl 0 rfl) ?_
            obtain ⟨M18, r19, y20, h⟩ := x_cl h
            refine r_callVi (As := []) (rest := []) cx w hkn hl.1 (k_X12_isOrderLine hG hL0 hK0 y20) (cwV 0 hts gX12_isPlan_X12_isOrderLine rfl rfl rfl (by decide +kernel) ⟨Nat.le_of_ble_eq_true rfl, Nat.le_of_ble_eq_true rfl⟩) hL0 hK0 (by decide) rfl rfl rfl (Nat.le_of_ble_eq_true rfl) dX12_isPlan_57 (fun H locs w => ?_)
            exact b_X12_isPlan_60 cx hkn hL0 hK0 (hkb0 := ih) M18 r19 H locs ls h w (lv_sub hl [0] rfl)
          · have h := x_f h k17
            refine lv_aload_n hx hb dX12_isPlan_49 rfl (lv_at hl 0 rfl) ?_
            obtain ⟨M21, r22, y23, h⟩ := x_cl h
            refine r_callVi (As := []) (rest := []) cx w hkn hl.1 (k_X12_isPaintLine hG hL0 hK0 y23) (cwV 0 hts gX12_isPlan_X12_isPaintLine rfl rfl rfl (by decide +kernel) ⟨Nat.le_of_ble_eq_true rfl, Nat.le_of_ble_eq_true rfl⟩) hL0 hK0 (by decide) rfl rfl rfl (Nat.le_of_ble_eq_true rfl) dX12_isPlan_50 (fun H locs w => ?_)
            refine lv_goto (tgt := 60) hx hb dX12_isPlan_53 (by decide) ?_
            exact b_X12_isPlan_60 cx hkn hL0 hK0 (hkb0 := ih) M21 r22 H locs ls h w (lv_sub hl [0] rfl)
        · have h := x_f h k13
          refine lv_aload_n hx hb dX12_isPlan_33 rfl (lv_at hl 0 rfl) ?_
          obtain ⟨M24, r25, y26, h⟩ := x_cl h
          refine r_callVi (As := []) (rest := []) cx w hkn hl.1 (k_X12_isAntLine hG hL0 hK0 y26) (cwV 0 hts gX12_isPlan_X12_isAntLine rfl rfl rfl (by decide +kernel) ⟨Nat.le_of_ble_eq_true rfl, Nat.le_of_ble_eq_true rfl⟩) hL0 hK0 (by decide) rfl rfl rfl (Nat.le_of_ble_eq_true rfl) dX12_isPlan_34 (fun H locs w => ?_)
          refine lv_goto (tgt := 60) hx hb dX12_isPlan_37 (by decide) ?_
          exact b_X12_isPlan_60 cx hkn hL0 hK0 (hkb0 := ih) M24 r25 H locs ls h w (lv_sub hl [0] rfl)
      · have h := x_f h k9
        refine lv_aload_n hx hb dX12_isPlan_18 rfl (lv_at hl 0 rfl) ?_
        obtain ⟨M27, r28, y29, h⟩ := x_cl h
        refine r_callVi (As := []) (rest := []) cx w hkn hl.1 (k_X12_isRuleLine hG hL0 hK0 y29) (cwV 0 hts gX12_isPlan_X12_isRuleLine rfl rfl rfl (by decide +kernel) ⟨Nat.le_of_ble_eq_true rfl, Nat.le_of_ble_eq_true rfl⟩) hL0 hK0 (by decide) rfl rfl rfl (Nat.le_of_ble_eq_true rfl) dX12_isPlan_19 (fun H locs w => ?_)
        refine lv_goto (tgt := 60) hx hb dX12_isPlan_22 (by decide) ?_
        exact b_X12_isPlan_60 cx hkn hL0 hK0 (hkb0 := ih) M27 r28 H locs ls h w (lv_sub hl [0] rfl)
set_option maxHeartbeats 4000000 in
set_option maxRecDepth 100000 in
theorem k_X12_isPlan {l : Launch} {D : va_G} {cy : cyS} {G : gS} {M M' : mS} {r : Int32} {a0 : Nat} (hG : wt G) (hL0 : a0 ∈ gL G) (hK0 : gK G a0 = 11) (h : m_X12_isPlan G M a0 = some (M', r)) : ctI l yX12_isPlan wsX12_isPlan rmX12_isPlan D cy G M [.ref a0] M' r := by
  unfold m_X12_isPlan at h
  refine ctI_of (cc := cX12_isPlan) (nL := 2) (ret := (some .boolean)) (lv := [(0, .ref a0)]) hG (by decide) rfl ⟨rfl, rfl⟩ (Nat.le_of_ble_eq_true rfl) rfl ?_
  intro p e s m args below meth c A ls cx w hl
  obtain ⟨hx, hb, hml, hown, hts, hr, hlocks, hK, hA, -, hsx⟩ := id cx
  have hkn : 0 ≤ (rmX12_isPlan).cells ∧ 0 ≤ (rmX12_isPlan).slots := ⟨Nat.zero_le _, Nat.zero_le _⟩
  exact b_X12_isPlan_0 cx hkn hL0 hK0 fu M s.heap [] ls h w (lv_sub hl [0] rfl)
-- X12_isSame
theorem wi_X12_isSame_X12 : ∀ w ∈ wsX120, w ∈ wsX12_isSame := by decide +kernel
abbrev rmX12_isSame : Room := { frames := 0, cells := 0, slots := 0, locals := 0 }
def m_X12_isSame_19 (G : gS) (a0 : Nat) (c1 : Int32) (c2 : Int32)  : Nat → mS → Int32 → Option (mS × Int32)
  | 0, _, _ => none
  | n + 1, M, v3 => o_rf (gP G a0 6) (fun q1 => o_ix c1 (gN G q1) ((if (mI M q1 (Int32.toNatClampNeg c1)) ≤ v3 then o_ck ((1 : Int32) = 0 ∨ (1 : Int32) = 1) (some (M, (1 : Int32))) else o_rf (gP G a0 1) (fun q5 => o_rf (gP G a0 5) (fun q6 => o_ix c1 (gN G q6) (o_ix ((mI M q6 (Int32.toNatClampNeg c1)) + v3) (gN G q5) (o_rf (gP G a0 1) (fun q9 => o_rf (gP G a0 5) (fun q10 => o_ix c2 (gN G q10) (o_ix ((mI M q10 (Int32.toNatClampNeg c2)) + v3) (gN G q9) ((if (mI M q5 (Int32.toNatClampNeg ((mI M q6 (Int32.toNatClampNeg c1)) + v3))) = (mI M q9 (Int32.toNatClampNeg ((mI M q10 (Int32.toNatClampNeg c2)) + v3))) then o_bd (v3 + 1 : Int32) (fun x14 => m_X12_isSame_19 G a0 c1 c2 n M x14) else o_ck ((0 : Int32) = 0 ∨ (0 : Int32) = 1) (some (M, (0 : Int32)))))))))))))))
def m_X12_isSame (G : gS) (M : mS) (a0 : Nat) (c1 : Int32) (c2 : Int32) : Option (mS × Int32) := o_rf (gP G a0 6) (fun q1 => o_ix c1 (gN G q1) (o_rf (gP G a0 6) (fun q3 => o_ix c2 (gN G q3) ((if (mI M q1 (Int32.toNatClampNeg c1)) = (mI M q3 (Int32.toNatClampNeg c2)) then m_X12_isSame_19 G a0 c1 c2 fu M ((0 : Int32)) else o_ck ((0 : Int32) = 0 ∨ (0 : Int32) = 1) (some (M, (0 : Int32))))))))
set_option maxHeartbeats 4000000 in
set_option maxRecDepth 100000 in
theorem b_X12_isSame_19 {p : Program} {e : Env} {s : State} {m : MethodId} {args : Array Value} {below : List Frame} {meth : Method} {c : Code} {A : Nat → Prop} {l : Launch} {D : va_G} {cy : cyS} {G : gS} (cx : cX p s m args meth c cX12_isSame RX12 4 (some .boolean) wsX12_isSame D cy G A) {k0 n0 : Nat} (hkn : k0 ≤ (rmX12_isSame).cells ∧ n0 ≤ (rmX12_isSame).slots) {M' : mS} {r : Int32} {a0 : Nat} {c1 : Int32} {c2 : Int32} (hL0 : a0 ∈ gL G) (hK0 : gK G a0 = 11)  : ∀ (n : Nat), ∀ (M : mS) (v3 : Int32) (H : Heap) (locs : List Loc) (ls : Array Slot), m_X12_isSame_19 G a0 c1 c2 n M v3 = some (M', r) → wd D cy G M A s.heap H locs → lv_has ls 4 [(0, .ref a0), (1, .int c1), (2, .int c2), (3, .int v3)] → W p l e rmX12_isSame s m args below meth c H locs k0 n0 (MQ below (va_Qi (fun (r' : Int32) (_ : Unit) => r' = r) (fun _ t => wOut D cy G M' t) A) args s k0 n0 A) (F0 m 19 ls []) := by
  obtain ⟨hx, hb, hml, hown, hts, hr, hlocks, hK, hA, hG, hsx⟩ := id cx
  intro n
  induction n with
  | zero =>
    intro M v3 H locs ls h w hl
    have h : none = some _ := h
    cases h
  | succ n ih =>
    intro M v3 H locs ls h w hl
    rw [m_X12_isSame_19] at h
    refine lv_iload_n hx hb dX12_isSame_19 rfl (lv_at hl 3 rfl) ?_
    refine lv_aload_n hx hb dX12_isSame_20 rfl (lv_at hl 0 rfl) ?_
    obtain ⟨q1, eq1, h⟩ := x_rf h
    obtain ⟨hLq1, hKq1⟩ := wt_q hG hL0 hK0 eq1
    have hKq1 : gK G q1 = 12 := hKq1
    refine r_getR (k := 6) cx w hL0 hK0 (by decide) rfl wi_X12_isSame_X12 (by decide) rfl eq1 (List.mem_of_getElem? (i := 1) rfl) dX12_isSame_21 ?_
    refine lv_iload_n hx hb dX12_isSame_24 rfl (lv_at hl 1 rfl) ?_
    obtain ⟨z2, h⟩ := x_ix h
    refine r_iald cx w hLq1 hKq1 z2 dX12_isSame_25 ?_
    refine lv_icmp_ge (tgt := 66) hx hb dX12_isSame_26 (by decide) (fun k3 => ?_) (fun k3 => ?_)
    · have h := x_t h k3
      refine lv_iconst (v := (1 : Int32)) hx hb dX12_isSame_66 (by decide) ?_
      obtain ⟨z4, h⟩ := x_ck h
      exact r_zret cx w z4 h dX12_isSame_67
    · have h := x_f h k3
      refine lv_aload_n hx hb dX12_isSame_29 rfl (lv_at hl 0 rfl) ?_
      obtain ⟨q5, eq5, h⟩ := x_rf h
      obtain ⟨hLq5, hKq5⟩ := wt_q hG hL0 hK0 eq5
      have hKq5 : gK G q5 = 12 := hKq5
      refine r_getR (k := 1) cx w hL0 hK0 (by decide) rfl wi_X12_isSame_X12 (by decide) rfl eq5 (List.mem_of_getElem? (i := 2) rfl) dX12_isSame_30 ?_
      refine lv_aload_n hx hb dX12_isSame_33 rfl (lv_at hl 0 rfl) ?_
      obtain ⟨q6, eq6, h⟩ := x_rf h
      obtain ⟨hLq6, hKq6⟩ := wt_q hG hL0 hK0 eq6
      have hKq6 : gK G q6 = 12 := hKq6
      refine r_getR (k := 5) cx w hL0 hK0 (by decide) rfl wi_X12_isSame_X12 (by decide) rfl eq6 (List.mem_of_getElem? (i := 3) rfl) dX12_isSame_34 ?_
      refine lv_iload_n hx hb dX12_isSame_37 rfl (lv_at hl 1 rfl) ?_
      obtain ⟨z7, h⟩ := x_ix h
      refine r_iald cx w hLq6 hKq6 z7 dX12_isSame_38 ?_
      refine lv_iload_n hx hb dX12_isSame_39 rfl (lv_at hl 3 rfl) ?_
      refine lv_iadd hx hb dX12_isSame_40 ?_
      obtain ⟨z8, h⟩ := x_ix h
      refine r_iald cx w hLq5 hKq5 z8 dX12_isSame_41 ?_
      refine lv_aload_n hx hb dX12_isSame_42 rfl (lv_at hl 0 rfl) ?_
      obtain ⟨q9, eq9, h⟩ := x_rf h
      obtain ⟨hLq9, hKq9⟩ := wt_q hG hL0 hK0 eq9
      have hKq9 : gK G q9 = 12 := hKq9
      refine r_getR (k := 1) cx w hL0 hK0 (by decide) rfl wi_X12_isSame_X12 (by decide) rfl eq9 (List.mem_of_getElem? (i := 2) rfl) dX12_isSame_43 ?_
      refine lv_aload_n hx hb dX12_isSame_46 rfl (lv_at hl 0 rfl) ?_
      obtain ⟨q10, eq10, h⟩ := x_rf h
      obtain ⟨hLq10, hKq10⟩ := wt_q hG hL0 hK0 eq10
      have hKq10 : gK G q10 = 12 := hKq10
      refine r_getR (k := 5) cx w hL0 hK0 (by decide) rfl wi_X12_isSame_X12 (by decide) rfl eq10 (List.mem_of_getElem? (i := 3) rfl) dX12_isSame_47 ?_
      refine lv_iload_n hx hb dX12_isSame_50 rfl (lv_at hl 2 rfl) ?_
      obtain ⟨z11, h⟩ := x_ix h
      refine r_iald cx w hLq10 hKq10 z11 dX12_isSame_51 ?_
      refine lv_iload_n hx hb dX12_isSame_52 rfl (lv_at hl 3 rfl) ?_
      refine lv_iadd hx hb dX12_isSame_53 ?_
      obtain ⟨z12, h⟩ := x_ix h
      refine r_iald cx w hLq9 hKq9 z12 dX12_isSame_54 ?_
      refine lv_icmp_eq (tgt := 60) hx hb dX12_isSame_55 (by decide) (fun k13 => ?_) (fun k13 => ?_)
      · have h := x_t h k13
        obtain ⟨x14, ex14, h⟩ := x_bd h
        refine lv_iinc (v := x14) (lv' := [(3, .int x14), (0, .ref a0), (1, .int c1), (2, .int c2)]) hx hb dX12_isSame_60 hl (k := 3) rfl (by rw [ex14]; rfl) (by decide) rfl (fun ls hl => ?_)
        refine lv_goto (tgt := 19) hx hb dX12_isSame_63 (by decide) ?_
        exact ih M x14 H locs ls h w (lv_sub hl [1, 2, 3, 0] rfl)
      · have h := x_f h k13
        refine lv_iconst (v := (0 : Int32)) hx hb dX12_isSame_58 (by decide) ?_
        obtain ⟨z15, h⟩ := x_ck h
        exact r_zret cx w z15 h dX12_isSame_59
set_option maxHeartbeats 4000000 in
set_option maxRecDepth 100000 in
theorem k_X12_isSame {l : Launch} {D : va_G} {cy : cyS} {G : gS} {M M' : mS} {r : Int32} {a0 : Nat} {c1 : Int32} {c2 : Int32} (hG : wt G) (hL0 : a0 ∈ gL G) (hK0 : gK G a0 = 11) (h : m_X12_isSame G M a0 c1 c2 = some (M', r)) : ctI l yX12_isSame wsX12_isSame rmX12_isSame D cy G M [.ref a0, .int c1, .int c2] M' r := by
  unfold m_X12_isSame at h
  refine ctI_of (cc := cX12_isSame) (nL := 4) (ret := (some .boolean)) (lv := [(0, .ref a0), (1, .int c1), (2, .int c2)]) hG (by decide) rfl ⟨rfl, rfl⟩ (Nat.le_of_ble_eq_true rfl) rfl ?_
  intro p e s m args below meth c A ls cx w hl
  obtain ⟨hx, hb, hml, hown, hts, hr, hlocks, hK, hA, -, hsx⟩ := id cx
  have hkn : 0 ≤ (rmX12_isSame).cells ∧ 0 ≤ (rmX12_isSame).slots := ⟨Nat.zero_le _, Nat.zero_le _⟩
  refine lv_aload_n hx hb dX12_isSame_0 rfl (lv_at hl 0 rfl) ?_
  obtain ⟨q1, eq1, h⟩ := x_rf h
  obtain ⟨hLq1, hKq1⟩ := wt_q hG hL0 hK0 eq1
  have hKq1 : gK G q1 = 12 := hKq1
  refine r_getR (k := 6) cx w hL0 hK0 (by decide) rfl wi_X12_isSame_X12 (by decide) rfl eq1 (List.mem_of_getElem? (i := 1) rfl) dX12_isSame_1 ?_
  refine lv_iload_n hx hb dX12_isSame_4 rfl (lv_at hl 1 rfl) ?_
  obtain ⟨z2, h⟩ := x_ix h
  refine r_iald cx w hLq1 hKq1 z2 dX12_isSame_5 ?_
  refine lv_aload_n hx hb dX12_isSame_6 rfl (lv_at hl 0 rfl) ?_
  obtain ⟨q3, eq3, h⟩ := x_rf h
  obtain ⟨hLq3, hKq3⟩ := wt_q hG hL0 hK0 eq3
  have hKq3 : gK G q3 = 12 := hKq3
  refine r_getR (k := 6) cx w hL0 hK0 (by decide) rfl wi_X12_isSame_X12 (by decide) rfl eq3 (List.mem_of_getElem? (i := 1) rfl) dX12_isSame_7 ?_
  refine lv_iload_n hx hb dX12_isSame_10 rfl (lv_at hl 2 rfl) ?_
  obtain ⟨z4, h⟩ := x_ix h
  refine r_iald cx w hLq3 hKq3 z4 dX12_isSame_11 ?_
  refine lv_icmp_eq (tgt := 17) hx hb dX12_isSame_12 (by decide) (fun k5 => ?_) (fun k5 => ?_)
  · have h := x_t h k5
    refine lv_iconst (v := (0 : Int32)) hx hb dX12_isSame_17 (by decide) ?_
    refine lv_istore_n (lv' := [(3, .int ((0 : Int32))), (0, .ref a0), (1, .int c1), (2, .int c2)]) hx hb dX12_isSame_18 rfl hl (by decide) rfl (fun ls hl => ?_)
    exact b_X12_isSame_19 cx hkn hL0 hK0 fu M ((0 : Int32)) s.heap [] ls h w (lv_sub hl [1, 2, 3, 0] rfl)
  · have h := x_f h k5
    refine lv_iconst (v := (0 : Int32)) hx hb dX12_isSame_15 (by decide) ?_
    obtain ⟨z6, h⟩ := x_ck h
    exact r_zret cx w z6 h dX12_isSame_16
-- X12_told
theorem wi_X12_told_X12 : ∀ w ∈ wsX120, w ∈ wsX12_told := by decide +kernel
abbrev rmX12_told : Room := { frames := 1, cells := 0, slots := 0, locals := 23 }
def m_X12_told_40 (G : gS) (a0 : Nat) (c1 : Int32) (c2 : Int32) (kb5 : mS → Int32 → Int32 → Option (mS × Int32)) (M : mS) (v3 : Int32) (v4 : Int32) : Option (mS × Int32) := o_bd (v4 + 1 : Int32) (fun x1 => kb5 M v3 x1)
def m_X12_told_5 (G : gS) (a0 : Nat) (c1 : Int32) (c2 : Int32)  : Nat → mS → Int32 → Int32 → Option (mS × Int32)
  | 0, _, _, _ => none
  | n + 1, M, v3, v4 => (if c1 ≤ v4 then some (M, (-1 : Int32)) else o_rf (gP G a0 7) (fun q2 => o_ix v4 (gN G q2) ((if (mI M q2 (Int32.toNatClampNeg v4)) = c2 then o_cl (m_X12_isSame G M a0 v4 c1) (fun M5 r6 => (if r6 = 0 then o_bd (v3 + 1 : Int32) (fun x9 => m_X12_told_40 G a0 c1 c2 (fun M v3 v4 => m_X12_told_5 G a0 c1 c2 n M v3 v4) M5 x9 v4) else some (M5, v3))) else m_X12_told_40 G a0 c1 c2 (fun M v3 v4 => m_X12_told_5 G a0 c1 c2 n M v3 v4) M v3 v4))))
def m_X12_told (G : gS) (M : mS) (a0 : Nat) (c1 : Int32) (c2 : Int32) : Option (mS × Int32) := m_X12_told_5 G a0 c1 c2 fu M ((0 : Int32)) ((0 : Int32))
set_option maxHeartbeats 4000000 in
set_option maxRecDepth 100000 in
theorem b_X12_told_40 {p : Program} {e : Env} {s : State} {m : MethodId} {args : Array Value} {below : List Frame} {meth : Method} {c : Code} {A : Nat → Prop} {l : Launch} {D : va_G} {cy : cyS} {G : gS} (cx : cX p s m args meth c cX12_told RX12 5 (some .int) wsX12_told D cy G A) {k0 n0 : Nat} (hkn : k0 ≤ (rmX12_told).cells ∧ n0 ≤ (rmX12_told).slots) {M' : mS} {r : Int32} {a0 : Nat} {c1 : Int32} {c2 : Int32} (hL0 : a0 ∈ gL G) (hK0 : gK G a0 = 11) {kb5 : mS → Int32 → Int32 → Option (mS × Int32)} (hkb5 : ∀ (M : mS) (v3 : Int32) (v4 : Int32) (H : Heap) (locs : List Loc) (ls : Array Slot), kb5 M v3 v4 = some (M', r) → wd D cy G M A s.heap H locs → lv_has ls 5 [(0, .ref a0), (1, .int c1), (2, .int c2), (3, .int v3), (4, .int v4)] → W p l e rmX12_told s m args below meth c H locs k0 n0 (MQ below (va_Qi (fun (r' : Int32) (_ : Unit) => r' = r) (fun _ t => wOut D cy G M' t) A) args s k0 n0 A) (F0 m 5 ls [])) : ∀ (M : mS) (v3 : Int32) (v4 : Int32) (H : Heap) (locs : List Loc) (ls : Array Slot), m_X12_told_40 G a0 c1 c2 kb5 M v3 v4 = some (M', r) → wd D cy G M A s.heap H locs → lv_has ls 5 [(0, .ref a0), (1, .int c1), (2, .int c2), (3, .int v3), (4, .int v4)] → W p l e rmX12_told s m args below meth c H locs k0 n0 (MQ below (va_Qi (fun (r' : Int32) (_ : Unit) => r' = r) (fun _ t => wOut D cy G M' t) A) args s k0 n0 A) (F0 m 40 ls []) := by
  obtain ⟨hx, hb, hml, hown, hts, hr, hlocks, hK, hA, hG, hsx⟩ := id cx
  intro M v3 v4 H locs ls h w hl
  unfold m_X12_told_40 at h
  obtain ⟨x1, ex1, h⟩ := x_bd h
  refine lv_iinc (v := x1) (lv' := [(4, .int x1), (0, .ref a0), (1, .int c1), (2, .int c2), (3, .int v3)]) hx hb dX12_told_40 hl (k := 4) rfl (by rw [ex1]; rfl) (by decide) rfl (fun ls hl => ?_)
  refine lv_goto (tgt := 5) hx hb dX12_told_43 (by decide) ?_
  exact hkb5 M v3 x1 H locs ls h w (lv_sub hl [1, 2, 3, 4, 0] rfl)
set_option maxHeartbeats 4000000 in
set_option maxRecDepth 100000 in
theorem b_X12_told_5 {p : Program} {e : Env} {s : State} {m : MethodId} {args : Array Value} {below : List Frame} {meth : Method} {c : Code} {A : Nat → Prop} {l : Launch} {D : va_G} {cy : cyS} {G : gS} (cx : cX p s m args meth c cX12_told RX12 5 (some .int) wsX12_told D cy G A) {k0 n0 : Nat} (hkn : k0 ≤ (rmX12_told).cells ∧ n0 ≤ (rmX12_told).slots) {M' : mS} {r : Int32} {a0 : Nat} {c1 : Int32} {c2 : Int32} (hL0 : a0 ∈ gL G) (hK0 : gK G a0 = 11)  : ∀ (n : Nat), ∀ (M : mS) (v3 : Int32) (v4 : Int32) (H : Heap) (locs : List Loc) (ls : Array Slot), m_X12_told_5 G a0 c1 c2 n M v3 v4 = some (M', r) → wd D cy G M A s.heap H locs → lv_has ls 5 [(0, .ref a0), (1, .int c1), (2, .int c2), (3, .int v3), (4, .int v4)] → W p l e rmX12_told s m args below meth c H locs k0 n0 (MQ below (va_Qi (fun (r' : Int32) (_ : Unit) => r' = r) (fun _ t => wOut D cy G M' t) A) args s k0 n0 A) (F0 m 5 ls []) := by
  obtain ⟨hx, hb, hml, hown, hts, hr, hlocks, hK, hA, hG, hsx⟩ := id cx
  intro n
  induction n with
  | zero =>
    intro M v3 v4 H locs ls h w hl
    have h : none = some _ := h
    cases h
  | succ n ih =>
    intro M v3 v4 H locs ls h w hl
    rw [m_X12_told_5] at h
    refine lv_iload hx hb dX12_told_5 (lv_at hl 4 rfl) ?_
    refine lv_iload_n hx hb dX12_told_7 rfl (lv_at hl 1 rfl) ?_
    refine lv_icmp_ge (tgt := 46) hx hb dX12_told_8 (by decide) (fun k1 => ?_) (fun k1 => ?_)
    · have h := x_t h k1
      refine lv_iconst (v := (-1 : Int32)) hx hb dX12_told_46 (by decide) ?_
      exact r_iret cx w h dX12_told_47
    · have h := x_f h k1
      refine lv_aload_n hx hb dX12_told_11 rfl (lv_at hl 0 rfl) ?_
      obtain ⟨q2, eq2, h⟩ := x_rf h
      obtain ⟨hLq2, hKq2⟩ := wt_q hG hL0 hK0 eq2
      have hKq2 : gK G q2 = 12 := hKq2
      refine r_getR (k := 7) cx w hL0 hK0 (by decide) rfl wi_X12_told_X12 (by decide) rfl eq2 (List.mem_of_getElem? (i := 1) rfl) dX12_told_12 ?_
      refine lv_iload hx hb dX12_told_15 (lv_at hl 4 rfl) ?_
      obtain ⟨z3, h⟩ := x_ix h
      refine r_iald cx w hLq2 hKq2 z3 dX12_told_17 ?_
      refine lv_iload_n hx hb dX12_told_18 rfl (lv_at hl 2 rfl) ?_
      refine lv_icmp_eq (tgt := 25) hx hb dX12_told_19 (by decide) (fun k4 => ?_) (fun k4 => ?_)
      · have h := x_t h k4
        refine lv_aload_n hx hb dX12_told_25 rfl (lv_at hl 0 rfl) ?_
        refine lv_iload hx hb dX12_told_26 (lv_at hl 4 rfl) ?_
        refine lv_iload_n hx hb dX12_told_28 rfl (lv_at hl 1 rfl) ?_
        obtain ⟨M5, r6, y7, h⟩ := x_cl h
        refine r_callVi (As := [.int v4, .int c1]) (rest := []) cx w hkn hl.1 (k_X12_isSame hG hL0 hK0 y7) (cwV 2 hts gX12_told_X12_isSame rfl rfl rfl (by decide +kernel) ⟨Nat.le_of_ble_eq_true rfl, Nat.le_of_ble_eq_true rfl⟩) hL0 hK0 (by decide) rfl rfl rfl (Nat.le_of_ble_eq_true rfl) dX12_told_29 (fun H locs w => ?_)
        refine lv_if_eq (tgt := 37) hx hb dX12_told_32 (by decide) (fun k8 => ?_) (fun k8 => ?_)
        · have h := x_t h k8
          obtain ⟨x9, ex9, h⟩ := x_bd h
          refine lv_iinc (v := x9) (lv' := [(3, .int x9), (0, .ref a0), (1, .int c1), (2, .int c2), (4, .int v4)]) hx hb dX12_told_37 hl (k := 3) rfl (by rw [ex9]; rfl) (by decide) rfl (fun ls hl => ?_)
          exact b_X12_told_40 cx hkn hL0 hK0 (hkb5 := ih) M5 x9 v4 H locs ls h w (lv_sub hl [1, 2, 3, 0, 4] rfl)
        · have h := x_f h k8
          refine lv_iload_n hx hb dX12_told_35 rfl (lv_at hl 3 rfl) ?_
          exact r_iret cx w h dX12_told_36
      · have h := x_f h k4
        refine lv_goto (tgt := 40) hx hb dX12_told_22 (by decide) ?_
        exact b_X12_told_40 cx hkn hL0 hK0 (hkb5 := ih) M v3 v4 H locs ls h w (lv_sub hl [0, 1, 2, 3, 4] rfl)
set_option maxHeartbeats 4000000 in
set_option maxRecDepth 100000 in
theorem k_X12_told {l : Launch} {D : va_G} {cy : cyS} {G : gS} {M M' : mS} {r : Int32} {a0 : Nat} {c1 : Int32} {c2 : Int32} (hG : wt G) (hL0 : a0 ∈ gL G) (hK0 : gK G a0 = 11) (h : m_X12_told G M a0 c1 c2 = some (M', r)) : ctI l yX12_told wsX12_told rmX12_told D cy G M [.ref a0, .int c1, .int c2] M' r := by
  unfold m_X12_told at h
  refine ctI_of (cc := cX12_told) (nL := 5) (ret := (some .int)) (lv := [(0, .ref a0), (1, .int c1), (2, .int c2)]) hG (by decide) rfl ⟨rfl, rfl⟩ (Nat.le_of_ble_eq_true rfl) rfl ?_
  intro p e s m args below meth c A ls cx w hl
  obtain ⟨hx, hb, hml, hown, hts, hr, hlocks, hK, hA, -, hsx⟩ := id cx
  have hkn : 0 ≤ (rmX12_told).cells ∧ 0 ≤ (rmX12_told).slots := ⟨Nat.zero_le _, Nat.zero_le _⟩
  refine lv_iconst (v := (0 : Int32)) hx hb dX12_told_0 (by decide) ?_
  refine lv_istore_n (lv' := [(3, .int ((0 : Int32))), (0, .ref a0), (1, .int c1), (2, .int c2)]) hx hb dX12_told_1 rfl hl (by decide) rfl (fun ls hl => ?_)
  refine lv_iconst (v := (0 : Int32)) hx hb dX12_told_2 (by decide) ?_
  refine lv_istore (lv' := [(4, .int ((0 : Int32))), (3, .int ((0 : Int32))), (0, .ref a0), (1, .int c1), (2, .int c2)]) hx hb dX12_told_3 hl (by decide) rfl (fun ls hl => ?_)
  exact b_X12_told_5 cx hkn hL0 hK0 fu M ((0 : Int32)) ((0 : Int32)) s.heap [] ls h w (lv_sub hl [2, 3, 4, 1, 0] rfl)
-- X12_isNew
theorem wi_X12_isNew_X12 : ∀ w ∈ wsX120, w ∈ wsX12_isNew := by decide +kernel
abbrev rmX12_isNew : Room := { frames := 2, cells := 0, slots := 0, locals := 47 }
def m_X12_isNew (G : gS) (M : mS) (a0 : Nat) (c1 : Int32) (c2 : Int32) (c3 : Int32) : Option (mS × Int32) := o_rf (gP G a0 7) (fun q1 => o_ix c1 (gN G q1) (o_cl (m_X12_told G M a0 c1 (mI M q1 (Int32.toNatClampNeg c1))) (fun M3 r4 => (if r4 = (-1 : Int32) then (if c2 = c3 then some (M3, (4 : Int32)) else some (M3, (0 : Int32))) else some (M3, (2 : Int32))))))
set_option maxHeartbeats 4000000 in
set_option maxRecDepth 100000 in
theorem k_X12_isNew {l : Launch} {D : va_G} {cy : cyS} {G : gS} {M M' : mS} {r : Int32} {a0 : Nat} {c1 : Int32} {c2 : Int32} {c3 : Int32} (hG : wt G) (hL0 : a0 ∈ gL G) (hK0 : gK G a0 = 11) (h : m_X12_isNew G M a0 c1 c2 c3 = some (M', r)) : ctI l yX12_isNew wsX12_isNew rmX12_isNew D cy G M [.ref a0, .int c1, .int c2, .int c3] M' r := by
  unfold m_X12_isNew at h
  refine ctI_of (cc := cX12_isNew) (nL := 4) (ret := (some .int)) (lv := [(0, .ref a0), (1, .int c1), (2, .int c2), (3, .int c3)]) hG (by decide) rfl ⟨rfl, rfl⟩ (Nat.le_of_ble_eq_true rfl) rfl ?_
  intro p e s m args below meth c A ls cx w hl
  obtain ⟨hx, hb, hml, hown, hts, hr, hlocks, hK, hA, -, hsx⟩ := id cx
  have hkn : 0 ≤ (rmX12_isNew).cells ∧ 0 ≤ (rmX12_isNew).slots := ⟨Nat.zero_le _, Nat.zero_le _⟩
  refine lv_aload_n hx hb dX12_isNew_0 rfl (lv_at hl 0 rfl) ?_
  refine lv_iload_n hx hb dX12_isNew_1 rfl (lv_at hl 1 rfl) ?_
  refine lv_aload_n hx hb dX12_isNew_2 rfl (lv_at hl 0 rfl) ?_
  obtain ⟨q1, eq1, h⟩ := x_rf h
  obtain ⟨hLq1, hKq1⟩ := wt_q hG hL0 hK0 eq1
  have hKq1 : gK G q1 = 12 := hKq1
  refine r_getR (k := 7) cx w hL0 hK0 (by decide) rfl wi_X12_isNew_X12 (by decide) rfl eq1 (List.mem_of_getElem? (i := 1) rfl) dX12_isNew_3 ?_
  refine lv_iload_n hx hb dX12_isNew_6 rfl (lv_at hl 1 rfl) ?_
  obtain ⟨z2, h⟩ := x_ix h
  refine r_iald cx w hLq1 hKq1 z2 dX12_isNew_7 ?_
  obtain ⟨M3, r4, y5, h⟩ := x_cl h
  refine r_callVi (As := [.int c1, .int ((mI M q1 (Int32.toNatClampNeg c1)))]) (rest := []) cx w hkn hl.1 (k_X12_told hG hL0 hK0 y5) (cwV 2 hts gX12_isNew_X12_told rfl rfl rfl (by decide +kernel) ⟨Nat.le_of_ble_eq_true rfl, Nat.le_of_ble_eq_true rfl⟩) hL0 hK0 (by decide) rfl rfl rfl (Nat.le_of_ble_eq_true rfl) dX12_isNew_8 (fun H locs w => ?_)
  refine lv_iconst (v := (-1 : Int32)) hx hb dX12_isNew_11 (by decide) ?_
  refine lv_icmp_eq (tgt := 19) hx hb dX12_isNew_12 (by decide) (fun k6 => ?_) (fun k6 => ?_)
  · have h := x_t h k6
    refine lv_iload_n hx hb dX12_isNew_19 rfl (lv_at hl 2 rfl) ?_
    refine lv_iload_n hx hb dX12_isNew_20 rfl (lv_at hl 3 rfl) ?_
    refine lv_icmp_ne (tgt := 28) hx hb dX12_isNew_21 (by decide) (fun k7 => ?_) (fun k7 => ?_)
    · have h := x_f h k7
      refine lv_iconst (v := (0 : Int32)) hx hb dX12_isNew_28 (by decide) ?_
      exact r_iret cx w h dX12_isNew_29
    · have h := x_t h k7
      refine lv_iconst (v := (4 : Int32)) hx hb dX12_isNew_24 (by decide) ?_
      refine lv_goto (tgt := 29) hx hb dX12_isNew_25 (by decide) ?_
      exact r_iret cx w h dX12_isNew_29
  · have h := x_f h k6
    refine lv_iconst (v := (2 : Int32)) hx hb dX12_isNew_15 (by decide) ?_
    refine lv_goto (tgt := 29) hx hb dX12_isNew_16 (by decide) ?_
    exact r_iret cx w h dX12_isNew_29
-- X12_newRule
theorem wi_X12_newRule_X10 : ∀ w ∈ wsX100, w ∈ wsX12_newRule := by decide +kernel
theorem wi_X12_newRule_X12 : ∀ w ∈ wsX120, w ∈ wsX12_newRule := by decide +kernel
abbrev rmX12_newRule : Room := { frames := 3, cells := 0, slots := 0, locals := 70 }
def m_X12_newRule_31 (G : gS) (a0 : Nat) (c1 : Int32)  (M : mS) (v2 : Int32) (s0 : Nat) (s1 : Int32) (s2 : Int32) : Option (mS × Int32) := o_wI M s0 0 (s1 + s2) (fun M1 => some (M1, v2))
def m_X12_newRule (G : gS) (M : mS) (a0 : Nat) (c1 : Int32) : Option (mS × Int32) := o_rf (gP G a0 12) (fun q1 => o_cl (m_X12_isNew G M a0 c1 (mI M q1 0) (5 : Int32)) (fun M2 r3 => o_rf (gP G a0 12) (fun q5 => (if r3 = 0 then m_X12_newRule_31 G a0 c1 M2 r3 q5 ((mI M2 q5 0)) ((1 : Int32)) else m_X12_newRule_31 G a0 c1 M2 r3 q5 ((mI M2 q5 0)) ((0 : Int32))))))
set_option maxHeartbeats 4000000 in
set_option maxRecDepth 100000 in
theorem b_X12_newRule_31 {p : Program} {e : Env} {s : State} {m : MethodId} {args : Array Value} {below : List Frame} {meth : Method} {c : Code} {A : Nat → Prop} {l : Launch} {D : va_G} {cy : cyS} {G : gS} (cx : cX p s m args meth c cX12_newRule RX12 3 (some .int) wsX12_newRule D cy G A) {k0 n0 : Nat} (hkn : k0 ≤ (rmX12_newRule).cells ∧ n0 ≤ (rmX12_newRule).slots) {M' : mS} {r : Int32} {a0 : Nat} {c1 : Int32} (hL0 : a0 ∈ gL G) (hK0 : gK G a0 = 11)  : ∀ (M : mS) (v2 : Int32) (s0 : Nat) (s1 : Int32) (s2 : Int32) (H : Heap) (locs : List Loc) (ls : Array Slot), s0 ∈ gL G → gK G s0 = 9 → m_X12_newRule_31 G a0 c1 M v2 s0 s1 s2 = some (M', r) → wd D cy G M A s.heap H locs → lv_has ls 3 [(2, .int v2)] → W p l e rmX12_newRule s m args below meth c H locs k0 n0 (MQ below (va_Qi (fun (r' : Int32) (_ : Unit) => r' = r) (fun _ t => wOut D cy G M' t) A) args s k0 n0 A) (F0 m 31 ls [.int s2, .int s1, .ref s0]) := by
  obtain ⟨hx, hb, hml, hown, hts, hr, hlocks, hK, hA, hG, hsx⟩ := id cx
  intro M v2 s0 s1 s2 H locs ls sL0 sK0 h w hl
  unfold m_X12_newRule_31 at h
  refine lv_iadd hx hb dX12_newRule_31 ?_
  obtain ⟨M1, eM1, h⟩ := x_wI h
  refine r_putIN (k := 0) (ty := .int) cx w tyX10 tyX10_ok nmX10 sL0 sK0 (by decide) rfl wi_X12_newRule_X10 (by decide) rfl rfl rfl rfl st_9_0 (ln_9 _ _ (by decide)) (nwF cx (q := (RX12, 220, "FlagAntsModel$Plan", "rules", "I", "FlagAntsModel")) (List.mem_of_getElem? (i := 8) rfl)) dX12_newRule_32 eM1 (fun H locs w => ?_)
  refine lv_iload_n hx hb dX12_newRule_35 rfl (lv_at hl 0 rfl) ?_
  exact r_iret cx w h dX12_newRule_36
set_option maxHeartbeats 4000000 in
set_option maxRecDepth 100000 in
theorem k_X12_newRule {l : Launch} {D : va_G} {cy : cyS} {G : gS} {M M' : mS} {r : Int32} {a0 : Nat} {c1 : Int32} (hG : wt G) (hL0 : a0 ∈ gL G) (hK0 : gK G a0 = 11) (h : m_X12_newRule G M a0 c1 = some (M', r)) : ctI l yX12_newRule wsX12_newRule rmX12_newRule D cy G M [.ref a0, .int c1] M' r := by
  unfold m_X12_newRule at h
  refine ctI_of (cc := cX12_newRule) (nL := 3) (ret := (some .int)) (lv := [(0, .ref a0), (1, .int c1)]) hG (by decide) rfl ⟨rfl, rfl⟩ (Nat.le_of_ble_eq_true rfl) rfl ?_
  intro p e s m args below meth c A ls cx w hl
  obtain ⟨hx, hb, hml, hown, hts, hr, hlocks, hK, hA, -, hsx⟩ := id cx
  have hkn : 0 ≤ (rmX12_newRule).cells ∧ 0 ≤ (rmX12_newRule).slots := ⟨Nat.zero_le _, Nat.zero_le _⟩
  refine lv_aload_n hx hb dX12_newRule_0 rfl (lv_at hl 0 rfl) ?_
  refine lv_iload_n hx hb dX12_newRule_1 rfl (lv_at hl 1 rfl) ?_
  refine lv_aload_n hx hb dX12_newRule_2 rfl (lv_at hl 0 rfl) ?_
  obtain ⟨q1, eq1, h⟩ := x_rf h
  obtain ⟨hLq1, hKq1⟩ := wt_q hG hL0 hK0 eq1
  have hKq1 : gK G q1 = 9 := hKq1
  refine r_getR (k := 12) cx w hL0 hK0 (by decide) rfl wi_X12_newRule_X12 (by decide) rfl eq1 (List.mem_of_getElem? (i := 1) rfl) dX12_newRule_3 ?_
  refine r_getIN (k := 0) (v := .int (mI M q1 0)) cx w hLq1 hKq1 (by decide) rfl wi_X12_newRule_X10 (by decide) rfl (nwF cx (q := (RX12, 220, "FlagAntsModel$Plan", "rules", "I", "FlagAntsModel")) (List.mem_of_getElem? (i := 8) rfl)) dX12_newRule_6 ?_
  refine lv_iconst (v := (5 : Int32)) hx hb dX12_newRule_9 (by decide) ?_
  obtain ⟨M2, r3, y4, h⟩ := x_cl h
  refine r_callVi (As := [.int c1, .int ((mI M q1 0)), .int ((5 : Int32))]) (rest := []) cx w hkn hl.1 (k_X12_isNew hG hL0 hK0 y4) (cwV 3 hts gX12_newRule_X12_isNew rfl rfl rfl (by decide +kernel) ⟨Nat.le_of_ble_eq_true rfl, Nat.le_of_ble_eq_true rfl⟩) hL0 hK0 (by decide) rfl rfl rfl (Nat.le_of_ble_eq_true rfl) dX12_newRule_10 (fun H locs w => ?_)
  refine lv_istore_n (lv' := [(2, .int r3), (0, .ref a0), (1, .int c1)]) hx hb dX12_newRule_13 rfl hl (by decide) rfl (fun ls hl => ?_)
  refine lv_aload_n hx hb dX12_newRule_14 rfl (lv_at hl 1 rfl) ?_
  obtain ⟨q5, eq5, h⟩ := x_rf h
  obtain ⟨hLq5, hKq5⟩ := wt_q hG hL0 hK0 eq5
  have hKq5 : gK G q5 = 9 := hKq5
  refine r_getR (k := 12) cx w hL0 hK0 (by decide) rfl wi_X12_newRule_X12 (by decide) rfl eq5 (List.mem_of_getElem? (i := 1) rfl) dX12_newRule_15 ?_
  refine lv_dup hx hb dX12_newRule_18 rfl ?_
  refine r_getIN (k := 0) (v := .int (mI M2 q5 0)) cx w hLq5 hKq5 (by decide) rfl wi_X12_newRule_X10 (by decide) rfl (nwF cx (q := (RX12, 220, "FlagAntsModel$Plan", "rules", "I", "FlagAntsModel")) (List.mem_of_getElem? (i := 8) rfl)) dX12_newRule_19 ?_
  refine lv_iload_n hx hb dX12_newRule_22 rfl (lv_at hl 0 rfl) ?_
  refine lv_if_ne (tgt := 30) hx hb dX12_newRule_23 (by decide) (fun k6 => ?_) (fun k6 => ?_)
  · have h := x_f h k6
    refine lv_iconst (v := (0 : Int32)) hx hb dX12_newRule_30 (by decide) ?_
    exact b_X12_newRule_31 cx hkn hL0 hK0 M2 r3 q5 ((mI M2 q5 0)) ((0 : Int32)) H locs ls hLq5 hKq5 h w (lv_sub hl [0] rfl)
  · have h := x_t h k6
    refine lv_iconst (v := (1 : Int32)) hx hb dX12_newRule_26 (by decide) ?_
    refine lv_goto (tgt := 31) hx hb dX12_newRule_27 (by decide) ?_
    exact b_X12_newRule_31 cx hkn hL0 hK0 M2 r3 q5 ((mI M2 q5 0)) ((1 : Int32)) H locs ls hLq5 hKq5 h w (lv_sub hl [0] rfl)
-- X12_newTurn
theorem wi_X12_newTurn_X10 : ∀ w ∈ wsX100, w ∈ wsX12_newTurn := by decide +kernel
theorem wi_X12_newTurn_X12 : ∀ w ∈ wsX120, w ∈ wsX12_newTurn := by decide +kernel
abbrev rmX12_newTurn : Room := { frames := 0, cells := 0, slots := 0, locals := 0 }
def m_X12_newTurn (G : gS) (M : mS) (a0 : Nat) (c1 : Int32) : Option (mS × Int32) := o_rf (gP G a0 12) (fun q1 => o_bd (((mI M q1 0) - (1 : Int32))) (fun x2 => o_rf (gP G a0 12) (fun q3 => o_rf (gP G q3 1) (fun q4 => o_ix x2 (gN G q4) ((if (mI M q4 (Int32.toNatClampNeg x2)) = (6 : Int32) then some (M, (4 : Int32)) else o_rf (gP G a0 12) (fun q7 => o_rf (gP G q7 2) (fun q8 => o_rf (gP G a0 12) (fun q9 => o_rf (gP G q9 1) (fun q10 => o_ix x2 (gN G q10) (o_rf (gP G a0 4) (fun q12 => o_ix c1 (gN G q12) (o_ix (((6 : Int32) * x2) + (mI M q10 (Int32.toNatClampNeg x2))) (gN G q8) (o_wI M q8 (Int32.toNatClampNeg (((6 : Int32) * x2) + (mI M q10 (Int32.toNatClampNeg x2)))) ((mI M q12 (Int32.toNatClampNeg c1)) - (1 : Int32)) (fun M15 => o_rf (gP G a0 12) (fun q16 => o_rf (gP G q16 1) (fun q17 => o_ix x2 (gN G q17) (o_ix x2 (gN G q17) (o_wI M15 q17 (Int32.toNatClampNeg x2) ((mI M15 q17 (Int32.toNatClampNeg x2)) + (1 : Int32)) (fun M20 => some (M20, (0 : Int32))))))))))))))))))))))
set_option maxHeartbeats 4000000 in
set_option maxRecDepth 100000 in
theorem k_X12_newTurn {l : Launch} {D : va_G} {cy : cyS} {G : gS} {M M' : mS} {r : Int32} {a0 : Nat} {c1 : Int32} (hG : wt G) (hL0 : a0 ∈ gL G) (hK0 : gK G a0 = 11) (h : m_X12_newTurn G M a0 c1 = some (M', r)) : ctI l yX12_newTurn wsX12_newTurn rmX12_newTurn D cy G M [.ref a0, .int c1] M' r := by
  unfold m_X12_newTurn at h
  refine ctI_of (cc := cX12_newTurn) (nL := 3) (ret := (some .int)) (lv := [(0, .ref a0), (1, .int c1)]) hG (by decide) rfl ⟨rfl, rfl⟩ (Nat.le_of_ble_eq_true rfl) rfl ?_
  intro p e s m args below meth c A ls cx w hl
  obtain ⟨hx, hb, hml, hown, hts, hr, hlocks, hK, hA, -, hsx⟩ := id cx
  have hkn : 0 ≤ (rmX12_newTurn).cells ∧ 0 ≤ (rmX12_newTurn).slots := ⟨Nat.zero_le _, Nat.zero_le _⟩
  refine lv_aload_n hx hb dX12_newTurn_0 rfl (lv_at hl 0 rfl) ?_
  obtain ⟨q1, eq1, h⟩ := x_rf h
  obtain ⟨hLq1, hKq1⟩ := wt_q hG hL0 hK0 eq1
  have hKq1 : gK G q1 = 9 := hKq1
  refine r_getR (k := 12) cx w hL0 hK0 (by decide) rfl wi_X12_newTurn_X12 (by decide) rfl eq1 (List.mem_of_getElem? (i := 1) rfl) dX12_newTurn_1 ?_
  refine r_getIN (k := 0) (v := .int (mI M q1 0)) cx w hLq1 hKq1 (by decide) rfl wi_X12_newTurn_X10 (by decide) rfl (nwF cx (q := (RX12, 220, "FlagAntsModel$Plan", "rules", "I", "FlagAntsModel")) (List.mem_of_getElem? (i := 8) rfl)) dX12_newTurn_4 ?_
  refine lv_iconst (v := (1 : Int32)) hx hb dX12_newTurn_7 (by decide) ?_
  refine lv_isub hx hb dX12_newTurn_8 ?_
  obtain ⟨x2, ex2, h⟩ := x_bd h
  refine r_topI ex2 ?_
  refine lv_istore_n (lv' := [(2, .int x2), (0, .ref a0), (1, .int c1)]) hx hb dX12_newTurn_9 rfl hl (by decide) rfl (fun ls hl => ?_)
  refine lv_aload_n hx hb dX12_newTurn_10 rfl (lv_at hl 1 rfl) ?_
  obtain ⟨q3, eq3, h⟩ := x_rf h
  obtain ⟨hLq3, hKq3⟩ := wt_q hG hL0 hK0 eq3
  have hKq3 : gK G q3 = 9 := hKq3
  refine r_getR (k := 12) cx w hL0 hK0 (by decide) rfl wi_X12_newTurn_X12 (by decide) rfl eq3 (List.mem_of_getElem? (i := 1) rfl) dX12_newTurn_11 ?_
  obtain ⟨q4, eq4, h⟩ := x_rf h
  obtain ⟨hLq4, hKq4⟩ := wt_q hG hLq3 hKq3 eq4
  have hKq4 : gK G q4 = 12 := hKq4
  refine r_getRN (k := 1) cx w hLq3 hKq3 (by decide) rfl wi_X12_newTurn_X10 (by decide) rfl eq4 (nwF cx (q := (RX12, 227, "FlagAntsModel$Plan", "turns", "[I", "FlagAntsModel")) (List.mem_of_getElem? (i := 9) rfl)) dX12_newTurn_14 ?_
  refine lv_iload_n hx hb dX12_newTurn_17 rfl (lv_at hl 0 rfl) ?_
  obtain ⟨z5, h⟩ := x_ix h
  refine r_iald cx w hLq4 hKq4 z5 dX12_newTurn_18 ?_
  refine lv_bipush (v := (6 : Int32)) hx hb dX12_newTurn_19 (by decide) ?_
  refine lv_icmp_ne (tgt := 26) hx hb dX12_newTurn_21 (by decide) (fun k6 => ?_) (fun k6 => ?_)
  · have h := x_f h k6
    refine lv_aload_n hx hb dX12_newTurn_26 rfl (lv_at hl 1 rfl) ?_
    obtain ⟨q7, eq7, h⟩ := x_rf h
    obtain ⟨hLq7, hKq7⟩ := wt_q hG hL0 hK0 eq7
    have hKq7 : gK G q7 = 9 := hKq7
    refine r_getR (k := 12) cx w hL0 hK0 (by decide) rfl wi_X12_newTurn_X12 (by decide) rfl eq7 (List.mem_of_getElem? (i := 1) rfl) dX12_newTurn_27 ?_
    obtain ⟨q8, eq8, h⟩ := x_rf h
    obtain ⟨hLq8, hKq8⟩ := wt_q hG hLq7 hKq7 eq8
    have hKq8 : gK G q8 = 12 := hKq8
    refine r_getRN (k := 2) cx w hLq7 hKq7 (by decide) rfl wi_X12_newTurn_X10 (by decide) rfl eq8 (nwF cx (q := (RX12, 230, "FlagAntsModel$Plan", "turn", "[I", "FlagAntsModel")) (List.mem_of_getElem? (i := 10) rfl)) dX12_newTurn_30 ?_
    refine lv_bipush (v := (6 : Int32)) hx hb dX12_newTurn_33 (by decide) ?_
    refine lv_iload_n hx hb dX12_newTurn_35 rfl (lv_at hl 0 rfl) ?_
    refine lv_imul hx hb dX12_newTurn_36 ?_
    refine lv_aload_n hx hb dX12_newTurn_37 rfl (lv_at hl 1 rfl) ?_
    obtain ⟨q9, eq9, h⟩ := x_rf h
    obtain ⟨hLq9, hKq9⟩ := wt_q hG hL0 hK0 eq9
    have hKq9 : gK G q9 = 9 := hKq9
    refine r_getR (k := 12) cx w hL0 hK0 (by decide) rfl wi_X12_newTurn_X12 (by decide) rfl eq9 (List.mem_of_getElem? (i := 1) rfl) dX12_newTurn_38 ?_
    obtain ⟨q10, eq10, h⟩ := x_rf h
    obtain ⟨hLq10, hKq10⟩ := wt_q hG hLq9 hKq9 eq10
    have hKq10 : gK G q10 = 12 := hKq10
    refine r_getRN (k := 1) cx w hLq9 hKq9 (by decide) rfl wi_X12_newTurn_X10 (by decide) rfl eq10 (nwF cx (q := (RX12, 227, "FlagAntsModel$Plan", "turns", "[I", "FlagAntsModel")) (List.mem_of_getElem? (i := 9) rfl)) dX12_newTurn_41 ?_
    refine lv_iload_n hx hb dX12_newTurn_44 rfl (lv_at hl 0 rfl) ?_
    obtain ⟨z11, h⟩ := x_ix h
    refine r_iald cx w hLq10 hKq10 z11 dX12_newTurn_45 ?_
    refine lv_iadd hx hb dX12_newTurn_46 ?_
    refine lv_aload_n hx hb dX12_newTurn_47 rfl (lv_at hl 1 rfl) ?_
    obtain ⟨q12, eq12, h⟩ := x_rf h
    obtain ⟨hLq12, hKq12⟩ := wt_q hG hL0 hK0 eq12
    have hKq12 : gK G q12 = 12 := hKq12
    refine r_getR (k := 4) cx w hL0 hK0 (by decide) rfl wi_X12_newTurn_X12 (by decide) rfl eq12 (List.mem_of_getElem? (i := 2) rfl) dX12_newTurn_48 ?_
    refine lv_iload_n hx hb dX12_newTurn_51 rfl (lv_at hl 2 rfl) ?_
    obtain ⟨z13, h⟩ := x_ix h
    refine r_iald cx w hLq12 hKq12 z13 dX12_newTurn_52 ?_
    refine lv_iconst (v := (1 : Int32)) hx hb dX12_newTurn_53 (by decide) ?_
    refine lv_isub hx hb dX12_newTurn_54 ?_
    obtain ⟨z14, h⟩ := x_ix h
    obtain ⟨M15, eM15, h⟩ := x_wI h
    refine r_iast cx w hLq8 hKq8 z14 dX12_newTurn_55 eM15 (fun H locs w => ?_)
    refine lv_aload_n hx hb dX12_newTurn_56 rfl (lv_at hl 1 rfl) ?_
    obtain ⟨q16, eq16, h⟩ := x_rf h
    obtain ⟨hLq16, hKq16⟩ := wt_q hG hL0 hK0 eq16
    have hKq16 : gK G q16 = 9 := hKq16
    refine r_getR (k := 12) cx w hL0 hK0 (by decide) rfl wi_X12_newTurn_X12 (by decide) rfl eq16 (List.mem_of_getElem? (i := 1) rfl) dX12_newTurn_57 ?_
    obtain ⟨q17, eq17, h⟩ := x_rf h
    obtain ⟨hLq17, hKq17⟩ := wt_q hG hLq16 hKq16 eq17
    have hKq17 : gK G q17 = 12 := hKq17
    refine r_getRN (k := 1) cx w hLq16 hKq16 (by decide) rfl wi_X12_newTurn_X10 (by decide) rfl eq17 (nwF cx (q := (RX12, 227, "FlagAntsModel$Plan", "turns", "[I", "FlagAntsModel")) (List.mem_of_getElem? (i := 9) rfl)) dX12_newTurn_60 ?_
    refine lv_iload_n hx hb dX12_newTurn_63 rfl (lv_at hl 0 rfl) ?_
    refine lv_dup2_11 hx hb dX12_newTurn_64 rfl rfl ?_
    obtain ⟨z18, h⟩ := x_ix h
    refine r_iald cx w hLq17 hKq17 z18 dX12_newTurn_65 ?_
    refine lv_iconst (v := (1 : Int32)) hx hb dX12_newTurn_66 (by decide) ?_
    refine lv_iadd hx hb dX12_newTurn_67 ?_
    obtain ⟨z19, h⟩ := x_ix h
    obtain ⟨M20, eM20, h⟩ := x_wI h
    refine r_iast cx w hLq17 hKq17 z19 dX12_newTurn_68 eM20 (fun H locs w => ?_)
    refine lv_iconst (v := (0 : Int32)) hx hb dX12_newTurn_69 (by decide) ?_
    exact r_iret cx w h dX12_newTurn_70
  · have h := x_t h k6
    refine lv_iconst (v := (4 : Int32)) hx hb dX12_newTurn_24 (by decide) ?_
    exact r_iret cx w h dX12_newTurn_25
-- X12_newAnt
theorem wi_X12_newAnt_X10 : ∀ w ∈ wsX100, w ∈ wsX12_newAnt := by decide +kernel
theorem wi_X12_newAnt_X12 : ∀ w ∈ wsX120, w ∈ wsX12_newAnt := by decide +kernel
abbrev rmX12_newAnt : Room := { frames := 3, cells := 0, slots := 0, locals := 70 }
def m_X12_newAnt_32 (G : gS) (a0 : Nat) (c1 : Int32)  (M : mS) (v2 : Int32) (s0 : Nat) (s1 : Int32) (s2 : Int32) : Option (mS × Int32) := o_wI M s0 3 (s1 + s2) (fun M1 => o_rf (gP G a0 12) (fun q2 => o_wI M1 q2 4 (0 : Int32) (fun M3 => some (M3, v2))))
def m_X12_newAnt (G : gS) (M : mS) (a0 : Nat) (c1 : Int32) : Option (mS × Int32) := o_rf (gP G a0 12) (fun q1 => o_cl (m_X12_isNew G M a0 c1 (mI M q1 3) (6 : Int32)) (fun M2 r3 => o_rf (gP G a0 12) (fun q5 => (if r3 = 0 then m_X12_newAnt_32 G a0 c1 M2 r3 q5 ((mI M2 q5 3)) ((1 : Int32)) else m_X12_newAnt_32 G a0 c1 M2 r3 q5 ((mI M2 q5 3)) ((0 : Int32))))))
set_option maxHeartbeats 4000000 in
set_option maxRecDepth 100000 in
theorem b_X12_newAnt_32 {p : Program} {e : Env} {s : State} {m : MethodId} {args : Array Value} {below : List Frame} {meth : Method} {c : Code} {A : Nat → Prop} {l : Launch} {D : va_G} {cy : cyS} {G : gS} (cx : cX p s m args meth c cX12_newAnt RX12 3 (some .int) wsX12_newAnt D cy G A) {k0 n0 : Nat} (hkn : k0 ≤ (rmX12_newAnt).cells ∧ n0 ≤ (rmX12_newAnt).slots) {M' : mS} {r : Int32} {a0 : Nat} {c1 : Int32} (hL0 : a0 ∈ gL G) (hK0 : gK G a0 = 11)  : ∀ (M : mS) (v2 : Int32) (s0 : Nat) (s1 : Int32) (s2 : Int32) (H : Heap) (locs : List Loc) (ls : Array Slot), s0 ∈ gL G → gK G s0 = 9 → m_X12_newAnt_32 G a0 c1 M v2 s0 s1 s2 = some (M', r) → wd D cy G M A s.heap H locs → lv_has ls 3 [(0, .ref a0), (2, .int v2)] → W p l e rmX12_newAnt s m args below meth c H locs k0 n0 (MQ below (va_Qi (fun (r' : Int32) (_ : Unit) => r' = r) (fun _ t => wOut D cy G M' t) A) args s k0 n0 A) (F0 m 32 ls [.int s2, .int s1, .ref s0]) := by
  obtain ⟨hx, hb, hml, hown, hts, hr, hlocks, hK, hA, hG, hsx⟩ := id cx
  intro M v2 s0 s1 s2 H locs ls sL0 sK0 h w hl
  unfold m_X12_newAnt_32 at h
  refine lv_iadd hx hb dX12_newAnt_32 ?_
  obtain ⟨M1, eM1, h⟩ := x_wI h
  refine r_putIN (k := 3) (ty := .int) cx w tyX10 tyX10_ok nmX10 sL0 sK0 (by decide) rfl wi_X12_newAnt_X10 (by decide) rfl rfl rfl rfl st_9_3 (ln_9 _ _ (by decide)) (nwF cx (q := (RX12, 64, "FlagAntsModel$Plan", "ants", "I", "FlagAntsModel")) (List.mem_of_getElem? (i := 0) rfl)) dX12_newAnt_33 eM1 (fun H locs w => ?_)
  refine lv_aload_n hx hb dX12_newAnt_36 rfl (lv_at hl 0 rfl) ?_
  obtain ⟨q2, eq2, h⟩ := x_rf h
  obtain ⟨hLq2, hKq2⟩ := wt_q hG hL0 hK0 eq2
  have hKq2 : gK G q2 = 9 := hKq2
  refine r_getR (k := 12) cx w hL0 hK0 (by decide) rfl wi_X12_newAnt_X12 (by decide) rfl eq2 (List.mem_of_getElem? (i := 1) rfl) dX12_newAnt_37 ?_
  refine lv_iconst (v := (0 : Int32)) hx hb dX12_newAnt_40 (by decide) ?_
  obtain ⟨M3, eM3, h⟩ := x_wI h
  refine r_putIN (k := 4) (ty := .int) cx w tyX10 tyX10_ok nmX10 hLq2 hKq2 (by decide) rfl wi_X12_newAnt_X10 (by decide) rfl rfl rfl rfl st_9_4 (ln_9 _ _ (by decide)) (nwF cx (q := (RX12, 233, "FlagAntsModel$Plan", "told", "I", "FlagAntsModel")) (List.mem_of_getElem? (i := 11) rfl)) dX12_newAnt_41 eM3 (fun H locs w => ?_)
  refine lv_iload_n hx hb dX12_newAnt_44 rfl (lv_at hl 1 rfl) ?_
  exact r_iret cx w h dX12_newAnt_45
set_option maxHeartbeats 4000000 in
set_option maxRecDepth 100000 in
theorem k_X12_newAnt {l : Launch} {D : va_G} {cy : cyS} {G : gS} {M M' : mS} {r : Int32} {a0 : Nat} {c1 : Int32} (hG : wt G) (hL0 : a0 ∈ gL G) (hK0 : gK G a0 = 11) (h : m_X12_newAnt G M a0 c1 = some (M', r)) : ctI l yX12_newAnt wsX12_newAnt rmX12_newAnt D cy G M [.ref a0, .int c1] M' r := by
  unfold m_X12_newAnt at h
  refine ctI_of (cc := cX12_newAnt) (nL := 3) (ret := (some .int)) (lv := [(0, .ref a0), (1, .int c1)]) hG (by decide) rfl ⟨rfl, rfl⟩ (Nat.le_of_ble_eq_true rfl) rfl ?_
  intro p e s m args below meth c A ls cx w hl
  obtain ⟨hx, hb, hml, hown, hts, hr, hlocks, hK, hA, -, hsx⟩ := id cx
  have hkn : 0 ≤ (rmX12_newAnt).cells ∧ 0 ≤ (rmX12_newAnt).slots := ⟨Nat.zero_le _, Nat.zero_le _⟩
  refine lv_aload_n hx hb dX12_newAnt_0 rfl (lv_at hl 0 rfl) ?_
  refine lv_iload_n hx hb dX12_newAnt_1 rfl (lv_at hl 1 rfl) ?_
  refine lv_aload_n hx hb dX12_newAnt_2 rfl (lv_at hl 0 rfl) ?_
  obtain ⟨q1, eq1, h⟩ := x_rf h
  obtain ⟨hLq1, hKq1⟩ := wt_q hG hL0 hK0 eq1
  have hKq1 : gK G q1 = 9 := hKq1
  refine r_getR (k := 12) cx w hL0 hK0 (by decide) rfl wi_X12_newAnt_X12 (by decide) rfl eq1 (List.mem_of_getElem? (i := 1) rfl) dX12_newAnt_3 ?_
  refine r_getIN (k := 3) (v := .int (mI M q1 3)) cx w hLq1 hKq1 (by decide) rfl wi_X12_newAnt_X10 (by decide) rfl (nwF cx (q := (RX12, 64, "FlagAntsModel$Plan", "ants", "I", "FlagAntsModel")) (List.mem_of_getElem? (i := 0) rfl)) dX12_newAnt_6 ?_
  refine lv_bipush (v := (6 : Int32)) hx hb dX12_newAnt_9 (by decide) ?_
  obtain ⟨M2, r3, y4, h⟩ := x_cl h
  refine r_callVi (As := [.int c1, .int ((mI M q1 3)), .int ((6 : Int32))]) (rest := []) cx w hkn hl.1 (k_X12_isNew hG hL0 hK0 y4) (cwV 3 hts gX12_newAnt_X12_isNew rfl rfl rfl (by decide +kernel) ⟨Nat.le_of_ble_eq_true rfl, Nat.le_of_ble_eq_true rfl⟩) hL0 hK0 (by decide) rfl rfl rfl (Nat.le_of_ble_eq_true rfl) dX12_newAnt_11 (fun H locs w => ?_)
  refine lv_istore_n (lv' := [(2, .int r3), (0, .ref a0), (1, .int c1)]) hx hb dX12_newAnt_14 rfl hl (by decide) rfl (fun ls hl => ?_)
  refine lv_aload_n hx hb dX12_newAnt_15 rfl (lv_at hl 1 rfl) ?_
  obtain ⟨q5, eq5, h⟩ := x_rf h
  obtain ⟨hLq5, hKq5⟩ := wt_q hG hL0 hK0 eq5
  have hKq5 : gK G q5 = 9 := hKq5
  refine r_getR (k := 12) cx w hL0 hK0 (by decide) rfl wi_X12_newAnt_X12 (by decide) rfl eq5 (List.mem_of_getElem? (i := 1) rfl) dX12_newAnt_16 ?_
  refine lv_dup hx hb dX12_newAnt_19 rfl ?_
  refine r_getIN (k := 3) (v := .int (mI M2 q5 3)) cx w hLq5 hKq5 (by decide) rfl wi_X12_newAnt_X10 (by decide) rfl (nwF cx (q := (RX12, 64, "FlagAntsModel$Plan", "ants", "I", "FlagAntsModel")) (List.mem_of_getElem? (i := 0) rfl)) dX12_newAnt_20 ?_
  refine lv_iload_n hx hb dX12_newAnt_23 rfl (lv_at hl 0 rfl) ?_
  refine lv_if_ne (tgt := 31) hx hb dX12_newAnt_24 (by decide) (fun k6 => ?_) (fun k6 => ?_)
  · have h := x_f h k6
    refine lv_iconst (v := (0 : Int32)) hx hb dX12_newAnt_31 (by decide) ?_
    exact b_X12_newAnt_32 cx hkn hL0 hK0 M2 r3 q5 ((mI M2 q5 3)) ((0 : Int32)) H locs ls hLq5 hKq5 h w (lv_sub hl [1, 0] rfl)
  · have h := x_t h k6
    refine lv_iconst (v := (1 : Int32)) hx hb dX12_newAnt_27 (by decide) ?_
    refine lv_goto (tgt := 32) hx hb dX12_newAnt_28 (by decide) ?_
    exact b_X12_newAnt_32 cx hkn hL0 hK0 M2 r3 q5 ((mI M2 q5 3)) ((1 : Int32)) H locs ls hLq5 hKq5 h w (lv_sub hl [1, 0] rfl)
-- X12_look
theorem wi_X12_look_X12 : ∀ w ∈ wsX120, w ∈ wsX12_look := by decide +kernel
abbrev rmX12_look : Room := { frames := 2, cells := 0, slots := 0, locals := 47 }
def m_X12_look (G : gS) (M : mS) (a0 : Nat) (c1 : Int32) (c2 : Int32) : Option (mS × Int32) := o_rf (gP G a0 8) (fun q1 => o_cl (m_X12_told G M a0 c1 c2) (fun M2 r3 => o_ix c1 (gN G q1) (o_wI M2 q1 (Int32.toNatClampNeg c1) r3 (fun M6 => o_rf (gP G a0 8) (fun q7 => o_ix c1 (gN G q7) ((if (mI M6 q7 (Int32.toNatClampNeg c1)) = (-1 : Int32) then some (M6, (3 : Int32)) else some (M6, (0 : Int32)))))))))
set_option maxHeartbeats 4000000 in
set_option maxRecDepth 100000 in
theorem k_X12_look {l : Launch} {D : va_G} {cy : cyS} {G : gS} {M M' : mS} {r : Int32} {a0 : Nat} {c1 : Int32} {c2 : Int32} (hG : wt G) (hL0 : a0 ∈ gL G) (hK0 : gK G a0 = 11) (h : m_X12_look G M a0 c1 c2 = some (M', r)) : ctI l yX12_look wsX12_look rmX12_look D cy G M [.ref a0, .int c1, .int c2] M' r := by
  unfold m_X12_look at h
  refine ctI_of (cc := cX12_look) (nL := 3) (ret := (some .int)) (lv := [(0, .ref a0), (1, .int c1), (2, .int c2)]) hG (by decide) rfl ⟨rfl, rfl⟩ (Nat.le_of_ble_eq_true rfl) rfl ?_
  intro p e s m args below meth c A ls cx w hl
  obtain ⟨hx, hb, hml, hown, hts, hr, hlocks, hK, hA, -, hsx⟩ := id cx
  have hkn : 0 ≤ (rmX12_look).cells ∧ 0 ≤ (rmX12_look).slots := ⟨Nat.zero_le _, Nat.zero_le _⟩
  refine lv_aload_n hx hb dX12_look_0 rfl (lv_at hl 0 rfl) ?_
  obtain ⟨q1, eq1, h⟩ := x_rf h
  obtain ⟨hLq1, hKq1⟩ := wt_q hG hL0 hK0 eq1
  have hKq1 : gK G q1 = 12 := hKq1
  refine r_getR (k := 8) cx w hL0 hK0 (by decide) rfl wi_X12_look_X12 (by decide) rfl eq1 (List.mem_of_getElem? (i := 1) rfl) dX12_look_1 ?_
  refine lv_iload_n hx hb dX12_look_4 rfl (lv_at hl 1 rfl) ?_
  refine lv_aload_n hx hb dX12_look_5 rfl (lv_at hl 0 rfl) ?_
  refine lv_iload_n hx hb dX12_look_6 rfl (lv_at hl 1 rfl) ?_
  refine lv_iload_n hx hb dX12_look_7 rfl (lv_at hl 2 rfl) ?_
  obtain ⟨M2, r3, y4, h⟩ := x_cl h
  refine r_callVi (As := [.int c1, .int c2]) (rest := [.int c1, .ref q1]) cx w hkn hl.1 (k_X12_told hG hL0 hK0 y4) (cwV 2 hts gX12_look_X12_told rfl rfl rfl (by decide +kernel) ⟨Nat.le_of_ble_eq_true rfl, Nat.le_of_ble_eq_true rfl⟩) hL0 hK0 (by decide) rfl rfl rfl (Nat.le_of_ble_eq_true rfl) dX12_look_8 (fun H locs w => ?_)
  obtain ⟨z5, h⟩ := x_ix h
  obtain ⟨M6, eM6, h⟩ := x_wI h
  refine r_iast cx w hLq1 hKq1 z5 dX12_look_11 eM6 (fun H locs w => ?_)
  refine lv_aload_n hx hb dX12_look_12 rfl (lv_at hl 0 rfl) ?_
  obtain ⟨q7, eq7, h⟩ := x_rf h
  obtain ⟨hLq7, hKq7⟩ := wt_q hG hL0 hK0 eq7
  have hKq7 : gK G q7 = 12 := hKq7
  refine r_getR (k := 8) cx w hL0 hK0 (by decide) rfl wi_X12_look_X12 (by decide) rfl eq7 (List.mem_of_getElem? (i := 1) rfl) dX12_look_13 ?_
  refine lv_iload_n hx hb dX12_look_16 rfl (lv_at hl 1 rfl) ?_
  obtain ⟨z8, h⟩ := x_ix h
  refine r_iald cx w hLq7 hKq7 z8 dX12_look_17 ?_
  refine lv_iconst (v := (-1 : Int32)) hx hb dX12_look_18 (by decide) ?_
  refine lv_icmp_ne (tgt := 26) hx hb dX12_look_19 (by decide) (fun k9 => ?_) (fun k9 => ?_)
  · have h := x_f h k9
    refine lv_iconst (v := (0 : Int32)) hx hb dX12_look_26 (by decide) ?_
    exact r_iret cx w h dX12_look_27
  · have h := x_t h k9
    refine lv_iconst (v := (3 : Int32)) hx hb dX12_look_22 (by decide) ?_
    refine lv_goto (tgt := 27) hx hb dX12_look_23 (by decide) ?_
    exact r_iret cx w h dX12_look_27
-- X12_named
theorem wi_X12_named_X12 : ∀ w ∈ wsX120, w ∈ wsX12_named := by decide +kernel
abbrev rmX12_named : Room := { frames := 3, cells := 0, slots := 0, locals := 69 }
def m_X12_named (G : gS) (M : mS) (a0 : Nat) (c1 : Int32) (a2 : Nat) (c3 : Int32) (c4 : Int32) : Option (mS × Int32) := o_cl (m_X12_look G M a0 c1 c4) (fun M1 r2 => o_rf (gP G a0 8) (fun q4 => o_ix c1 (gN G q4) (o_ix c3 (gN G a2) (o_wI M1 a2 (Int32.toNatClampNeg c3) (mI M1 q4 (Int32.toNatClampNeg c1)) (fun M7 => some (M7, r2))))))
set_option maxHeartbeats 4000000 in
set_option maxRecDepth 100000 in
theorem k_X12_named {l : Launch} {D : va_G} {cy : cyS} {G : gS} {M M' : mS} {r : Int32} {a0 : Nat} {c1 : Int32} {a2 : Nat} {c3 : Int32} {c4 : Int32} (hG : wt G) (hL0 : a0 ∈ gL G) (hK0 : gK G a0 = 11) (hL2 : a2 ∈ gL G) (hK2 : gK G a2 = 12) (h : m_X12_named G M a0 c1 a2 c3 c4 = some (M', r)) : ctI l yX12_named wsX12_named rmX12_named D cy G M [.ref a0, .int c1, .ref a2, .int c3, .int c4] M' r := by
  unfold m_X12_named at h
  refine ctI_of (cc := cX12_named) (nL := 6) (ret := (some .int)) (lv := [(0, .ref a0), (1, .int c1), (2, .ref a2), (3, .int c3), (4, .int c4)]) hG (by decide) rfl ⟨rfl, rfl⟩ (Nat.le_of_ble_eq_true rfl) rfl ?_
  intro p e s m args below meth c A ls cx w hl
  obtain ⟨hx, hb, hml, hown, hts, hr, hlocks, hK, hA, -, hsx⟩ := id cx
  have hkn : 0 ≤ (rmX12_named).cells ∧ 0 ≤ (rmX12_named).slots := ⟨Nat.zero_le _, Nat.zero_le _⟩
  refine lv_aload_n hx hb dX12_named_0 rfl (lv_at hl 0 rfl) ?_
  refine lv_iload_n hx hb dX12_named_1 rfl (lv_at hl 1 rfl) ?_
  refine lv_iload hx hb dX12_named_2 (lv_at hl 4 rfl) ?_
  obtain ⟨M1, r2, y3, h⟩ := x_cl h
  refine r_callVi (As := [.int c1, .int c4]) (rest := []) cx w hkn hl.1 (k_X12_look hG hL0 hK0 y3) (cwV 2 hts gX12_named_X12_look rfl rfl rfl (by decide +kernel) ⟨Nat.le_of_ble_eq_true rfl, Nat.le_of_ble_eq_true rfl⟩) hL0 hK0 (by decide) rfl rfl rfl (Nat.le_of_ble_eq_true rfl) dX12_named_4 (fun H locs w => ?_)
  refine lv_istore (lv' := [(5, .int r2), (0, .ref a0), (1, .int c1), (2, .ref a2), (3, .int c3), (4, .int c4)]) hx hb dX12_named_7 hl (by decide) rfl (fun ls hl => ?_)
  refine lv_aload_n hx hb dX12_named_9 rfl (lv_at hl 3 rfl) ?_
  refine lv_iload_n hx hb dX12_named_10 rfl (lv_at hl 4 rfl) ?_
  refine lv_aload_n hx hb dX12_named_11 rfl (lv_at hl 1 rfl) ?_
  obtain ⟨q4, eq4, h⟩ := x_rf h
  obtain ⟨hLq4, hKq4⟩ := wt_q hG hL0 hK0 eq4
  have hKq4 : gK G q4 = 12 := hKq4
  refine r_getR (k := 8) cx w hL0 hK0 (by decide) rfl wi_X12_named_X12 (by decide) rfl eq4 (List.mem_of_getElem? (i := 1) rfl) dX12_named_12 ?_
  refine lv_iload_n hx hb dX12_named_15 rfl (lv_at hl 2 rfl) ?_
  obtain ⟨z5, h⟩ := x_ix h
  refine r_iald cx w hLq4 hKq4 z5 dX12_named_16 ?_
  obtain ⟨z6, h⟩ := x_ix h
  obtain ⟨M7, eM7, h⟩ := x_wI h
  refine r_iast cx w hL2 hK2 z6 dX12_named_17 eM7 (fun H locs w => ?_)
  refine lv_iload hx hb dX12_named_18 (lv_at hl 0 rfl) ?_
  exact r_iret cx w h dX12_named_20
-- X12_inRange
abbrev rmX12_inRange : Room := { frames := 1, cells := 0, slots := 0, locals := 23 }
def m_X12_inRange (G : gS) (M : mS) (a0 : Nat) (c1 : Int32) (c2 : Int32) (c3 : Int32) : Option (mS × Int32) := o_cl (m_X12_numberAt G M a0 c1) (fun M1 r2 => o_cl (m_X12_isIn G M1 r2 c2 c3) (fun M4 r5 => (if r5 = 0 then some (M4, (5 : Int32)) else some (M4, (0 : Int32)))))
set_option maxHeartbeats 4000000 in
set_option maxRecDepth 100000 in
theorem k_X12_inRange {l : Launch} {D : va_G} {cy : cyS} {G : gS} {M M' : mS} {r : Int32} {a0 : Nat} {c1 : Int32} {c2 : Int32} {c3 : Int32} (hG : wt G) (hL0 : a0 ∈ gL G) (hK0 : gK G a0 = 11) (h : m_X12_inRange G M a0 c1 c2 c3 = some (M', r)) : ctI l yX12_inRange wsX12_inRange rmX12_inRange D cy G M [.ref a0, .int c1, .int c2, .int c3] M' r := by
  unfold m_X12_inRange at h
  refine ctI_of (cc := cX12_inRange) (nL := 4) (ret := (some .int)) (lv := [(0, .ref a0), (1, .int c1), (2, .int c2), (3, .int c3)]) hG (by decide) rfl ⟨rfl, rfl⟩ (Nat.le_of_ble_eq_true rfl) rfl ?_
  intro p e s m args below meth c A ls cx w hl
  obtain ⟨hx, hb, hml, hown, hts, hr, hlocks, hK, hA, -, hsx⟩ := id cx
  have hkn : 0 ≤ (rmX12_inRange).cells ∧ 0 ≤ (rmX12_inRange).slots := ⟨Nat.zero_le _, Nat.zero_le _⟩
  refine lv_aload_n hx hb dX12_inRange_0 rfl (lv_at hl 0 rfl) ?_
  refine lv_iload_n hx hb dX12_inRange_1 rfl (lv_at hl 1 rfl) ?_
  obtain ⟨M1, r2, y3, h⟩ := x_cl h
  refine r_callVi (As := [.int c1]) (rest := []) cx w hkn hl.1 (k_X12_numberAt hG hL0 hK0 y3) (cwV 1 hts gX12_inRange_X12_numberAt rfl rfl rfl (by decide +kernel) ⟨Nat.le_of_ble_eq_true rfl, Nat.le_of_ble_eq_true rfl⟩) hL0 hK0 (by decide) rfl rfl rfl (Nat.le_of_ble_eq_true rfl) dX12_inRange_2 (fun H locs w => ?_)
  refine lv_iload_n hx hb dX12_inRange_5 rfl (lv_at hl 2 rfl) ?_
  refine lv_iload_n hx hb dX12_inRange_6 rfl (lv_at hl 3 rfl) ?_
  obtain ⟨M4, r5, y6, h⟩ := x_cl h
  refine r_callSi (As := [.int r2, .int c2, .int c3]) (rest := []) cx w hkn hl.1 (k_X12_isIn hG y6) (va_cwS 3 hts gX12_inRange_X12_isIn rfl rfl rfl (by decide +kernel) ⟨Nat.le_of_ble_eq_true rfl, Nat.le_of_ble_eq_true rfl⟩) rfl rfl (Nat.le_of_ble_eq_true rfl) dX12_inRange_7 (fun H locs w => ?_)
  refine lv_if_eq (tgt := 17) hx hb dX12_inRange_10 (by decide) (fun k7 => ?_) (fun k7 => ?_)
  · have h := x_t h k7
    refine lv_iconst (v := (5 : Int32)) hx hb dX12_inRange_17 (by decide) ?_
    exact r_iret cx w h dX12_inRange_18
  · have h := x_f h k7
    refine lv_iconst (v := (0 : Int32)) hx hb dX12_inRange_13 (by decide) ?_
    refine lv_goto (tgt := 18) hx hb dX12_inRange_14 (by decide) ?_
    exact r_iret cx w h dX12_inRange_18
