theorem en_str {s : State} {args : Array Value} {A : Nat → Prop} (hn : ∀ w ∈ nrw, w.before args s = true) (hA : ∀ a : Nat, a < s.heap.size → ¬ A a) : ∃ adK adV : Nat → Nat, vk_S 36 sLen sByt adK adV A s s.heap ∧ ∀ i : Nat, i < 36 → (tmS i).eval args s none [] s = some (.ref (adK i)) :=
  str_of (by decide +kernel) (fun i h => hn _ (en_ex i h)) (fun i h => hn _ (en_co i h)) (fun i h => hn _ (en_ar i h)) (fun i h => hn _ (en_le i h)) (fun i h j hj => hn _ (en_el i h j hj)) en_df hA
theorem en_row {s : State} {args : Array Value} {A : Nat → Prop} {own nm d : String} {ty : FieldType} {n : Nat} (hN : n < 2 ^ 31) {g : Nat → Term} {f : Nat → Value} (hn : ∀ w ∈ nrw, w.before args s = true) (hA : ∀ a : Nat, a < s.heap.size → ¬ A a) (h1 : (Cond.laysStatic own nm d).before args s = true) (h2 : (Cond.initialized own).before args s = true) (h3 : (Cond.arrayOf (.static own nm d) ty) ∈ nrw ∧ (Cond.eq (.length (.static own nm d)) (.int (Int32.ofNat n))) ∈ nrw) (h4 : ∀ w ∈ (List.range n).map (fun j => Cond.eq (.elem (.static own nm d) (.int (Int32.ofNat j))) (g j)), w ∈ nrw) (h5 : ∀ j, j < n → (Cond.eq (.elem (.static own nm d) (.int (Int32.ofNat j))) (g j)).before args s = true → (Term.elem (.static own nm d) (.int (Int32.ofNat j))).eval args s none [] s = some (f j)) : ∃ t : Nat, va_Z own nm d (.ref t) A s s.heap ∧ va_T ty t n f A s s.heap := by
  obtain ⟨t, ht, hT⟩ := va_Tof (ty := ty) (f := f) (A := A) hN (hn _ h3.1) (va_eqt (hn _ h3.2)) (fun j hj => h5 j hj (hn _ (h4 _ (List.mem_map.mpr ⟨j, List.mem_range.mpr hj, rfl⟩)))) hA
  exact ⟨t, va_Zof h1 h2 ht hA, hT⟩
theorem en_nw {s : State} {args : Array Value} (hts : ∀ w ∈ lw_tbl, w.before args s = true) : nw s :=
  ⟨fun q hq => va_Nw.of rfl (hts _ (en_F _ (List.mem_map.mpr ⟨q, hq, rfl⟩))), fun q hq => va_Nw.of rfl (hts _ (en_M _ (List.mem_map.mpr ⟨q, hq, rfl⟩))), va_Nw.of rfl (hts _ en_C)⟩
theorem en_ar1 {s : State} {args : Array Value} {ty : FieldType} (hp : ∀ C, ty ≠ .object C) (h : (Cond.arrayClass ty).before args s = true) : ∃ cA : ClassId, ArrOfT s cA ty ∧ s.vm.findClass ("[" ++ ty.toString) = some cA := by
  obtain ⟨c, k, comp, h1, h2, h3⟩ := Cond.arrayClass_spec (args := args) (first := s) (o := none) (s := s) (idx := []) h
  exact ⟨c, fun n z => ⟨fun i h => (by cases h), k, h2, comp, h3⟩, h1⟩
theorem en_x32 (x : Int32) : Int32.ofNat x.toBitVec.toNat = x := by
  apply Int32.toBitVec_inj.mp
  show BitVec.ofNat 32 x.toBitVec.toNat = x.toBitVec
  rw [BitVec.ofNat_toNat, BitVec.setWidth_eq]
def G00 : gS := ([], fun _ => 0, fun _ => 0, fun _ _ => none)
def M00 : mS := (fun _ _ => 0, fun _ _ => 0)
theorem en_ref : ∀ i, i < 36 → sRef.getD i ("", 0, "") ∈ sRef := by decide +kernel
theorem en_tm : ∀ i, i < 36 → Term.string (sRef.getD i ("", 0, "")).1 (sRef.getD i ("", 0, "")).2.1 = tmS i := by decide +kernel
theorem entry {p : Program} {s : State} {m : MethodId} {meth : Method} {c : Code} {b L : Nat} {xs : Nat → Int32} (C0 : lw_At p s m meth c b L xs) : ∃ (D : va_G) (cy : cyS), (stX D = b ∧ xL D = L ∧ xS D = xs) ∧ cX p s m #[.ref b] meth c cL_law RL 29 (some .boolean) wsL_law D cy G00 (fun q => s.heap.size ≤ q) := by
  obtain ⟨hx, hb, hr, hml, hown, hts, hX, hbl, hlocks, hgv⟩ := C0
  have hn : ∀ w ∈ nrw, w.before #[Value.ref b] s = true := flat_of_before _ hgv
  have hA : ∀ a : Nat, a < s.heap.size → ¬ (fun q : Nat => s.heap.size ≤ q) a := fun a h1 h2 => Nat.not_le.mpr h1 h2
  obtain ⟨adK, adV, hS, hSe⟩ := en_str hn hA
  have iz : ∀ {t : Term} {v : Int32}, (Cond.eq t (.int v)).before #[Value.ref b] s = true → t.eval #[Value.ref b] s none [] s = some (.int v) := fun h => va_eqt h
  obtain ⟨tE, zE, vE⟩ := en_row (f := fun j => .int (f_E j)) (by decide : 4 < 2 ^ 31) hn hA (hts _ en_l0.1) (hts _ en_l0.2) en_rE en_eE (fun j _ h => va_eqt h)
  obtain ⟨tS, zS, vS⟩ := en_row (f := fun j => .int (f_S j)) (by decide : 4 < 2 ^ 31) hn hA (hts _ en_l1.1) (hts _ en_l1.2) en_rS en_eS (fun j _ h => va_eqt h)
  obtain ⟨tT, zT, vT⟩ := en_row (f := fun j => .int (f_T j)) (by decide : 4 < 2 ^ 31) hn hA (hts _ en_l2.1) (hts _ en_l2.2) en_rT en_eT (fun j _ h => va_eqt h)
  obtain ⟨t0, z0, v0⟩ := en_row (f := fun j => .ref (adK j)) (by decide : 4 < 2 ^ 31) hn hA (hts _ en_l3.1) (hts _ en_l3.2) en_rW0 en_eW0 (fun j hj h => va_eqv h (hSe j (by omega)))
  obtain ⟨t1, z1, v1⟩ := en_row (f := fun j => .ref (adK (4 + j))) (by decide : 4 < 2 ^ 31) hn hA (hts _ en_l4.1) (hts _ en_l4.2) en_rW1 en_eW1 (fun j hj h => va_eqv h (hSe (4 + j) (by omega)))
  obtain ⟨d0, y0, w0⟩ := en_row (f := fun j => .int (f_D 0 j)) (by decide : 100 < 2 ^ 31) hn hA (hts _ en_l5.1) (hts _ en_l5.2) en_rD0 en_eD0 (fun j _ h => va_eqt h)
  obtain ⟨d1, y1, w1⟩ := en_row (f := fun j => .int (f_D 1 j)) (by decide : 100 < 2 ^ 31) hn hA (hts _ en_l6.1) (hts _ en_l6.2) en_rD1 en_eD1 (fun j _ h => va_eqt h)
  obtain ⟨c0, i0, k0⟩ := u_known (tbm_hts hts) inX0 (tbm_hts hts _ (tbm_l _ en_i0))
  obtain ⟨c1, i1, k1⟩ := u_known (tbm_hts hts) inX2 (tbm_hts hts _ (tbm_l _ en_i1))
  obtain ⟨c2, i2, k2⟩ := u_known (tbm_hts hts) inX3 (tbm_hts hts _ (tbm_l _ en_i2))
  obtain ⟨c3, i3, k3⟩ := u_known (tbm_hts hts) inX4 (tbm_hts hts _ (tbm_l _ en_i3))
  obtain ⟨c4, i4, k4⟩ := u_known (tbm_hts hts) inX5 (tbm_hts hts _ (tbm_l _ en_i4))
  obtain ⟨c5, i5, k5⟩ := u_known (tbm_hts hts) inX6 (tbm_hts hts _ (tbm_l _ en_i5))
  obtain ⟨c6, i6, k6⟩ := u_known (tbm_hts hts) inX7 (tbm_hts hts _ (tbm_l _ en_i6))
  obtain ⟨c7, i7, k7⟩ := u_known (tbm_hts hts) inX8 (tbm_hts hts _ (tbm_l _ en_i7))
  obtain ⟨c8, i8, k8⟩ := u_known (tbm_hts hts) inX9 (tbm_hts hts _ (tbm_l _ en_i8))
  obtain ⟨c9, i9, k9⟩ := u_known (tbm_hts hts) inX10 (tbm_hts hts _ (tbm_l _ en_i9))
  obtain ⟨c10, i10, k10⟩ := u_known (tbm_hts hts) inJ0 (tbm_hts hts _ (tbm_l _ en_i10))
  obtain ⟨c11, i11, k11⟩ := u_known (tbm_hts hts) inJ4 (tbm_hts hts _ (tbm_l _ en_i11))
  obtain ⟨g0, ga0, gb0⟩ := en_ar1 (ty := .int) (fun C h => by cases h) (hts _ en_aI)
  obtain ⟨g1, ga1, gb1⟩ := en_ar1 (ty := .long) (fun C h => by cases h) (hts _ en_aJ)
  obtain ⟨g4, ga4, gb4⟩ := en_ar1 (ty := .byte) (fun C h => by cases h) (hts _ en_aB)
  obtain ⟨comp, g2, kA, yc, yi, yk, yd, yf⟩ := Cond.arrayOver_spec (args := #[Value.ref b]) (first := s) (o := none) (s := s) (idx := []) (hts _ en_aO)
  obtain ⟨comq, g3, kB, vc, vi, vk, vd, vf⟩ := arrayOverA_spec (args := #[Value.ref b]) (first := s) (o := none) (s := s) (idx := []) (hts _ en_aA)
  refine ⟨(fun k => match k with | 0 => c0 | 1 => c1 | 2 => c2 | 3 => c3 | 4 => c4 | 5 => c5 | 6 => c6 | 7 => c7 | 8 => c8 | 9 => c9 | 10 => c10 | _ => c11, fun k => match k with | 0 => i0 | 1 => i1 | 2 => i2 | 3 => i3 | 4 => i4 | 5 => i5 | 6 => i6 | 7 => i7 | 8 => i8 | 9 => i9 | 10 => i10 | 11 => i11 | 100 => adK | 101 => adV | 102 => (fun j => if j = 0 then t0 else t1) | 103 => (fun j => if j = 0 then d0 else d1) | 104 => (fun j => if j = 0 then b else L) | _ => fun j => (xs j).toBitVec.toNat), (g0, g1, g2, g3, g4), ⟨rfl, rfl, funext fun j => en_x32 (xs j)⟩, hx, hb, hml, hown, fun w hw => tbm_hts hts _ (wsL_law_in w hw), hr, hlocks, ⟨?_, ?_⟩, fun _ h => h, (fun a ha => by cases ha), ?_⟩
  · intro k q hq
    match k, hq with
    | 0, hq => cases hq; exact k0
    | 1, hq => cases hq; exact k1
    | 2, hq => cases hq; exact k2
    | 3, hq => cases hq; exact k3
    | 4, hq => cases hq; exact k4
    | 5, hq => cases hq; exact k5
    | 6, hq => cases hq; exact k6
    | 7, hq => cases hq; exact k7
    | 8, hq => cases hq; exact k8
    | 9, hq => cases hq; exact k9
    | 10, hq => cases hq; exact k10
    | 11, hq => cases hq; exact k11
    | k + 12, hq => cases hq
  · intro k q hq
    match k, hq with
    | 0, hq => cases hq; exact ⟨ga0, gb0⟩
    | 1, hq => cases hq; exact ⟨ga1, gb1⟩
    | 2, hq => cases hq; exact ⟨fun n z => ⟨fun i h => (by cases h), kA, yk, comp, yd⟩, kA, comp, yk, yd, yc, yf⟩
    | 3, hq => cases hq; exact ⟨fun n z => ⟨fun i h => (by cases h), kB, vk, comq, vd⟩, vf⟩
    | 4, hq => cases hq; exact ⟨ga4, gb4⟩
    | k + 5, hq => cases hq
  · refine ⟨⟨tE, zE, vE⟩, ⟨tS, zS, vS⟩, ⟨tT, zT, vT⟩, en_nw hts, va_AO.of (hts _ en_aO), (show va_AOA .int s from hts _ en_aA), hS, fun i hi => vk_R.of (hts _ (en_S _ (List.mem_map.mpr ⟨sRef.getD i ("", 0, ""), en_ref i hi, rfl⟩))) ((congrArg (fun t : Term => t.eval #[Value.ref b] s none [] s) (en_tm i hi)).trans (hSe i hi)), z0, v0, z1, v1, y0, w0, y1, w1, va_Zof (hts _ en_l7.1) (hts _ en_l7.2) (va_eqi (hn _ en_w.1)) hA, va_Zqof (hts _ en_l8.1) (hts _ en_l8.2) (hn _ en_w.2) hA, ?_, fun h => Nat.not_le.mpr hbl h⟩
    obtain ⟨scr, q1, q2, q3, q4, q5⟩ := hX
    exact ⟨scr, q1, q2, q3, q4, fun j hj => (q5 j hj).trans (congrArg (fun z => some (Value.int z)) (en_x32 (xs j)).symm)⟩
