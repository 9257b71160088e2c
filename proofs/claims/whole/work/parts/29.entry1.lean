theorem en_str {s : State} {args : Array Value} {A : Nat → Prop} (hn : ∀ w ∈ nrw, w.before args s = true) (hA : ∀ a : Nat, a < s.heap.size → ¬ A a) : ∃ adK adV : Nat → Nat, vk_S 35 sLen sByt adK adV A s s.heap ∧ ∀ i : Nat, i < 35 → (tmS i).eval args s none [] s = some (.ref (adK i)) :=
  str_of (by decide +kernel) (fun i h => hn _ (en_ex i h)) (fun i h => hn _ (en_co i h)) (fun i h => hn _ (en_ar i h)) (fun i h => hn _ (en_le i h)) (fun i h j hj => hn _ (en_el i h j hj)) en_df hA
theorem en_row {s : State} {args : Array Value} {A : Nat → Prop} {nm : String} {f : Nat → Int32} (hn : ∀ w ∈ nrw, w.before args s = true) (hA : ∀ a : Nat, a < s.heap.size → ¬ A a) (h1 : (Cond.laysStatic "FlagAnts$Ant" nm "[I").before args s = true) (h2 : (Cond.initialized "FlagAnts$Ant").before args s = true) (h3 : (Cond.arrayOf (.static "FlagAnts$Ant" nm "[I") .int) ∈ nrw ∧ (Cond.eq (.length (.static "FlagAnts$Ant" nm "[I")) (.int (Int32.ofNat 4))) ∈ nrw) (h4 : ∀ w ∈ (List.range 4).map (fun j => Cond.eq (.elem (.static "FlagAnts$Ant" nm "[I") (.int (Int32.ofNat j))) (.int (f j))), w ∈ nrw) : sx1 nm f A s s.heap := by
  obtain ⟨t, ht, hT⟩ := va_Tof (ty := .int) (f := fun j => .int (f j)) (A := A) (by decide : 4 < 2 ^ 31) (hn _ h3.1) (va_eqt (hn _ h3.2)) (fun j hj => va_eqt (hn _ (h4 _ (List.mem_map.mpr ⟨j, List.mem_range.mpr hj, rfl⟩)))) hA
  exact ⟨t, va_Zof h1 h2 ht hA, hT⟩
theorem en_nw {s : State} {args : Array Value} (hts : ∀ w ∈ lw_tbl, w.before args s = true) (hn : ∀ w ∈ nrw, w.before args s = true) : nw s :=
  ⟨fun q hq => va_Nw.of rfl (hts _ (en_F _ (List.mem_map.mpr ⟨q, hq, rfl⟩))), fun q hq => va_Nw.of rfl (hts _ (en_M _ (List.mem_map.mpr ⟨q, hq, rfl⟩))), fun q hq => va_Nw.of rfl (hts _ (en_C _ (List.mem_map.mpr ⟨q, hq, rfl⟩))), fun q hq => va_Nw.of rfl (hts _ (en_D _ (List.mem_map.mpr ⟨q, hq, rfl⟩))), fun q hq => va_Nc.of (hn _ (en_N _ (List.mem_map.mpr ⟨q, hq, rfl⟩)))⟩
theorem en_strs {s : State} {args : Array Value} (hts : ∀ w ∈ lw_tbl, w.before args s = true) (hn : ∀ w ∈ nrw, w.before args s = true) : strs s := by
  intro q hq
  obtain ⟨a, -, -, -, ha, -⟩ := Cond.exactly_spec (args := args) (first := s) (o := none) (s := s) (idx := []) (t := .string q.1 q.2.1) (cls := "java/lang/String") (hn _ (en_X _ (List.mem_map.mpr ⟨q, hq, rfl⟩)))
  exact ⟨a, vk_R.of (hts _ (en_S _ (List.mem_map.mpr ⟨q, hq, rfl⟩))) ha⟩
theorem en_ar1 {s : State} {args : Array Value} {ty : FieldType} (hp : ∀ C, ty ≠ .object C) (h : (Cond.arrayClass ty).before args s = true) : ∃ cA : ClassId, ArrOfT s cA ty ∧ s.vm.findClass ("[" ++ ty.toString) = some cA := by
  obtain ⟨c, k, comp, h1, h2, h3⟩ := Cond.arrayClass_spec (args := args) (first := s) (o := none) (s := s) (idx := []) h
  exact ⟨c, fun n z => ⟨fun i h => (by cases h), k, h2, comp, h3⟩, h1⟩
theorem entry {p : Program} {s : State} {m : MethodId} {meth : Method} {c : Code} {b L : Nat} {xs : Nat → Int32} (C0 : lw_At p s m meth c b L xs) : ∃ (D : va_G) (cy : cyS), cX p s m #[.ref b] meth c cL_law RL 9 (some .boolean) wsL_law D cy ([], fun _ => 0, fun _ => 0, fun _ _ => none) (fun q => s.heap.size ≤ q) := by
  obtain ⟨hx, hb, hr, hml, hown, hts, hX, hbl, hlocks, hgv⟩ := C0
  have hn : ∀ w ∈ nrw, w.before #[Value.ref b] s = true := flat_of_before _ hgv
  have hA : ∀ a : Nat, a < s.heap.size → ¬ (fun q : Nat => s.heap.size ≤ q) a := fun a h1 h2 => Nat.not_le.mpr h1 h2
  obtain ⟨adK, adV, hS, hSe⟩ := en_str hn hA
  obtain ⟨tW, htW, hTW⟩ := va_Tof (ty := .object "java/lang/String") (f := fun j => .ref (adK j)) (A := fun q => s.heap.size ≤ q) (by decide : 33 < 2 ^ 31) (hn _ en_w.1) (va_eqt (hn _ en_w.2.1)) (fun j hj => va_eqv (hn _ (en_wd j hj)) (hSe j (Nat.lt_trans hj (by decide)))) hA
  obtain ⟨c0, i0, k0⟩ := u_known hts inX0 (hts _ en_i0)
  obtain ⟨c1, i1, k1⟩ := u_known hts inX2 (hts _ en_i1)
  obtain ⟨c2, i2, k2⟩ := u_known hts inX3 (hts _ en_i2)
  obtain ⟨c3, i3, k3⟩ := u_known hts inX4 (hts _ en_i3)
  obtain ⟨c4, i4, k4⟩ := u_known hts inX5 (hts _ en_i4)
  obtain ⟨c5, i5, k5⟩ := u_known hts inX6 (hts _ en_i5)
  obtain ⟨c6, i6, k6⟩ := u_known hts inX7 (hts _ en_i6)
  obtain ⟨c7, i7, k7⟩ := u_known hts inX8 (hts _ en_i7)
  obtain ⟨c8, i8, k8⟩ := u_known hts inX9 (hts _ en_i8)
  obtain ⟨c9, i9, k9⟩ := u_known hts inX10 (hts _ en_i9)
  obtain ⟨c10, i10, k10⟩ := u_known hts inX11 (hts _ en_i10)
  obtain ⟨c11, i11, k11⟩ := u_known hts inX12 (hts _ en_i11)
  obtain ⟨y0, ya0, yb0⟩ := en_ar1 (ty := .int) (fun C h => by cases h) (hts _ en_aI)
  obtain ⟨y1, ya1, yb1⟩ := en_ar1 (ty := .long) (fun C h => by cases h) (hts _ en_aJ)
  obtain ⟨comp, y2, kA, yc, yi, yk, yd, yf⟩ := Cond.arrayOver_spec (args := #[Value.ref b]) (first := s) (o := none) (s := s) (idx := []) (hts _ en_aO)
  refine ⟨(fun k => match k with | 0 => c0 | 1 => c1 | 2 => c2 | 3 => c3 | 4 => c4 | 5 => c5 | 6 => c6 | 7 => c7 | 8 => c8 | 9 => c9 | 10 => c10 | _ => c11, fun k => match k with | 0 => i0 | 1 => i1 | 2 => i2 | 3 => i3 | 4 => i4 | 5 => i5 | 6 => i6 | 7 => i7 | 8 => i8 | 9 => i9 | 10 => i10 | 11 => i11 | 100 => adK | 101 => adV | _ => fun _ => tW), (y0, y1, y2), hx, hb, hml, hown, fun w hw => hts _ (wsL_law_in w hw), hr, hlocks, ⟨?_, ?_⟩, fun _ h => h, (fun a ha => by cases ha), ?_⟩
  · intro k q hq
    match k, hq with
    | 0, hq => cases hq; exact k0
    | 1, hq => cases hq; exact k1
    | 2, hq => cases hq; exact k2
    | 3, hq => cases hq; exact k3
    | 4, hq => cases hq; exact k4
    | 5, hq => cases hq; exact k5
    | 6, hq => cases hq; exact k6
    | 7, hq => cases hq; exact k7
    | 8, hq => cases hq; exact k8
    | 9, hq => cases hq; exact k9
    | 10, hq => cases hq; exact k10
    | 11, hq => cases hq; exact k11
    | k + 12, hq => cases hq
  · intro k q hq
    match k, hq with
    | 0, hq => cases hq; exact ⟨ya0, yb0⟩
    | 1, hq => cases hq; exact ⟨ya1, yb1⟩
    | 2, hq => cases hq; exact ⟨fun n z => ⟨fun i h => (by cases h), kA, yk, comp, yd⟩, kA, comp, yk, yd, yc, yf⟩
    | k + 3, hq => cases hq
  · refine ⟨en_row hn hA (hts _ en_l0.1) (hts _ en_l0.2) en_rf_E en_ef_E, en_row hn hA (hts _ en_l1.1) (hts _ en_l1.2) en_rf_S en_ef_S, en_row hn hA (hts _ en_l2.1) (hts _ en_l2.2) en_rf_T en_ef_T, en_nw hts hn, en_strs hts hn, ⟨vx_Zqof (hts _ en_l6.1) (hts _ en_l6.2) (hn _ en_w.2.2.2.2.1) hA, vx_Zqof (hts _ en_l7.1) (hts _ en_l7.2) (hn _ en_w.2.2.2.2.2) hA⟩, va_AO.of (hts _ en_aO), hS, vk_R.of (hts _ (en_S _ (List.mem_map.mpr ⟨("FlagAntsModel", 93, "()[];,+-*/<>="), by decide +kernel, rfl⟩))) (hSe 33 (by decide)), vk_R.of (hts _ (en_S _ (List.mem_map.mpr ⟨("FlagAnts$Tokens", 32, "rule left right straight back ant of at faces north east south west paint wash to face halt walk when step dark across down period row meets halted not and or min max "), by decide +kernel, rfl⟩))) (hSe 34 (by decide)), va_Zof (hts _ en_l3.1) (hts _ en_l3.2) htW hA, hTW, va_Zof (hts _ en_l4.1) (hts _ en_l4.2) (va_eqi (hn _ en_w.2.2.1)) hA, va_Zqof (hts _ en_l5.1) (hts _ en_l5.2) (hn _ en_w.2.2.2.1) hA⟩
