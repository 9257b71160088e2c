/-! new objects and rows join the pool -/
def gNw (G : gS) (q k n : Nat) : gS := (gL G ++ [q], va_up (gK G) q k, va_up (gN G) q n, va_up (gP G) q (fun _ => none))
def gSt (G : gS) (a j r : Nat) : gS := (gL G, gK G, gN G, va_up (gP G) a (va_up (gP G a) j (some r)))
def wZ (M : mS) (q : Nat) : mS := (va_up (mI M) q (fun _ => 0), va_up (mJ M) q (fun _ => 0))
theorem up_eq {α : Type} {f : Nat → α} {k : Nat} {v : α} : va_up f k v k = v := if_pos rfl
theorem up_ne {α : Type} {f : Nat → α} {k j : Nat} {v : α} (h : j ≠ k) : va_up f k v j = f j := if_neg h
theorem pf_congr {cy : cyS} {G G1 : gS} {M M1 : mS} {a : Nat} (h1 : gK G1 a = gK G a) (h2 : gN G1 a = gN G a) (h3 : gP G1 a = gP G a) (h4 : mI M1 a = mI M a) (h5 : mJ M1 a = mJ M a) : pf cy G1 M1 a = pf cy G M a := by
  unfold pf
  rw [h1, h2, h3, h4, h5]
theorem pl_push {cy : cyS} {G : gS} {M : mS} {q k n : Nat} {e : va_E} (hq : q ∉ gL G) (he : e = pf cy (gNw G q k n) (wZ M q) q) : pl cy G M ++ [(q, e)] = pl cy (gNw G q k n) (wZ M q) := by
  subst he
  show (gL G).map _ ++ _ = (gL G ++ [q]).map _
  rw [List.map_append]
  refine congrArg (· ++ _) (List.map_congr_left (fun b hb => ?_))
  have h : b ≠ q := fun e => hq (e ▸ hb)
  rw [pf_congr (G1 := gNw G q k n) (M1 := wZ M q) (up_ne h) (up_ne h) (up_ne h) (up_ne h) (up_ne h)]
theorem pl_new {cy : cyS} {G : gS} {M : mS} {A : Nat → Prop} {q : Nat} {e : va_E} (hD : va_D A (pl cy G M ++ [(q, e)])) : q ∉ gL G := by
  intro hq
  obtain ⟨k, hk⟩ := pl_at (cy := cy) (M := M) hq
  have hl : k < (pl cy G M).length := (List.getElem?_eq_some_iff.mp hk).1
  have h1 : (pl cy G M ++ [(q, e)])[k]? = some (q, pf cy G M q) := by rw [List.getElem?_append_left hl]; exact hk
  have h2 : (pl cy G M ++ [(q, e)])[(pl cy G M).length]? = some (q, e) := by rw [List.getElem?_append_right (Nat.le_refl _)]; simp
  have := hD.1 _ _ _ _ h1 h2 rfl
  omega
theorem wt_new {G : gS} (hG : wt G) {q k n : Nat} (hq : q ∉ gL G) : wt (gNw G q k n) := by
  intro a ha j r hr
  have hr' : va_up (gP G) q (fun _ => none) a j = some r := hr
  by_cases h : a = q
  · subst h
    rw [up_eq] at hr'
    cases hr'
  · rw [up_ne h] at hr'
    have ha' : a ∈ gL G := by
      rcases List.mem_append.mp ha with h1 | h1
      · exact h1
      · exact absurd (List.mem_singleton.mp h1) h
    obtain ⟨h1, h2⟩ := hG a ha' j r hr'
    have h3 : r ≠ q := fun e => hq (e ▸ h1)
    refine ⟨List.mem_append_left _ h1, ?_⟩
    show va_up (gK G) q k r = tk (va_up (gK G) q k a) j
    rw [up_ne h3, up_ne h]
    exact h2
theorem wt_set {G : gS} (hG : wt G) {a j r : Nat} (hr : r ∈ gL G) (hk : gK G r = tk (gK G a) j) : wt (gSt G a j r) := by
  intro b hb i q hq
  have hq' : va_up (gP G) a (va_up (gP G a) j (some r)) b i = some q := hq
  by_cases h : b = a
  · subst h
    rw [up_eq] at hq'
    by_cases hi : i = j
    · subst hi
      rw [up_eq] at hq'
      cases hq'
      exact ⟨hr, hk⟩
    · rw [up_ne hi] at hq'
      exact hG b hb i q hq'
  · rw [up_ne h] at hq'
    exact hG b hb i q hq'
theorem pl_setR {cy : cyS} {G : gS} {M : mS} {A : Nat → Prop} {a j r k : Nat} {e : va_E} (hD : va_D A (pl cy G M)) (h : a ∈ gL G) (hk : (pl cy G M)[k]? = some (a, pf cy G M a)) (he : e = pf cy (gSt G a j r) M a) : (pl cy G M).set k (a, e) = pl cy (gSt G a j r) M := by
  have h1 := va_pl_set (X := []) (e := e) hD h hk
  refine Eq.trans h1 ?_
  show va_pl (gL G) _ = va_pl (gL G) _
  unfold va_pl
  refine List.map_congr_left (fun b _ => ?_)
  by_cases hb : b = a
  · subst hb
    rw [show va_up (pf cy G M) b e b = e from if_pos rfl, he]
  · rw [show va_up (pf cy G M) a e b = pf cy G M b from if_neg hb, pf_congr (G := G) (G1 := gSt G a j r) (M := M) (M1 := M) rfl rfl (up_ne hb) rfl rfl]
theorem nwk {G : gS} {q k n : Nat} : gK (gNw G q k n) q = k := up_eq
theorem nwn {G : gS} {q k n : Nat} : gN (gNw G q k n) q = n := up_eq
theorem nwp {G : gS} {q k n : Nat} : gP (gNw G q k n) q = fun _ => none := up_eq
theorem wZi {M : mS} {q : Nat} : mI (wZ M q) q = fun _ => 0 := up_eq
theorem wZj {M : mS} {q : Nat} : mJ (wZ M q) q = fun _ => 0 := up_eq
section AllocRows
variable {p : Program} {l : Launch} {e : Env} {R : Room} {s : State} {m : MethodId} {args : Array Value} {below : List Frame} {meth : Method} {c : Code} {H : Heap} {locs : List Loc} {cells slots : Nat} {Q : State → Prop} {cc : ByteArray} {own : String} {nL : Nat} {ret : Option FieldType} {Ts : List Cond} {D : va_G} {cy : cyS} {G : gS} {M : mS} {A : Nat → Prop} {pc : Nat} {ls : Array Slot} {rest st0 : List Value} {a : Nat}
theorem cX_wt (cx : cX p s m args meth c cc own nL ret Ts D cy G A) : wt G := by
  obtain ⟨h1, h2, h3, h4, h5, h6, h7, h8, h9, h10, h11⟩ := cx
  exact h10
theorem cX_G {G1 : gS} (cx : cX p s m args meth c cc own nL ret Ts D cy G A) (h : wt G1) : cX p s m args meth c cc own nL ret Ts D cy G1 A := by
  obtain ⟨h1, h2, h3, h4, h5, h6, h7, h8, h9, h10, h11⟩ := cx
  exact ⟨h1, h2, h3, h4, h5, h6, h7, h8, h9, h, h11⟩
theorem r_newO (cx : cX p s m args meth c cc own nL ret Ts D cy G A) (w : wd D cy G M A s.heap H locs) {ci N index : Nat} {C : String} {T : u_T} (ty : Nat → FieldType) (hty : ∀ k, k < N → parseFieldDescriptor (T k).2.2.1 = some (ty k)) (hc : vwCl[ci]? = some (C, T, N)) (hci : ci < 12) (hin : ∀ w ∈ u_ws C T N, w ∈ Ts) (hlink : Cond.classLink own index C ∈ Ts) (hinst : Cond.instantiable C N ∈ Ts) (hini : Cond.initialized C ∈ Ts) (hfs : ∀ j, j < N → defaultValue (ty j) = vp_V (pfs ci (fun _ => none) (fun _ => 0)) j) (hcells : cells + 1 ≤ R.cells) (hslots : slots + N ≤ R.slots) (hdg : decode cc pc = .ok (.new index, 3))
    (kk : ∀ (q : Nat) (H1 : Heap), q ∉ gL G → wd D cy (gNw G q ci 0) (wZ M q) A s.heap H1 locs → cX p s m args meth c cc own nL ret Ts D cy (gNw G q ci 0) A → W p l e R s m args below meth c H1 locs (cells + 1) (slots + N) Q (F0 m (pc + 3) ls (.ref q :: rest))) : W p l e R s m args below meth c H locs cells slots Q (F0 m pc ls rest) := by
  obtain ⟨hx, hb, hml, hown, hts, hr, hlocks, hK, hA, hG, hsx⟩ := id cx
  obtain ⟨hP, hD, hS⟩ := id w
  refine va_new (fs := pfs ci (fun _ => none) (fun _ => 0)) hx hb hts hin ty hty hown (hts _ hlink) (hts _ hinst) (hts _ hini) hK hP hD hS hA hc hfs hcells hslots hdg (fun q H1 hP1 hD1 hS1 => ?_)
  have hq := pl_new hD1
  have e1 := pl_push (cy := cy) (G := G) (M := M) (k := ci) (n := 0) hq (e := .inr (ci, pfs ci (fun _ => none) (fun _ => 0))) (by rw [pf_obj nwk hci, nwp, wZi])
  rw [e1] at hP1 hD1
  exact kk q H1 hq ⟨hP1, hD1, hS1⟩ (cX_G cx (wt_new hG hq))
theorem arr_id {tys : List (ClassId × FieldType)} {cA cB : ClassId} {ty : FieldType} {cl : List vw_C} {i j : Nat} (hK : va_K D cl tys s) (hi : tys[i]? = some (cA, ty)) (hj : tys[j]? = some (cB, ty)) : cA = cB := by
  have h1 := (hK.2 i _ hi).2
  have h2 := (hK.2 j _ hj).2
  cases ty with
  | object C =>
    obtain ⟨-, -, -, -, -, h3⟩ := h1
    obtain ⟨-, -, -, -, -, h4⟩ := h2
    exact Option.some.inj (h3.symm.trans h4)
  | _ => exact Option.some.inj ((show s.vm.findClass _ = some cA from h1).symm.trans (show s.vm.findClass _ = some cB from h2))
theorem r_newI (cx : cX p s m args meth c cc own nL ret Ts D cy G A) (w : wd D cy G M A s.heap H locs) (harr : Cond.arrayClass .int ∈ Ts) {n : Int32} {N : Nat} (hn : ¬ n < 0) (hN : n.toNatClampNeg = N) (hbytes : N * componentBytes .int ≤ 536870912) (hcells : cells + 1 ≤ R.cells) (hslots : slots + N ≤ R.slots) (hdg : decode cc pc = .ok (.newarray .int, 2))
    (kk : ∀ (q : Nat) (H1 : Heap), q ∉ gL G → wd D cy (gNw G q 12 N) (wZ M q) A s.heap H1 locs → cX p s m args meth c cc own nL ret Ts D cy (gNw G q 12 N) A → W p l e R s m args below meth c H1 locs (cells + 1) (slots + N) Q (F0 m (pc + 2) ls (.ref q :: rest))) : W p l e R s m args below meth c H locs cells slots Q (F0 m pc ls (.int n :: rest)) := by
  obtain ⟨hx, hb, hml, hown, hts, hr, hlocks, hK, hA, hG, hsx⟩ := id cx
  obtain ⟨hP, hD, hS⟩ := id w
  refine va_newa (atype := .int) (ty := .int) (a0 := (N, .inl (fun _ => 0))) hx hb (hts _ harr) rfl hK hP hD hS hA (fun _ => rfl) hn hN hbytes hcells hslots hdg (fun q cA H1 hK1 hP1 hD1 hS1 => ?_)
  obtain rfl : cA = cy.1 := arr_id (i := 5) (j := 0) hK1 rfl rfl
  have hq := pl_new hD1
  have e1 := pl_push (cy := cy) (G := G) (M := M) (k := 12) (n := N) hq (e := .inl (cy.1, N, .inl (fun _ => 0))) (by rw [pf_I nwk, nwn, wZi])
  rw [e1] at hP1 hD1
  exact kk q H1 hq ⟨hP1, hD1, hS1⟩ (cX_G cx (wt_new hG hq))
theorem r_newJ (cx : cX p s m args meth c cc own nL ret Ts D cy G A) (w : wd D cy G M A s.heap H locs) (harr : Cond.arrayClass .long ∈ Ts) {n : Int32} {N : Nat} (hn : ¬ n < 0) (hN : n.toNatClampNeg = N) (hbytes : N * componentBytes .long ≤ 536870912) (hcells : cells + 1 ≤ R.cells) (hslots : slots + N ≤ R.slots) (hdg : decode cc pc = .ok (.newarray .long, 2))
    (kk : ∀ (q : Nat) (H1 : Heap), q ∉ gL G → wd D cy (gNw G q 13 N) (wZ M q) A s.heap H1 locs → cX p s m args meth c cc own nL ret Ts D cy (gNw G q 13 N) A → W p l e R s m args below meth c H1 locs (cells + 1) (slots + N) Q (F0 m (pc + 2) ls (.ref q :: rest))) : W p l e R s m args below meth c H locs cells slots Q (F0 m pc ls (.int n :: rest)) := by
  obtain ⟨hx, hb, hml, hown, hts, hr, hlocks, hK, hA, hG, hsx⟩ := id cx
  obtain ⟨hP, hD, hS⟩ := id w
  refine va_newa (atype := .long) (ty := .long) (a0 := (N, .inr (.inl (fun _ => 0)))) hx hb (hts _ harr) rfl hK hP hD hS hA (fun _ => rfl) hn hN hbytes hcells hslots hdg (fun q cA H1 hK1 hP1 hD1 hS1 => ?_)
  obtain rfl : cA = cy.2.1 := arr_id (i := 5) (j := 1) hK1 rfl rfl
  have hq := pl_new hD1
  have e1 := pl_push (cy := cy) (G := G) (M := M) (k := 13) (n := N) hq (e := .inl (cy.2.1, N, .inr (.inl (fun _ => 0)))) (by rw [pf_J nwk, nwn, wZj])
  rw [e1] at hP1 hD1
  exact kk q H1 hq ⟨hP1, hD1, hS1⟩ (cX_G cx (wt_new hG hq))
theorem r_newR (cx : cX p s m args meth c cc own nL ret Ts D cy G A) (w : wd D cy G M A s.heap H locs) {index : Nat} (hlink : Cond.classLink own index "FlagAnts$Ant" ∈ Ts) {n : Int32} {N : Nat} (hn : ¬ n < 0) (hN : n.toNatClampNeg = N) (hbytes : N * 4 ≤ 536870912) (hcells : cells + 1 ≤ R.cells) (hslots : slots + N ≤ R.slots) (hdg : decode cc pc = .ok (.anewarray index, 3))
    (kk : ∀ (q : Nat) (H1 : Heap), q ∉ gL G → wd D cy (gNw G q 14 N) (wZ M q) A s.heap H1 locs → cX p s m args meth c cc own nL ret Ts D cy (gNw G q 14 N) A → W p l e R s m args below meth c H1 locs (cells + 1) (slots + N) Q (F0 m (pc + 3) ls (.ref q :: rest))) : W p l e R s m args below meth c H locs cells slots Q (F0 m pc ls (.int n :: rest)) := by
  obtain ⟨hx, hb, hml, hown, hts, hr, hlocks, hK, hA, hG, hsx⟩ := id cx
  obtain ⟨hP, hD, hS⟩ := id w
  refine va_newq hx hb hown (hts _ hlink) hsx.2.2.2.2.1 hK hP hD hS hA hn hN hbytes hcells hslots hdg (fun q cA H1 hK1 hP1 hD1 hS1 => ?_)
  obtain rfl : cA = cy.2.2.1 := arr_id (i := 5) (j := 2) hK1 rfl rfl
  have hq := pl_new hD1
  have e1 := pl_push (cy := cy) (G := G) (M := M) (k := 14) (n := N) hq (e := .inl (cy.2.2.1, N, .inr (.inr (.inr (.inr (fun _ => none)))))) (by rw [pf_R nwk, nwn, nwp])
  rw [e1] at hP1 hD1
  exact kk q H1 hq ⟨hP1, hD1, hS1⟩ (cX_G cx (wt_new hG hq))
theorem r_putR (cx : cX p s m args meth c cc own nL ret Ts D cy G A) (w : wd D cy G M A s.heap H locs) {ci k N index : Nat} {C : String} {T : u_T} (ty0 : Nat → FieldType) (hty : ∀ k, k < N → parseFieldDescriptor (T k).2.2.1 = some (ty0 k)) (hnm : ∀ a, a < N → ∀ b, b < N → a ≠ b → (T a).2.1 ≠ (T b).2.1) (hL : a ∈ gL G) (hk : gK G a = ci) (hci : ci < 12) (hc : vwCl[ci]? = some (C, T, N)) (hin : ∀ w ∈ u_ws C T N, w ∈ Ts) (hkN : k < N) (hfin : (T k).2.2.2 = false) {ty : FieldType} {r : Nat} (hd : parseFieldDescriptor (T k).2.2.1 = some ty) (hn : narrow ty (.ref r) = .ref r) (hfit : fits ty (.ref r) = true) (hst : ∀ (P : Nat → Option Nat) (I : Nat → Int32), pfs ci (va_up P k (some r)) I = (pfs ci P I).set k (.ref r)) (hlen : k < (pfs ci (gP G a) (mI M a)).length) (hrL : r ∈ gL G) (hrK : gK G r = tk ci k) (hlink : Cond.fieldLink own index (T k).1 (T k).2.1 (T k).2.2.1 ∈ Ts) (hdg : decode cc pc = .ok (.putfield index, 3))
    (kk : ∀ (H1 : Heap) (locs1 : List Loc), wd D cy (gSt G a k r) M A s.heap H1 locs1 → cX p s m args meth c cc own nL ret Ts D cy (gSt G a k r) A → W p l e R s m args below meth c H1 locs1 cells slots Q (F0 m (pc + 3) ls rest)) : W p l e R s m args below meth c H locs cells slots Q (F0 m pc ls (.ref r :: .ref a :: rest)) := by
  obtain ⟨hx, hb, hml, hown, hts, hr, hlocks, hK, hA, hG, hsx⟩ := id cx
  obtain ⟨hP, hD, hS⟩ := id w
  obtain ⟨q0, h1⟩ := pl_at (cy := cy) (M := M) hL
  have h0 := h1
  rw [pf_obj hk hci] at h0
  refine va_put hx hb hts hin ty0 hty hnm hown hK hP hD hS q0 h0 hc k hkN (hts _ hlink) (fun _ h => h) hfin hd hn hfit hlen hdg (fun H1 locs1 hP1 hD1 hS1 => ?_)
  have e := pl_setR (j := k) (r := r) (e := .inr (ci, (pfs ci (gP G a) (mI M a)).set k (.ref r))) hD hL h1 (by rw [pf_obj (G := gSt G a k r) hk hci, ← hst]; show _ = Sum.inr (ci, pfs ci (va_up (gP G) a (va_up (gP G a) k (some r)) a) (mI M a)); rw [up_eq])
  rw [e] at hP1 hD1
  exact kk H1 locs1 ⟨hP1, hD1, hS1⟩ (cX_G cx (wt_set hG hrL (by rw [hk]; exact hrK)))
theorem r_putRF (cx : cX p s m args meth c cc own nL ret Ts D cy G A) (w : wd D cy G M A s.heap H locs) {ci k N index : Nat} {C : String} {T : u_T} (ty0 : Nat → FieldType) (hty : ∀ k, k < N → parseFieldDescriptor (T k).2.2.1 = some (ty0 k)) (hnm : ∀ a, a < N → ∀ b, b < N → a ≠ b → (T a).2.1 ≠ (T b).2.1) (hL : a ∈ gL G) (hk : gK G a = ci) (hci : ci < 12) (hc : vwCl[ci]? = some (C, T, N)) (hin : ∀ w ∈ u_ws C T N, w ∈ Ts) (hkN : k < N) (hfin : (T k).2.2.2 = true) (hinit : meth.name = "<init>") (hdecl : (T k).1 = own) {ty : FieldType} {r : Nat} (hd : parseFieldDescriptor (T k).2.2.1 = some ty) (hn : narrow ty (.ref r) = .ref r) (hfit : fits ty (.ref r) = true) (hst : ∀ (P : Nat → Option Nat) (I : Nat → Int32), pfs ci (va_up P k (some r)) I = (pfs ci P I).set k (.ref r)) (hlen : k < (pfs ci (gP G a) (mI M a)).length) (hrL : r ∈ gL G) (hrK : gK G r = tk ci k) (hlink : Cond.fieldLink own index (T k).1 (T k).2.1 (T k).2.2.1 ∈ Ts) (hdg : decode cc pc = .ok (.putfield index, 3))
    (kk : ∀ (H1 : Heap) (locs1 : List Loc), wd D cy (gSt G a k r) M A s.heap H1 locs1 → cX p s m args meth c cc own nL ret Ts D cy (gSt G a k r) A → W p l e R s m args below meth c H1 locs1 cells slots Q (F0 m (pc + 3) ls rest)) : W p l e R s m args below meth c H locs cells slots Q (F0 m pc ls (.ref r :: .ref a :: rest)) := by
  obtain ⟨hx, hb, hml, hown, hts, hr, hlocks, hK, hA, hG, hsx⟩ := id cx
  obtain ⟨hP, hD, hS⟩ := id w
  obtain ⟨q0, h1⟩ := pl_at (cy := cy) (M := M) hL
  have h0 := h1
  rw [pf_obj hk hci] at h0
  refine va_putF hx hb hts hin ty0 hty hnm hown hK hP hD hS q0 h0 hc k hkN (hts _ hlink) (fun _ h => h) hfin hinit hdecl hd hn hfit hlen hdg (fun H1 locs1 hP1 hD1 hS1 => ?_)
  have e := pl_setR (j := k) (r := r) (e := .inr (ci, (pfs ci (gP G a) (mI M a)).set k (.ref r))) hD hL h1 (by rw [pf_obj (G := gSt G a k r) hk hci, ← hst]; show _ = Sum.inr (ci, pfs ci (va_up (gP G) a (va_up (gP G a) k (some r)) a) (mI M a)); rw [up_eq])
  rw [e] at hP1 hD1
  exact kk H1 locs1 ⟨hP1, hD1, hS1⟩ (cX_G cx (wt_set hG hrL (by rw [hk]; exact hrK)))
theorem r_astR (cx : cX p s m args meth c cc own nL ret Ts D cy G A) (w : wd D cy G M A s.heap H locs) (hL : a ∈ gL G) (hk : gK G a = 14) {i : Int32} {r : Nat} (hrL : r ∈ gL G) (hrK : gK G r = 0) (hin : vp_in i (gN G a)) (hdg : decode cc pc = .ok (.aastore, 1))
    (kk : ∀ (H1 : Heap) (locs1 : List Loc), wd D cy (gSt G a i.toNatClampNeg r) M A s.heap H1 locs1 → cX p s m args meth c cc own nL ret Ts D cy (gSt G a i.toNatClampNeg r) A → W p l e R s m args below meth c H1 locs1 cells slots Q (F0 m (pc + 1) ls rest)) : W p l e R s m args below meth c H locs cells slots Q (F0 m pc ls (.ref r :: .int i :: .ref a :: rest)) := by
  obtain ⟨hx, hb, hml, hown, hts, hr, hlocks, hK, hA, hG, hsx⟩ := id cx
  obtain ⟨hP, hD, hS⟩ := id w
  obtain ⟨q0, h1⟩ := pl_at (cy := cy) (M := M) hL
  obtain ⟨q1, h2⟩ := wd_obj w hrL hrK (by decide)
  have h0 := h1
  rw [pf_R hk] at h0
  refine va_astq hx hb hK hP hD hS q0 2 q1 0 (r := (RX0, TX0, 9)) h0 rfl h2 rfl hin hdg (fun H1 locs1 hP1 hD1 hS1 => ?_)
  have e := pl_setR (j := i.toNatClampNeg) (r := r) (e := .inl (cy.2.2.1, gN G a, .inr (.inr (.inr (.inr (va_up (gP G a) i.toNatClampNeg (some r))))))) hD hL h1 (by rw [pf_R (G := gSt G a i.toNatClampNeg r) hk]; show _ = Sum.inl (cy.2.2.1, gN G a, Sum.inr (Sum.inr (Sum.inr (Sum.inr (va_up (gP G) a (va_up (gP G a) i.toNatClampNeg (some r)) a))))); rw [up_eq])
  first
    | (rw [e] at hP1 hD1; exact kk H1 locs1 ⟨hP1, hD1, hS1⟩ (cX_G cx (wt_set hG hrL (by rw [hk]; exact hrK))))
    | exact kk H1 locs1 ⟨e ▸ hP1, e ▸ hD1, hS1⟩ (cX_G cx (wt_set hG hrL (by rw [hk]; exact hrK)))
/-- what was there is still there, and of its kind -/
def ext (G G1 : gS) : Prop := ∀ x ∈ gL G, x ∈ gL G1 ∧ gK G1 x = gK G x
theorem ext_rf {G : gS} : ext G G := fun _ h => ⟨h, rfl⟩
theorem ext_tr {G G1 G2 : gS} (h : ext G G1) (h2 : ext G1 G2) : ext G G2 := fun x hx => ⟨(h2 x (h x hx).1).1, (h2 x (h x hx).1).2.trans (h x hx).2⟩
theorem ext_nw {G G1 : gS} {q k n : Nat} (e : G1 = gNw G q k n) (hq : q ∉ gL G) : ext G G1 := by
  subst e
  exact fun x hx => ⟨List.mem_append_left _ hx, up_ne (fun e => hq (e ▸ hx))⟩
theorem ext_st {G G1 : gS} {a j r : Nat} (e : G1 = gSt G a j r) : ext G G1 := by
  subst e
  exact fun x hx => ⟨hx, rfl⟩
theorem ext_L {G G1 : gS} (h : ext G G1) {x : Nat} (hx : x ∈ gL G) : x ∈ gL G1 := (h x hx).1
theorem ext_K {G G1 : gS} (h : ext G G1) {x i : Nat} (hx : x ∈ gL G) (hk : gK G x = i) : gK G1 x = i := (h x hx).2.trans hk
theorem nw_Lq {G G1 : gS} {q k n : Nat} (e : G1 = gNw G q k n) : q ∈ gL G1 := by subst e; exact List.mem_append_right _ (List.mem_singleton.mpr rfl)
theorem nw_Kq {G G1 : gS} {q k n : Nat} (e : G1 = gNw G q k n) : gK G1 q = k := by subst e; exact up_eq
/-- a contract of a method that makes things: what its pool becomes is said by post -/
def ctN (l : Launch) (y : MethodName) (ws : List Cond) (rm : Room) (D : va_G) (cy : cyS) (G : gS) (M : mS) (av : List Value) (mc ms : Nat) (post : gS → mS → Prop) : Prop := ∀ sz : Nat, Met l y ws rm (va_Pc av (wIn D cy G M sz)) (va_Qv (fun (u : gS × mS) => post u.1 u.2) (fun u t => va_P D vwCl (pl cy u.1 u.2) t.heap ∧ va_D (pA G sz) (pl cy u.1 u.2) ∧ wt u.1 ∧ ext G u.1) (pA G sz)) mc ms (pA G sz)
theorem r_vretN {post : gS → mS → Prop} {G0 : gS} {mc ms sz : Nat} (cx : cX p s m args meth c cc own nL none Ts D cy G (pA G0 sz)) (w : wd D cy G M (pA G0 sz) s.heap H locs) (h : post G M) (hex : ext G0 G) (hc : cells ≤ mc) (hs : slots ≤ ms) (hdg : decode cc pc = .ok (.return_, 1)) : W p l e R s m args below meth c H locs cells slots (MQ below (va_Qv (fun (u : gS × mS) => post u.1 u.2) (fun u t => va_P D vwCl (pl cy u.1 u.2) t.heap ∧ va_D (pA G0 sz) (pl cy u.1 u.2) ∧ wt u.1 ∧ ext G0 u.1) (pA G0 sz)) args s mc ms (pA G0 sz)) (F0 m pc ls []) := by
  obtain ⟨hx, hb, hml, hown, hts, hr, hlocks, hK, hA, hG, hsx⟩ := cx
  refine W.widen (k := mc) (n := ms) hc hs ?_
  exact W.vret hx hb hr (fun t ht hW => ⟨⟨(G, M), rfl, h, by rw [ht]; exact w.1, w.2.1, hG, hex⟩, w.2.2.F ht⟩) w.2.2.2.2 hdg hlocks
theorem ctN_of {y : MethodName} {ws ws' : List Cond} {rm : Room} {av : List Value} {lv : List (Nat × Value)} {mc ms : Nat} {post : gS → mS → Prop} (hG : wt G) (hy : plainName y.cls = true) (hw : ws = Cond.code y cc nL none :: ws') (hn : (lg_sl av).length ≤ nL) (hlv : lv_args 0 av = lv) (body : ∀ (p : Program) (e : Env) (s : State) (m : MethodId) (args : Array Value) (below : List Frame) (meth : Method) (c : Code) (sz : Nat) (ls : Array Slot), meth.name = y.name → cX p s m args meth c cc y.cls nL none ws D cy G (pA G sz) → wd D cy G M (pA G sz) s.heap s.heap [] → lv_has ls nL lv → W p l e rm s m args below meth c s.heap [] 0 0 (MQ below (va_Qv (fun (u : gS × mS) => post u.1 u.2) (fun u t => va_P D vwCl (pl cy u.1 u.2) t.heap ∧ va_D (pA G sz) (pl cy u.1 u.2) ∧ wt u.1 ∧ ext G u.1) (pA G sz)) args s mc ms (pA G sz)) (F0 m 0 ls [])) : ctN l y ws rm D cy G M av mc ms post := by
  intro sz
  refine Met.ofW (cc := cc) (maxL := nL) (ret := none) hy hw ?_
  intro p e s m args below meth c s₁ B hml hv
  obtain ⟨rfl, hsz, hP, hK, hD0, hsx⟩ := hv
  subst hsz
  rw [lg_entry_eq]
  have hl := lv_entry av (n := nL) hn
  rw [hlv] at hl
  have hD : va_D (pA G s.heap.size) (pl cy G M) := pl_D hD0 (fun q hq => Or.inl hq)
  exact body p e s m _ below meth c s.heap.size _ (name_of_methodNamed B.named B.method).1 ⟨B.exec, B.bytes, hml, findClass_of_methodNamed B.named, atoms_spec (ws := ws) B.pre, B.returns, B.notSynchronized, hK, fun q h => Or.inr h, hG, hsx⟩ ⟨hP, hD, va_S.rf⟩ hl
theorem r_callN {y : MethodName} {bytes : ByteArray} {maxL n index mc ms : Nat} {ws : List Cond} {rm : Room} {As : List Value} {post : gS → mS → Prop} (cx : cX p s m args meth c cc own nL ret Ts D cy G A) (w : wd D cy G M A s.heap H locs) (hcs : cells + mc ≤ R.cells ∧ slots + ms ≤ R.slots) (hls : ls.size = nL) (hM : ctN l y ws rm D cy G M (.ref a :: As) mc ms post) (cw : CallB R s args own index y bytes maxL none ws rm mc ms n ∧ y.name = "<init>" ∧ (Cond.instanceMethod y).before args s = true) (hn : As.length = n) (hst : st0 = As.reverse ++ .ref a :: rest) (hW : (rest.map fun v => v.category).sum ≤ 8) (hdg : decode cc pc = .ok (.invokespecial index, 3))
    (kk : ∀ (G1 : gS) (M1 : mS) (H1 : Heap) (locs1 : List Loc), post G1 M1 → ext G G1 → cX p s m args meth c cc own nL ret Ts D cy G1 A → wd D cy G1 M1 A s.heap H1 locs1 → W p l e R s m args below meth c H1 locs1 (cells + mc) (slots + ms) Q (F0 m (pc + 3) ls rest)) : W p l e R s m args below meth c H locs cells slots Q (F0 m pc ls st0) := by
  have fr := wd_free cx w
  obtain ⟨hx, hb, hml, hown, hts, hr, hlocks, hK, hA, hG, hsx⟩ := id cx
  refine va_callv (va_runI (As := As) (rest := rest) ⟨hx, hb, hml, hown, hts⟩ (hM H.size) cw ⟨blind _ D cy G M H.size, wd_pre cx w _⟩ rfl hn hls hst (lv_room hW) hdg hcs) w.2.2 (fun q _ h => fr q h) fr (fun u t H1 locs1 ht hvm hq hB hz1 hk1 hS => ?_)
  obtain ⟨hP1, hD1, hG1, hE1⟩ := hB
  rw [ht] at hP1
  exact kk u.1 u.2 H1 locs1 hq hE1 (cX_G cx hG1) ⟨hP1, ⟨hD1.1, fun k q h => fr _ (hD1.2 k q h)⟩, hS⟩
theorem r_callNN {y : MethodName} {bytes : ByteArray} {maxL n index mc ms : Nat} {ws : List Cond} {rm : Room} {host : String} {As : List Value} {post : gS → mS → Prop} (cx : cX p s m args meth c cc own nL ret Ts D cy G A) (w : wd D cy G M A s.heap H locs) (hcs : cells + mc ≤ R.cells ∧ slots + ms ≤ R.slots) (hls : ls.size = nL) (hM : ctN l y ws rm D cy G M (.ref a :: As) mc ms post) (cw : va_CN R s args own index y host bytes maxL none ws rm mc ms n ∧ y.name = "<init>" ∧ (Cond.instanceMethod y).before args s = true) (hn : As.length = n) (hst : st0 = As.reverse ++ .ref a :: rest) (hW : (rest.map fun v => v.category).sum ≤ 8) (hdg : decode cc pc = .ok (.invokespecial index, 3))
    (kk : ∀ (G1 : gS) (M1 : mS) (H1 : Heap) (locs1 : List Loc), post G1 M1 → ext G G1 → cX p s m args meth c cc own nL ret Ts D cy G1 A → wd D cy G1 M1 A s.heap H1 locs1 → W p l e R s m args below meth c H1 locs1 (cells + mc) (slots + ms) Q (F0 m (pc + 3) ls rest)) : W p l e R s m args below meth c H locs cells slots Q (F0 m pc ls st0) := by
  have fr := wd_free cx w
  obtain ⟨hx, hb, hml, hown, hts, hr, hlocks, hK, hA, hG, hsx⟩ := id cx
  refine va_callv (va_runIN (As := As) (rest := rest) ⟨hx, hb, hml, hown, hts⟩ (hM H.size) cw ⟨blind _ D cy G M H.size, wd_pre cx w _⟩ rfl hn hls hst (lv_room hW) hdg hcs) w.2.2 (fun q _ h => fr q h) fr (fun u t H1 locs1 ht hvm hq hB hz1 hk1 hS => ?_)
  obtain ⟨hP1, hD1, hG1, hE1⟩ := hB
  rw [ht] at hP1
  exact kk u.1 u.2 H1 locs1 hq hE1 (cX_G cx hG1) ⟨hP1, ⟨hD1.1, fun k q h => fr _ (hD1.2 k q h)⟩, hS⟩
/-- the words of what makes things: nothing is lost, post is due in every way that new addresses may lie -/
def p_ix (i : Int32) (n : Nat) (k : Prop) : Prop := vp_in i n ∧ k
def p_ck (c : Prop) (k : Prop) : Prop := c ∧ k
def p_rf (r : Option Nat) (k : Nat → Prop) : Prop := ∃ a, r = some a ∧ k a
def p_wI (M : mS) (a j : Nat) (v : Int32) (k : mS → Prop) : Prop := k (wI M a j v)
def p_wJ (M : mS) (a j : Nat) (v : Int64) (k : mS → Prop) : Prop := k (wJ M a j v)
def p_wC (M : mS) (a : Nat) (f : Nat → Int32) (k : mS → Prop) : Prop := k (wC M a f)
def p_bd {β : Type} (e : β) (k : β → Prop) : Prop := k e
def p_cl {β : Type} (x : Option (mS × β)) (k : mS → β → Prop) : Prop := ∃ M1 r, x = some (M1, r) ∧ k M1 r
def p_if (c a b : Prop) : Prop := (c → a) ∧ (¬ c → b)
def p_nw (G : gS) (M : mS) (i N : Nat) (k : Nat → gS → mS → Prop) : Prop := ∀ q, q ∉ gL G → k q (gNw G q i N) (wZ M q)
def p_sR (G : gS) (a j r : Nat) (k : gS → Prop) : Prop := k (gSt G a j r)
theorem w_ix {i : Int32} {n : Nat} {k : Prop} (h : p_ix i n k) : vp_in i n ∧ k := h
theorem w_ck {c k : Prop} (h : p_ck c k) : c ∧ k := h
theorem w_rf {r : Option Nat} {k : Nat → Prop} (h : p_rf r k) : ∃ a, r = some a ∧ k a := h
theorem w_wI {M : mS} {a j : Nat} {v : Int32} {k : mS → Prop} (h : p_wI M a j v k) : ∃ M1, M1 = wI M a j v ∧ k M1 := ⟨_, rfl, h⟩
theorem w_wJ {M : mS} {a j : Nat} {v : Int64} {k : mS → Prop} (h : p_wJ M a j v k) : ∃ M1, M1 = wJ M a j v ∧ k M1 := ⟨_, rfl, h⟩
theorem w_wC {M : mS} {a : Nat} {f : Nat → Int32} {k : mS → Prop} (h : p_wC M a f k) : ∃ M1, M1 = wC M a f ∧ k M1 := ⟨_, rfl, h⟩
theorem w_bd {β : Type} {e : β} {k : β → Prop} (h : p_bd e k) : ∃ x, x = e ∧ k x := ⟨_, rfl, h⟩
theorem w_cl {β : Type} {x : Option (mS × β)} {k : mS → β → Prop} (h : p_cl x k) : ∃ M1 r, x = some (M1, r) ∧ k M1 r := h
theorem w_t {c a b : Prop} (h : p_if c a b) (hc : c) : a := h.1 hc
theorem w_f {c a b : Prop} (h : p_if c a b) (hc : ¬ c) : b := h.2 hc
theorem w_nw {G : gS} {M : mS} {i N : Nat} {k : Nat → gS → mS → Prop} (h : p_nw G M i N k) {q : Nat} (hq : q ∉ gL G) : k q (gNw G q i N) (wZ M q) := h q hq
theorem w_sR {G : gS} {a j r : Nat} {k : gS → Prop} (h : p_sR G a j r k) : k (gSt G a j r) := h
def ctNI (l : Launch) (y : MethodName) (ws : List Cond) (rm : Room) (D : va_G) (cy : cyS) (G0 : gS) (M : mS) (av : List Value) (mc ms : Nat) (post : gS → mS → Int32 → Prop) : Prop := ∀ sz : Nat, Met l y ws rm (va_Pc av (wIn D cy G0 M sz)) (va_Qi (fun (r : Int32) (u : gS × mS) => post u.1 u.2 r) (fun u t => va_P D vwCl (pl cy u.1 u.2) t.heap ∧ va_D (pA G0 sz) (pl cy u.1 u.2) ∧ wt u.1 ∧ ext G0 u.1) (pA G0 sz)) mc ms (pA G0 sz)
theorem toI {post : gS → mS → Int32 → Prop} {G0 : gS} {mc ms sz : Nat} {M' : mS} {r : Int32} {g : JFrame} (w : wd D cy G M (pA G0 sz) s.heap H locs) (hG : wt G) (hex : ext G0 G) (h : post G M' r) (hc : cells ≤ mc) (hs : slots ≤ ms) (k : W p l e R s m args below meth c H locs mc ms (MQ below (va_Qi (fun (r' : Int32) (_ : Unit) => r' = r) (fun _ t => wOut D cy G M' t) (pA G0 sz)) args s mc ms (pA G0 sz)) g) : W p l e R s m args below meth c H locs cells slots (MQ below (va_Qi (fun (r : Int32) (u : gS × mS) => post u.1 u.2 r) (fun u t => va_P D vwCl (pl cy u.1 u.2) t.heap ∧ va_D (pA G0 sz) (pl cy u.1 u.2) ∧ wt u.1 ∧ ext G0 u.1) (pA G0 sz)) args s mc ms (pA G0 sz)) g := by
  refine W.widen (k := mc) (n := ms) hc hs ?_
  intro T hT X
  obtain ⟨t, a1, o, b1, b2, ⟨⟨r', u, e1, e2, e3⟩, e4⟩, b4⟩ := k T hT X
  subst e2
  exact ⟨t, a1, o, b1, b2, ⟨⟨r', (G, M'), e1, h, e3, pl_D w.2.1 (pl_in w.2.1), hG, hex⟩, e4⟩, b4⟩
theorem ctNI_of {y : MethodName} {ws ws' : List Cond} {rm : Room} {av : List Value} {lv : List (Nat × Value)} {mc ms : Nat} {post : gS → mS → Int32 → Prop} {G0 : gS} (hG : wt G0) (hy : plainName y.cls = true) (hw : ws = Cond.code y cc nL ret :: ws') (hn : (lg_sl av).length ≤ nL) (hlv : lv_args 0 av = lv) (body : ∀ (p : Program) (e : Env) (s : State) (m : MethodId) (args : Array Value) (below : List Frame) (meth : Method) (c : Code) (sz : Nat) (ls : Array Slot), cX p s m args meth c cc y.cls nL ret ws D cy G0 (pA G0 sz) → wd D cy G0 M (pA G0 sz) s.heap s.heap [] → lv_has ls nL lv → W p l e rm s m args below meth c s.heap [] 0 0 (MQ below (va_Qi (fun (r : Int32) (u : gS × mS) => post u.1 u.2 r) (fun u t => va_P D vwCl (pl cy u.1 u.2) t.heap ∧ va_D (pA G0 sz) (pl cy u.1 u.2) ∧ wt u.1 ∧ ext G0 u.1) (pA G0 sz)) args s mc ms (pA G0 sz)) (F0 m 0 ls [])) : ctNI l y ws rm D cy G0 M av mc ms post := by
  intro sz
  refine Met.ofW (cc := cc) (maxL := nL) (ret := ret) hy hw ?_
  intro p e s m args below meth c s₁ B hml hv
  obtain ⟨rfl, hsz, hP, hK, hD0, hsx⟩ := hv
  subst hsz
  rw [lg_entry_eq]
  have hl := lv_entry av (n := nL) hn
  rw [hlv] at hl
  have hD : va_D (pA G0 s.heap.size) (pl cy G0 M) := pl_D hD0 (fun q hq => Or.inl hq)
  exact body p e s m _ below meth c s.heap.size _ ⟨B.exec, B.bytes, hml, findClass_of_methodNamed B.named, atoms_spec (ws := ws) B.pre, B.returns, B.notSynchronized, hK, fun q h => Or.inr h, hG, hsx⟩ ⟨hP, hD, va_S.rf⟩ hl
theorem r_callNVI {y : MethodName} {bytes : ByteArray} {maxL n index mc ms : Nat} {yret : Option FieldType} {ws : List Cond} {rm : Room} {As : List Value} {C : String} {post : gS → mS → Int32 → Prop} (cx : cX p s m args meth c cc own nL ret Ts D cy G A) (w : wd D cy G M A s.heap H locs) (hcs : cells + mc ≤ R.cells ∧ slots + ms ≤ R.slots) (hls : ls.size = nL) (hM : ctNI l y ws rm D cy G M (.ref a :: As) mc ms post) (cw : CallW R s args own C index y bytes maxL yret ws rm mc ms n) {ci : Nat} {T : u_T} {N : Nat} (hL : a ∈ gL G) (hk : gK G a = ci) (hci : ci < 12) (hc : vwCl[ci]? = some (C, T, N)) (hn : As.length = n) (hst : st0 = As.reverse ++ .ref a :: rest) (hW : (rest.map fun v => v.category).sum ≤ 8) (hdg : decode cc pc = .ok (.invokevirtual index, 3))
    (kk : ∀ (G1 : gS) (M1 : mS) (r : Int32) (H1 : Heap) (locs1 : List Loc), post G1 M1 r → ext G G1 → cX p s m args meth c cc own nL ret Ts D cy G1 A → wd D cy G1 M1 A s.heap H1 locs1 → W p l e R s m args below meth c H1 locs1 (cells + mc) (slots + ms) Q (F0 m (pc + 3) ls (.int r :: rest))) : W p l e R s m args below meth c H locs cells slots Q (F0 m pc ls st0) := by
  have fr := wd_free cx w
  obtain ⟨hx, hb, hml, hown, hts, hr, hlocks, hK, hA, hG, hsx⟩ := id cx
  refine va_calli (va_runV (As := As) (rest := rest) ⟨hx, hb, hml, hown, hts⟩ (hM H.size) cw ⟨blind _ D cy G M H.size, wd_recv cx w hL hk hci hc, wd_pre cx w _⟩ rfl hn hls hst (lv_room hW) hdg hcs) w.2.2 (fun q _ h => fr q h) fr (fun r1 u t H1 locs1 ht hvm hq hB hz1 hk1 hS => ?_)
  obtain ⟨hP1, hD1, hG1, hE1⟩ := hB
  rw [ht] at hP1
  exact kk u.1 u.2 r1 H1 locs1 hq hE1 (cX_G cx hG1) ⟨hP1, ⟨hD1.1, fun k q h => fr _ (hD1.2 k q h)⟩, hS⟩
def ctNL (l : Launch) (y : MethodName) (ws : List Cond) (rm : Room) (D : va_G) (cy : cyS) (G0 : gS) (M : mS) (av : List Value) (mc ms : Nat) (post : gS → mS → Int64 → Prop) : Prop := ∀ sz : Nat, Met l y ws rm (va_Pc av (wIn D cy G0 M sz)) (va_Ql (fun (r : Int64) (u : gS × mS) => post u.1 u.2 r) (fun u t => va_P D vwCl (pl cy u.1 u.2) t.heap ∧ va_D (pA G0 sz) (pl cy u.1 u.2) ∧ wt u.1 ∧ ext G0 u.1) (pA G0 sz)) mc ms (pA G0 sz)
theorem toL {post : gS → mS → Int64 → Prop} {G0 : gS} {mc ms sz : Nat} {M' : mS} {r : Int64} {g : JFrame} (w : wd D cy G M (pA G0 sz) s.heap H locs) (hG : wt G) (hex : ext G0 G) (h : post G M' r) (hc : cells ≤ mc) (hs : slots ≤ ms) (k : W p l e R s m args below meth c H locs mc ms (MQ below (va_Ql (fun (r' : Int64) (_ : Unit) => r' = r) (fun _ t => wOut D cy G M' t) (pA G0 sz)) args s mc ms (pA G0 sz)) g) : W p l e R s m args below meth c H locs cells slots (MQ below (va_Ql (fun (r : Int64) (u : gS × mS) => post u.1 u.2 r) (fun u t => va_P D vwCl (pl cy u.1 u.2) t.heap ∧ va_D (pA G0 sz) (pl cy u.1 u.2) ∧ wt u.1 ∧ ext G0 u.1) (pA G0 sz)) args s mc ms (pA G0 sz)) g := by
  refine W.widen (k := mc) (n := ms) hc hs ?_
  intro T hT X
  obtain ⟨t, a1, o, b1, b2, ⟨⟨r', u, e1, e2, e3⟩, e4⟩, b4⟩ := k T hT X
  subst e2
  exact ⟨t, a1, o, b1, b2, ⟨⟨r', (G, M'), e1, h, e3, pl_D w.2.1 (pl_in w.2.1), hG, hex⟩, e4⟩, b4⟩
theorem ctNL_of {y : MethodName} {ws ws' : List Cond} {rm : Room} {av : List Value} {lv : List (Nat × Value)} {mc ms : Nat} {post : gS → mS → Int64 → Prop} {G0 : gS} (hG : wt G0) (hy : plainName y.cls = true) (hw : ws = Cond.code y cc nL ret :: ws') (hn : (lg_sl av).length ≤ nL) (hlv : lv_args 0 av = lv) (body : ∀ (p : Program) (e : Env) (s : State) (m : MethodId) (args : Array Value) (below : List Frame) (meth : Method) (c : Code) (sz : Nat) (ls : Array Slot), cX p s m args meth c cc y.cls nL ret ws D cy G0 (pA G0 sz) → wd D cy G0 M (pA G0 sz) s.heap s.heap [] → lv_has ls nL lv → W p l e rm s m args below meth c s.heap [] 0 0 (MQ below (va_Ql (fun (r : Int64) (u : gS × mS) => post u.1 u.2 r) (fun u t => va_P D vwCl (pl cy u.1 u.2) t.heap ∧ va_D (pA G0 sz) (pl cy u.1 u.2) ∧ wt u.1 ∧ ext G0 u.1) (pA G0 sz)) args s mc ms (pA G0 sz)) (F0 m 0 ls [])) : ctNL l y ws rm D cy G0 M av mc ms post := by
  intro sz
  refine Met.ofW (cc := cc) (maxL := nL) (ret := ret) hy hw ?_
  intro p e s m args below meth c s₁ B hml hv
  obtain ⟨rfl, hsz, hP, hK, hD0, hsx⟩ := hv
  subst hsz
  rw [lg_entry_eq]
  have hl := lv_entry av (n := nL) hn
  rw [hlv] at hl
  have hD : va_D (pA G0 s.heap.size) (pl cy G0 M) := pl_D hD0 (fun q hq => Or.inl hq)
  exact body p e s m _ below meth c s.heap.size _ ⟨B.exec, B.bytes, hml, findClass_of_methodNamed B.named, atoms_spec (ws := ws) B.pre, B.returns, B.notSynchronized, hK, fun q h => Or.inr h, hG, hsx⟩ ⟨hP, hD, va_S.rf⟩ hl
theorem r_callNVL {y : MethodName} {bytes : ByteArray} {maxL n index mc ms : Nat} {yret : Option FieldType} {ws : List Cond} {rm : Room} {As : List Value} {C : String} {post : gS → mS → Int64 → Prop} (cx : cX p s m args meth c cc own nL ret Ts D cy G A) (w : wd D cy G M A s.heap H locs) (hcs : cells + mc ≤ R.cells ∧ slots + ms ≤ R.slots) (hls : ls.size = nL) (hM : ctNL l y ws rm D cy G M (.ref a :: As) mc ms post) (cw : CallW R s args own C index y bytes maxL yret ws rm mc ms n) {ci : Nat} {T : u_T} {N : Nat} (hL : a ∈ gL G) (hk : gK G a = ci) (hci : ci < 12) (hc : vwCl[ci]? = some (C, T, N)) (hn : As.length = n) (hst : st0 = As.reverse ++ .ref a :: rest) (hW : (rest.map fun v => v.category).sum ≤ 8) (hdg : decode cc pc = .ok (.invokevirtual index, 3))
    (kk : ∀ (G1 : gS) (M1 : mS) (r : Int64) (H1 : Heap) (locs1 : List Loc), post G1 M1 r → ext G G1 → cX p s m args meth c cc own nL ret Ts D cy G1 A → wd D cy G1 M1 A s.heap H1 locs1 → W p l e R s m args below meth c H1 locs1 (cells + mc) (slots + ms) Q (F0 m (pc + 3) ls (.long r :: rest))) : W p l e R s m args below meth c H locs cells slots Q (F0 m pc ls st0) := by
  have fr := wd_free cx w
  obtain ⟨hx, hb, hml, hown, hts, hr, hlocks, hK, hA, hG, hsx⟩ := id cx
  refine va_calll (va_runV (As := As) (rest := rest) ⟨hx, hb, hml, hown, hts⟩ (hM H.size) cw ⟨blind _ D cy G M H.size, wd_recv cx w hL hk hci hc, wd_pre cx w _⟩ rfl hn hls hst (lv_room hW) hdg hcs) w.2.2 (fun q _ h => fr q h) fr (fun r1 u t H1 locs1 ht hvm hq hB hz1 hk1 hS => ?_)
  obtain ⟨hP1, hD1, hG1, hE1⟩ := hB
  rw [ht] at hP1
  exact kk u.1 u.2 r1 H1 locs1 hq hE1 (cX_G cx hG1) ⟨hP1, ⟨hD1.1, fun k q h => fr _ (hD1.2 k q h)⟩, hS⟩
end AllocRows
theorem sr_0_8 {r : Nat} : ∀ (P : Nat → Option Nat) (I : Nat → Int32), pfs 0 (va_up P 8 (some r)) I = (pfs 0 P I).set 8 (.ref r) := fun _ _ => rfl
theorem sr_1_0 {r : Nat} : ∀ (P : Nat → Option Nat) (I : Nat → Int32), pfs 1 (va_up P 0 (some r)) I = (pfs 1 P I).set 0 (.ref r) := fun _ _ => rfl
theorem sr_1_1 {r : Nat} : ∀ (P : Nat → Option Nat) (I : Nat → Int32), pfs 1 (va_up P 1 (some r)) I = (pfs 1 P I).set 1 (.ref r) := fun _ _ => rfl
theorem sr_1_2 {r : Nat} : ∀ (P : Nat → Option Nat) (I : Nat → Int32), pfs 1 (va_up P 2 (some r)) I = (pfs 1 P I).set 2 (.ref r) := fun _ _ => rfl
theorem sr_1_3 {r : Nat} : ∀ (P : Nat → Option Nat) (I : Nat → Int32), pfs 1 (va_up P 3 (some r)) I = (pfs 1 P I).set 3 (.ref r) := fun _ _ => rfl
theorem sr_1_4 {r : Nat} : ∀ (P : Nat → Option Nat) (I : Nat → Int32), pfs 1 (va_up P 4 (some r)) I = (pfs 1 P I).set 4 (.ref r) := fun _ _ => rfl
theorem sr_2_1 {r : Nat} : ∀ (P : Nat → Option Nat) (I : Nat → Int32), pfs 2 (va_up P 1 (some r)) I = (pfs 2 P I).set 1 (.ref r) := fun _ _ => rfl
theorem sr_2_2 {r : Nat} : ∀ (P : Nat → Option Nat) (I : Nat → Int32), pfs 2 (va_up P 2 (some r)) I = (pfs 2 P I).set 2 (.ref r) := fun _ _ => rfl
theorem sr_2_4 {r : Nat} : ∀ (P : Nat → Option Nat) (I : Nat → Int32), pfs 2 (va_up P 4 (some r)) I = (pfs 2 P I).set 4 (.ref r) := fun _ _ => rfl
theorem sr_2_5 {r : Nat} : ∀ (P : Nat → Option Nat) (I : Nat → Int32), pfs 2 (va_up P 5 (some r)) I = (pfs 2 P I).set 5 (.ref r) := fun _ _ => rfl
theorem sr_2_6 {r : Nat} : ∀ (P : Nat → Option Nat) (I : Nat → Int32), pfs 2 (va_up P 6 (some r)) I = (pfs 2 P I).set 6 (.ref r) := fun _ _ => rfl
theorem sr_2_7 {r : Nat} : ∀ (P : Nat → Option Nat) (I : Nat → Int32), pfs 2 (va_up P 7 (some r)) I = (pfs 2 P I).set 7 (.ref r) := fun _ _ => rfl
theorem sr_2_9 {r : Nat} : ∀ (P : Nat → Option Nat) (I : Nat → Int32), pfs 2 (va_up P 9 (some r)) I = (pfs 2 P I).set 9 (.ref r) := fun _ _ => rfl
theorem sr_2_10 {r : Nat} : ∀ (P : Nat → Option Nat) (I : Nat → Int32), pfs 2 (va_up P 10 (some r)) I = (pfs 2 P I).set 10 (.ref r) := fun _ _ => rfl
theorem sr_3_0 {r : Nat} : ∀ (P : Nat → Option Nat) (I : Nat → Int32), pfs 3 (va_up P 0 (some r)) I = (pfs 3 P I).set 0 (.ref r) := fun _ _ => rfl
theorem sr_4_0 {r : Nat} : ∀ (P : Nat → Option Nat) (I : Nat → Int32), pfs 4 (va_up P 0 (some r)) I = (pfs 4 P I).set 0 (.ref r) := fun _ _ => rfl
theorem sr_4_1 {r : Nat} : ∀ (P : Nat → Option Nat) (I : Nat → Int32), pfs 4 (va_up P 1 (some r)) I = (pfs 4 P I).set 1 (.ref r) := fun _ _ => rfl
theorem sr_5_0 {r : Nat} : ∀ (P : Nat → Option Nat) (I : Nat → Int32), pfs 5 (va_up P 0 (some r)) I = (pfs 5 P I).set 0 (.ref r) := fun _ _ => rfl
theorem sr_6_0 {r : Nat} : ∀ (P : Nat → Option Nat) (I : Nat → Int32), pfs 6 (va_up P 0 (some r)) I = (pfs 6 P I).set 0 (.ref r) := fun _ _ => rfl
theorem sr_6_1 {r : Nat} : ∀ (P : Nat → Option Nat) (I : Nat → Int32), pfs 6 (va_up P 1 (some r)) I = (pfs 6 P I).set 1 (.ref r) := fun _ _ => rfl
theorem sr_6_2 {r : Nat} : ∀ (P : Nat → Option Nat) (I : Nat → Int32), pfs 6 (va_up P 2 (some r)) I = (pfs 6 P I).set 2 (.ref r) := fun _ _ => rfl
theorem sr_6_3 {r : Nat} : ∀ (P : Nat → Option Nat) (I : Nat → Int32), pfs 6 (va_up P 3 (some r)) I = (pfs 6 P I).set 3 (.ref r) := fun _ _ => rfl
theorem sr_6_4 {r : Nat} : ∀ (P : Nat → Option Nat) (I : Nat → Int32), pfs 6 (va_up P 4 (some r)) I = (pfs 6 P I).set 4 (.ref r) := fun _ _ => rfl
theorem sr_7_0 {r : Nat} : ∀ (P : Nat → Option Nat) (I : Nat → Int32), pfs 7 (va_up P 0 (some r)) I = (pfs 7 P I).set 0 (.ref r) := fun _ _ => rfl
theorem sr_7_1 {r : Nat} : ∀ (P : Nat → Option Nat) (I : Nat → Int32), pfs 7 (va_up P 1 (some r)) I = (pfs 7 P I).set 1 (.ref r) := fun _ _ => rfl
theorem sr_7_2 {r : Nat} : ∀ (P : Nat → Option Nat) (I : Nat → Int32), pfs 7 (va_up P 2 (some r)) I = (pfs 7 P I).set 2 (.ref r) := fun _ _ => rfl
theorem sr_7_3 {r : Nat} : ∀ (P : Nat → Option Nat) (I : Nat → Int32), pfs 7 (va_up P 3 (some r)) I = (pfs 7 P I).set 3 (.ref r) := fun _ _ => rfl
theorem sr_8_0 {r : Nat} : ∀ (P : Nat → Option Nat) (I : Nat → Int32), pfs 8 (va_up P 0 (some r)) I = (pfs 8 P I).set 0 (.ref r) := fun _ _ => rfl
theorem sr_8_1 {r : Nat} : ∀ (P : Nat → Option Nat) (I : Nat → Int32), pfs 8 (va_up P 1 (some r)) I = (pfs 8 P I).set 1 (.ref r) := fun _ _ => rfl
theorem sr_8_2 {r : Nat} : ∀ (P : Nat → Option Nat) (I : Nat → Int32), pfs 8 (va_up P 2 (some r)) I = (pfs 8 P I).set 2 (.ref r) := fun _ _ => rfl
theorem sr_8_3 {r : Nat} : ∀ (P : Nat → Option Nat) (I : Nat → Int32), pfs 8 (va_up P 3 (some r)) I = (pfs 8 P I).set 3 (.ref r) := fun _ _ => rfl
theorem sr_8_4 {r : Nat} : ∀ (P : Nat → Option Nat) (I : Nat → Int32), pfs 8 (va_up P 4 (some r)) I = (pfs 8 P I).set 4 (.ref r) := fun _ _ => rfl
theorem sr_8_5 {r : Nat} : ∀ (P : Nat → Option Nat) (I : Nat → Int32), pfs 8 (va_up P 5 (some r)) I = (pfs 8 P I).set 5 (.ref r) := fun _ _ => rfl
theorem sr_9_4 {r : Nat} : ∀ (P : Nat → Option Nat) (I : Nat → Int32), pfs 9 (va_up P 4 (some r)) I = (pfs 9 P I).set 4 (.ref r) := fun _ _ => rfl
theorem sr_9_5 {r : Nat} : ∀ (P : Nat → Option Nat) (I : Nat → Int32), pfs 9 (va_up P 5 (some r)) I = (pfs 9 P I).set 5 (.ref r) := fun _ _ => rfl
theorem sr_9_6 {r : Nat} : ∀ (P : Nat → Option Nat) (I : Nat → Int32), pfs 9 (va_up P 6 (some r)) I = (pfs 9 P I).set 6 (.ref r) := fun _ _ => rfl
theorem sr_9_7 {r : Nat} : ∀ (P : Nat → Option Nat) (I : Nat → Int32), pfs 9 (va_up P 7 (some r)) I = (pfs 9 P I).set 7 (.ref r) := fun _ _ => rfl
theorem sr_9_8 {r : Nat} : ∀ (P : Nat → Option Nat) (I : Nat → Int32), pfs 9 (va_up P 8 (some r)) I = (pfs 9 P I).set 8 (.ref r) := fun _ _ => rfl
theorem sr_10_0 {r : Nat} : ∀ (P : Nat → Option Nat) (I : Nat → Int32), pfs 10 (va_up P 0 (some r)) I = (pfs 10 P I).set 0 (.ref r) := fun _ _ => rfl
theorem sr_11_0 {r : Nat} : ∀ (P : Nat → Option Nat) (I : Nat → Int32), pfs 11 (va_up P 0 (some r)) I = (pfs 11 P I).set 0 (.ref r) := fun _ _ => rfl
theorem df_0 : ∀ j, j < 9 → defaultValue (tyX0 j) = vp_V (pfs 0 (fun _ => none) (fun _ => 0)) j := by
  intro j hj
  match j, hj with
  | 0, _ => rfl
  | 1, _ => rfl
  | 2, _ => rfl
  | 3, _ => rfl
  | 4, _ => rfl
  | 5, _ => rfl
  | 6, _ => rfl
  | 7, _ => rfl
  | 8, _ => rfl
  | n + 9, h => exact absurd h (by omega)
theorem df_1 : ∀ j, j < 8 → defaultValue (tyX2 j) = vp_V (pfs 1 (fun _ => none) (fun _ => 0)) j := by
  intro j hj
  match j, hj with
  | 0, _ => rfl
  | 1, _ => rfl
  | 2, _ => rfl
  | 3, _ => rfl
  | 4, _ => rfl
  | 5, _ => rfl
  | 6, _ => rfl
  | 7, _ => rfl
  | n + 8, h => exact absurd h (by omega)
theorem df_2 : ∀ j, j < 11 → defaultValue (tyX3 j) = vp_V (pfs 2 (fun _ => none) (fun _ => 0)) j := by
  intro j hj
  match j, hj with
  | 0, _ => rfl
  | 1, _ => rfl
  | 2, _ => rfl
  | 3, _ => rfl
  | 4, _ => rfl
  | 5, _ => rfl
  | 6, _ => rfl
  | 7, _ => rfl
  | 8, _ => rfl
  | 9, _ => rfl
  | 10, _ => rfl
  | n + 11, h => exact absurd h (by omega)
theorem df_3 : ∀ j, j < 2 → defaultValue (tyX4 j) = vp_V (pfs 3 (fun _ => none) (fun _ => 0)) j := by
  intro j hj
  match j, hj with
  | 0, _ => rfl
  | 1, _ => rfl
  | n + 2, h => exact absurd h (by omega)
theorem df_4 : ∀ j, j < 2 → defaultValue (tyX5 j) = vp_V (pfs 4 (fun _ => none) (fun _ => 0)) j := by
  intro j hj
  match j, hj with
  | 0, _ => rfl
  | 1, _ => rfl
  | n + 2, h => exact absurd h (by omega)
theorem df_5 : ∀ j, j < 2 → defaultValue (tyX6 j) = vp_V (pfs 5 (fun _ => none) (fun _ => 0)) j := by
  intro j hj
  match j, hj with
  | 0, _ => rfl
  | 1, _ => rfl
  | n + 2, h => exact absurd h (by omega)
theorem df_6 : ∀ j, j < 6 → defaultValue (tyX7 j) = vp_V (pfs 6 (fun _ => none) (fun _ => 0)) j := by
  intro j hj
  match j, hj with
  | 0, _ => rfl
  | 1, _ => rfl
  | 2, _ => rfl
  | 3, _ => rfl
  | 4, _ => rfl
  | 5, _ => rfl
  | n + 6, h => exact absurd h (by omega)
theorem df_7 : ∀ j, j < 9 → defaultValue (tyX8 j) = vp_V (pfs 7 (fun _ => none) (fun _ => 0)) j := by
  intro j hj
  match j, hj with
  | 0, _ => rfl
  | 1, _ => rfl
  | 2, _ => rfl
  | 3, _ => rfl
  | 4, _ => rfl
  | 5, _ => rfl
  | 6, _ => rfl
  | 7, _ => rfl
  | 8, _ => rfl
  | n + 9, h => exact absurd h (by omega)
theorem df_8 : ∀ j, j < 7 → defaultValue (tyX9 j) = vp_V (pfs 8 (fun _ => none) (fun _ => 0)) j := by
  intro j hj
  match j, hj with
  | 0, _ => rfl
  | 1, _ => rfl
  | 2, _ => rfl
  | 3, _ => rfl
  | 4, _ => rfl
  | 5, _ => rfl
  | 6, _ => rfl
  | n + 7, h => exact absurd h (by omega)
theorem df_9 : ∀ j, j < 9 → defaultValue (tyX10 j) = vp_V (pfs 9 (fun _ => none) (fun _ => 0)) j := by
  intro j hj
  match j, hj with
  | 0, _ => rfl
  | 1, _ => rfl
  | 2, _ => rfl
  | 3, _ => rfl
  | 4, _ => rfl
  | 5, _ => rfl
  | 6, _ => rfl
  | 7, _ => rfl
  | 8, _ => rfl
  | n + 9, h => exact absurd h (by omega)
theorem df_10 : ∀ j, j < 4 → defaultValue (tyJ0 j) = vp_V (pfs 10 (fun _ => none) (fun _ => 0)) j := by
  intro j hj
  match j, hj with
  | 0, _ => rfl
  | 1, _ => rfl
  | 2, _ => rfl
  | 3, _ => rfl
  | n + 4, h => exact absurd h (by omega)
theorem df_11 : ∀ j, j < 4 → defaultValue (tyJ4 j) = vp_V (pfs 11 (fun _ => none) (fun _ => 0)) j := by
  intro j hj
  match j, hj with
  | 0, _ => rfl
  | 1, _ => rfl
  | 2, _ => rfl
  | 3, _ => rfl
  | n + 4, h => exact absurd h (by omega)
